/-! ghosts on the whole plane -/
def Gz (U : Nat → Bool) (P Q : Nat → Int) : Nat → Int → Int → Int32
  | 0 => fun x y => if x = 0 ∧ y = 0 then 1 else 0
  | j + 1 => fun x y => if U j = true then Gz U P Q j x y - Gz U P Q j (x - P j) (y - Q j) else Gz U P Q j x y
def posI (z : Int) : Int := if 0 < z then z else 0
def uS (U : Nat → Bool) (F : Nat → Int) (n : Nat) : Int := sI n (fun j => if U j = true then F j else 0)
theorem uS_t {U : Nat → Bool} {F : Nat → Int} {n : Nat} (h : U n = true) : uS U F (n + 1) = uS U F n + F n := by
  show sI n _ + (if U n = true then F n else 0) = _
  rw [if_pos h]; rfl
theorem uS_f {U : Nat → Bool} {F : Nat → Int} {n : Nat} (h : ¬ U n = true) : uS U F (n + 1) = uS U F n := by
  show sI n _ + (if U n = true then F n else 0) = _
  rw [if_neg h, Int.add_zero]; rfl
theorem uS_mono {U : Nat → Bool} {F : Nat → Int} {n m : Nat} (hF : ∀ j, j < m → U j = true → 0 ≤ F j) (h : n ≤ m) : uS U F n ≤ uS U F m := by
  obtain ⟨d, rfl⟩ : ∃ d, m = n + d := ⟨m - n, by omega⟩
  clear h
  induction d with
  | zero => exact Int.le_refl _
  | succ d ih =>
    have h1 := ih (fun j hj => hF j (by omega))
    rw [show n + (d + 1) = n + d + 1 by omega]
    by_cases hU : U (n + d) = true
    · rw [uS_t hU]; have := hF (n + d) (by omega) hU; omega
    · rw [uS_f hU]; exact h1
theorem Gz_sup {U : Nat → Bool} {P Q : Nat → Int} : ∀ n : Nat, (∀ j, j < n → U j = true → 0 ≤ Q j) → ∀ x y, Gz U P Q n x y ≠ 0 → -uS U (fun j => negI (P j)) n ≤ x ∧ x ≤ uS U (fun j => posI (P j)) n ∧ 0 ≤ y ∧ y ≤ uS U Q n
  | 0, _ => fun x y h => by
    have h1 : x = 0 ∧ y = 0 := Classical.byContradiction (fun q => h (if_neg q))
    have e1 : uS U (fun j => negI (P j)) 0 = 0 := rfl
    have e2 : uS U (fun j => posI (P j)) 0 = 0 := rfl
    have e3 : uS U Q 0 = 0 := rfl
    omega
  | n + 1, hq => fun x y h => by
    have ih := Gz_sup (P := P) n (fun j hj => hq j (by omega))
    by_cases hU : U n = true
    · have h : (if U n = true then Gz U P Q n x y - Gz U P Q n (x - P n) (y - Q n) else Gz U P Q n x y) ≠ 0 := h
      rw [if_pos hU] at h
      rw [uS_t hU, uS_t hU, uS_t hU]
      have hqn := hq n (by omega) hU
      have e1 : 0 ≤ negI (P n) ∧ -negI (P n) ≤ P n := by unfold negI; split <;> omega
      have e2 : 0 ≤ posI (P n) ∧ P n ≤ posI (P n) := by unfold posI; split <;> omega
      by_cases h1 : Gz U P Q n x y = 0
      · have h2 : Gz U P Q n (x - P n) (y - Q n) ≠ 0 := fun z => h (by rw [h1, z]; rfl)
        have := ih _ _ h2
        show -(uS U (fun j => negI (P j)) n + negI (P n)) ≤ x ∧ x ≤ uS U (fun j => posI (P j)) n + posI (P n) ∧ _
        omega
      · have := ih _ _ h1
        show -(uS U (fun j => negI (P j)) n + negI (P n)) ≤ x ∧ x ≤ uS U (fun j => posI (P j)) n + posI (P n) ∧ _
        omega
    · have h : (if U n = true then Gz U P Q n x y - Gz U P Q n (x - P n) (y - Q n) else Gz U P Q n x y) ≠ 0 := h
      rw [if_neg hU] at h
      rw [uS_f hU, uS_f hU, uS_f hU]
      exact ih x y h
theorem Gz_out {U : Nat → Bool} {P Q : Nat → Int} {n : Nat} (hq : ∀ j, j < n → U j = true → 0 ≤ Q j) {x y : Int} (h : ¬ (-uS U (fun j => negI (P j)) n ≤ x ∧ x ≤ uS U (fun j => posI (P j)) n ∧ 0 ≤ y ∧ y ≤ uS U Q n)) : Gz U P Q n x y = 0 := Classical.byContradiction (fun z => h (Gz_sup n hq x y z))
theorem i32_s0 (a : Int32) : a - 0 = a := Int32.sub_zero a
theorem i32_0s (a : Int32) : (0 : Int32) - a = -a := Int32.zero_sub a
theorem pm_ne {a : Int32} (h : a = 1 ∨ a = -1) : a ≠ 0 := by rcases h with rfl | rfl <;> decide
/-- the lowest column holds a 1 or a -1 -/
theorem Gz_low {U : Nat → Bool} {P Q : Nat → Int} : ∀ n : Nat, (∀ j, j < n → U j = true → 0 ≤ Q j ∧ (Q j = 0 → 0 < P j)) → ∃ y, (Gz U P Q n (-uS U (fun j => negI (P j)) n) y = 1 ∨ Gz U P Q n (-uS U (fun j => negI (P j)) n) y = -1) ∧ ∀ y', y' < y → Gz U P Q n (-uS U (fun j => negI (P j)) n) y' = 0
  | 0, _ => ⟨0, Or.inl (show (if -uS U (fun j => negI (P j)) 0 = 0 ∧ (0 : Int) = 0 then (1 : Int32) else 0) = 1 from if_pos ⟨rfl, rfl⟩), fun y' hy => show (if -uS U (fun j => negI (P j)) 0 = 0 ∧ y' = 0 then (1 : Int32) else 0) = 0 from if_neg (fun z => by omega)⟩
  | n + 1, hq => by
    obtain ⟨y, h1, h2⟩ := Gz_low (P := P) n (fun j hj => hq j (by omega))
    have hq0 : ∀ j, j < n → U j = true → 0 ≤ Q j := fun j hj hu => (hq j (by omega) hu).1
    by_cases hU : U n = true
    · obtain ⟨q1, q2⟩ := hq n (by omega) hU
      have st : ∀ x y, Gz U P Q (n + 1) x y = Gz U P Q n x y - Gz U P Q n (x - P n) (y - Q n) := fun x y => if_pos hU
      rw [uS_t hU]
      show ∃ y, (Gz U P Q (n + 1) (-(uS U (fun j => negI (P j)) n + negI (P n))) y = 1 ∨ Gz U P Q (n + 1) (-(uS U (fun j => negI (P j)) n + negI (P n))) y = -1) ∧ ∀ y', y' < y → Gz U P Q (n + 1) (-(uS U (fun j => negI (P j)) n + negI (P n))) y' = 0
      by_cases hp : P n < 0
      · have en : negI (P n) = -P n := if_pos (by omega)
        have k1 : ∀ y, Gz U P Q (n + 1) (-(uS U (fun j => negI (P j)) n + negI (P n))) y = -Gz U P Q n (-uS U (fun j => negI (P j)) n) (y - Q n) := fun y => by
          rw [st, Gz_out (x := -(uS U (fun j => negI (P j)) n + negI (P n))) hq0 (fun z => by omega), i32_0s, show -(uS U (fun j => negI (P j)) n + negI (P n)) - P n = -uS U (fun j => negI (P j)) n by omega]
        refine ⟨y + Q n, ?_, fun y' hy => ?_⟩
        · rw [k1, show y + Q n - Q n = y by omega]
          rcases h1 with h1 | h1
          · rw [h1]; exact Or.inr rfl
          · rw [h1]; exact Or.inl rfl
        · rw [k1, h2 _ (by omega)]; rfl
      · have en : negI (P n) = 0 := if_neg (by omega)
        rw [en, Int.add_zero]
        by_cases hp0 : P n = 0
        · have k1 : ∀ y', y' ≤ y → Gz U P Q (n + 1) (-uS U (fun j => negI (P j)) n) y' = Gz U P Q n (-uS U (fun j => negI (P j)) n) y' := fun y' hy => by
            rw [st, hp0, Int.sub_zero, h2 (y' - Q n) (by omega), i32_s0]
          exact ⟨y, by rw [k1 y (Int.le_refl _)]; exact h1, fun y' hy => by rw [k1 y' (by omega)]; exact h2 y' hy⟩
        · have k1 : ∀ y', Gz U P Q (n + 1) (-uS U (fun j => negI (P j)) n) y' = Gz U P Q n (-uS U (fun j => negI (P j)) n) y' := fun y' => by
            rw [st, Gz_out (x := -uS U (fun j => negI (P j)) n - P n) hq0 (fun z => by omega), i32_s0]
          exact ⟨y, by rw [k1]; exact h1, fun y' hy => by rw [k1]; exact h2 y' hy⟩
    · have st : ∀ x y, Gz U P Q (n + 1) x y = Gz U P Q n x y := fun x y => if_neg hU
      rw [uS_f hU]
      exact ⟨y, by rw [st]; exact h1, fun y' hy => by rw [st]; exact h2 y' hy⟩
/-- one move, cell by cell: what stands in the row of 512 -/
def mvD (A : Int → Int → Int32) (p q : Int) (D : Nat → Int32) (x y : Nat) : Prop := ∀ x' y' : Nat, x' < 32 → y' < 16 → D (32 * y' + x') = A x' y' - (if (y' : Int) - q < y ∨ ((y' : Int) - q = y ∧ (x' : Int) - p < x) then A (x' - p) (y' - q) else 0)
theorem mvD_0 {A : Int → Int → Int32} {p q : Int} {D : Nat → Int32} (hD : ∀ x' y' : Nat, x' < 32 → y' < 16 → D (32 * y' + x') = A x' y') (hA : ∀ x y, A x y ≠ 0 → 0 ≤ x ∧ x < 32 ∧ 0 ≤ y ∧ y < 16) : mvD A p q D 0 0 := fun x' y' hx hy => by
  rw [hD x' y' hx hy]
  split
  · rename_i h
    rw [show A (x' - p) (y' - q) = 0 from Classical.byContradiction (fun z => by have := hA _ _ z; omega), i32_s0]
  · rw [i32_s0]
theorem mvD_row {A : Int → Int → Int32} {p q : Int} {D : Nat → Int32} {y : Nat} (h : mvD A p q D 32 y) (hA : ∀ x y, A x y ≠ 0 → 0 ≤ x ∧ x < 32 ∧ 0 ≤ y ∧ y < 16) : mvD A p q D 0 (y + 1) := fun x' y' hx hy => by
  rw [h x' y' hx hy]
  by_cases h1 : (y' : Int) - q < y ∨ ((y' : Int) - q = y ∧ (x' : Int) - p < (32 : Nat))
  · rw [if_pos h1]
    by_cases h2 : (y' : Int) - q < ((y + 1 : Nat) : Int) ∨ ((y' : Int) - q = ((y + 1 : Nat) : Int) ∧ (x' : Int) - p < (0 : Nat))
    · rw [if_pos h2]
    · exfalso; omega
  · rw [if_neg h1]
    by_cases h2 : (y' : Int) - q < ((y + 1 : Nat) : Int) ∨ ((y' : Int) - q = ((y + 1 : Nat) : Int) ∧ (x' : Int) - p < (0 : Nat))
    · rw [if_pos h2, show A (x' - p) (y' - q) = 0 from Classical.byContradiction (fun z => by have := hA _ _ z; omega)]
    · rw [if_neg h2]
theorem mvD_skip {A : Int → Int → Int32} {p q : Int} {D : Nat → Int32} {x y : Nat} (h : mvD A p q D x y) (hz : A x y = 0) : mvD A p q D (x + 1) y := fun x' y' hx hy => by
  rw [h x' y' hx hy]
  by_cases h1 : (y' : Int) - q < y ∨ ((y' : Int) - q = y ∧ (x' : Int) - p < (x : Nat))
  · rw [if_pos h1, if_pos (by omega)]
  · rw [if_neg h1]
    by_cases h2 : (y' : Int) - q < y ∨ ((y' : Int) - q = y ∧ (x' : Int) - p < ((x + 1 : Nat) : Int))
    · rw [if_pos h2, show (x' : Int) - p = x by omega, show (y' : Int) - q = y by omega, hz]
    · rw [if_neg h2]
theorem mvD_step {A : Int → Int → Int32} {p q : Int} {D : Nat → Int32} {x y c : Nat} (h : mvD A p q D x y) (h1 : 0 ≤ (x : Int) + p ∧ (x : Int) + p < 32) (h2 : 0 ≤ (y : Int) + q ∧ (y : Int) + q < 16) (hc : (c : Int) = 32 * ((y : Int) + q) + (x : Int) + p) {v : Int32} (hv : v = A x y) : mvD A p q (upd D c (D c - v)) (x + 1) y := fun x' y' hx hy => by
  by_cases e : (x' : Int) = x + p ∧ (y' : Int) = y + q
  · have ec : 32 * y' + x' = c := by omega
    have h3 := h x' y' hx hy
    rw [if_neg (by omega), i32_s0, ec] at h3
    rw [ec, pk_us, h3, if_pos (by omega), show (x' : Int) - p = x by omega, show (y' : Int) - q = y by omega, hv]
  · rw [pk_un (by omega), h x' y' hx hy]
    by_cases h3 : (y' : Int) - q < y ∨ ((y' : Int) - q = y ∧ (x' : Int) - p < (x : Nat))
    · rw [if_pos h3, if_pos (by omega)]
    · rw [if_neg h3, if_neg (by omega)]
theorem uS_abs {U : Nat → Bool} {P : Nat → Int} : ∀ n : Nat, uS U (fun j => aI (P j)) n = uS U (fun j => negI (P j)) n + uS U (fun j => posI (P j)) n
  | 0 => rfl
  | n + 1 => by
    have ih := uS_abs (U := U) (P := P) n
    by_cases hU : U n = true
    · rw [uS_t hU, uS_t hU, uS_t hU, ih]
      show _ + aI (P n) = _ + negI (P n) + (_ + posI (P n))
      have e : aI (P n) = negI (P n) + posI (P n) := by unfold aI negI posI; split <;> split <;> (try split) <;> omega
      omega
    · rw [uS_f hU, uS_f hU, uS_f hU, ih]
theorem negI_0 (z : Int) : 0 ≤ negI z := by unfold negI; split <;> omega
theorem posI_0 (z : Int) : 0 ≤ posI z := by unfold posI; split <;> omega
theorem gh_box {U : Nat → Bool} {P Q : Nat → Int} {w h j : Nat} (hq : ∀ j, j < 8 → U j = true → 0 ≤ Q j) (hw : uS U (fun j => aI (P j)) 8 < (w : Int)) (hh : uS U Q 8 < (h : Int)) (w1 : w ≤ 16) (h1 : h ≤ 16) (hj : j < 8) (hU : U j = true) : ∀ x y : Int, Gz U P Q j (x - 16) y ≠ 0 → 0 ≤ x ∧ x < 32 ∧ 0 ≤ y ∧ y < 16 ∧ 0 ≤ x + P j ∧ x + P j < 32 ∧ 0 ≤ y + Q j ∧ y + Q j < 16 := fun x y hg => by
  have h2 := Gz_sup j (fun i hi => hq i (by omega)) _ _ hg
  have m1 := uS_mono (U := U) (F := fun j => negI (P j)) (n := j + 1) (m := 8) (fun i _ _ => negI_0 _) (by omega)
  have m2 := uS_mono (U := U) (F := fun j => posI (P j)) (n := j + 1) (m := 8) (fun i _ _ => posI_0 _) (by omega)
  have m3 := uS_mono (U := U) (F := Q) (n := j + 1) (m := 8) hq (by omega)
  have m4 := uS_mono (U := U) (F := fun j => negI (P j)) (n := 0) (m := 8) (fun i _ _ => negI_0 _) (by omega)
  have m5 := uS_mono (U := U) (F := fun j => posI (P j)) (n := 0) (m := 8) (fun i _ _ => posI_0 _) (by omega)
  rw [uS_t hU] at m1 m2 m3
  have e1 : uS U (fun j => negI (P j)) 0 = 0 := rfl
  have e2 : uS U (fun j => posI (P j)) 0 = 0 := rfl
  have m1 : uS U (fun j => negI (P j)) j + negI (P j) ≤ uS U (fun j => negI (P j)) 8 := m1
  have m2 : uS U (fun j => posI (P j)) j + posI (P j) ≤ uS U (fun j => posI (P j)) 8 := m2
  have e3 : 0 ≤ negI (P j) ∧ -negI (P j) ≤ P j := by unfold negI; split <;> omega
  have e4 : 0 ≤ posI (P j) ∧ P j ≤ posI (P j) := by unfold posI; split <;> omega
  have e5 := uS_abs (U := U) (P := P) 8
  have e6 := hq j hj hU
  omega
theorem gh_box8 {U : Nat → Bool} {P Q : Nat → Int} {w h : Nat} (hq : ∀ j, j < 8 → U j = true → 0 ≤ Q j) (hw : uS U (fun j => aI (P j)) 8 < (w : Int)) (hh : uS U Q 8 < (h : Int)) : 0 ≤ uS U (fun j => negI (P j)) 8 ∧ uS U (fun j => negI (P j)) 8 < (w : Int) ∧ 0 ≤ uS U Q 8 := by
  have m4 := uS_mono (U := U) (F := fun j => negI (P j)) (n := 0) (m := 8) (fun i _ _ => negI_0 _) (by omega)
  have m5 := uS_mono (U := U) (F := fun j => posI (P j)) (n := 0) (m := 8) (fun i _ _ => posI_0 _) (by omega)
  have m6 := uS_mono (U := U) (F := Q) (n := 0) (m := 8) hq (by omega)
  have e1 : uS U (fun j => negI (P j)) 0 = 0 := rfl
  have e2 : uS U (fun j => posI (P j)) 0 = 0 := rfl
  have e3 : uS U Q 0 = 0 := rfl
  have e5 := uS_abs (U := U) (P := P) 8
  omega
/-- the class draws the same in its window -/
theorem gh_Gz {w h M : Nat} {T : Nat → ShT} (hq : ∀ j, j < 8 → Nat.testBit M j = true → 0 ≤ (T j).2.2.2.1) (hw : uS (fun j => Nat.testBit M j) (fun j => aI (T j).2.2.1) 8 < (w : Int)) {st : Nat} (hst : (st : Int) = uS (fun j => Nat.testBit M j) (fun j => negI (T j).2.2.1) 8) : ∀ n : Nat, n ≤ 8 → ∀ x y : Nat, x < w → y < h → gh w st M T n x y = Gz (fun j => Nat.testBit M j) (fun j => (T j).2.2.1) (fun j => (T j).2.2.2.1) n ((x : Int) - st) y
  | 0, _ => fun x y hx hy => by
    show (if x = st ∧ y = 0 then (1 : Int32) else 0) = if (x : Int) - st = 0 ∧ (y : Int) = 0 then 1 else 0
    by_cases q : x = st ∧ y = 0
    · rw [if_pos q, if_pos (by omega)]
    · rw [if_neg q, if_neg (by omega)]
  | n + 1, hn => fun x y hx hy => by
    have ih := gh_Gz (h := h) hq hw hst n (by omega)
    show (if Nat.testBit M n = true then mv2 w (T n).2.2.1 (T n).2.2.2.1 (gh w st M T n) else gh w st M T n) x y = if Nat.testBit M n = true then _ - _ else _
    by_cases hU : Nat.testBit M n = true
    · rw [if_pos hU, if_pos hU]
      unfold mv2
      have m1 := uS_mono (U := fun j => Nat.testBit M j) (F := fun j => negI (T j).2.2.1) (n := n) (m := 8) (fun i _ _ => negI_0 _) (by omega)
      have m2 := uS_mono (U := fun j => Nat.testBit M j) (F := fun j => posI (T j).2.2.1) (n := n) (m := 8) (fun i _ _ => posI_0 _) (by omega)
      have e5 := uS_abs (U := fun j => Nat.testBit M j) (P := fun j => (T j).2.2.1) 8
      have hqn := hq n (by omega) hU
      by_cases hc : (T n).2.2.2.1 ≤ (y : Int) ∧ 0 ≤ (x : Int) - (T n).2.2.1 ∧ (x : Int) - (T n).2.2.1 < (w : Int)
      · rw [if_pos hc, ih x y hx hy, ih _ _ (by omega) (by omega)]
        rw [show ((((x : Int) - (T n).2.2.1).toNat : Nat) : Int) - st = (x : Int) - st - (T n).2.2.1 by omega, show ((((y : Int) - (T n).2.2.2.1).toNat : Nat) : Int) = (y : Int) - (T n).2.2.2.1 by omega]
      · rw [if_neg hc, ih x y hx hy, Gz_out (U := fun j => Nat.testBit M j) (P := fun j => (T j).2.2.1) (Q := fun j => (T j).2.2.2.1) (n := n) (x := (x : Int) - st - (T n).2.2.1) (y := (y : Int) - (T n).2.2.2.1) (fun i hi => hq i (by omega)) (fun z => hc (by omega)), i32_s0]
    · rw [if_neg hU, if_neg hU]
      exact ih x y hx hy
theorem Gz_congr {U U' : Nat → Bool} {P P' Q Q' : Nat → Int} : ∀ n : Nat, (∀ j, j < n → U j = U' j ∧ (U j = true → P j = P' j ∧ Q j = Q' j)) → Gz U P Q n = Gz U' P' Q' n
  | 0, _ => rfl
  | n + 1, h => by
    have ih := Gz_congr n (fun j hj => h j (by omega))
    funext x y
    show (if U n = true then Gz U P Q n x y - Gz U P Q n (x - P n) (y - Q n) else Gz U P Q n x y) = if U' n = true then Gz U' P' Q' n x y - Gz U' P' Q' n (x - P' n) (y - Q' n) else Gz U' P' Q' n x y
    rw [ih, ← (h n (by omega)).1]
    by_cases hU : U n = true
    · rw [if_pos hU, if_pos hU, ((h n (by omega)).2 hU).1, ((h n (by omega)).2 hU).2]
    · rw [if_neg hU, if_neg hU]
set_option maxHeartbeats 1000000 in
set_option maxRecDepth 100000 in
theorem c_moveAway (l : Launch) {B : Nat} {D : va_G} {cI cZ cL cS cW : ClassId} {ad : Nat → Nat} {g : Nat → va_E} (th : Int) (w h : Nat) (kp hb : Bool) (tr sq wm : Int) (p0 q0 : Int) (A : Int → Int → Int32) (hA : ∀ x y, A x y ≠ 0 → 0 ≤ x ∧ x < 32 ∧ 0 ≤ y ∧ y < 16 ∧ 0 ≤ x + p0 ∧ x + p0 < 32 ∧ 0 ≤ y + q0 ∧ y + q0 < 16) (hq0 : 0 ≤ q0 ∧ q0 ≤ 16) (hp0 : -16 ≤ p0 ∧ p0 ≤ 16) (hm : g 73 = mE ad th w h kp hb tr sq wm) (spd : Nat → Int32) (hspd : g 92 = inA cI 512 spd) (spg : Nat → Int32) (hspg : g 93 = inA cI 512 spg) (hs : ∀ x y : Nat, x < 32 → y < 16 → spd (32 * y + x) = A x y) : Met l y_M_moveAway (Cond.code y_M_moveAway b_M_moveAway 6 none :: wG) (rmF 0 0 0 0) (wPc B D classes (tyL cI cZ cL cS cW) (Zs B) 95 [.ref (ad 73), .int (iI p0), .int (iI q0)] ad g) (QV B D classes 95 (fun ad1 g1 => ∃ s1 d1 : Nat → Int32, (∀ x y : Nat, x < 32 → y < 16 → s1 (32 * y + x) = A x y - A (x - p0) (y - q0)) ∧ ad = ad1 ∧ g1 92 = inA cI 512 s1 ∧ g1 93 = inA cI 512 d1 ∧ ∀ r1, r1 ≠ 92 → r1 ≠ 93 → g1 r1 = g r1)) 0 0 (aB B) := by
  refine ofV (own := R_M) (by decide) rfl (Nat.le_of_ble_eq_true rfl) ?_
  intro p e s m below meth c Q C hnm hret
  change kV _ _ _ _ _ _ _ _ _ _ _ _ _ _ _ _ _ _ _ _ _ [(0, .ref (ad 73)), (1, .int (iI p0)), (2, .int (iI q0))] _ _
  refine v_iconst C d_M_moveAway_0 ?_
  refine v_istore_n (lv' := [(3, .int (iI 0)), (0, .ref (ad 73)), (1, .int (iI p0)), (2, .int (iI q0))]) C d_M_moveAway_1 rfl (by decide) rfl ?_
  refine v_lv (lv' := [(0, .ref (ad 73)), (1, .int (iI p0)), (2, .int (iI q0)), (3, .int (iI 0))]) [1, 2, 3, 0] rfl ?_
  have L2 : ∀ (d9 : Nat) (i : Nat) (e9d : Nat → Int32) (G2 : Nat → va_E), 512 - i < d9 → (i ≤ 512) → (∀ k, k < i → e9d k = spd k) → (∀ r1, r1 ≠ 93 → G2 r1 = g r1) → G2 93 = inA cI 512 e9d → kV p l e (rmF 0 0 0 0) s m ([.ref (ad 73), .int (iI p0), .int (iI q0)] : List Value).toArray below meth c Q s.heap B D classes 6 95 0 0 ad G2 [(0, .ref (ad 73)), (1, .int (iI p0)), (2, .int (iI q0)), (3, .int (iI (i : Int)))] [] 2 := by
    intro d9
    induction d9 with
    | zero => intro i e9d G2 hd9; exact absurd hd9 (Nat.not_lt_zero _)
    | succ d9 ih2 =>
      intro i e9d G2 hd2 hi hd hfr2 hspg
      have hm := (hfr2 73 (by omega)).trans hm
      have hspd := (hfr2 92 (by omega)).trans hspd
      refine v_iload_n C d_M_moveAway_2 rfl 3 rfl ?_
      refine v_sipush C d_M_moveAway_3 (by decide +kernel) ?_
      refine v_icmp_geI C d_M_moveAway_6 (by omega) (by omega) (by omega) (by omega) (fun hb6 => ?_) (fun hb6 => ?_)
      · have hA4 : ∀ x y, A x y ≠ 0 → 0 ≤ x ∧ x < 32 ∧ 0 ≤ y ∧ y < 16 := fun x y z => by have := hA x y z; omega
        have hmv0 : mvD A p0 q0 e9d 0 0 := mvD_0 (fun x' y' a b => (hd _ (by omega)).trans (hs x' y' a b)) hA4
        refine v_iconst C d_M_moveAway_27 ?_
        refine v_istore_n (lv' := [(3, .int (iI 0)), (0, .ref (ad 73)), (1, .int (iI p0)), (2, .int (iI q0))]) C d_M_moveAway_28 rfl (by decide) rfl ?_
        refine v_lv (lv' := [(0, .ref (ad 73)), (1, .int (iI p0)), (2, .int (iI q0)), (3, .int (iI 0))]) [1, 2, 3, 0] rfl ?_
        have L29 : ∀ (d9 : Nat) (y : Nat) (d8 : Nat → Int32) (G29 : Nat → va_E), 16 - y < d9 → (y ≤ 16) → (mvD A p0 q0 d8 0 y) → (∀ r1, r1 ≠ 93 → G29 r1 = G2 r1) → G29 93 = inA cI 512 d8 → kV p l e (rmF 0 0 0 0) s m ([.ref (ad 73), .int (iI p0), .int (iI q0)] : List Value).toArray below meth c Q s.heap B D classes 6 95 0 0 ad G29 [(0, .ref (ad 73)), (1, .int (iI p0)), (2, .int (iI q0)), (3, .int (iI (y : Int)))] [] 29 := by
          intro d9
          induction d9 with
          | zero => intro y d8 G29 hd9; exact absurd hd9 (Nat.not_lt_zero _)
          | succ d9 ih29 =>
            intro y d8 G29 hd29 hy hmv hfr29 hspg
            have hm := (hfr29 73 (by omega)).trans hm
            have hspd := (hfr29 92 (by omega)).trans hspd
            refine v_iload_n C d_M_moveAway_29 rfl 3 rfl ?_
            refine v_bipush C d_M_moveAway_30 (by decide +kernel) ?_
            refine v_icmp_geI C d_M_moveAway_32 (by omega) (by omega) (by omega) (by omega) (fun hb32 => ?_) (fun hb32 => ?_)
            · have hfin : ∀ x' y' : Nat, x' < 32 → y' < 16 → d8 (32 * y' + x') = A x' y' - A (x' - p0) (y' - q0) := fun x' y' a b => by rw [hmv x' y' a b, if_pos (by omega)]
              refine v_iconst C d_M_moveAway_97 ?_
              refine v_istore_n (lv' := [(3, .int (iI 0)), (0, .ref (ad 73)), (1, .int (iI p0)), (2, .int (iI q0))]) C d_M_moveAway_98 rfl (by decide) rfl ?_
              refine v_lv (lv' := [(0, .ref (ad 73)), (1, .int (iI p0)), (2, .int (iI q0)), (3, .int (iI 0))]) [1, 2, 3, 0] rfl ?_
              have L99 : ∀ (d9 : Nat) (i : Nat) (s9 : Nat → Int32) (G99 : Nat → va_E), 512 - i < d9 → (i ≤ 512) → (∀ k, k < i → s9 k = d8 k) → (∀ r1, r1 ≠ 92 → G99 r1 = G29 r1) → G99 92 = inA cI 512 s9 → kV p l e (rmF 0 0 0 0) s m ([.ref (ad 73), .int (iI p0), .int (iI q0)] : List Value).toArray below meth c Q s.heap B D classes 6 95 0 0 ad G99 [(0, .ref (ad 73)), (1, .int (iI p0)), (2, .int (iI q0)), (3, .int (iI (i : Int)))] [] 99 := by
                intro d9
                induction d9 with
                | zero => intro i s9 G99 hd9; exact absurd hd9 (Nat.not_lt_zero _)
                | succ d9 ih99 =>
                  intro i s9 G99 hd99 hi9 hs9 hfr99 hspd
                  have hm := (hfr99 73 (by omega)).trans hm
                  have hspg := (hfr99 93 (by omega)).trans hspg
                  refine v_iload_n C d_M_moveAway_99 rfl 3 rfl ?_
                  refine v_sipush C d_M_moveAway_100 (by decide +kernel) ?_
                  refine v_icmp_geI C d_M_moveAway_103 (by omega) (by omega) (by omega) (by omega) (fun hb103 => ?_) (fun hb103 => ?_)
                  · exact hret _ _ _ _ _ _ (Nat.zero_le _) (Nat.zero_le _) d_M_moveAway_124 ⟨s9, d8, fun x' y' a b => (hs9 _ (by omega)).trans (hfin x' y' a b), rfl, hspd, hspg, (fun r1 n0 n1 => ((hfr99 r1 n0).trans ((hfr29 r1 n1).trans (hfr2 r1 n1))))⟩
                  · refine v_aload_n C d_M_moveAway_106 rfl 0 rfl ?_
                    refine gf_M_75 C (by omega) hm rfl d_M_moveAway_107 ?_
                    refine v_iload_n C d_M_moveAway_110 rfl 3 rfl ?_
                    refine v_aload_n C d_M_moveAway_111 rfl 0 rfl ?_
                    refine gf_M_78 C (by omega) hm rfl d_M_moveAway_112 ?_
                    refine v_iload_n C d_M_moveAway_115 rfl 3 rfl ?_
                    refine v_iald C 0 (by omega) hspg rfl (i : Nat) (by omega) (by omega) (by omega) d_M_moveAway_116 ?_
                    refine v_iast C 0 (by omega) hspd rfl (i : Nat) (by omega) (by omega) (by omega) d_M_moveAway_117 (fun g1 hspd fr2 => ?_)
                    have hm := (fr2 73 (by omega)).trans hm
                    have hspg := (fr2 93 (by omega)).trans hspg
                    refine v_iinc (lv' := [(3, .int (iI ((i : Int) + 1))), (0, .ref (ad 73)), (1, .int (iI p0)), (2, .int (iI q0))]) C d_M_moveAway_118 3 rfl (by decide) rfl ?_
                    refine v_goto C d_M_moveAway_121 ?_
                    refine v_lv (lv' := [(0, .ref (ad 73)), (1, .int (iI p0)), (2, .int (iI q0)), (3, .int (iI ((i : Int) + 1)))]) [1, 2, 3, 0] rfl ?_
                    exact ih99 (i + 1) _ _ (by omega) (by omega) (fun k hk => by by_cases e9 : k = i; (subst e9; rw [pk_us]); rw [pk_un e9]; exact hs9 k (by omega)) (fun r1 n0 => ((fr2 r1 n0).trans (hfr99 r1 n0))) hspd
              exact L99 _ 0 spd _ (Nat.lt_succ_self _) (by omega) (fun k hk => absurd hk (by omega)) (fun r1 _ => rfl) hspd
            · refine v_iconst C d_M_moveAway_35 ?_
              refine v_istore (lv' := [(4, .int (iI 0)), (0, .ref (ad 73)), (1, .int (iI p0)), (2, .int (iI q0)), (3, .int (iI (y : Int)))]) C d_M_moveAway_36 (by decide) rfl ?_
              refine v_lv (lv' := [(0, .ref (ad 73)), (1, .int (iI p0)), (2, .int (iI q0)), (3, .int (iI (y : Int))), (4, .int (iI 0))]) [1, 2, 3, 4, 0] rfl ?_
              have L38 : ∀ (d9 : Nat) (x : Nat) (d7 : Nat → Int32) (G38 : Nat → va_E), 32 - x < d9 → (x ≤ 32) → (mvD A p0 q0 d7 x y) → (∀ r1, r1 ≠ 93 → G38 r1 = G29 r1) → G38 93 = inA cI 512 d7 → kV p l e (rmF 0 0 0 0) s m ([.ref (ad 73), .int (iI p0), .int (iI q0)] : List Value).toArray below meth c Q s.heap B D classes 6 95 0 0 ad G38 [(0, .ref (ad 73)), (1, .int (iI p0)), (2, .int (iI q0)), (3, .int (iI (y : Int))), (4, .int (iI (x : Int)))] [] 38 := by
                intro d9
                induction d9 with
                | zero => intro x d7 G38 hd9; exact absurd hd9 (Nat.not_lt_zero _)
                | succ d9 ih38 =>
                  intro x d7 G38 hd38 hx hmw hfr38 hspg
                  have hm := (hfr38 73 (by omega)).trans hm
                  have hspd := (hfr38 92 (by omega)).trans hspd
                  refine v_iload C d_M_moveAway_38 4 rfl ?_
                  refine v_bipush C d_M_moveAway_40 (by decide +kernel) ?_
                  refine v_icmp_geI C d_M_moveAway_42 (by omega) (by omega) (by omega) (by omega) (fun hb42 => ?_) (fun hb42 => ?_)
                  · refine v_iinc (lv' := [(3, .int (iI ((y : Int) + 1))), (0, .ref (ad 73)), (1, .int (iI p0)), (2, .int (iI q0)), (4, .int (iI (x : Int)))]) C d_M_moveAway_91 3 rfl (by decide) rfl ?_
                    refine v_goto C d_M_moveAway_94 ?_
                    refine v_lv (lv' := [(0, .ref (ad 73)), (1, .int (iI p0)), (2, .int (iI q0)), (3, .int (iI ((y : Int) + 1)))]) [1, 2, 3, 0] rfl ?_
                    exact ih29 (y + 1) d7 _ (by omega) (by omega) (mvD_row (by rw [show (32 : Nat) = x by omega]; exact hmw) hA4) (fun r1 n0 => ((hfr38 r1 n0).trans (hfr29 r1 n0))) hspg
                  · refine v_aload_n C d_M_moveAway_45 rfl 0 rfl ?_
                    refine gf_M_75 C (by omega) hm rfl d_M_moveAway_46 ?_
                    refine v_bipush C d_M_moveAway_49 (by decide +kernel) ?_
                    refine v_iload_n C d_M_moveAway_51 rfl 3 rfl ?_
                    refine v_imulI C d_M_moveAway_52 ?_
                    refine v_iload C d_M_moveAway_53 4 rfl ?_
                    refine v_iaddI C d_M_moveAway_55 ?_
                    refine v_iald C 0 (by omega) hspd rfl (32 * y + x) (by omega) (by omega) (by omega) d_M_moveAway_56 ?_
                    refine v_istore (lv' := [(5, .int (spd (32 * y + x))), (0, .ref (ad 73)), (1, .int (iI p0)), (2, .int (iI q0)), (3, .int (iI (y : Int))), (4, .int (iI (x : Int)))]) C d_M_moveAway_57 (by decide) rfl ?_
                    refine v_iload C d_M_moveAway_59 0 rfl ?_
                    refine v_if_eq C d_M_moveAway_61 (fun hb61 => ?_) (fun hb61 => ?_)
                    · refine v_iinc (lv' := [(4, .int (iI ((x : Int) + 1))), (5, .int (spd (32 * y + x))), (0, .ref (ad 73)), (1, .int (iI p0)), (2, .int (iI q0)), (3, .int (iI (y : Int)))]) C d_M_moveAway_85 5 rfl (by decide) rfl ?_
                      refine v_goto C d_M_moveAway_88 ?_
                      refine v_lv (lv' := [(0, .ref (ad 73)), (1, .int (iI p0)), (2, .int (iI q0)), (3, .int (iI (y : Int))), (4, .int (iI ((x : Int) + 1)))]) [2, 3, 4, 5, 0] rfl ?_
                      exact ih38 (x + 1) _ _ (by omega) (by omega) (mvD_skip hmw ((hs x y (by omega) (by omega)).symm.trans hb61)) (fun r1 n0 => (hfr38 r1 n0)) hspg
                    · have hAA := hA x y (fun z => hb61 ((hs x y (by omega) (by omega)).trans z))
                      obtain ⟨c1, hc1⟩ : ∃ c1 : Nat, (c1 : Int) = 32 * ((y : Int) + q0) + (x : Int) + p0 := ⟨(32 * ((y : Int) + q0) + (x : Int) + p0).toNat, by omega⟩
                      refine v_aload_n C d_M_moveAway_64 rfl 1 rfl ?_
                      refine gf_M_78 C (by omega) hm rfl d_M_moveAway_65 ?_
                      refine v_bipush C d_M_moveAway_68 (by decide +kernel) ?_
                      refine v_iload_n C d_M_moveAway_70 rfl 4 rfl ?_
                      refine v_iload_n C d_M_moveAway_71 rfl 3 rfl ?_
                      refine v_iaddI C d_M_moveAway_72 ?_
                      refine v_imulI C d_M_moveAway_73 ?_
                      refine v_iload C d_M_moveAway_74 5 rfl ?_
                      refine v_iaddI C d_M_moveAway_76 ?_
                      refine v_iload_n C d_M_moveAway_77 rfl 2 rfl ?_
                      refine v_iaddI C d_M_moveAway_78 ?_
                      refine v_dup2 C d_M_moveAway_79 rfl rfl ?_
                      refine v_iald C 0 (by omega) hspg rfl c1 (by omega) (by omega) (by omega) d_M_moveAway_80 ?_
                      refine v_iload C d_M_moveAway_81 0 rfl ?_
                      refine v_isub C d_M_moveAway_83 ?_
                      refine v_iast C 0 (by omega) hspg rfl c1 (by omega) (by omega) (by omega) d_M_moveAway_84 (fun g3 hspg fr4 => ?_)
                      have hm := (fr4 73 (by omega)).trans hm
                      have hspd := (fr4 92 (by omega)).trans hspd
                      refine v_iinc (lv' := [(4, .int (iI ((x : Int) + 1))), (5, .int (spd (32 * y + x))), (0, .ref (ad 73)), (1, .int (iI p0)), (2, .int (iI q0)), (3, .int (iI (y : Int)))]) C d_M_moveAway_85 5 rfl (by decide) rfl ?_
                      refine v_goto C d_M_moveAway_88 ?_
                      refine v_lv (lv' := [(0, .ref (ad 73)), (1, .int (iI p0)), (2, .int (iI q0)), (3, .int (iI (y : Int))), (4, .int (iI ((x : Int) + 1)))]) [2, 3, 4, 5, 0] rfl ?_
                      exact ih38 (x + 1) _ _ (by omega) (by omega) (mvD_step hmw (by omega) (by omega) (by omega) (hs x y (by omega) (by omega))) (fun r1 n0 => ((fr4 r1 n0).trans (hfr38 r1 n0))) hspg
              exact L38 _ 0 d8 _ (Nat.lt_succ_self _) (by omega) hmv (fun r1 _ => rfl) hspg
        exact L29 _ 0 e9d _ (Nat.lt_succ_self _) (by omega) hmv0 (fun r1 _ => rfl) hspg
      · refine v_aload_n C d_M_moveAway_9 rfl 0 rfl ?_
        refine gf_M_78 C (by omega) hm rfl d_M_moveAway_10 ?_
        refine v_iload_n C d_M_moveAway_13 rfl 3 rfl ?_
        refine v_aload_n C d_M_moveAway_14 rfl 0 rfl ?_
        refine gf_M_75 C (by omega) hm rfl d_M_moveAway_15 ?_
        refine v_iload_n C d_M_moveAway_18 rfl 3 rfl ?_
        refine v_iald C 0 (by omega) hspd rfl (i : Nat) (by omega) (by omega) (by omega) d_M_moveAway_19 ?_
        refine v_iast C 0 (by omega) hspg rfl (i : Nat) (by omega) (by omega) (by omega) d_M_moveAway_20 (fun g5 hspg fr6 => ?_)
        have hm := (fr6 73 (by omega)).trans hm
        have hspd := (fr6 92 (by omega)).trans hspd
        refine v_iinc (lv' := [(3, .int (iI ((i : Int) + 1))), (0, .ref (ad 73)), (1, .int (iI p0)), (2, .int (iI q0))]) C d_M_moveAway_21 3 rfl (by decide) rfl ?_
        refine v_goto C d_M_moveAway_24 ?_
        refine v_lv (lv' := [(0, .ref (ad 73)), (1, .int (iI p0)), (2, .int (iI q0)), (3, .int (iI ((i : Int) + 1)))]) [1, 2, 3, 0] rfl ?_
        exact ih2 (i + 1) _ _ (by omega) (by omega) (fun k hk => by by_cases e9 : k = i; (subst e9; rw [pk_us]); rw [pk_un e9]; exact hd k (by omega)) (fun r1 n0 => ((fr6 r1 n0).trans (hfr2 r1 n0))) hspg
  exact L2 _ 0 spg _ (Nat.lt_succ_self _) (by omega) (fun k hk => absurd hk (by omega)) (fun r1 _ => rfl) hspg
set_option maxHeartbeats 1000000 in
set_option maxRecDepth 100000 in
theorem c_lowestColumn (l : Launch) {B : Nat} {D : va_G} {cI cZ cL cS cW : ClassId} {ad : Nat → Nat} {g : Nat → va_E} (th : Int) (w h : Nat) (kp hb : Bool) (tr sq wm : Int) (n0 y0 : Nat) (hn0 : n0 < 32) (hy0 : y0 < 16) (hm : g 73 = mE ad th w h kp hb tr sq wm) (spd : Nat → Int32) (hspd : g 92 = inA cI 512 spd) (hz : ∀ x y : Nat, x < n0 → y < 16 → spd (32 * y + x) = 0) (hne : spd (32 * y0 + n0) ≠ 0) : Met l y_M_lowestColumn (Cond.code y_M_lowestColumn b_M_lowestColumn 3 (some .int) :: wG) (rmF 0 0 0 0) (wPc B D classes (tyL cI cZ cL cS cW) (Zs B) 95 [.ref (ad 73)] ad g) (QI B D classes 95 (fun v ad1 g1 => v = iI (n0 : Int) ∧ ad = ad1 ∧ g = g1)) 0 0 (aB B) := by
  refine ofI (own := R_M) (by decide) rfl (Nat.le_of_ble_eq_true rfl) ?_
  intro p e s m below meth c Q C hnm hret
  change kV _ _ _ _ _ _ _ _ _ _ _ _ _ _ _ _ _ _ _ _ _ [(0, .ref (ad 73))] _ _
  refine v_iconst C d_M_lowestColumn_0 ?_
  refine v_istore_n (lv' := [(1, .int (iI 0)), (0, .ref (ad 73))]) C d_M_lowestColumn_1 rfl (by decide) rfl ?_
  refine v_lv (lv' := [(0, .ref (ad 73)), (1, .int (iI 0))]) [1, 0] rfl ?_
  have L2 : ∀ (d9 : Nat) (x : Nat), 32 - x < d9 → (x ≤ n0) → kV p l e (rmF 0 0 0 0) s m ([.ref (ad 73)] : List Value).toArray below meth c Q s.heap B D classes 3 95 0 0 ad g [(0, .ref (ad 73)), (1, .int (iI (x : Int)))] [] 2 := by
    intro d9
    induction d9 with
    | zero => intro x hd9; exact absurd hd9 (Nat.not_lt_zero _)
    | succ d9 ih2 =>
      intro x hd2 hx
      refine v_iload_n C d_M_lowestColumn_2 rfl 1 rfl ?_
      refine v_bipush C d_M_lowestColumn_3 (by decide +kernel) ?_
      refine v_icmp_geI C d_M_lowestColumn_5 (by omega) (by omega) (by omega) (by omega) (fun hb5 => ?_) (fun hb5 => ?_)
      · refine v_iconst C d_M_lowestColumn_44 ?_
        exfalso; omega
      · refine v_iconst C d_M_lowestColumn_8 ?_
        refine v_istore_n (lv' := [(2, .int (iI 0)), (0, .ref (ad 73)), (1, .int (iI (x : Int)))]) C d_M_lowestColumn_9 rfl (by decide) rfl ?_
        refine v_lv (lv' := [(0, .ref (ad 73)), (1, .int (iI (x : Int))), (2, .int (iI 0))]) [1, 2, 0] rfl ?_
        have L10 : ∀ (d9 : Nat) (y : Nat), 16 - y < d9 → (y ≤ 16) → (∀ y', y' < y → spd (32 * y' + x) = 0) → kV p l e (rmF 0 0 0 0) s m ([.ref (ad 73)] : List Value).toArray below meth c Q s.heap B D classes 3 95 0 0 ad g [(0, .ref (ad 73)), (1, .int (iI (x : Int))), (2, .int (iI (y : Int)))] [] 10 := by
          intro d9
          induction d9 with
          | zero => intro y hd9; exact absurd hd9 (Nat.not_lt_zero _)
          | succ d9 ih10 =>
            intro y hd10 hy hyz
            refine v_iload_n C d_M_lowestColumn_10 rfl 2 rfl ?_
            refine v_bipush C d_M_lowestColumn_11 (by decide +kernel) ?_
            refine v_icmp_geI C d_M_lowestColumn_13 (by omega) (by omega) (by omega) (by omega) (fun hb13 => ?_) (fun hb13 => ?_)
            · refine v_iinc (lv' := [(1, .int (iI ((x : Int) + 1))), (0, .ref (ad 73)), (2, .int (iI (y : Int)))]) C d_M_lowestColumn_38 1 rfl (by decide) rfl ?_
              refine v_goto C d_M_lowestColumn_41 ?_
              refine v_lv (lv' := [(0, .ref (ad 73)), (1, .int (iI ((x : Int) + 1)))]) [1, 0] rfl ?_
              exact ih2 (x + 1) (by omega) (by by_cases e9 : x = n0; (subst e9; exact absurd (hyz y0 (by omega)) hne); omega)
            · refine v_aload_n C d_M_lowestColumn_16 rfl 0 rfl ?_
              refine gf_M_75 C (by omega) hm rfl d_M_lowestColumn_17 ?_
              refine v_bipush C d_M_lowestColumn_20 (by decide +kernel) ?_
              refine v_iload_n C d_M_lowestColumn_22 rfl 2 rfl ?_
              refine v_imulI C d_M_lowestColumn_23 ?_
              refine v_iload_n C d_M_lowestColumn_24 rfl 1 rfl ?_
              refine v_iaddI C d_M_lowestColumn_25 ?_
              refine v_iald C 0 (by omega) hspd rfl (32 * y + x) (by omega) (by omega) (by omega) d_M_lowestColumn_26 ?_
              refine v_if_eq C d_M_lowestColumn_27 (fun hb27 => ?_) (fun hb27 => ?_)
              · refine v_iinc (lv' := [(2, .int (iI ((y : Int) + 1))), (0, .ref (ad 73)), (1, .int (iI (x : Int)))]) C d_M_lowestColumn_32 2 rfl (by decide) rfl ?_
                refine v_goto C d_M_lowestColumn_35 ?_
                refine v_lv (lv' := [(0, .ref (ad 73)), (1, .int (iI (x : Int))), (2, .int (iI ((y : Int) + 1)))]) [1, 2, 0] rfl ?_
                exact ih10 (y + 1) (by omega) (by omega) (fun y' hy' => by by_cases e9 : y' = y; (subst e9; exact hb27); exact hyz y' (by omega))
              · refine v_iload_n C d_M_lowestColumn_30 rfl 1 rfl ?_
                have hxn : x = n0 := by by_cases e9 : x < n0; (exact absurd (hz x y e9 (by omega)) hb27); omega
                exact hret _ _ _ _ _ _ _ (Nat.zero_le _) (Nat.zero_le _) d_M_lowestColumn_31 ⟨by rw [hxn], rfl, rfl⟩
        exact L10 _ 0 (Nat.lt_succ_self _) (by omega) (fun y' hy' => absurd hy' (by omega))
  exact L2 _ 0 (Nat.lt_succ_self _) (by omega)
set_option maxHeartbeats 1000000 in
set_option maxRecDepth 100000 in
theorem c_Mghost (l : Launch) {B : Nat} {D : va_G} {cI cZ cL cS cW : ClassId} {ad : Nat → Nat} {g : Nat → va_E} (th : Int) (w h : Nat) (kp hb : Bool) (tr sq wm : Int) (z x y : Int) (z1 : -2147483648 ≤ z) (z2 : z < 2147483648) (x1 : -2147483648 ≤ x) (x2 : x < 2147483648) (y1 : -2147483648 ≤ y) (y2 : y < 2147483648) (hw : 1 ≤ w ∧ w ≤ 16) (hh : 1 ≤ h ∧ h ≤ 16) (hm : g 73 = mE ad th w h kp hb tr sq wm) (tol : Nat → Bool) (htol : g 79 = inA cZ 8 (bA tol)) (rP : Nat → Int) (hrP : g 80 = inA cI 8 (jA rP)) (rQ : Nat → Int) (hrQ : g 81 = inA cI 8 (jA rQ)) (spd : Nat → Int32) (hspd : g 92 = inA cI 512 spd) (spg : Nat → Int32) (hspg : g 93 = inA cI 512 spg) (hPQ : ∀ j, j < 8 → okD (rP j) (rQ j)) (hpos : ∀ j, j < 8 → tol j = true → rQ j = 0 → 0 < rP j) : Met l y_M_ghost (Cond.code y_M_ghost b_M_ghost 6 (some .int) :: wG) (rmF 2 75 0 0) (wPc B D classes (tyL cI cZ cL cS cW) (Zs B) 95 [.ref (ad 73), .int (iI z), .int (iI x), .int (iI y)] ad g) (QI B D classes 95 (fun v ad1 g1 => (¬ (0 ≤ z ∧ z < 256) ∧ g1 73 = mE ad 1 w h kp hb tr sq wm ∧ ad = ad1 ∧ ∀ r1, r1 ≠ 73 → g1 r1 = g r1) ∨ ((0 ≤ z ∧ z < 256) ∧ ¬ (0 ≤ x ∧ x < (w : Int) ∧ 0 ≤ y ∧ y < (h : Int)) ∧ g1 73 = mE ad 2 w h kp hb tr sq wm ∧ ad = ad1 ∧ ∀ r1, r1 ≠ 73 → g1 r1 = g r1) ∨ ((0 ≤ z ∧ z < 256) ∧ (0 ≤ x ∧ x < (w : Int) ∧ 0 ≤ y ∧ y < (h : Int)) ∧ ((w : Int) ≤ sI 8 (fun j => if (Nat.testBit z.toNat j && tol j) = true then aI (rP j) else 0) ∨ (h : Int) ≤ sI 8 (fun j => if (Nat.testBit z.toNat j && tol j) = true then rQ j else 0)) ∧ g1 73 = mE ad 3 w h kp hb tr sq wm ∧ ad = ad1 ∧ ∀ r1, r1 ≠ 73 → g1 r1 = g r1) ∨ ((0 ≤ z ∧ z < 256) ∧ (0 ≤ x ∧ x < (w : Int) ∧ 0 ≤ y ∧ y < (h : Int)) ∧ ¬ ((w : Int) ≤ sI 8 (fun j => if (Nat.testBit z.toNat j && tol j) = true then aI (rP j) else 0) ∨ (h : Int) ≤ sI 8 (fun j => if (Nat.testBit z.toNat j && tol j) = true then rQ j else 0)) ∧ v = Gz (fun j => Nat.testBit z.toNat j && tol j) rP rQ 8 (x - uS (fun j => Nat.testBit z.toNat j && tol j) (fun j => negI (rP j)) 8) y ∧ g1 73 = mE ad 0 w h kp hb tr sq wm ∧ ad = ad1 ∧ ∃ s1 d1 : Nat → Int32, g1 92 = inA cI 512 s1 ∧ g1 93 = inA cI 512 d1 ∧ ∀ r1, r1 ≠ 73 → r1 ≠ 92 → r1 ≠ 93 → g1 r1 = g r1))) 0 0 (aB B) := by
  refine ofI (own := R_M) (by decide) rfl (Nat.le_of_ble_eq_true rfl) ?_
  intro p e s m below meth c Q C hnm hret
  change kV _ _ _ _ _ _ _ _ _ _ _ _ _ _ _ _ _ _ _ _ _ [(0, .ref (ad 73)), (1, .int (iI z)), (2, .int (iI x)), (3, .int (iI y))] _ _
  have J12 : ∀ a : Bool, (a = true ↔ ¬ (0 ≤ z ∧ z < 256)) → kV p l e (rmF 2 75 0 0) s m ([.ref (ad 73), .int (iI z), .int (iI x), .int (iI y)] : List Value).toArray below meth c Q s.heap B D classes 6 95 0 0 ad g [(0, .ref (ad 73)), (1, .int (iI z)), (2, .int (iI x)), (3, .int (iI y))] [.int (bI a)] 12 := by
    intro a ha
    refine v_istore (lv' := [(4, .int (bI a)), (0, .ref (ad 73)), (1, .int (iI z)), (2, .int (iI x)), (3, .int (iI y))]) C d_M_ghost_12 (by decide) rfl ?_
    refine v_aload_n C d_M_ghost_14 rfl 1 rfl ?_
    refine v_iload C d_M_ghost_15 0 rfl ?_
    have J31 : ∀ b2 : Bool, (b2 = true ↔ ¬ (0 ≤ x ∧ x < (w : Int) ∧ 0 ≤ y ∧ y < (h : Int))) → kV p l e (rmF 2 75 0 0) s m ([.ref (ad 73), .int (iI z), .int (iI x), .int (iI y)] : List Value).toArray below meth c Q s.heap B D classes 6 95 0 0 ad g [(4, .int (bI a)), (0, .ref (ad 73)), (1, .int (iI z)), (2, .int (iI x)), (3, .int (iI y))] [.int (bI b2), .int (bI a), .ref (ad 73)] 31 := by
      intro b2 hb2
      refine v_callVI (As := [.int (bI a), .int (bI b2)]) (st := []) (by omega) hm rfl rfl C (c_throwing l th w h kp hb tr sq wm a b2 hm) (lk_M_88 C.1.2.2.2.2 rfl rfl ⟨Nat.le_of_ble_eq_true rfl, Nat.le_of_ble_eq_true rfl⟩) rfl rfl (Nat.le_of_ble_eq_true rfl) d_M_ghost_31 ⟨Nat.le_of_ble_eq_true rfl, Nat.le_of_ble_eq_true rfl⟩ (fun w1 ad1 g1 hp1 => ?_)
      obtain ⟨vt1, rfl, hc1, rfl, fr1⟩ := hp1
      rcases hc1 with ⟨ta31, rfl, hm⟩ | ⟨ta31, tb31, rfl, hm⟩ | ⟨ta31, tb31, rfl, hm⟩
      · -- way 1
        have htol := (fr1 79 (by omega)).trans htol
        have hrP := (fr1 80 (by omega)).trans hrP
        have hrQ := (fr1 81 (by omega)).trans hrQ
        have hspd := (fr1 92 (by omega)).trans hspd
        have hspg := (fr1 93 (by omega)).trans hspg
        refine v_if_eqB C d_M_ghost_34 (fun hz9 => absurd hz9 (by decide)) (fun _ => ?_)
        refine v_iconst C d_M_ghost_37 ?_
        exact hret _ _ _ _ _ _ _ (Nat.zero_le _) (Nat.zero_le _) d_M_ghost_38 (Or.inl ⟨ha.mp ta31, hm, rfl, (fun r1 n0 => (fr1 r1 n0))⟩)
      · -- way 2
        have htol := (fr1 79 (by omega)).trans htol
        have hrP := (fr1 80 (by omega)).trans hrP
        have hrQ := (fr1 81 (by omega)).trans hrQ
        have hspd := (fr1 92 (by omega)).trans hspd
        have hspg := (fr1 93 (by omega)).trans hspg
        refine v_if_eqB C d_M_ghost_34 (fun hz9 => absurd hz9 (by decide)) (fun _ => ?_)
        refine v_iconst C d_M_ghost_37 ?_
        have haA : (0 ≤ z ∧ z < 256) := Classical.byContradiction (fun q => absurd (ha.mpr q) (by rw [ta31]; decide))
        exact hret _ _ _ _ _ _ _ (Nat.zero_le _) (Nat.zero_le _) d_M_ghost_38 (Or.inr (Or.inl ⟨haA, hb2.mp tb31, hm, rfl, (fun r1 n0 => (fr1 r1 n0))⟩))
      · -- way 3
        have htol := (fr1 79 (by omega)).trans htol
        have hrP := (fr1 80 (by omega)).trans hrP
        have hrQ := (fr1 81 (by omega)).trans hrQ
        have hspd := (fr1 92 (by omega)).trans hspd
        have hspg := (fr1 93 (by omega)).trans hspg
        refine v_if_eqB C d_M_ghost_34 (fun _ => ?_) (fun hz9 => absurd hz9 (by decide))
        have haA : (0 ≤ z ∧ z < 256) := Classical.byContradiction (fun q => absurd (ha.mpr q) (by rw [ta31]; decide))
        have hb2A : (0 ≤ x ∧ x < (w : Int) ∧ 0 ≤ y ∧ y < (h : Int)) := Classical.byContradiction (fun q => absurd (hb2.mpr q) (by rw [tb31]; decide))
        have hM0 : ((z.toNat : Nat) : Int) = z := by omega
        have hM : z.toNat < 256 := by omega
        refine v_lvE (lv' := [(4, .int (bI a)), (0, .ref (ad 73)), (1, .int (iI (z.toNat : Int))), (2, .int (iI x)), (3, .int (iI y))]) (by rw [hM0]) ?_
        refine v_aload_n C d_M_ghost_39 rfl 1 rfl ?_
        refine v_iload_n C d_M_ghost_40 rfl 2 rfl ?_
        refine v_callVI (As := [.int (iI (z.toNat : Int))]) (st := []) (by omega) hm rfl rfl C (c_MareEnough l 0 w h kp hb tr sq wm z.toNat hM hw hh hm tol htol rP hrP rQ hrQ hPQ) (lk_M_140 C.1.2.2.2.2 rfl rfl ⟨Nat.le_of_ble_eq_true rfl, Nat.le_of_ble_eq_true rfl⟩) rfl rfl (Nat.le_of_ble_eq_true rfl) d_M_ghost_41 ⟨Nat.le_of_ble_eq_true rfl, Nat.le_of_ble_eq_true rfl⟩ (fun w2 ad2 g2 hp2 => ?_)
        obtain ⟨be, rfl, hbe, rfl, rfl⟩ := hp2
        refine v_if_eqB C d_M_ghost_44 (fun hb44 => ?_) (fun hb44 => ?_)
        · have hne : ¬ ((w : Int) ≤ sI 8 (fun j => if (Nat.testBit z.toNat j && tol j) = true then aI (rP j) else 0) ∨ (h : Int) ≤ sI 8 (fun j => if (Nat.testBit z.toNat j && tol j) = true then rQ j else 0)) := of_decide_eq_false (hbe.symm.trans hb44)
          have hw9 : uS (fun j => Nat.testBit z.toNat j && tol j) (fun j => aI (rP j)) 8 < (w : Int) := by show sI 8 (fun j => if (Nat.testBit z.toNat j && tol j) = true then aI (rP j) else 0) < _; omega
          have hh9 : uS (fun j => Nat.testBit z.toNat j && tol j) rQ 8 < (h : Int) := by show sI 8 (fun j => if (Nat.testBit z.toNat j && tol j) = true then rQ j else 0) < _; omega
          have hqq : ∀ j, j < 8 → (fun j => Nat.testBit z.toNat j && tol j) j = true → 0 ≤ rQ j := fun j hj _ => (hPQ j hj).2.2.1
          obtain ⟨bx1, bx2, bx3⟩ := gh_box8 hqq hw9 hh9
          refine v_iconst C d_M_ghost_54 ?_
          refine v_istore (lv' := [(5, .int (iI 0)), (4, .int (bI a)), (0, .ref (ad 73)), (1, .int (iI (z.toNat : Int))), (2, .int (iI x)), (3, .int (iI y))]) C d_M_ghost_55 (by decide) rfl ?_
          refine v_lv (lv' := [(0, .ref (ad 73)), (1, .int (iI (z.toNat : Int))), (2, .int (iI x)), (3, .int (iI y)), (5, .int (iI 0))]) [2, 3, 4, 5, 0] rfl ?_
          have L57 : ∀ (d9 : Nat) (i : Nat) (s9 : Nat → Int32) (G57 : Nat → va_E), 512 - i < d9 → (i ≤ 512) → (∀ k, k < i → s9 k = 0) → (∀ r1, r1 ≠ 92 → G57 r1 = g1 r1) → G57 92 = inA cI 512 s9 → kV p l e (rmF 2 75 0 0) s m ([.ref (ad 73), .int (iI z), .int (iI x), .int (iI y)] : List Value).toArray below meth c Q s.heap B D classes 6 95 0 0 ad G57 [(0, .ref (ad 73)), (1, .int (iI (z.toNat : Int))), (2, .int (iI x)), (3, .int (iI y)), (5, .int (iI (i : Int)))] [] 57 := by
            intro d9
            induction d9 with
            | zero => intro i s9 G57 hd9; exact absurd hd9 (Nat.not_lt_zero _)
            | succ d9 ih57 =>
              intro i s9 G57 hd57 hi hs9 hfr57 hspd
              have hm := (hfr57 73 (by omega)).trans hm
              have htol := (hfr57 79 (by omega)).trans htol
              have hrP := (hfr57 80 (by omega)).trans hrP
              have hrQ := (hfr57 81 (by omega)).trans hrQ
              have hspg := (hfr57 93 (by omega)).trans hspg
              refine v_iload C d_M_ghost_57 4 rfl ?_
              refine v_sipush C d_M_ghost_59 (by decide +kernel) ?_
              refine v_icmp_geI C d_M_ghost_62 (by omega) (by omega) (by omega) (by omega) (fun hb62 => ?_) (fun hb62 => ?_)
              · refine v_aload_n C d_M_ghost_79 rfl 0 rfl ?_
                refine gf_M_75 C (by omega) hm rfl d_M_ghost_80 ?_
                refine v_bipush C d_M_ghost_83 (by decide +kernel) ?_
                refine v_iconst C d_M_ghost_85 ?_
                refine v_iast C 0 (by omega) hspd rfl 16 (by omega) (by omega) (by omega) d_M_ghost_86 (fun g3 hspd fr4 => ?_)
                have hm := (fr4 73 (by omega)).trans hm
                have htol := (fr4 79 (by omega)).trans htol
                have hrP := (fr4 80 (by omega)).trans hrP
                have hrQ := (fr4 81 (by omega)).trans hrQ
                have hspg := (fr4 93 (by omega)).trans hspg
                have hst : ∀ x' y' : Nat, x' < 32 → y' < 16 → upd s9 16 (iI 1) (32 * y' + x') = Gz (fun j => Nat.testBit z.toNat j && tol j) rP rQ 0 ((x' : Int) - 16) y' := fun x' y' a b => by show _ = (if (x' : Int) - 16 = 0 ∧ (y' : Int) = 0 then (1 : Int32) else 0); by_cases e9 : 32 * y' + x' = 16; (rw [e9, pk_us, if_pos (by omega)]; rfl); rw [pk_un e9, if_neg (by omega)]; exact hs9 _ (by omega)
                refine v_iconst C d_M_ghost_87 ?_
                refine v_istore (lv' := [(5, .int (iI 0)), (0, .ref (ad 73)), (1, .int (iI (z.toNat : Int))), (2, .int (iI x)), (3, .int (iI y))]) C d_M_ghost_88 (by decide) rfl ?_
                refine v_lv (lv' := [(0, .ref (ad 73)), (1, .int (iI (z.toNat : Int))), (2, .int (iI x)), (3, .int (iI y)), (5, .int (iI 0))]) [1, 2, 3, 4, 0] rfl ?_
                have L90 : ∀ (d9 : Nat) (j : Nat) (s8 : Nat → Int32) (d8 : Nat → Int32) (G90 : Nat → va_E), 8 - j < d9 → (j ≤ 8) → (∀ x' y' : Nat, x' < 32 → y' < 16 → s8 (32 * y' + x') = Gz (fun j => Nat.testBit z.toNat j && tol j) rP rQ j ((x' : Int) - 16) y') → (∀ r1, r1 ≠ 92 → r1 ≠ 93 → G90 r1 = g3 r1) → G90 92 = inA cI 512 s8 → G90 93 = inA cI 512 d8 → kV p l e (rmF 2 75 0 0) s m ([.ref (ad 73), .int (iI z), .int (iI x), .int (iI y)] : List Value).toArray below meth c Q s.heap B D classes 6 95 0 0 ad G90 [(0, .ref (ad 73)), (1, .int (iI (z.toNat : Int))), (2, .int (iI x)), (3, .int (iI y)), (5, .int (iI (j : Int)))] [] 90 := by
                  intro d9
                  induction d9 with
                  | zero => intro j s8 d8 G90 hd9; exact absurd hd9 (Nat.not_lt_zero _)
                  | succ d9 ih90 =>
                    intro j s8 d8 G90 hd90 hj hs8 hfr90 hspd hspg
                    have hm := (hfr90 73 (by omega) (by omega)).trans hm
                    have htol := (hfr90 79 (by omega) (by omega)).trans htol
                    have hrP := (hfr90 80 (by omega) (by omega)).trans hrP
                    have hrQ := (hfr90 81 (by omega) (by omega)).trans hrQ
                    refine v_iload C d_M_ghost_90 4 rfl ?_
                    refine v_bipush C d_M_ghost_92 (by decide +kernel) ?_
                    refine v_icmp_geI C d_M_ghost_94 (by omega) (by omega) (by omega) (by omega) (fun hb94 => ?_) (fun hb94 => ?_)
                    · have hj8 : j = 8 := by omega
                      rw [hj8] at hs8
                      obtain ⟨yl, hyl, -⟩ := Gz_low (U := (fun j => Nat.testBit z.toNat j && tol j)) (P := rP) (Q := rQ) 8 (fun j hj hu => ⟨(hPQ j hj).2.2.1, hpos j hj (by rw [Bool.and_eq_true] at hu; exact hu.2)⟩)
                      have hyl2 := Gz_sup 8 hqq _ _ (pm_ne hyl)
                      obtain ⟨n0, hn0⟩ : ∃ n0 : Nat, (n0 : Int) = 16 - uS (fun j => Nat.testBit z.toNat j && tol j) (fun j => negI (rP j)) 8 := ⟨(16 - uS (fun j => Nat.testBit z.toNat j && tol j) (fun j => negI (rP j)) 8).toNat, by omega⟩
                      obtain ⟨yn, hyn⟩ : ∃ yn : Nat, (yn : Int) = yl := ⟨yl.toNat, by omega⟩
                      refine v_aload_n C d_M_ghost_131 rfl 0 rfl ?_
                      refine gf_M_75 C (by omega) hm rfl d_M_ghost_132 ?_
                      refine v_bipush C d_M_ghost_135 (by decide +kernel) ?_
                      refine v_iload_n C d_M_ghost_137 rfl 3 rfl ?_
                      refine v_imulI C d_M_ghost_138 ?_
                      refine v_iload_n C d_M_ghost_139 rfl 2 rfl ?_
                      refine v_iaddI C d_M_ghost_140 ?_
                      refine v_aload_n C d_M_ghost_141 rfl 0 rfl ?_
                      refine v_callVI (As := []) (st := [.int (iI ((32 * y) + x)), .ref (ad 92)]) (by omega) hm rfl rfl C (c_lowestColumn l 0 w h kp hb tr sq wm n0 yn (by omega) (by omega) hm s8 hspd (fun x' y' a b => by rw [hs8 x' y' (by omega) b]; exact Gz_out hqq (fun q => by omega)) (by rw [hs8 n0 yn (by omega) (by omega), show (n0 : Int) - 16 = -uS (fun j => Nat.testBit z.toNat j && tol j) (fun j => negI (rP j)) 8 by omega, hyn]; exact pm_ne hyl)) (lk_M_183 C.1.2.2.2.2 rfl rfl ⟨Nat.le_of_ble_eq_true rfl, Nat.le_of_ble_eq_true rfl⟩) rfl rfl (Nat.le_of_ble_eq_true rfl) d_M_ghost_142 ⟨Nat.le_of_ble_eq_true rfl, Nat.le_of_ble_eq_true rfl⟩ (fun w5 ad5 g5 hp5 => ?_)
                      obtain ⟨rfl, rfl, rfl⟩ := hp5
                      obtain ⟨x0, hx0⟩ : ∃ x0 : Nat, (x0 : Int) = x := ⟨x.toNat, by omega⟩
                      obtain ⟨y0, hy0⟩ : ∃ y0 : Nat, (y0 : Int) = y := ⟨y.toNat, by omega⟩
                      refine v_iaddI C d_M_ghost_145 ?_
                      refine v_iald C 0 (by omega) hspd rfl (32 * y0 + (x0 + n0)) (by omega) (by omega) (by omega) d_M_ghost_146 ?_
                      exact hret _ _ _ _ _ _ _ (Nat.zero_le _) (Nat.zero_le _) d_M_ghost_147 (Or.inr (Or.inr (Or.inr ⟨haA, hb2A, hne, by rw [hs8 (x0 + n0) y0 (by omega) (by omega), hy0, show ((x0 + n0 : Nat) : Int) - 16 = x - uS (fun j => Nat.testBit z.toNat j && tol j) (fun j => negI (rP j)) 8 by omega], hm, rfl, s8, d8, hspd, hspg, (fun r1 n0 n1 n2 => ((hfr90 r1 n1 n2).trans ((fr4 r1 n1).trans ((hfr57 r1 n1).trans (fr1 r1 n0)))))⟩)))
                    · refine v_aload_n C d_M_ghost_97 rfl 0 rfl ?_
                      refine v_iload_n C d_M_ghost_98 rfl 1 rfl ?_
                      refine v_iload C d_M_ghost_99 4 rfl ?_
                      refine v_callVI (As := [.int (iI (z.toNat : Int)), .int (iI (j : Int))]) (st := []) (by omega) hm rfl rfl C (c_isOf l 0 w h kp hb tr sq wm z.toNat j hM (by omega) hm tol htol) (lk_M_134 C.1.2.2.2.2 rfl rfl ⟨Nat.le_of_ble_eq_true rfl, Nat.le_of_ble_eq_true rfl⟩) rfl rfl (Nat.le_of_ble_eq_true rfl) d_M_ghost_101 ⟨Nat.le_of_ble_eq_true rfl, Nat.le_of_ble_eq_true rfl⟩ (fun w6 ad6 g6 hp6 => ?_)
                      obtain ⟨_, rfl, rfl, rfl, rfl⟩ := hp6
                      refine v_if_eqB C d_M_ghost_104 (fun hb104 => ?_) (fun hb104 => ?_)
                      · refine v_iinc (lv' := [(5, .int (iI ((j : Int) + 1))), (0, .ref (ad 73)), (1, .int (iI (z.toNat : Int))), (2, .int (iI x)), (3, .int (iI y))]) C d_M_ghost_125 4 rfl (by decide) rfl ?_
                        refine v_goto C d_M_ghost_128 ?_
                        refine v_lv (lv' := [(0, .ref (ad 73)), (1, .int (iI (z.toNat : Int))), (2, .int (iI x)), (3, .int (iI y)), (5, .int (iI ((j : Int) + 1)))]) [1, 2, 3, 4, 0] rfl ?_
                        exact ih90 (j + 1) s8 d8 _ (by omega) (by omega) (fun x' y' a b => by rw [hs8 x' y' a b]; show _ = (if (fun j => Nat.testBit z.toNat j && tol j) j = true then Gz (fun j => Nat.testBit z.toNat j && tol j) rP rQ j ((x' : Int) - 16) y' - Gz (fun j => Nat.testBit z.toNat j && tol j) rP rQ j ((x' : Int) - 16 - rP j) ((y' : Int) - rQ j) else Gz (fun j => Nat.testBit z.toNat j && tol j) rP rQ j ((x' : Int) - 16) y'); rw [if_neg (fun q => absurd (hb104.symm.trans q) (by decide))]) (fun r1 n0 n1 => (hfr90 r1 n0 n1)) hspd hspg
                      · refine v_aload_n C d_M_ghost_107 rfl 0 rfl ?_
                        refine v_aload_n C d_M_ghost_108 rfl 0 rfl ?_
                        refine gf_M_36 C (by omega) hm rfl d_M_ghost_109 ?_
                        refine v_iload C d_M_ghost_112 4 rfl ?_
                        refine v_ialdI C 0 (by omega) hrP rfl (j : Nat) (by omega) (by omega) (by omega) d_M_ghost_114 ?_
                        refine v_aload_n C d_M_ghost_115 rfl 0 rfl ?_
                        refine gf_M_39 C (by omega) hm rfl d_M_ghost_116 ?_
                        refine v_iload C d_M_ghost_119 4 rfl ?_
                        refine v_ialdI C 0 (by omega) hrQ rfl (j : Nat) (by omega) (by omega) (by omega) d_M_ghost_121 ?_
                        have hok := hPQ j (by omega)
                        have hok1 := hok.1; have hok2 := hok.2.1; have hok3 := hok.2.2.1; have hok4 := hok.2.2.2
                        refine v_callVV (As := [.int (iI (rP (j : Nat))), .int (iI (rQ (j : Nat)))]) (st := []) (by omega) hm rfl rfl C (c_moveAway l 0 w h kp hb tr sq wm (rP j) (rQ j) (fun x y => Gz (fun j => Nat.testBit z.toNat j && tol j) rP rQ j (x - 16) y) (gh_box hqq hw9 hh9 hw.2 hh.2 (by omega) hb104) (by omega) (by omega) hm s8 hspd d8 hspg hs8) (lk_M_180 C.1.2.2.2.2 rfl rfl ⟨Nat.le_of_ble_eq_true rfl, Nat.le_of_ble_eq_true rfl⟩) rfl rfl (Nat.le_of_ble_eq_true rfl) d_M_ghost_122 ⟨Nat.le_of_ble_eq_true rfl, Nat.le_of_ble_eq_true rfl⟩ (fun ad7 g7 hp7 => ?_)
                        obtain ⟨s7, d7, hs7, rfl, hspd, hspg, fr7⟩ := hp7
                        have hm := (fr7 73 (by omega) (by omega)).trans hm
                        have htol := (fr7 79 (by omega) (by omega)).trans htol
                        have hrP := (fr7 80 (by omega) (by omega)).trans hrP
                        have hrQ := (fr7 81 (by omega) (by omega)).trans hrQ
                        refine v_iinc (lv' := [(5, .int (iI ((j : Int) + 1))), (0, .ref (ad 73)), (1, .int (iI (z.toNat : Int))), (2, .int (iI x)), (3, .int (iI y))]) C d_M_ghost_125 4 rfl (by decide) rfl ?_
                        refine v_goto C d_M_ghost_128 ?_
                        refine v_lv (lv' := [(0, .ref (ad 73)), (1, .int (iI (z.toNat : Int))), (2, .int (iI x)), (3, .int (iI y)), (5, .int (iI ((j : Int) + 1)))]) [1, 2, 3, 4, 0] rfl ?_
                        exact ih90 (j + 1) s7 d7 _ (by omega) (by omega) (fun x' y' a b => by rw [hs7 x' y' a b]; show _ = (if (fun j => Nat.testBit z.toNat j && tol j) j = true then Gz (fun j => Nat.testBit z.toNat j && tol j) rP rQ j ((x' : Int) - 16) y' - Gz (fun j => Nat.testBit z.toNat j && tol j) rP rQ j ((x' : Int) - 16 - rP j) ((y' : Int) - rQ j) else Gz (fun j => Nat.testBit z.toNat j && tol j) rP rQ j ((x' : Int) - 16) y'); rw [if_pos hb104, show (x' : Int) - 16 - rP j = (x' : Int) - rP j - 16 by omega]) (fun r1 n0 n1 => ((fr7 r1 n0 n1).trans (hfr90 r1 n0 n1))) hspd hspg
                exact L90 _ 0 _ spg _ (Nat.lt_succ_self _) (by omega) hst (fun r1 _ _ => rfl) hspd hspg
              · refine v_aload_n C d_M_ghost_65 rfl 0 rfl ?_
                refine gf_M_75 C (by omega) hm rfl d_M_ghost_66 ?_
                refine v_iload C d_M_ghost_69 4 rfl ?_
                refine v_iconst C d_M_ghost_71 ?_
                refine v_iast C 0 (by omega) hspd rfl (i : Nat) (by omega) (by omega) (by omega) d_M_ghost_72 (fun g8 hspd fr9 => ?_)
                have hm := (fr9 73 (by omega)).trans hm
                have htol := (fr9 79 (by omega)).trans htol
                have hrP := (fr9 80 (by omega)).trans hrP
                have hrQ := (fr9 81 (by omega)).trans hrQ
                have hspg := (fr9 93 (by omega)).trans hspg
                refine v_iinc (lv' := [(5, .int (iI ((i : Int) + 1))), (0, .ref (ad 73)), (1, .int (iI (z.toNat : Int))), (2, .int (iI x)), (3, .int (iI y))]) C d_M_ghost_73 4 rfl (by decide) rfl ?_
                refine v_goto C d_M_ghost_76 ?_
                refine v_lv (lv' := [(0, .ref (ad 73)), (1, .int (iI (z.toNat : Int))), (2, .int (iI x)), (3, .int (iI y)), (5, .int (iI ((i : Int) + 1)))]) [1, 2, 3, 4, 0] rfl ?_
                exact ih57 (i + 1) _ _ (by omega) (by omega) (upd_all hs9) (fun r1 n0 => ((fr9 r1 n0).trans (hfr57 r1 n0))) hspd
          exact L57 _ 0 spd _ (Nat.lt_succ_self _) (by omega) (fun k hk => absurd hk (by omega)) (fun r1 _ => rfl) hspd
        · refine v_aload_n C d_M_ghost_47 rfl 1 rfl ?_
          refine v_iconst C d_M_ghost_48 ?_
          refine pf_M_81 (fs' := [.int (iI 3), .int (iI (w : Int)), .int (iI (h : Int)), .ref (ad 74), .ref (ad 75), .ref (ad 76), .ref (ad 77), .ref (ad 78), .int (bI kp), .int (bI hb), .ref (ad 79), .ref (ad 80), .ref (ad 81), .ref (ad 82), .ref (ad 83), .ref (ad 84), .ref (ad 85), .ref (ad 86), .ref (ad 87), .ref (ad 88), .ref (ad 89), .ref (ad 90), .int (iI tr), .ref (ad 91), .int (iI sq), .int (iI wm), .ref (ad 92), .ref (ad 93)]) C (by omega) hm rfl rfl (Nat.le_of_ble_eq_true rfl) rfl d_M_ghost_49 (fun g10 hm fr11 => ?_)
          have htol := (fr11 79 (by omega)).trans htol
          have hrP := (fr11 80 (by omega)).trans hrP
          have hrQ := (fr11 81 (by omega)).trans hrQ
          have hspd := (fr11 92 (by omega)).trans hspd
          have hspg := (fr11 93 (by omega)).trans hspg
          refine v_iconst C d_M_ghost_52 ?_
          exact hret _ _ _ _ _ _ _ (Nat.zero_le _) (Nat.zero_le _) d_M_ghost_53 (Or.inr (Or.inr (Or.inl ⟨haA, hb2A, of_decide_eq_true (hbe.symm.trans hb44), hm, rfl, (fun r1 n0 => ((fr11 r1 n0).trans (fr1 r1 n0)))⟩)))
    refine v_aload_n C d_M_ghost_17 rfl 1 rfl ?_
    refine v_iload_n C d_M_ghost_18 rfl 3 rfl ?_
    refine v_iload_n C d_M_ghost_19 rfl 4 rfl ?_
    refine v_callVI (As := [.int (iI x), .int (iI y)]) (st := [.int (bI a), .ref (ad 73)]) (by omega) hm rfl rfl C (c_isPixel l th w h kp hb tr sq wm x y x1 x2 y1 y2 hw hh hm) (lk_M_99 C.1.2.2.2.2 rfl rfl ⟨Nat.le_of_ble_eq_true rfl, Nat.le_of_ble_eq_true rfl⟩) rfl rfl (Nat.le_of_ble_eq_true rfl) d_M_ghost_20 ⟨Nat.le_of_ble_eq_true rfl, Nat.le_of_ble_eq_true rfl⟩ (fun w12 ad12 g12 hp12 => ?_)
    obtain ⟨_, rfl, rfl, rfl, rfl⟩ := hp12
    refine v_if_neB C d_M_ghost_23 (fun hb23 => ?_) (fun hb23 => ?_)
    · have hb23 := of_decide_eq_true hb23
      refine v_iconst C d_M_ghost_30 ?_
      exact J31 false ⟨fun q => absurd q (by decide), fun q => absurd q (by omega)⟩
    · have hb23 := of_decide_eq_false hb23
      refine v_iconst C d_M_ghost_26 ?_
      refine v_goto C d_M_ghost_27 ?_
      exact J31 true ⟨fun _ => by omega, fun _ => rfl⟩
  refine v_iload_n C d_M_ghost_0 rfl 1 rfl ?_
  refine v_callSI (As := [.int (iI z)]) (st := []) C (c_isMask l z z1 z2) (lk_M_137 C.1.2.2.2.2 rfl rfl ⟨Nat.le_of_ble_eq_true rfl, Nat.le_of_ble_eq_true rfl⟩) rfl rfl (Nat.le_of_ble_eq_true rfl) d_M_ghost_1 ⟨Nat.le_of_ble_eq_true rfl, Nat.le_of_ble_eq_true rfl⟩ (fun w13 ad13 g13 hp13 => ?_)
  obtain ⟨_, rfl, rfl, rfl, rfl⟩ := hp13
  refine v_if_neB C d_M_ghost_4 (fun hb4 => ?_) (fun hb4 => ?_)
  · have hb4 := of_decide_eq_true hb4
    refine v_iconst C d_M_ghost_11 ?_
    exact J12 false ⟨fun q => absurd q (by decide), fun q => absurd q (by omega)⟩
  · have hb4 := of_decide_eq_false hb4
    refine v_iconst C d_M_ghost_7 ?_
    refine v_goto C d_M_ghost_8 ?_
    exact J12 true ⟨fun _ => by omega, fun _ => rfl⟩
