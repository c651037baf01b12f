/-! the object itself; masks; sums -/
abbrev xE (ad : Nat → Nat) (w h : Int) (hk hr : Bool) (sp wb : Int) : va_E := .inr (0, [.int (iI w), .int (iI h), .ref (ad 1), .ref (ad 2), .int (bI hk), .ref (ad 3), .ref (ad 4), .int (bI hr), .ref (ad 5), .int (iI sp), .int (iI wb), .ref (ad 6), .ref (ad 7), .ref (ad 8)])
abbrev shs (ad : Nat → Nat) (b : Nat) : Nat → Option Nat := fun s => some (ad (b + 8 * s))
def mkM (f : Nat → Bool) : Nat → Nat
  | 0 => 0
  | n + 1 => mkM f n + (if f n = true then 2 ^ n else 0)
theorem mkM_lt (f : Nat → Bool) : ∀ n : Nat, mkM f n < 2 ^ n
  | 0 => by show 0 < 1; decide
  | n + 1 => by
    show mkM f n + (if f n = true then 2 ^ n else 0) < 2 ^ (n + 1)
    have h1 := mkM_lt f n
    have h2 : 2 ^ (n + 1) = 2 ^ n + 2 ^ n := by rw [Nat.pow_succ]; omega
    by_cases h : f n = true
    · rw [if_pos h]; omega
    · rw [if_neg h]; omega
theorem mkM_t {f : Nat → Bool} {n : Nat} (h : f n = true) : mkM f (n + 1) = mkM f n + 2 ^ n := by
  show mkM f n + (if f n = true then 2 ^ n else 0) = mkM f n + 2 ^ n
  rw [if_pos h]
theorem mkM_f {f : Nat → Bool} {n : Nat} (h : f n = false) : mkM f (n + 1) = mkM f n := by
  show mkM f n + (if f n = true then 2 ^ n else 0) = mkM f n
  rw [if_neg (by rw [h]; decide), Nat.add_zero]
theorem mkM_bits : ∀ b0 b1 b2 b3 b4 b5 b6 b7 : Bool, ∀ s : Nat, s < 8 → Nat.testBit (((((((((0 + (if b0 = true then 2 ^ 0 else 0)) + (if b1 = true then 2 ^ 1 else 0)) + (if b2 = true then 2 ^ 2 else 0)) + (if b3 = true then 2 ^ 3 else 0)) + (if b4 = true then 2 ^ 4 else 0)) + (if b5 = true then 2 ^ 5 else 0)) + (if b6 = true then 2 ^ 6 else 0)) + (if b7 = true then 2 ^ 7 else 0))) s = [b0, b1, b2, b3, b4, b5, b6, b7].getD s false := by decide +kernel
theorem mkM_bit (f : Nat → Bool) (s : Nat) (hs : s < 8) : Nat.testBit (mkM f 8) s = f s := by
  have h := mkM_bits (f 0) (f 1) (f 2) (f 3) (f 4) (f 5) (f 6) (f 7) s hs
  refine Eq.trans h ?_
  rcases (show s = 0 ∨ s = 1 ∨ s = 2 ∨ s = 3 ∨ s = 4 ∨ s = 5 ∨ s = 6 ∨ s = 7 by omega) with rfl | rfl | rfl | rfl | rfl | rfl | rfl | rfl <;> rfl
theorem mkM_congr {f f' : Nat → Bool} : ∀ n : Nat, (∀ j, j < n → f j = f' j) → mkM f n = mkM f' n
  | 0, _ => rfl
  | n + 1, h => by
    show mkM f n + (if f n = true then 2 ^ n else 0) = mkM f' n + (if f' n = true then 2 ^ n else 0)
    rw [mkM_congr n (fun j hj => h j (by omega)), h n (by omega)]
theorem or_tab : ∀ A : Nat, A < 128 → ∀ s : Nat, s < 8 → A < 2 ^ s → (iI (A : Int) ||| (iI 1 <<< (iI (s : Int) &&& 31))) = iI ((A + 2 ^ s : Nat) : Int) := by decide +kernel
theorem pow_8 {A s : Nat} (hs : s < 8) (h : A < 2 ^ s) : A < 128 := by
  have h1 : 2 ^ s ≤ 2 ^ 7 := Nat.pow_le_pow_right (by omega) (by omega)
  omega
/-- a sum of whole numbers -/
def sI : Nat → (Nat → Int) → Int
  | 0, _ => 0
  | n + 1, F => sI n F + F n
theorem sI_b {F : Nat → Int} : ∀ n : Nat, (∀ j, j < n → 0 ≤ F j ∧ F j ≤ 16) → 0 ≤ sI n F ∧ sI n F ≤ 16 * (n : Int)
  | 0, _ => ⟨Int.le_refl _, Int.le_refl _⟩
  | n + 1, h => by
    have h1 := sI_b (F := F) n (fun j hj => h j (by omega))
    have h2 := h n (by omega)
    show 0 ≤ sI n F + F n ∧ sI n F + F n ≤ 16 * ((n + 1 : Nat) : Int)
    omega
def aI (z : Int) : Int := if 0 ≤ z then z else 0 - z
/-- the directions' bounds that hold of every shelf -/
def bdT (T : Nat → ShT) : Prop := ∀ j, j < 8 → -16 ≤ (T j).2.2.1 ∧ (T j).2.2.1 ≤ 16 ∧ 0 ≤ (T j).2.2.2.1 ∧ (T j).2.2.2.1 ≤ 16
/-- a direction as it is told -/
def tP (x y : Int) : Int := if y < 0 ∨ (y = 0 ∧ x < 0) then -x else x
def tQ (x y : Int) : Int := if y < 0 ∨ (y = 0 ∧ x < 0) then -y else y
def isD (x y : Int) : Prop := -16 ≤ x ∧ x ≤ 16 ∧ -16 ≤ y ∧ y ≤ 16 ∧ ∀ d : Nat, 2 ≤ d → d ≤ 16 → ¬ (Int.tmod x d = 0 ∧ Int.tmod y d = 0)
section VS
variable {p : Program} {l : Launch} {e : Env} {R : Room} {s : State} {m : MethodId} {args : Array Value} {below : List Frame} {meth : Method} {c : Code} {Q : State → Prop} {H0 : Heap} {B : Nat} {D : va_G} {cl : List vw_C} {tys : List (ClassId × FieldType)} {Z : ZT} {cc : ByteArray} {nL N : Nat} {own : String} {Ts : List Cond} {cells slots : Nat} {ad : Nat → Nat} {g : Nat → va_E} {lv : List (Nat × Value)} {st : List Value} {pc : Nat}
theorem v_tswIn {dflt lo hi a off : Int} {offs : Array Int} {len tgt : Nat} (C : Cx p m c s args cc nL own Ts H0 B D cl tys Z) (hd : decode cc pc = .ok (.tableswitch dflt lo hi offs, len)) (a1 : -2147483648 ≤ a) (a2 : a < 2147483648) (h1 : lo ≤ a) (h2 : a ≤ hi) (ho : offs[(a - lo).toNat]? = some off) (ht : (pc : Int) + off = (tgt : Int)) (k : kV p l e R s m args below meth c Q H0 B D cl nL N cells slots ad g lv st tgt) : kV p l e R s m args below meth c Q H0 B D cl nL N cells slots ad g lv (.int (iI a) :: st) pc := fun H locs ls hl hP hD hS =>
  lv_tableIn C.1.1 C.1.2.1 hd (by rw [iI_toInt a1 a2]; omega) (by rw [iI_toInt a1 a2]; omega) (by rw [iI_toInt a1 a2]; exact ho) ht (k H locs ls hl hP hD hS)
theorem v_tswOut {dflt lo hi a : Int} {offs : Array Int} {len tgt : Nat} (C : Cx p m c s args cc nL own Ts H0 B D cl tys Z) (hd : decode cc pc = .ok (.tableswitch dflt lo hi offs, len)) (a1 : -2147483648 ≤ a) (a2 : a < 2147483648) (h : a < lo ∨ hi < a) (ht : (pc : Int) + dflt = (tgt : Int)) (k : kV p l e R s m args below meth c Q H0 B D cl nL N cells slots ad g lv st tgt) : kV p l e R s m args below meth c Q H0 B D cl nL N cells slots ad g lv (.int (iI a) :: st) pc := fun H locs ls hl hP hD hS =>
  lv_tableOut C.1.1 C.1.2.1 hd (by rw [iI_toInt a1 a2]; exact h) ht (k H locs ls hl hP hD hS)
theorem v_lsw {dflt a off : Int} {ps : Array (Int × Int)} {len tgt : Nat} (C : Cx p m c s args cc nL own Ts H0 B D cl tys Z) (hd : decode cc pc = .ok (.lookupswitch dflt ps, len)) (a1 : -2147483648 ≤ a) (a2 : a < 2147483648) (hp : (ps.toList.zip (ps.toList.drop 1)).all (fun (a, next) => a.1 < next.1) = true) (ho : Op.lookupswitch.offset ps.toList dflt a = off) (ht : (pc : Int) + off = (tgt : Int)) (k : kV p l e R s m args below meth c Q H0 B D cl nL N cells slots ad g lv st tgt) : kV p l e R s m args below meth c Q H0 B D cl nL N cells slots ad g lv (.int (iI a) :: st) pc := fun H locs ls hl hP hD hS =>
  lv_lookup C.1.1 C.1.2.1 hd hp (by rw [iI_toInt a1 a2]; exact ho) ht (k H locs ls hl hP hD hS)
end VS
