theorem va_arrN {s : State} {c9 : ClassId} {ty : FieldType} (h : va_RA s c9 ty) : s.vm.findClass ("[" ++ ty.toString) = some c9 := by
  cases ty with
  | object C =>
    obtain ⟨_, _, _, _, _, h4⟩ := h
    exact h4
  | _ => exact h
theorem va_arrU {D : va_G} {cl : List vw_C} {tys : List (ClassId × FieldType)} {s : State} {a b : ClassId} {ty : FieldType} (h : va_K D cl tys s) (ha : (a, ty) ∈ tys) (hb : (b, ty) ∈ tys) : a = b := by
  obtain ⟨i, hi⟩ := List.getElem?_of_mem ha
  obtain ⟨j, hj⟩ := List.getElem?_of_mem hb
  have h1 := va_arrN (h.2 i _ hi).2
  have h2 := va_arrN (h.2 j _ hj).2
  exact Option.some.inj (h1.symm.trans h2)
/-! worlds by roles: the cell of role r lies at ad r and holds g r; kV: the machine at pc, with these locals, stack and world, comes to Q -/
def wl (N : Nat) (ad : Nat → Nat) (g : Nat → va_E) : va_W := (List.range N).map (fun r => (ad r, g r))
theorem wl_get {N : Nat} {ad : Nat → Nat} {g : Nat → va_E} {r : Nat} (h : r < N) : (wl N ad g)[r]? = some (ad r, g r) := by
  simp [wl, h]
theorem wl_of {N : Nat} {ad : Nat → Nat} {g : Nat → va_E} {k : Nat} {q : Nat × va_E} (h : (wl N ad g)[k]? = some q) : k < N ∧ q = (ad k, g k) := by
  simp only [wl, List.getElem?_map] at h
  by_cases hk : k < N
  · rw [List.getElem?_range hk] at h
    exact ⟨hk, (Option.some.inj h).symm⟩
  · rw [List.getElem?_eq_none (by rw [List.length_range]; omega)] at h
    cases h
theorem wl_len {N : Nat} {ad : Nat → Nat} {g : Nat → va_E} : (wl N ad g).length = N := by simp [wl]
theorem wl_set {N : Nat} {ad : Nat → Nat} {g : Nat → va_E} {r : Nat} {e : va_E} (h : r < N) : (wl N ad g).set r (ad r, e) = wl N ad (va_up g r e) := by
  apply List.ext_getElem?
  intro j
  by_cases hj : j = r
  · subst hj
    rw [List.getElem?_set_self (by rw [wl_len]; exact h), wl_get h, va_up_self]
  · rw [List.getElem?_set_ne (Ne.symm hj)]
    by_cases hN : j < N
    · rw [wl_get hN, wl_get hN, va_up_ne _ _ hj]
    · rw [List.getElem?_eq_none (by rw [wl_len]; omega), List.getElem?_eq_none (by rw [wl_len]; omega)]
theorem wl_succ {N : Nat} {ad : Nat → Nat} {g : Nat → va_E} {a : Nat} {e : va_E} : wl N ad g ++ [(a, e)] = wl (N + 1) (va_up ad N a) (va_up g N e) := by
  apply List.ext_getElem?
  intro j
  by_cases h1 : j < N
  · rw [List.getElem?_append_left (by rw [wl_len]; exact h1), wl_get h1, wl_get (by omega), va_up_ne _ _ (by omega), va_up_ne _ _ (by omega)]
  · rw [List.getElem?_append_right (by rw [wl_len]; omega), wl_len]
    by_cases h2 : j = N
    · subst h2
      rw [wl_get (by omega), va_up_self, va_up_self, Nat.sub_self]
      rfl
    · rw [List.getElem?_eq_none (l := wl (N + 1) _ _) (by rw [wl_len]; omega), List.getElem?_eq_none (by simp; omega)]
/-- a role gets a new cell -/
theorem wl_new {D : va_G} {cl : List vw_C} {A : Nat → Prop} {N : Nat} {ad : Nat → Nat} {g : Nat → va_E} {r a : Nat} {e : va_E} {H : Heap} (hP : va_P D cl (wl N ad g ++ [(a, e)]) H) (hD : va_D A (wl N ad g ++ [(a, e)])) : va_P D cl (wl N (va_up ad r a) (va_up g r e)) H ∧ va_D A (wl N (va_up ad r a) (va_up g r e)) := by
  have hlast : (wl N ad g ++ [(a, e)])[N]? = some (a, e) := by
    rw [List.getElem?_append_right (by rw [wl_len]; exact Nat.le_refl _), wl_len, Nat.sub_self]; rfl
  have hold : ∀ k, k < N → (wl N ad g ++ [(a, e)])[k]? = some (ad k, g k) := fun k hk => by
    rw [List.getElem?_append_left (by rw [wl_len]; exact hk), wl_get hk]
  refine ⟨fun k q hk => ?_, fun i j x y hi hj hxy => ?_, fun k q hk => ?_⟩
  · obtain ⟨h1, rfl⟩ := wl_of hk
    by_cases hr : k = r
    · subst hr; rw [va_up_self, va_up_self]; exact hP _ _ hlast
    · rw [va_up_ne _ _ hr, va_up_ne _ _ hr]; exact hP _ _ (hold k h1)
  · obtain ⟨h1, rfl⟩ := wl_of hi
    obtain ⟨h2, rfl⟩ := wl_of hj
    by_cases hr : i = r
    · by_cases hr2 : j = r
      · omega
      · exfalso
        have h3 : va_up ad r a i = va_up ad r a j := hxy
        rw [hr, va_up_self, va_up_ne _ _ hr2] at h3
        have := hD.1 N j _ _ hlast (hold j h2) h3
        omega
    · by_cases hr2 : j = r
      · exfalso
        have h3 : va_up ad r a i = va_up ad r a j := hxy
        rw [hr2, va_up_self, va_up_ne _ _ hr] at h3
        have := hD.1 i N _ _ (hold i h1) hlast h3
        omega
      · have h3 : va_up ad r a i = va_up ad r a j := hxy
        rw [va_up_ne _ _ hr2, va_up_ne _ _ hr] at h3
        exact hD.1 i j _ _ (hold i h1) (hold j h2) h3
  · obtain ⟨h1, rfl⟩ := wl_of hk
    show A (va_up ad r a k)
    by_cases hr : k = r
    · subst hr; rw [va_up_self]; exact hD.2 _ _ hlast
    · rw [va_up_ne _ _ hr]; exact hD.2 _ _ (hold k h1)
/-! ints as whole numbers -/
def iI (z : Int) : Int32 := Int32.ofInt z
def bI (b : Bool) : Int32 := if b = true then 1 else 0
theorem iI_add (a b : Int) : iI a + iI b = iI (a + b) := (Int32.ofInt_add a b).symm
theorem iI_sub (a b : Int) : iI a - iI b = iI (a - b) := (Int32.ofInt_sub a b).symm
theorem iI_mul (a b : Int) : iI a * iI b = iI (a * b) := (Int32.ofInt_mul a b).symm
theorem iI_neg (a : Int) : -iI a = iI (-a) := (Int32.ofInt_neg a).symm
theorem iI_of (x : Int32) : iI x.toInt = x := Int32.ofInt_toInt x
theorem iI_nat (n : Nat) : iI (n : Int) = nI n := Int32.ofInt_eq_ofNat
theorem iI_toInt {z : Int} (h1 : -2147483648 ≤ z) (h2 : z < 2147483648) : (iI z).toInt = z := Int32.toInt_ofInt_of_le (by omega) (by omega)
theorem iI_lo (x : Int32) : -2147483648 ≤ x.toInt := by have := Int32.minValue_le_toInt x; rw [Int32.toInt_minValue] at this; omega
theorem iI_hi (x : Int32) : x.toInt < 2147483648 := by have := Int32.toInt_lt x; omega
theorem iI_lt {a b : Int} (a1 : -2147483648 ≤ a) (a2 : a < 2147483648) (b1 : -2147483648 ≤ b) (b2 : b < 2147483648) : iI a < iI b ↔ a < b := by
  rw [Int32.lt_iff_toInt_lt, iI_toInt a1 a2, iI_toInt b1 b2]
theorem iI_le {a b : Int} (a1 : -2147483648 ≤ a) (a2 : a < 2147483648) (b1 : -2147483648 ≤ b) (b2 : b < 2147483648) : iI a ≤ iI b ↔ a ≤ b := by
  rw [Int32.le_iff_toInt_le, iI_toInt a1 a2, iI_toInt b1 b2]
theorem iI_eq {a b : Int} (a1 : -2147483648 ≤ a) (a2 : a < 2147483648) (b1 : -2147483648 ≤ b) (b2 : b < 2147483648) : iI a = iI b ↔ a = b := by
  rw [← Int32.toInt_inj, iI_toInt a1 a2, iI_toInt b1 b2]
theorem iI_0 : iI 0 = 0 := rfl
theorem iI_in {z : Int} {n j : Nat} (hz : z = (j : Int)) (hj : j < n) (hn : n < 2147483648) : vp_in (iI z) n := by
  subst hz; rw [iI_nat]; exact vp_in_nI hj (by omega)
theorem iI_cl {z : Int} {j : Nat} (hz : z = (j : Int)) (hj : j < 2147483648) : (iI z).toNatClampNeg = j := by
  subst hz; rw [iI_nat]; exact nI_clamp (by omega)
theorem bI_0 (b : Bool) : bI b = 0 ↔ b = false := by cases b <;> simp [bI]
theorem bI_1 (b : Bool) : bI b = 1 ↔ b = true := by cases b <;> simp [bI]
theorem bI_nar (b : Bool) : vp_nar .boolean (bI b) = bI b := by cases b <;> rfl
theorem bI_n (b : Bool) : narrow .boolean (.int (bI b)) = .int (bI b) := by cases b <;> rfl
theorem bI_f (b : Bool) : fits .boolean (.int (bI b)) = true := by cases b <;> rfl
/-- all that is at or above B is ours -/
def aB (B : Nat) : Nat → Prop := fun q => B ≤ q
abbrev ZT : Type := State → Heap → Prop
/-- what the start gives for good: it stays as long as nothing below B is written -/
def Zmov (B : Nat) (Z : ZT) : Prop := (∀ (s U : State) (H H1 : Heap), s.WarmedH U.vm → H.size ≤ H1.size → (∀ a : Nat, a < H.size → ¬ aB B a → H1[a]? = H[a]?) → Z s H → Z U H1) ∧ ∀ (U U' : State) (H : Heap), U.vm = U'.vm → Z U H → Z U' H
def Cx (p : Program) (m : MethodId) (c : Code) (s : State) (args : Array Value) (cc : ByteArray) (nL : Nat) (own : String) (Ts : List Cond) (H0 : Heap) (B : Nat) (D : va_G) (cl : List vw_C) (tys : List (ClassId × FieldType)) (Z : ZT) : Prop :=
  CallFix p m c cc nL s args Ts own ∧ va_K D cl tys s ∧ B ≤ H0.size ∧ Z s H0 ∧ Zmov B Z
def kV (p : Program) (l : Launch) (e : Env) (R : Room) (s : State) (m : MethodId) (args : Array Value) (below : List Frame) (meth : Method) (c : Code) (Q : State → Prop) (H0 : Heap) (B : Nat) (D : va_G) (cl : List vw_C) (nL N cells slots : Nat) (ad : Nat → Nat) (g : Nat → va_E) (lv : List (Nat × Value)) (st : List Value) (pc : Nat) : Prop :=
  ∀ (H : Heap) (locs : List Loc) (ls : Array Slot), lv_has ls nL lv → va_P D cl (wl N ad g) H → va_D (aB B) (wl N ad g) → va_S (aB B) H0 H locs → W p l e R s m args below meth c H locs cells slots Q (F0 m pc ls st)
section VR
variable {p : Program} {l : Launch} {e : Env} {R : Room} {s : State} {m : MethodId} {args : Array Value} {below : List Frame} {meth : Method} {c : Code} {Q : State → Prop} {H0 : Heap} {B : Nat} {D : va_G} {cl : List vw_C} {tys : List (ClassId × FieldType)} {Z : ZT} {cc : ByteArray} {nL N : Nat} {own : String} {Ts : List Cond} {cells slots : Nat} {ad : Nat → Nat} {g : Nat → va_E} {lv lv' : List (Nat × Value)} {st : List Value} {pc pc2 : Nat}
theorem Cx.hA (C : Cx p m c s args cc nL own Ts H0 B D cl tys Z) : ∀ q, H0.size ≤ q → aB B q := fun q h => Nat.le_trans C.2.2.1 h
theorem v_iconst {n : Int} (C : Cx p m c s args cc nL own Ts H0 B D cl tys Z) (hd : decode cc pc = .ok (.iconst n, 1) ∧ pc + 1 = pc2)  (k : kV p l e R s m args below meth c Q H0 B D cl nL N cells slots ad g lv (.int (iI n) :: st) pc2) : kV p l e R s m args below meth c Q H0 B D cl nL N cells slots ad g lv (st) pc := fun H locs ls hl hP hD hS => by
  obtain ⟨hd, rfl⟩ := hd
  exact lv_iconst (v := iI n) C.1.1 C.1.2.1 hd rfl (k H locs ls hl hP hD hS)
theorem v_bipush {n : Int} (C : Cx p m c s args cc nL own Ts H0 B D cl tys Z) (hd : decode cc pc = .ok (.bipush n, 2) ∧ pc + 2 = pc2) (hv : (Int8.ofInt n).toInt32 = iI n) (k : kV p l e R s m args below meth c Q H0 B D cl nL N cells slots ad g lv (.int (iI n) :: st) pc2) : kV p l e R s m args below meth c Q H0 B D cl nL N cells slots ad g lv (st) pc := fun H locs ls hl hP hD hS => by
  obtain ⟨hd, rfl⟩ := hd
  exact lv_bipush C.1.1 C.1.2.1 hd hv (k H locs ls hl hP hD hS)
theorem v_sipush {n : Int} (C : Cx p m c s args cc nL own Ts H0 B D cl tys Z) (hd : decode cc pc = .ok (.sipush n, 3) ∧ pc + 3 = pc2) (hv : (Int16.ofInt n).toInt32 = iI n) (k : kV p l e R s m args below meth c Q H0 B D cl nL N cells slots ad g lv (.int (iI n) :: st) pc2) : kV p l e R s m args below meth c Q H0 B D cl nL N cells slots ad g lv (st) pc := fun H locs ls hl hP hD hS => by
  obtain ⟨hd, rfl⟩ := hd
  exact lv_sipush C.1.1 C.1.2.1 hd hv (k H locs ls hl hP hD hS)
theorem v_lconst {n : Fin 2} {v : Int64} (C : Cx p m c s args cc nL own Ts H0 B D cl tys Z) (hd : decode cc pc = .ok (.lconst n, 1) ∧ pc + 1 = pc2) (hv : Int64.ofNat (n : Nat) = v) (k : kV p l e R s m args below meth c Q H0 B D cl nL N cells slots ad g lv (.long v :: st) pc2) : kV p l e R s m args below meth c Q H0 B D cl nL N cells slots ad g lv (st) pc := fun H locs ls hl hP hD hS => by
  obtain ⟨hd, rfl⟩ := hd
  exact lv_lconst C.1.1 C.1.2.1 hd hv (k H locs ls hl hP hD hS)
theorem v_iload_n {k9 : Fin 4} {i : Nat} {x : Int32} (C : Cx p m c s args cc nL own Ts H0 B D cl tys Z) (hd : decode cc pc = .ok (.iload_n k9, 1) ∧ pc + 1 = pc2) (hi : (k9 : Nat) = i) (j : Nat) (hj : lv[j]? = some (i, .int x)) (k : kV p l e R s m args below meth c Q H0 B D cl nL N cells slots ad g lv (.int x :: st) pc2) : kV p l e R s m args below meth c Q H0 B D cl nL N cells slots ad g lv (st) pc := fun H locs ls hl hP hD hS => by
  obtain ⟨hd, rfl⟩ := hd
  exact lv_iload_n C.1.1 C.1.2.1 hd hi (lv_at hl j hj) (k H locs ls hl hP hD hS)
theorem v_iload {i : Nat} {x : Int32} (C : Cx p m c s args cc nL own Ts H0 B D cl tys Z) (hd : decode cc pc = .ok (.iload i, 2) ∧ pc + 2 = pc2) (j : Nat) (hj : lv[j]? = some (i, .int x)) (k : kV p l e R s m args below meth c Q H0 B D cl nL N cells slots ad g lv (.int x :: st) pc2) : kV p l e R s m args below meth c Q H0 B D cl nL N cells slots ad g lv (st) pc := fun H locs ls hl hP hD hS => by
  obtain ⟨hd, rfl⟩ := hd
  exact lv_iload C.1.1 C.1.2.1 hd (lv_at hl j hj) (k H locs ls hl hP hD hS)
theorem v_aload_n {k9 : Fin 4} {i : Nat} {x : Nat} (C : Cx p m c s args cc nL own Ts H0 B D cl tys Z) (hd : decode cc pc = .ok (.aload_n k9, 1) ∧ pc + 1 = pc2) (hi : (k9 : Nat) = i) (j : Nat) (hj : lv[j]? = some (i, .ref x)) (k : kV p l e R s m args below meth c Q H0 B D cl nL N cells slots ad g lv (.ref x :: st) pc2) : kV p l e R s m args below meth c Q H0 B D cl nL N cells slots ad g lv (st) pc := fun H locs ls hl hP hD hS => by
  obtain ⟨hd, rfl⟩ := hd
  exact lv_aload_n C.1.1 C.1.2.1 hd hi (lv_at hl j hj) (k H locs ls hl hP hD hS)
theorem v_aload {i : Nat} {x : Nat} (C : Cx p m c s args cc nL own Ts H0 B D cl tys Z) (hd : decode cc pc = .ok (.aload i, 2) ∧ pc + 2 = pc2) (j : Nat) (hj : lv[j]? = some (i, .ref x)) (k : kV p l e R s m args below meth c Q H0 B D cl nL N cells slots ad g lv (.ref x :: st) pc2) : kV p l e R s m args below meth c Q H0 B D cl nL N cells slots ad g lv (st) pc := fun H locs ls hl hP hD hS => by
  obtain ⟨hd, rfl⟩ := hd
  exact lv_aload C.1.1 C.1.2.1 hd (lv_at hl j hj) (k H locs ls hl hP hD hS)
theorem v_lload_n {k9 : Fin 4} {i : Nat} {x : Int64} (C : Cx p m c s args cc nL own Ts H0 B D cl tys Z) (hd : decode cc pc = .ok (.lload_n k9, 1) ∧ pc + 1 = pc2) (hi : (k9 : Nat) = i) (j : Nat) (hj : lv[j]? = some (i, .long x)) (k : kV p l e R s m args below meth c Q H0 B D cl nL N cells slots ad g lv (.long x :: st) pc2) : kV p l e R s m args below meth c Q H0 B D cl nL N cells slots ad g lv (st) pc := fun H locs ls hl hP hD hS => by
  obtain ⟨hd, rfl⟩ := hd
  exact lv_lload_n C.1.1 C.1.2.1 hd hi (lv_at hl j hj) (k H locs ls hl hP hD hS)
theorem v_lload {i : Nat} {x : Int64} (C : Cx p m c s args cc nL own Ts H0 B D cl tys Z) (hd : decode cc pc = .ok (.lload i, 2) ∧ pc + 2 = pc2) (j : Nat) (hj : lv[j]? = some (i, .long x)) (k : kV p l e R s m args below meth c Q H0 B D cl nL N cells slots ad g lv (.long x :: st) pc2) : kV p l e R s m args below meth c Q H0 B D cl nL N cells slots ad g lv (st) pc := fun H locs ls hl hP hD hS => by
  obtain ⟨hd, rfl⟩ := hd
  exact lv_lload C.1.1 C.1.2.1 hd (lv_at hl j hj) (k H locs ls hl hP hD hS)
theorem v_istore_n {k9 : Fin 4} {i : Nat} {x : Int32} (C : Cx p m c s args cc nL own Ts H0 B D cl tys Z) (hd : decode cc pc = .ok (.istore_n k9, 1) ∧ pc + 1 = pc2) (hi : (k9 : Nat) = i) (hn : i < nL) (hf : (i, Value.int x) :: lv.filter (fun q => !(q.1 == i) && !(q.1 + 1 == i && q.2.category == 2)) = lv') (k : kV p l e R s m args below meth c Q H0 B D cl nL N cells slots ad g lv' (st) pc2) : kV p l e R s m args below meth c Q H0 B D cl nL N cells slots ad g lv (.int x :: st) pc := fun H locs ls hl hP hD hS => by
  obtain ⟨hd, rfl⟩ := hd
  exact lv_istore_n C.1.1 C.1.2.1 hd hi hl hn hf (fun ls' hl' => k H locs ls' hl' hP hD hS)
theorem v_istore {i : Nat} {x : Int32} (C : Cx p m c s args cc nL own Ts H0 B D cl tys Z) (hd : decode cc pc = .ok (.istore i, 2) ∧ pc + 2 = pc2) (hn : i < nL) (hf : (i, Value.int x) :: lv.filter (fun q => !(q.1 == i) && !(q.1 + 1 == i && q.2.category == 2)) = lv') (k : kV p l e R s m args below meth c Q H0 B D cl nL N cells slots ad g lv' (st) pc2) : kV p l e R s m args below meth c Q H0 B D cl nL N cells slots ad g lv (.int x :: st) pc := fun H locs ls hl hP hD hS => by
  obtain ⟨hd, rfl⟩ := hd
  exact lv_istore C.1.1 C.1.2.1 hd hl hn hf (fun ls' hl' => k H locs ls' hl' hP hD hS)
theorem v_astore_n {k9 : Fin 4} {i : Nat} {x : Nat} (C : Cx p m c s args cc nL own Ts H0 B D cl tys Z) (hd : decode cc pc = .ok (.astore_n k9, 1) ∧ pc + 1 = pc2) (hi : (k9 : Nat) = i) (hn : i < nL) (hf : (i, Value.ref x) :: lv.filter (fun q => !(q.1 == i) && !(q.1 + 1 == i && q.2.category == 2)) = lv') (k : kV p l e R s m args below meth c Q H0 B D cl nL N cells slots ad g lv' (st) pc2) : kV p l e R s m args below meth c Q H0 B D cl nL N cells slots ad g lv (.ref x :: st) pc := fun H locs ls hl hP hD hS => by
  obtain ⟨hd, rfl⟩ := hd
  exact lv_astore_n C.1.1 C.1.2.1 hd hi hl hn hf (fun ls' hl' => k H locs ls' hl' hP hD hS)
theorem v_astore {i : Nat} {x : Nat} (C : Cx p m c s args cc nL own Ts H0 B D cl tys Z) (hd : decode cc pc = .ok (.astore i, 2) ∧ pc + 2 = pc2) (hn : i < nL) (hf : (i, Value.ref x) :: lv.filter (fun q => !(q.1 == i) && !(q.1 + 1 == i && q.2.category == 2)) = lv') (k : kV p l e R s m args below meth c Q H0 B D cl nL N cells slots ad g lv' (st) pc2) : kV p l e R s m args below meth c Q H0 B D cl nL N cells slots ad g lv (.ref x :: st) pc := fun H locs ls hl hP hD hS => by
  obtain ⟨hd, rfl⟩ := hd
  exact lv_astore C.1.1 C.1.2.1 hd hl hn hf (fun ls' hl' => k H locs ls' hl' hP hD hS)
theorem v_iinc {i : Nat} {n z : Int} (C : Cx p m c s args cc nL own Ts H0 B D cl tys Z) (hd : decode cc pc = .ok (.iinc i n, 3) ∧ pc + 3 = pc2) (j : Nat) (hj : lv[j]? = some (i, .int (iI z))) (hn : i < nL) (hf : (i, Value.int (iI (z + n))) :: lv.filter (fun q => !(q.1 == i) && !(q.1 + 1 == i && q.2.category == 2)) = lv') (k : kV p l e R s m args below meth c Q H0 B D cl nL N cells slots ad g lv' (st) pc2) : kV p l e R s m args below meth c Q H0 B D cl nL N cells slots ad g lv (st) pc := fun H locs ls hl hP hD hS => by
  obtain ⟨hd, rfl⟩ := hd
  exact lv_iinc C.1.1 C.1.2.1 hd hl hj (iI_add z n) hn hf (fun ls' hl' => k H locs ls' hl' hP hD hS)
/-- fewer locals, by their places -/
theorem v_lv (ks : List Nat) (h : lv_pick lv ks = lv') (k : kV p l e R s m args below meth c Q H0 B D cl nL N cells slots ad g lv' (st) pc) : kV p l e R s m args below meth c Q H0 B D cl nL N cells slots ad g lv (st) pc := fun H locs ls hl hP hD hS => k H locs ls (lv_sub hl ks h) hP hD hS
theorem v_iadd {x y : Int32} (C : Cx p m c s args cc nL own Ts H0 B D cl tys Z) (hd : decode cc pc = .ok (.iadd, 1) ∧ pc + 1 = pc2)  (k : kV p l e R s m args below meth c Q H0 B D cl nL N cells slots ad g lv (.int (x + y) :: st) pc2) : kV p l e R s m args below meth c Q H0 B D cl nL N cells slots ad g lv (.int y :: .int x :: st) pc := fun H locs ls hl hP hD hS => by
  obtain ⟨hd, rfl⟩ := hd
  exact lv_iadd C.1.1 C.1.2.1 hd  (k H locs ls hl hP hD hS)
theorem v_isub {x y : Int32} (C : Cx p m c s args cc nL own Ts H0 B D cl tys Z) (hd : decode cc pc = .ok (.isub, 1) ∧ pc + 1 = pc2)  (k : kV p l e R s m args below meth c Q H0 B D cl nL N cells slots ad g lv (.int (x - y) :: st) pc2) : kV p l e R s m args below meth c Q H0 B D cl nL N cells slots ad g lv (.int y :: .int x :: st) pc := fun H locs ls hl hP hD hS => by
  obtain ⟨hd, rfl⟩ := hd
  exact lv_isub C.1.1 C.1.2.1 hd  (k H locs ls hl hP hD hS)
theorem v_imul {x y : Int32} (C : Cx p m c s args cc nL own Ts H0 B D cl tys Z) (hd : decode cc pc = .ok (.imul, 1) ∧ pc + 1 = pc2)  (k : kV p l e R s m args below meth c Q H0 B D cl nL N cells slots ad g lv (.int (x * y) :: st) pc2) : kV p l e R s m args below meth c Q H0 B D cl nL N cells slots ad g lv (.int y :: .int x :: st) pc := fun H locs ls hl hP hD hS => by
  obtain ⟨hd, rfl⟩ := hd
  exact lv_imul C.1.1 C.1.2.1 hd  (k H locs ls hl hP hD hS)
theorem v_iand {x y : Int32} (C : Cx p m c s args cc nL own Ts H0 B D cl tys Z) (hd : decode cc pc = .ok (.iand, 1) ∧ pc + 1 = pc2)  (k : kV p l e R s m args below meth c Q H0 B D cl nL N cells slots ad g lv (.int (x &&& y) :: st) pc2) : kV p l e R s m args below meth c Q H0 B D cl nL N cells slots ad g lv (.int y :: .int x :: st) pc := fun H locs ls hl hP hD hS => by
  obtain ⟨hd, rfl⟩ := hd
  exact lv_iand C.1.1 C.1.2.1 hd  (k H locs ls hl hP hD hS)
theorem v_ior {x y : Int32} (C : Cx p m c s args cc nL own Ts H0 B D cl tys Z) (hd : decode cc pc = .ok (.ior, 1) ∧ pc + 1 = pc2)  (k : kV p l e R s m args below meth c Q H0 B D cl nL N cells slots ad g lv (.int (x ||| y) :: st) pc2) : kV p l e R s m args below meth c Q H0 B D cl nL N cells slots ad g lv (.int y :: .int x :: st) pc := fun H locs ls hl hP hD hS => by
  obtain ⟨hd, rfl⟩ := hd
  exact lv_ior C.1.1 C.1.2.1 hd  (k H locs ls hl hP hD hS)
theorem v_ixor {x y : Int32} (C : Cx p m c s args cc nL own Ts H0 B D cl tys Z) (hd : decode cc pc = .ok (.ixor, 1) ∧ pc + 1 = pc2)  (k : kV p l e R s m args below meth c Q H0 B D cl nL N cells slots ad g lv (.int (x ^^^ y) :: st) pc2) : kV p l e R s m args below meth c Q H0 B D cl nL N cells slots ad g lv (.int y :: .int x :: st) pc := fun H locs ls hl hP hD hS => by
  obtain ⟨hd, rfl⟩ := hd
  exact lv_ixor C.1.1 C.1.2.1 hd  (k H locs ls hl hP hD hS)
theorem v_ishl {x y : Int32} (C : Cx p m c s args cc nL own Ts H0 B D cl tys Z) (hd : decode cc pc = .ok (.ishl, 1) ∧ pc + 1 = pc2)  (k : kV p l e R s m args below meth c Q H0 B D cl nL N cells slots ad g lv (.int (x <<< (y &&& 31)) :: st) pc2) : kV p l e R s m args below meth c Q H0 B D cl nL N cells slots ad g lv (.int y :: .int x :: st) pc := fun H locs ls hl hP hD hS => by
  obtain ⟨hd, rfl⟩ := hd
  exact lv_ishl C.1.1 C.1.2.1 hd  (k H locs ls hl hP hD hS)
theorem v_ishr {x y : Int32} (C : Cx p m c s args cc nL own Ts H0 B D cl tys Z) (hd : decode cc pc = .ok (.ishr, 1) ∧ pc + 1 = pc2)  (k : kV p l e R s m args below meth c Q H0 B D cl nL N cells slots ad g lv (.int (x >>> (y &&& 31)) :: st) pc2) : kV p l e R s m args below meth c Q H0 B D cl nL N cells slots ad g lv (.int y :: .int x :: st) pc := fun H locs ls hl hP hD hS => by
  obtain ⟨hd, rfl⟩ := hd
  exact lv_ishr C.1.1 C.1.2.1 hd  (k H locs ls hl hP hD hS)
theorem v_idiv {x y : Int32} (C : Cx p m c s args cc nL own Ts H0 B D cl tys Z) (hd : decode cc pc = .ok (.idiv, 1) ∧ pc + 1 = pc2) (hne : ¬ y = 0) (k : kV p l e R s m args below meth c Q H0 B D cl nL N cells slots ad g lv (.int (x / y) :: st) pc2) : kV p l e R s m args below meth c Q H0 B D cl nL N cells slots ad g lv (.int y :: .int x :: st) pc := fun H locs ls hl hP hD hS => by
  obtain ⟨hd, rfl⟩ := hd
  exact lv_idiv C.1.1 C.1.2.1 hd hne (k H locs ls hl hP hD hS)
theorem v_irem {x y : Int32} (C : Cx p m c s args cc nL own Ts H0 B D cl tys Z) (hd : decode cc pc = .ok (.irem, 1) ∧ pc + 1 = pc2) (hne : ¬ y = 0) (k : kV p l e R s m args below meth c Q H0 B D cl nL N cells slots ad g lv (.int (x - x / y * y) :: st) pc2) : kV p l e R s m args below meth c Q H0 B D cl nL N cells slots ad g lv (.int y :: .int x :: st) pc := fun H locs ls hl hP hD hS => by
  obtain ⟨hd, rfl⟩ := hd
  exact lv_irem C.1.1 C.1.2.1 hd hne (k H locs ls hl hP hD hS)
theorem v_ineg {x : Int32} (C : Cx p m c s args cc nL own Ts H0 B D cl tys Z) (hd : decode cc pc = .ok (.ineg, 1) ∧ pc + 1 = pc2)  (k : kV p l e R s m args below meth c Q H0 B D cl nL N cells slots ad g lv (.int (-x) :: st) pc2) : kV p l e R s m args below meth c Q H0 B D cl nL N cells slots ad g lv (.int x :: st) pc := fun H locs ls hl hP hD hS => by
  obtain ⟨hd, rfl⟩ := hd
  exact lv_ineg C.1.1 C.1.2.1 hd  (k H locs ls hl hP hD hS)
theorem v_iaddI {a b : Int} (C : Cx p m c s args cc nL own Ts H0 B D cl tys Z) (hd : decode cc pc = .ok (.iadd, 1) ∧ pc + 1 = pc2) (k : kV p l e R s m args below meth c Q H0 B D cl nL N cells slots ad g lv (.int (iI (a + b)) :: st) pc2) : kV p l e R s m args below meth c Q H0 B D cl nL N cells slots ad g lv (.int (iI b) :: .int (iI a) :: st) pc := v_iadd C hd (by rw [iI_add]; exact k)
theorem v_isubI {a b : Int} (C : Cx p m c s args cc nL own Ts H0 B D cl tys Z) (hd : decode cc pc = .ok (.isub, 1) ∧ pc + 1 = pc2) (k : kV p l e R s m args below meth c Q H0 B D cl nL N cells slots ad g lv (.int (iI (a - b)) :: st) pc2) : kV p l e R s m args below meth c Q H0 B D cl nL N cells slots ad g lv (.int (iI b) :: .int (iI a) :: st) pc := v_isub C hd (by rw [iI_sub]; exact k)
theorem v_imulI {a b : Int} (C : Cx p m c s args cc nL own Ts H0 B D cl tys Z) (hd : decode cc pc = .ok (.imul, 1) ∧ pc + 1 = pc2) (k : kV p l e R s m args below meth c Q H0 B D cl nL N cells slots ad g lv (.int (iI (a * b)) :: st) pc2) : kV p l e R s m args below meth c Q H0 B D cl nL N cells slots ad g lv (.int (iI b) :: .int (iI a) :: st) pc := v_imul C hd (by rw [iI_mul]; exact k)
theorem v_inegI {a : Int} (C : Cx p m c s args cc nL own Ts H0 B D cl tys Z) (hd : decode cc pc = .ok (.ineg, 1) ∧ pc + 1 = pc2) (k : kV p l e R s m args below meth c Q H0 B D cl nL N cells slots ad g lv (.int (iI (-a)) :: st) pc2) : kV p l e R s m args below meth c Q H0 B D cl nL N cells slots ad g lv (.int (iI a) :: st) pc := v_ineg C hd (by rw [iI_neg]; exact k)
theorem v_i2l {x : Int32} (C : Cx p m c s args cc nL own Ts H0 B D cl tys Z) (hd : decode cc pc = .ok (.i2l, 1) ∧ pc + 1 = pc2)  (k : kV p l e R s m args below meth c Q H0 B D cl nL N cells slots ad g lv (.long x.toInt64 :: st) pc2) : kV p l e R s m args below meth c Q H0 B D cl nL N cells slots ad g lv (.int x :: st) pc := fun H locs ls hl hP hD hS => by
  obtain ⟨hd, rfl⟩ := hd
  exact lv_i2l C.1.1 C.1.2.1 hd rfl (k H locs ls hl hP hD hS)
theorem v_lcmp {x y : Int64} (C : Cx p m c s args cc nL own Ts H0 B D cl tys Z) (hd : decode cc pc = .ok (.lcmp, 1) ∧ pc + 1 = pc2)  (k : kV p l e R s m args below meth c Q H0 B D cl nL N cells slots ad g lv (.int (lg_cmp x y) :: st) pc2) : kV p l e R s m args below meth c Q H0 B D cl nL N cells slots ad g lv (.long y :: .long x :: st) pc := fun H locs ls hl hP hD hS => by
  obtain ⟨hd, rfl⟩ := hd
  exact W.lcmp C.1.1 C.1.2.1 hd  (k H locs ls hl hP hD hS)
theorem v_dup {va : Value} (C : Cx p m c s args cc nL own Ts H0 B D cl tys Z) (hd : decode cc pc = .ok (.dup, 1) ∧ pc + 1 = pc2) (h1 : va.category = 1) (k : kV p l e R s m args below meth c Q H0 B D cl nL N cells slots ad g lv (va :: va :: st) pc2) : kV p l e R s m args below meth c Q H0 B D cl nL N cells slots ad g lv (va :: st) pc := fun H locs ls hl hP hD hS => by
  obtain ⟨hd, rfl⟩ := hd
  exact lv_dup C.1.1 C.1.2.1 hd h1 (k H locs ls hl hP hD hS)
theorem v_pop {va : Value} (C : Cx p m c s args cc nL own Ts H0 B D cl tys Z) (hd : decode cc pc = .ok (.pop, 1) ∧ pc + 1 = pc2) (h1 : va.category = 1) (k : kV p l e R s m args below meth c Q H0 B D cl nL N cells slots ad g lv (st) pc2) : kV p l e R s m args below meth c Q H0 B D cl nL N cells slots ad g lv (va :: st) pc := fun H locs ls hl hP hD hS => by
  obtain ⟨hd, rfl⟩ := hd
  exact lv_pop C.1.1 C.1.2.1 hd h1 (k H locs ls hl hP hD hS)
theorem v_dup_x1 {va vb : Value} (C : Cx p m c s args cc nL own Ts H0 B D cl tys Z) (hd : decode cc pc = .ok (.dup_x1, 1) ∧ pc + 1 = pc2) (h1 : va.category = 1) (h2 : vb.category = 1) (k : kV p l e R s m args below meth c Q H0 B D cl nL N cells slots ad g lv (va :: vb :: va :: st) pc2) : kV p l e R s m args below meth c Q H0 B D cl nL N cells slots ad g lv (va :: vb :: st) pc := fun H locs ls hl hP hD hS => by
  obtain ⟨hd, rfl⟩ := hd
  exact lv_dup_x1 C.1.1 C.1.2.1 hd h1 h2 (k H locs ls hl hP hD hS)
theorem v_dup_x2 {va vb vd : Value} (C : Cx p m c s args cc nL own Ts H0 B D cl tys Z) (hd : decode cc pc = .ok (.dup_x2, 1) ∧ pc + 1 = pc2) (h1 : va.category = 1) (h2 : vb.category = 1) (h3 : vd.category = 1) (k : kV p l e R s m args below meth c Q H0 B D cl nL N cells slots ad g lv (va :: vb :: vd :: va :: st) pc2) : kV p l e R s m args below meth c Q H0 B D cl nL N cells slots ad g lv (va :: vb :: vd :: st) pc := fun H locs ls hl hP hD hS => by
  obtain ⟨hd, rfl⟩ := hd
  exact lv_dup_x2 C.1.1 C.1.2.1 hd h1 h2 h3 (k H locs ls hl hP hD hS)
theorem v_dup2 {va vb : Value} (C : Cx p m c s args cc nL own Ts H0 B D cl tys Z) (hd : decode cc pc = .ok (.dup2, 1) ∧ pc + 1 = pc2) (h1 : va.category = 1) (h2 : vb.category = 1) (k : kV p l e R s m args below meth c Q H0 B D cl nL N cells slots ad g lv (va :: vb :: va :: vb :: st) pc2) : kV p l e R s m args below meth c Q H0 B D cl nL N cells slots ad g lv (va :: vb :: st) pc := fun H locs ls hl hP hD hS => by
  obtain ⟨hd, rfl⟩ := hd
  exact lv_dup2_11 C.1.1 C.1.2.1 hd h1 h2 (k H locs ls hl hP hD hS)
theorem v_if_eq {x : Int32} {off : Int} {tgt : Nat} (C : Cx p m c s args cc nL own Ts H0 B D cl tys Z) (hd : decode cc pc = .ok (.ifCond .eq off, 3) ∧ pc + 3 = pc2 ∧ (pc : Int) + off = (tgt : Int)) (kt : x = 0 → kV p l e R s m args below meth c Q H0 B D cl nL N cells slots ad g lv (st) tgt) (kf : ¬ x = 0 → kV p l e R s m args below meth c Q H0 B D cl nL N cells slots ad g lv (st) pc2) : kV p l e R s m args below meth c Q H0 B D cl nL N cells slots ad g lv (.int x :: st) pc := fun H locs ls hl hP hD hS => by
  obtain ⟨hd, rfl, ht⟩ := hd
  exact lv_if_eq C.1.1 C.1.2.1 hd ht (fun h => kt h H locs ls hl hP hD hS) (fun h => kf h H locs ls hl hP hD hS)
theorem v_if_ne {x : Int32} {off : Int} {tgt : Nat} (C : Cx p m c s args cc nL own Ts H0 B D cl tys Z) (hd : decode cc pc = .ok (.ifCond .ne off, 3) ∧ pc + 3 = pc2 ∧ (pc : Int) + off = (tgt : Int)) (kt : ¬ x = 0 → kV p l e R s m args below meth c Q H0 B D cl nL N cells slots ad g lv (st) tgt) (kf : x = 0 → kV p l e R s m args below meth c Q H0 B D cl nL N cells slots ad g lv (st) pc2) : kV p l e R s m args below meth c Q H0 B D cl nL N cells slots ad g lv (.int x :: st) pc := fun H locs ls hl hP hD hS => by
  obtain ⟨hd, rfl, ht⟩ := hd
  exact lv_if_ne C.1.1 C.1.2.1 hd ht (fun h => kt h H locs ls hl hP hD hS) (fun h => kf h H locs ls hl hP hD hS)
theorem v_if_lt {x : Int32} {off : Int} {tgt : Nat} (C : Cx p m c s args cc nL own Ts H0 B D cl tys Z) (hd : decode cc pc = .ok (.ifCond .lt off, 3) ∧ pc + 3 = pc2 ∧ (pc : Int) + off = (tgt : Int)) (kt : x < 0 → kV p l e R s m args below meth c Q H0 B D cl nL N cells slots ad g lv (st) tgt) (kf : ¬ x < 0 → kV p l e R s m args below meth c Q H0 B D cl nL N cells slots ad g lv (st) pc2) : kV p l e R s m args below meth c Q H0 B D cl nL N cells slots ad g lv (.int x :: st) pc := fun H locs ls hl hP hD hS => by
  obtain ⟨hd, rfl, ht⟩ := hd
  exact lv_if_lt C.1.1 C.1.2.1 hd ht (fun h => kt h H locs ls hl hP hD hS) (fun h => kf h H locs ls hl hP hD hS)
theorem v_if_ge {x : Int32} {off : Int} {tgt : Nat} (C : Cx p m c s args cc nL own Ts H0 B D cl tys Z) (hd : decode cc pc = .ok (.ifCond .ge off, 3) ∧ pc + 3 = pc2 ∧ (pc : Int) + off = (tgt : Int)) (kt : 0 ≤ x → kV p l e R s m args below meth c Q H0 B D cl nL N cells slots ad g lv (st) tgt) (kf : ¬ 0 ≤ x → kV p l e R s m args below meth c Q H0 B D cl nL N cells slots ad g lv (st) pc2) : kV p l e R s m args below meth c Q H0 B D cl nL N cells slots ad g lv (.int x :: st) pc := fun H locs ls hl hP hD hS => by
  obtain ⟨hd, rfl, ht⟩ := hd
  exact lv_if_ge C.1.1 C.1.2.1 hd ht (fun h => kt h H locs ls hl hP hD hS) (fun h => kf h H locs ls hl hP hD hS)
theorem v_if_gt {x : Int32} {off : Int} {tgt : Nat} (C : Cx p m c s args cc nL own Ts H0 B D cl tys Z) (hd : decode cc pc = .ok (.ifCond .gt off, 3) ∧ pc + 3 = pc2 ∧ (pc : Int) + off = (tgt : Int)) (kt : 0 < x → kV p l e R s m args below meth c Q H0 B D cl nL N cells slots ad g lv (st) tgt) (kf : ¬ 0 < x → kV p l e R s m args below meth c Q H0 B D cl nL N cells slots ad g lv (st) pc2) : kV p l e R s m args below meth c Q H0 B D cl nL N cells slots ad g lv (.int x :: st) pc := fun H locs ls hl hP hD hS => by
  obtain ⟨hd, rfl, ht⟩ := hd
  exact lv_if_gt C.1.1 C.1.2.1 hd ht (fun h => kt h H locs ls hl hP hD hS) (fun h => kf h H locs ls hl hP hD hS)
theorem v_if_le {x : Int32} {off : Int} {tgt : Nat} (C : Cx p m c s args cc nL own Ts H0 B D cl tys Z) (hd : decode cc pc = .ok (.ifCond .le off, 3) ∧ pc + 3 = pc2 ∧ (pc : Int) + off = (tgt : Int)) (kt : x ≤ 0 → kV p l e R s m args below meth c Q H0 B D cl nL N cells slots ad g lv (st) tgt) (kf : ¬ x ≤ 0 → kV p l e R s m args below meth c Q H0 B D cl nL N cells slots ad g lv (st) pc2) : kV p l e R s m args below meth c Q H0 B D cl nL N cells slots ad g lv (.int x :: st) pc := fun H locs ls hl hP hD hS => by
  obtain ⟨hd, rfl, ht⟩ := hd
  exact lv_if_le C.1.1 C.1.2.1 hd ht (fun h => kt h H locs ls hl hP hD hS) (fun h => kf h H locs ls hl hP hD hS)
theorem v_icmp_eq {x y : Int32} {off : Int} {tgt : Nat} (C : Cx p m c s args cc nL own Ts H0 B D cl tys Z) (hd : decode cc pc = .ok (.if_icmp .eq off, 3) ∧ pc + 3 = pc2 ∧ (pc : Int) + off = (tgt : Int)) (kt : x = y → kV p l e R s m args below meth c Q H0 B D cl nL N cells slots ad g lv (st) tgt) (kf : ¬ x = y → kV p l e R s m args below meth c Q H0 B D cl nL N cells slots ad g lv (st) pc2) : kV p l e R s m args below meth c Q H0 B D cl nL N cells slots ad g lv (.int y :: .int x :: st) pc := fun H locs ls hl hP hD hS => by
  obtain ⟨hd, rfl, ht⟩ := hd
  exact lv_icmp_eq C.1.1 C.1.2.1 hd ht (fun h => kt h H locs ls hl hP hD hS) (fun h => kf h H locs ls hl hP hD hS)
theorem v_icmp_ne {x y : Int32} {off : Int} {tgt : Nat} (C : Cx p m c s args cc nL own Ts H0 B D cl tys Z) (hd : decode cc pc = .ok (.if_icmp .ne off, 3) ∧ pc + 3 = pc2 ∧ (pc : Int) + off = (tgt : Int)) (kt : ¬ x = y → kV p l e R s m args below meth c Q H0 B D cl nL N cells slots ad g lv (st) tgt) (kf : x = y → kV p l e R s m args below meth c Q H0 B D cl nL N cells slots ad g lv (st) pc2) : kV p l e R s m args below meth c Q H0 B D cl nL N cells slots ad g lv (.int y :: .int x :: st) pc := fun H locs ls hl hP hD hS => by
  obtain ⟨hd, rfl, ht⟩ := hd
  exact lv_icmp_ne C.1.1 C.1.2.1 hd ht (fun h => kt h H locs ls hl hP hD hS) (fun h => kf h H locs ls hl hP hD hS)
theorem v_icmp_lt {x y : Int32} {off : Int} {tgt : Nat} (C : Cx p m c s args cc nL own Ts H0 B D cl tys Z) (hd : decode cc pc = .ok (.if_icmp .lt off, 3) ∧ pc + 3 = pc2 ∧ (pc : Int) + off = (tgt : Int)) (kt : x < y → kV p l e R s m args below meth c Q H0 B D cl nL N cells slots ad g lv (st) tgt) (kf : ¬ x < y → kV p l e R s m args below meth c Q H0 B D cl nL N cells slots ad g lv (st) pc2) : kV p l e R s m args below meth c Q H0 B D cl nL N cells slots ad g lv (.int y :: .int x :: st) pc := fun H locs ls hl hP hD hS => by
  obtain ⟨hd, rfl, ht⟩ := hd
  exact lv_icmp_lt C.1.1 C.1.2.1 hd ht (fun h => kt h H locs ls hl hP hD hS) (fun h => kf h H locs ls hl hP hD hS)
theorem v_icmp_ge {x y : Int32} {off : Int} {tgt : Nat} (C : Cx p m c s args cc nL own Ts H0 B D cl tys Z) (hd : decode cc pc = .ok (.if_icmp .ge off, 3) ∧ pc + 3 = pc2 ∧ (pc : Int) + off = (tgt : Int)) (kt : y ≤ x → kV p l e R s m args below meth c Q H0 B D cl nL N cells slots ad g lv (st) tgt) (kf : ¬ y ≤ x → kV p l e R s m args below meth c Q H0 B D cl nL N cells slots ad g lv (st) pc2) : kV p l e R s m args below meth c Q H0 B D cl nL N cells slots ad g lv (.int y :: .int x :: st) pc := fun H locs ls hl hP hD hS => by
  obtain ⟨hd, rfl, ht⟩ := hd
  exact lv_icmp_ge C.1.1 C.1.2.1 hd ht (fun h => kt h H locs ls hl hP hD hS) (fun h => kf h H locs ls hl hP hD hS)
theorem v_icmp_gt {x y : Int32} {off : Int} {tgt : Nat} (C : Cx p m c s args cc nL own Ts H0 B D cl tys Z) (hd : decode cc pc = .ok (.if_icmp .gt off, 3) ∧ pc + 3 = pc2 ∧ (pc : Int) + off = (tgt : Int)) (kt : y < x → kV p l e R s m args below meth c Q H0 B D cl nL N cells slots ad g lv (st) tgt) (kf : ¬ y < x → kV p l e R s m args below meth c Q H0 B D cl nL N cells slots ad g lv (st) pc2) : kV p l e R s m args below meth c Q H0 B D cl nL N cells slots ad g lv (.int y :: .int x :: st) pc := fun H locs ls hl hP hD hS => by
  obtain ⟨hd, rfl, ht⟩ := hd
  exact lv_icmp_gt C.1.1 C.1.2.1 hd ht (fun h => kt h H locs ls hl hP hD hS) (fun h => kf h H locs ls hl hP hD hS)
theorem v_icmp_le {x y : Int32} {off : Int} {tgt : Nat} (C : Cx p m c s args cc nL own Ts H0 B D cl tys Z) (hd : decode cc pc = .ok (.if_icmp .le off, 3) ∧ pc + 3 = pc2 ∧ (pc : Int) + off = (tgt : Int)) (kt : x ≤ y → kV p l e R s m args below meth c Q H0 B D cl nL N cells slots ad g lv (st) tgt) (kf : ¬ x ≤ y → kV p l e R s m args below meth c Q H0 B D cl nL N cells slots ad g lv (st) pc2) : kV p l e R s m args below meth c Q H0 B D cl nL N cells slots ad g lv (.int y :: .int x :: st) pc := fun H locs ls hl hP hD hS => by
  obtain ⟨hd, rfl, ht⟩ := hd
  exact lv_icmp_le C.1.1 C.1.2.1 hd ht (fun h => kt h H locs ls hl hP hD hS) (fun h => kf h H locs ls hl hP hD hS)
theorem v_if_eqI {a : Int} {off : Int} {tgt : Nat} (C : Cx p m c s args cc nL own Ts H0 B D cl tys Z) (hd : decode cc pc = .ok (.ifCond .eq off, 3) ∧ pc + 3 = pc2 ∧ (pc : Int) + off = (tgt : Int)) (a1 : -2147483648 ≤ a) (a2 : a < 2147483648) (kt : a = 0 → kV p l e R s m args below meth c Q H0 B D cl nL N cells slots ad g lv (st) tgt) (kf : a ≠ 0 → kV p l e R s m args below meth c Q H0 B D cl nL N cells slots ad g lv (st) pc2) : kV p l e R s m args below meth c Q H0 B D cl nL N cells slots ad g lv (.int (iI a) :: st) pc := by
  have hu := (iI_eq (a := a) (b := 0) a1 a2 (by omega) (by omega))
  rw [iI_0] at hu
  refine v_if_eq C hd (fun h => kt (by rw [hu] at h; omega)) (fun h => kf (by rw [hu] at h; omega))
theorem v_if_neI {a : Int} {off : Int} {tgt : Nat} (C : Cx p m c s args cc nL own Ts H0 B D cl tys Z) (hd : decode cc pc = .ok (.ifCond .ne off, 3) ∧ pc + 3 = pc2 ∧ (pc : Int) + off = (tgt : Int)) (a1 : -2147483648 ≤ a) (a2 : a < 2147483648) (kt : a ≠ 0 → kV p l e R s m args below meth c Q H0 B D cl nL N cells slots ad g lv (st) tgt) (kf : a = 0 → kV p l e R s m args below meth c Q H0 B D cl nL N cells slots ad g lv (st) pc2) : kV p l e R s m args below meth c Q H0 B D cl nL N cells slots ad g lv (.int (iI a) :: st) pc := by
  have hu := (iI_eq (a := a) (b := 0) a1 a2 (by omega) (by omega))
  rw [iI_0] at hu
  refine v_if_ne C hd (fun h => kt (by rw [hu] at h; omega)) (fun h => kf (by rw [hu] at h; omega))
theorem v_if_ltI {a : Int} {off : Int} {tgt : Nat} (C : Cx p m c s args cc nL own Ts H0 B D cl tys Z) (hd : decode cc pc = .ok (.ifCond .lt off, 3) ∧ pc + 3 = pc2 ∧ (pc : Int) + off = (tgt : Int)) (a1 : -2147483648 ≤ a) (a2 : a < 2147483648) (kt : a < 0 → kV p l e R s m args below meth c Q H0 B D cl nL N cells slots ad g lv (st) tgt) (kf : 0 ≤ a → kV p l e R s m args below meth c Q H0 B D cl nL N cells slots ad g lv (st) pc2) : kV p l e R s m args below meth c Q H0 B D cl nL N cells slots ad g lv (.int (iI a) :: st) pc := by
  have hu := (iI_lt (a := a) (b := 0) a1 a2 (by omega) (by omega))
  rw [iI_0] at hu
  refine v_if_lt C hd (fun h => kt (by rw [hu] at h; omega)) (fun h => kf (by rw [hu] at h; omega))
theorem v_if_geI {a : Int} {off : Int} {tgt : Nat} (C : Cx p m c s args cc nL own Ts H0 B D cl tys Z) (hd : decode cc pc = .ok (.ifCond .ge off, 3) ∧ pc + 3 = pc2 ∧ (pc : Int) + off = (tgt : Int)) (a1 : -2147483648 ≤ a) (a2 : a < 2147483648) (kt : 0 ≤ a → kV p l e R s m args below meth c Q H0 B D cl nL N cells slots ad g lv (st) tgt) (kf : a < 0 → kV p l e R s m args below meth c Q H0 B D cl nL N cells slots ad g lv (st) pc2) : kV p l e R s m args below meth c Q H0 B D cl nL N cells slots ad g lv (.int (iI a) :: st) pc := by
  have hu := (iI_le (a := 0) (b := a) (by omega) (by omega) a1 a2)
  rw [iI_0] at hu
  refine v_if_ge C hd (fun h => kt (by rw [hu] at h; omega)) (fun h => kf (by rw [hu] at h; omega))
theorem v_if_gtI {a : Int} {off : Int} {tgt : Nat} (C : Cx p m c s args cc nL own Ts H0 B D cl tys Z) (hd : decode cc pc = .ok (.ifCond .gt off, 3) ∧ pc + 3 = pc2 ∧ (pc : Int) + off = (tgt : Int)) (a1 : -2147483648 ≤ a) (a2 : a < 2147483648) (kt : 0 < a → kV p l e R s m args below meth c Q H0 B D cl nL N cells slots ad g lv (st) tgt) (kf : a ≤ 0 → kV p l e R s m args below meth c Q H0 B D cl nL N cells slots ad g lv (st) pc2) : kV p l e R s m args below meth c Q H0 B D cl nL N cells slots ad g lv (.int (iI a) :: st) pc := by
  have hu := (iI_lt (a := 0) (b := a) (by omega) (by omega) a1 a2)
  rw [iI_0] at hu
  refine v_if_gt C hd (fun h => kt (by rw [hu] at h; omega)) (fun h => kf (by rw [hu] at h; omega))
theorem v_if_leI {a : Int} {off : Int} {tgt : Nat} (C : Cx p m c s args cc nL own Ts H0 B D cl tys Z) (hd : decode cc pc = .ok (.ifCond .le off, 3) ∧ pc + 3 = pc2 ∧ (pc : Int) + off = (tgt : Int)) (a1 : -2147483648 ≤ a) (a2 : a < 2147483648) (kt : a ≤ 0 → kV p l e R s m args below meth c Q H0 B D cl nL N cells slots ad g lv (st) tgt) (kf : 0 < a → kV p l e R s m args below meth c Q H0 B D cl nL N cells slots ad g lv (st) pc2) : kV p l e R s m args below meth c Q H0 B D cl nL N cells slots ad g lv (.int (iI a) :: st) pc := by
  have hu := (iI_le (a := a) (b := 0) a1 a2 (by omega) (by omega))
  rw [iI_0] at hu
  refine v_if_le C hd (fun h => kt (by rw [hu] at h; omega)) (fun h => kf (by rw [hu] at h; omega))
theorem v_icmp_eqI {a b : Int} {off : Int} {tgt : Nat} (C : Cx p m c s args cc nL own Ts H0 B D cl tys Z) (hd : decode cc pc = .ok (.if_icmp .eq off, 3) ∧ pc + 3 = pc2 ∧ (pc : Int) + off = (tgt : Int)) (a1 : -2147483648 ≤ a) (a2 : a < 2147483648) (b1 : -2147483648 ≤ b) (b2 : b < 2147483648) (kt : a = b → kV p l e R s m args below meth c Q H0 B D cl nL N cells slots ad g lv (st) tgt) (kf : a ≠ b → kV p l e R s m args below meth c Q H0 B D cl nL N cells slots ad g lv (st) pc2) : kV p l e R s m args below meth c Q H0 B D cl nL N cells slots ad g lv (.int (iI b) :: .int (iI a) :: st) pc := by
  have hu := (iI_eq a1 a2 b1 b2)
  refine v_icmp_eq C hd (fun h => kt (by rw [hu] at h; omega)) (fun h => kf (by rw [hu] at h; omega))
theorem v_icmp_neI {a b : Int} {off : Int} {tgt : Nat} (C : Cx p m c s args cc nL own Ts H0 B D cl tys Z) (hd : decode cc pc = .ok (.if_icmp .ne off, 3) ∧ pc + 3 = pc2 ∧ (pc : Int) + off = (tgt : Int)) (a1 : -2147483648 ≤ a) (a2 : a < 2147483648) (b1 : -2147483648 ≤ b) (b2 : b < 2147483648) (kt : a ≠ b → kV p l e R s m args below meth c Q H0 B D cl nL N cells slots ad g lv (st) tgt) (kf : a = b → kV p l e R s m args below meth c Q H0 B D cl nL N cells slots ad g lv (st) pc2) : kV p l e R s m args below meth c Q H0 B D cl nL N cells slots ad g lv (.int (iI b) :: .int (iI a) :: st) pc := by
  have hu := (iI_eq a1 a2 b1 b2)
  refine v_icmp_ne C hd (fun h => kt (by rw [hu] at h; omega)) (fun h => kf (by rw [hu] at h; omega))
theorem v_icmp_ltI {a b : Int} {off : Int} {tgt : Nat} (C : Cx p m c s args cc nL own Ts H0 B D cl tys Z) (hd : decode cc pc = .ok (.if_icmp .lt off, 3) ∧ pc + 3 = pc2 ∧ (pc : Int) + off = (tgt : Int)) (a1 : -2147483648 ≤ a) (a2 : a < 2147483648) (b1 : -2147483648 ≤ b) (b2 : b < 2147483648) (kt : a < b → kV p l e R s m args below meth c Q H0 B D cl nL N cells slots ad g lv (st) tgt) (kf : b ≤ a → kV p l e R s m args below meth c Q H0 B D cl nL N cells slots ad g lv (st) pc2) : kV p l e R s m args below meth c Q H0 B D cl nL N cells slots ad g lv (.int (iI b) :: .int (iI a) :: st) pc := by
  have hu := (iI_lt a1 a2 b1 b2)
  refine v_icmp_lt C hd (fun h => kt (by rw [hu] at h; omega)) (fun h => kf (by rw [hu] at h; omega))
theorem v_icmp_geI {a b : Int} {off : Int} {tgt : Nat} (C : Cx p m c s args cc nL own Ts H0 B D cl tys Z) (hd : decode cc pc = .ok (.if_icmp .ge off, 3) ∧ pc + 3 = pc2 ∧ (pc : Int) + off = (tgt : Int)) (a1 : -2147483648 ≤ a) (a2 : a < 2147483648) (b1 : -2147483648 ≤ b) (b2 : b < 2147483648) (kt : b ≤ a → kV p l e R s m args below meth c Q H0 B D cl nL N cells slots ad g lv (st) tgt) (kf : a < b → kV p l e R s m args below meth c Q H0 B D cl nL N cells slots ad g lv (st) pc2) : kV p l e R s m args below meth c Q H0 B D cl nL N cells slots ad g lv (.int (iI b) :: .int (iI a) :: st) pc := by
  have hu := (iI_le b1 b2 a1 a2)
  refine v_icmp_ge C hd (fun h => kt (by rw [hu] at h; omega)) (fun h => kf (by rw [hu] at h; omega))
theorem v_icmp_gtI {a b : Int} {off : Int} {tgt : Nat} (C : Cx p m c s args cc nL own Ts H0 B D cl tys Z) (hd : decode cc pc = .ok (.if_icmp .gt off, 3) ∧ pc + 3 = pc2 ∧ (pc : Int) + off = (tgt : Int)) (a1 : -2147483648 ≤ a) (a2 : a < 2147483648) (b1 : -2147483648 ≤ b) (b2 : b < 2147483648) (kt : b < a → kV p l e R s m args below meth c Q H0 B D cl nL N cells slots ad g lv (st) tgt) (kf : a ≤ b → kV p l e R s m args below meth c Q H0 B D cl nL N cells slots ad g lv (st) pc2) : kV p l e R s m args below meth c Q H0 B D cl nL N cells slots ad g lv (.int (iI b) :: .int (iI a) :: st) pc := by
  have hu := (iI_lt b1 b2 a1 a2)
  refine v_icmp_gt C hd (fun h => kt (by rw [hu] at h; omega)) (fun h => kf (by rw [hu] at h; omega))
theorem v_icmp_leI {a b : Int} {off : Int} {tgt : Nat} (C : Cx p m c s args cc nL own Ts H0 B D cl tys Z) (hd : decode cc pc = .ok (.if_icmp .le off, 3) ∧ pc + 3 = pc2 ∧ (pc : Int) + off = (tgt : Int)) (a1 : -2147483648 ≤ a) (a2 : a < 2147483648) (b1 : -2147483648 ≤ b) (b2 : b < 2147483648) (kt : a ≤ b → kV p l e R s m args below meth c Q H0 B D cl nL N cells slots ad g lv (st) tgt) (kf : b < a → kV p l e R s m args below meth c Q H0 B D cl nL N cells slots ad g lv (st) pc2) : kV p l e R s m args below meth c Q H0 B D cl nL N cells slots ad g lv (.int (iI b) :: .int (iI a) :: st) pc := by
  have hu := (iI_le a1 a2 b1 b2)
  refine v_icmp_le C hd (fun h => kt (by rw [hu] at h; omega)) (fun h => kf (by rw [hu] at h; omega))
theorem v_if_eqB {b : Bool} {off : Int} {tgt : Nat} (C : Cx p m c s args cc nL own Ts H0 B D cl tys Z) (hd : decode cc pc = .ok (.ifCond .eq off, 3) ∧ pc + 3 = pc2 ∧ (pc : Int) + off = (tgt : Int)) (kt : b = false → kV p l e R s m args below meth c Q H0 B D cl nL N cells slots ad g lv (st) tgt) (kf : b = true → kV p l e R s m args below meth c Q H0 B D cl nL N cells slots ad g lv (st) pc2) : kV p l e R s m args below meth c Q H0 B D cl nL N cells slots ad g lv (.int (bI b) :: st) pc := by
  refine v_if_eq C hd (fun h => kt (by revert h; cases b <;> simp [bI])) (fun h => kf (by revert h; cases b <;> simp [bI]))
theorem v_if_neB {b : Bool} {off : Int} {tgt : Nat} (C : Cx p m c s args cc nL own Ts H0 B D cl tys Z) (hd : decode cc pc = .ok (.ifCond .ne off, 3) ∧ pc + 3 = pc2 ∧ (pc : Int) + off = (tgt : Int)) (kt : b = true → kV p l e R s m args below meth c Q H0 B D cl nL N cells slots ad g lv (st) tgt) (kf : b = false → kV p l e R s m args below meth c Q H0 B D cl nL N cells slots ad g lv (st) pc2) : kV p l e R s m args below meth c Q H0 B D cl nL N cells slots ad g lv (.int (bI b) :: st) pc := by
  refine v_if_ne C hd (fun h => kt (by revert h; cases b <;> simp [bI])) (fun h => kf (by revert h; cases b <;> simp [bI]))
theorem v_goto {off : Int} {tgt : Nat} (C : Cx p m c s args cc nL own Ts H0 B D cl tys Z) (hd : decode cc pc = .ok (.goto off, 3) ∧ (pc : Int) + off = (tgt : Int)) (k : kV p l e R s m args below meth c Q H0 B D cl nL N cells slots ad g lv (st) tgt) : kV p l e R s m args below meth c Q H0 B D cl nL N cells slots ad g lv (st) pc := fun H locs ls hl hP hD hS => lv_goto C.1.1 C.1.2.1 hd.1 hd.2 (k H locs ls hl hP hD hS)
theorem v_get {ref C0 : String} {T : u_T} {M ci index r : Nat} (C : Cx p m c s args cc nL own Ts H0 B D cl tys Z) (hin : ∀ w ∈ u_ws C0 T M, w ∈ Ts) (hr : r < N) {fs : List Value} (hg : g r = .inr (ci, fs)) (hc : cl[ci]? = some (C0, T, M)) (j : Nat) (hj : j < M) (hlink : Cond.fieldLink own index ref (T j).2.1 (T j).2.2.1 ∈ Ts) (hsame : (T j).1 = ref) {v : Value} (hv : fs[j]? = some v) (hd : decode cc pc = .ok (.getfield index, 3) ∧ pc + 3 = pc2) (k : kV p l e R s m args below meth c Q H0 B D cl nL N cells slots ad g lv (v :: st) pc2) : kV p l e R s m args below meth c Q H0 B D cl nL N cells slots ad g lv (.ref (ad r) :: st) pc := fun H locs ls hl hP hD hS => by
  obtain ⟨hd, rfl⟩ := hd
  exact va_get C.1.1 C.1.2.1 C.1.2.2.2.2 hin C.1.2.2.2.1 C.2.1 hP r ((wl_get hr).trans (by rw [hg])) hc j hj (C.1.2.2.2.2 _ hlink) (fun x hx => by rw [← hsame]; exact hx) hv hd (k H locs ls hl hP hD hS)
theorem v_put {ref C0 : String} {T : u_T} {M ci index r : Nat} (C : Cx p m c s args cc nL own Ts H0 B D cl tys Z) (hin : ∀ w ∈ u_ws C0 T M, w ∈ Ts) (ty0 : Nat → FieldType) (hty : ∀ k, k < M → parseFieldDescriptor (T k).2.2.1 = some (ty0 k)) (hnm : ∀ a, a < M → ∀ b, b < M → a ≠ b → (T a).2.1 ≠ (T b).2.1) (hr : r < N) {fs fs' : List Value} (hg : g r = .inr (ci, fs)) (hc : cl[ci]? = some (C0, T, M)) (j : Nat) (hj : j < M) (hlink : Cond.fieldLink own index ref (T j).2.1 (T j).2.2.1 ∈ Ts) (hsame : (T j).1 = ref) (hfin : (T j).2.2.2 = false) {ty : FieldType} {v : Value} (hdp : parseFieldDescriptor (T j).2.2.1 = some ty) (hn : narrow ty v = v) (hfit : fits ty v = true) (hlen : j < fs.length) (hfs : fs.set j v = fs') (hd : decode cc pc = .ok (.putfield index, 3) ∧ pc + 3 = pc2) (k : ∀ g1 : Nat → va_E, g1 r = .inr (ci, fs') → (∀ r1, r1 ≠ r → g1 r1 = g r1) → kV p l e R s m args below meth c Q H0 B D cl nL N cells slots ad g1 lv (st) pc2) : kV p l e R s m args below meth c Q H0 B D cl nL N cells slots ad g lv (v :: .ref (ad r) :: st) pc := fun H locs ls hl hP hD hS => by
  obtain ⟨hd, rfl⟩ := hd
  refine va_put C.1.1 C.1.2.1 C.1.2.2.2.2 hin ty0 hty hnm C.1.2.2.2.1 C.2.1 hP hD hS r ((wl_get hr).trans (by rw [hg])) hc j hj (C.1.2.2.2.2 _ hlink) (fun x hx => by rw [← hsame]; exact hx) hfin hdp hn hfit hlen hd (fun H1 locs1 hP hD hS => ?_)
  rw [wl_set hr, hfs] at hP hD
  exact k _ (va_up_self _ _ _) (fun r1 h1 => va_up_ne _ _ h1) H1 locs1 ls hl hP hD hS
theorem v_putF {C0 : String} {T : u_T} {M ci index r : Nat} (C : Cx p m c s args cc nL own Ts H0 B D cl tys Z) (hin : ∀ w ∈ u_ws C0 T M, w ∈ Ts) (ty0 : Nat → FieldType) (hty : ∀ k, k < M → parseFieldDescriptor (T k).2.2.1 = some (ty0 k)) (hnm : ∀ a, a < M → ∀ b, b < M → a ≠ b → (T a).2.1 ≠ (T b).2.1) (hr : r < N) {fs fs' : List Value} (hg : g r = .inr (ci, fs)) (hc : cl[ci]? = some (C0, T, M)) (j : Nat) (hj : j < M) (hlink : Cond.fieldLink own index own (T j).2.1 (T j).2.2.1 ∈ Ts) (hsame : (T j).1 = own) (hfin : (T j).2.2.2 = true) (hin2 : meth.name = "<init>") {ty : FieldType} {v : Value} (hdp : parseFieldDescriptor (T j).2.2.1 = some ty) (hn : narrow ty v = v) (hfit : fits ty v = true) (hlen : j < fs.length) (hfs : fs.set j v = fs') (hd : decode cc pc = .ok (.putfield index, 3) ∧ pc + 3 = pc2) (k : ∀ g1 : Nat → va_E, g1 r = .inr (ci, fs') → (∀ r1, r1 ≠ r → g1 r1 = g r1) → kV p l e R s m args below meth c Q H0 B D cl nL N cells slots ad g1 lv (st) pc2) : kV p l e R s m args below meth c Q H0 B D cl nL N cells slots ad g lv (v :: .ref (ad r) :: st) pc := fun H locs ls hl hP hD hS => by
  obtain ⟨hd, rfl⟩ := hd
  refine va_putF (ref := own) C.1.1 C.1.2.1 C.1.2.2.2.2 hin ty0 hty hnm C.1.2.2.2.1 C.2.1 hP hD hS r ((wl_get hr).trans (by rw [hg])) hc j hj (C.1.2.2.2.2 _ hlink) (fun x hx => by rw [← hsame]; exact hx) hfin hin2 hsame hdp hn hfit hlen hd (fun H1 locs1 hP hD hS => ?_)
  rw [wl_set hr, hfs] at hP hD
  exact k _ (va_up_self _ _ _) (fun r1 h1 => va_up_ne _ _ h1) H1 locs1 ls hl hP hD hS
theorem v_iald {r n : Nat} {f : Nat → Int32} (C : Cx p m c s args cc nL own Ts H0 B D cl tys Z) (t0 : Nat) {cA : ClassId} (hr : r < N) (hg : g r = .inl (cA, n, .inl f)) (ht : tys[t0]? = some (cA, .int)) {z : Int} (i0 : Nat) (hz : z = (i0 : Int)) (hi0 : i0 < n) (hn9 : n < 2147483648) (hd : decode cc pc = .ok (.iaload, 1) ∧ pc + 1 = pc2) (k : kV p l e R s m args below meth c Q H0 B D cl nL N cells slots ad g lv (.int (f i0) :: st) pc2) : kV p l e R s m args below meth c Q H0 B D cl nL N cells slots ad g lv (.int (iI z) :: .ref (ad r) :: st) pc := fun H locs ls hl hP hD hS => by
  obtain ⟨hd, rfl⟩ := hd
  refine va_iald C.1.1 C.1.2.1 C.2.1 hP r t0 ((wl_get hr).trans (by rw [hg])) ht (iI_in hz hi0 hn9) hd ?_
  rw [iI_cl hz (by omega)]
  exact k H locs ls hl hP hD hS
theorem v_zald {r n : Nat} {f : Nat → Int32} (C : Cx p m c s args cc nL own Ts H0 B D cl tys Z) (t0 : Nat) {cA : ClassId} (hr : r < N) (hg : g r = .inl (cA, n, .inl f)) (ht : tys[t0]? = some (cA, .boolean)) {z : Int} (i0 : Nat) (hz : z = (i0 : Int)) (hi0 : i0 < n) (hn9 : n < 2147483648) (hd : decode cc pc = .ok (.baload, 1) ∧ pc + 1 = pc2) (k : kV p l e R s m args below meth c Q H0 B D cl nL N cells slots ad g lv (.int (f i0) :: st) pc2) : kV p l e R s m args below meth c Q H0 B D cl nL N cells slots ad g lv (.int (iI z) :: .ref (ad r) :: st) pc := fun H locs ls hl hP hD hS => by
  obtain ⟨hd, rfl⟩ := hd
  refine va_zald C.1.1 C.1.2.1 C.2.1 hP r t0 ((wl_get hr).trans (by rw [hg])) ht (iI_in hz hi0 hn9) hd ?_
  rw [iI_cl hz (by omega)]
  exact k H locs ls hl hP hD hS
theorem v_lald {r n : Nat} {f : Nat → Int64} (C : Cx p m c s args cc nL own Ts H0 B D cl tys Z) (t0 : Nat) {cA : ClassId} (hr : r < N) (hg : g r = .inl (cA, n, .inr (.inl f))) (ht : tys[t0]? = some (cA, .long)) {z : Int} (i0 : Nat) (hz : z = (i0 : Int)) (hi0 : i0 < n) (hn9 : n < 2147483648) (hd : decode cc pc = .ok (.laload, 1) ∧ pc + 1 = pc2) (k : kV p l e R s m args below meth c Q H0 B D cl nL N cells slots ad g lv (.long (f i0) :: st) pc2) : kV p l e R s m args below meth c Q H0 B D cl nL N cells slots ad g lv (.int (iI z) :: .ref (ad r) :: st) pc := fun H locs ls hl hP hD hS => by
  obtain ⟨hd, rfl⟩ := hd
  refine va_lald C.1.1 C.1.2.1 C.2.1 hP r t0 ((wl_get hr).trans (by rw [hg])) ht (iI_in hz hi0 hn9) hd ?_
  rw [iI_cl hz (by omega)]
  exact k H locs ls hl hP hD hS
theorem v_iast {r n : Nat} {f : Nat → Int32} {x : Int32} (C : Cx p m c s args cc nL own Ts H0 B D cl tys Z) (t0 : Nat) {cA : ClassId} (hr : r < N) (hg : g r = .inl (cA, n, .inl f)) (ht : tys[t0]? = some (cA, .int)) {z : Int} (i0 : Nat) (hz : z = (i0 : Int)) (hi0 : i0 < n) (hn9 : n < 2147483648) (hd : decode cc pc = .ok (.iastore, 1) ∧ pc + 1 = pc2) (k : ∀ g1 : Nat → va_E, g1 r = .inl (cA, n, .inl (upd f i0 x)) → (∀ r1, r1 ≠ r → g1 r1 = g r1) → kV p l e R s m args below meth c Q H0 B D cl nL N cells slots ad g1 lv (st) pc2) : kV p l e R s m args below meth c Q H0 B D cl nL N cells slots ad g lv (.int x :: .int (iI z) :: .ref (ad r) :: st) pc := fun H locs ls hl hP hD hS => by
  obtain ⟨hd, rfl⟩ := hd
  refine va_iast C.1.1 C.1.2.1 C.2.1 hP hD hS r t0 ((wl_get hr).trans (by rw [hg])) ht (iI_in hz hi0 hn9) hd (fun H1 locs1 hP hD hS => ?_)
  rw [iI_cl hz (by omega), wl_set hr] at hP hD
  exact k _ (va_up_self _ _ _) (fun r1 h1 => va_up_ne _ _ h1) H1 locs1 ls hl hP hD hS
theorem v_zast {r n : Nat} {f : Nat → Int32} {x : Int32} (C : Cx p m c s args cc nL own Ts H0 B D cl tys Z) (t0 : Nat) {cA : ClassId} (hr : r < N) (hg : g r = .inl (cA, n, .inl f)) (ht : tys[t0]? = some (cA, .boolean)) {z : Int} (i0 : Nat) (hz : z = (i0 : Int)) (hi0 : i0 < n) (hn9 : n < 2147483648) (hd : decode cc pc = .ok (.bastore, 1) ∧ pc + 1 = pc2) (k : ∀ g1 : Nat → va_E, g1 r = .inl (cA, n, .inl (upd f i0 (vp_nar .boolean x))) → (∀ r1, r1 ≠ r → g1 r1 = g r1) → kV p l e R s m args below meth c Q H0 B D cl nL N cells slots ad g1 lv (st) pc2) : kV p l e R s m args below meth c Q H0 B D cl nL N cells slots ad g lv (.int x :: .int (iI z) :: .ref (ad r) :: st) pc := fun H locs ls hl hP hD hS => by
  obtain ⟨hd, rfl⟩ := hd
  refine va_zast C.1.1 C.1.2.1 C.2.1 hP hD hS r t0 ((wl_get hr).trans (by rw [hg])) ht (iI_in hz hi0 hn9) hd (fun H1 locs1 hP hD hS => ?_)
  rw [iI_cl hz (by omega), wl_set hr] at hP hD
  exact k _ (va_up_self _ _ _) (fun r1 h1 => va_up_ne _ _ h1) H1 locs1 ls hl hP hD hS
theorem v_last {r n : Nat} {f : Nat → Int64} {x : Int64} (C : Cx p m c s args cc nL own Ts H0 B D cl tys Z) (t0 : Nat) {cA : ClassId} (hr : r < N) (hg : g r = .inl (cA, n, .inr (.inl f))) (ht : tys[t0]? = some (cA, .long)) {z : Int} (i0 : Nat) (hz : z = (i0 : Int)) (hi0 : i0 < n) (hn9 : n < 2147483648) (hd : decode cc pc = .ok (.lastore, 1) ∧ pc + 1 = pc2) (k : ∀ g1 : Nat → va_E, g1 r = .inl (cA, n, .inr (.inl (vp_updL f i0 x))) → (∀ r1, r1 ≠ r → g1 r1 = g r1) → kV p l e R s m args below meth c Q H0 B D cl nL N cells slots ad g1 lv (st) pc2) : kV p l e R s m args below meth c Q H0 B D cl nL N cells slots ad g lv (.long x :: .int (iI z) :: .ref (ad r) :: st) pc := fun H locs ls hl hP hD hS => by
  obtain ⟨hd, rfl⟩ := hd
  refine va_last C.1.1 C.1.2.1 C.2.1 hP hD hS r t0 ((wl_get hr).trans (by rw [hg])) ht (iI_in hz hi0 hn9) hd (fun H1 locs1 hP hD hS => ?_)
  rw [iI_cl hz (by omega), wl_set hr] at hP hD
  exact k _ (va_up_self _ _ _) (fun r1 h1 => va_up_ne _ _ h1) H1 locs1 ls hl hP hD hS
theorem v_alen {r n : Nat} {x : _} (C : Cx p m c s args cc nL own Ts H0 B D cl tys Z) (t0 : Nat) {cA : ClassId} {ty : FieldType} (hr : r < N) (hg : g r = .inl (cA, n, x)) (ht : tys[t0]? = some (cA, ty)) (hd : decode cc pc = .ok (.arraylength, 1) ∧ pc + 1 = pc2) (k : kV p l e R s m args below meth c Q H0 B D cl nL N cells slots ad g lv (.int (iI (n : Int)) :: st) pc2) : kV p l e R s m args below meth c Q H0 B D cl nL N cells slots ad g lv (.ref (ad r) :: st) pc := fun H locs ls hl hP hD hS => by
  obtain ⟨hd, rfl⟩ := hd
  exact va_alen (x := (n, x)) C.1.1 C.1.2.1 C.2.1 hP r t0 ((wl_get hr).trans (by rw [hg])) ht (v := iI (n : Int)) (iI_nat n).symm hd (k H locs ls hl hP hD hS)
theorem v_aald {r n : Nat} {f : Nat → Option Nat} (C : Cx p m c s args cc nL own Ts H0 B D cl tys Z) (t0 : Nat) {cA : ClassId} {C0 : String} (hr : r < N) (hg : g r = .inl (cA, n, .inr (.inr (.inr (.inr f))))) (ht : tys[t0]? = some (cA, .object C0)) {z : Int} (i0 : Nat) (hz : z = (i0 : Int)) (hi0 : i0 < n) (hn9 : n < 2147483648) {a : Nat} (ha : f i0 = some a) (hd : decode cc pc = .ok (.aaload, 1) ∧ pc + 1 = pc2) (k : kV p l e R s m args below meth c Q H0 B D cl nL N cells slots ad g lv (.ref a :: st) pc2) : kV p l e R s m args below meth c Q H0 B D cl nL N cells slots ad g lv (.int (iI z) :: .ref (ad r) :: st) pc := fun H locs ls hl hP hD hS => by
  obtain ⟨hd, rfl⟩ := hd
  refine va_aldq C.1.1 C.1.2.1 C.2.1 hP r t0 ((wl_get hr).trans (by rw [hg])) ht (iI_in hz hi0 hn9) hd ?_
  rw [iI_cl hz (by omega), ha]
  exact k H locs ls hl hP hD hS
theorem v_aast {r n r2 : Nat} {f : Nat → Option Nat} (C : Cx p m c s args cc nL own Ts H0 B D cl tys Z) (t0 ci : Nat) {cA : ClassId} {q : vw_C} {vs : List Value} (hr : r < N) (hg : g r = .inl (cA, n, .inr (.inr (.inr (.inr f))))) (ht : tys[t0]? = some (cA, .object q.1)) (hr2 : r2 < N) (hg2 : g r2 = .inr (ci, vs)) (hc : cl[ci]? = some q) {z : Int} (i0 : Nat) (hz : z = (i0 : Int)) (hi0 : i0 < n) (hn9 : n < 2147483648) (hd : decode cc pc = .ok (.aastore, 1) ∧ pc + 1 = pc2) (k : ∀ g1 : Nat → va_E, g1 r = .inl (cA, n, .inr (.inr (.inr (.inr (va_up f i0 (some (ad r2))))))) → (∀ r1, r1 ≠ r → g1 r1 = g r1) → kV p l e R s m args below meth c Q H0 B D cl nL N cells slots ad g1 lv (st) pc2) : kV p l e R s m args below meth c Q H0 B D cl nL N cells slots ad g lv (.ref (ad r2) :: .int (iI z) :: .ref (ad r) :: st) pc := fun H locs ls hl hP hD hS => by
  obtain ⟨hd, rfl⟩ := hd
  refine va_astq C.1.1 C.1.2.1 C.2.1 hP hD hS r t0 r2 ci ((wl_get hr).trans (by rw [hg])) ht ((wl_get hr2).trans (by rw [hg2])) hc (iI_in hz hi0 hn9) hd (fun H1 locs1 hP hD hS => ?_)
  rw [iI_cl hz (by omega), wl_set hr] at hP hD
  exact k _ (va_up_self _ _ _) (fun r1 h1 => va_up_ne _ _ h1) H1 locs1 ls hl hP hD hS
theorem v_newaR {r : Nat} (C : Cx p m c s args cc nL own Ts H0 B D cl tys Z) {atype : ArrayType} (harr : Cond.arrayClass (newarray.typeOf atype) ∈ Ts) {ty : FieldType} (hty : newarray.typeOf atype = ty) (t0 : Nat) {cA : ClassId} (ht : tys[t0]? = some (cA, ty)) {z : Int} {n : Nat} {a0 : vp_A} (hz : z = (n : Int)) (hn9 : n < 65536) (ha : ∀ cA : ClassId, vp_cell cA a0 = arrV cA n (fun _ => defaultValue ty)) (hbytes : n * componentBytes ty ≤ 536870912) (hcells : cells + 1 ≤ R.cells) (hslots : slots + n ≤ R.slots) (hd : decode cc pc = .ok (.newarray atype, 2) ∧ pc + 2 = pc2) (k : ∀ (ad1 : Nat → Nat) (g1 : Nat → va_E), (∀ r1, r1 ≠ r → ad1 r1 = ad r1) → g1 r = .inl (cA, a0) → (∀ r1, r1 ≠ r → g1 r1 = g r1) → kV p l e R s m args below meth c Q H0 B D cl nL N (cells + 1) (slots + n) ad1 g1 lv (.ref (ad1 r) :: st) pc2) : kV p l e R s m args below meth c Q H0 B D cl nL N cells slots ad g lv (.int (iI z) :: st) pc := fun H locs ls hl hP hD hS => by
  obtain ⟨hd, rfl⟩ := hd
  have hz0 : ¬ iI z < 0 := by subst hz; rw [iI_nat]; exact nI_pos (by omega)
  refine va_newa C.1.1 C.1.2.1 (C.1.2.2.2.2 _ harr) hty C.2.1 hP hD hS C.hA ha hz0 (iI_cl hz (by omega)) hbytes hcells hslots hd (fun q cA1 H1 hK hP hD hS => ?_)
  have hcA : cA1 = cA := va_arrU hK (by simp) (List.mem_append_left _ (List.mem_of_getElem? ht))
  subst hcA
  obtain ⟨hP, hD⟩ := wl_new (r := r) hP hD
  have h3 := k (va_up ad r q) (va_up g r (.inl (cA1, a0))) (fun r1 h1 => va_up_ne _ _ h1) (va_up_self _ _ _) (fun r1 h1 => va_up_ne _ _ h1) H1 locs ls hl hP hD hS
  rw [va_up_self] at h3
  exact h3
theorem v_newaP (C : Cx p m c s args cc nL own Ts H0 B D cl tys Z) {atype : ArrayType} (harr : Cond.arrayClass (newarray.typeOf atype) ∈ Ts) {ty : FieldType} (hty : newarray.typeOf atype = ty) (t0 : Nat) {cA : ClassId} (ht : tys[t0]? = some (cA, ty)) {z : Int} {n : Nat} {a0 : vp_A} (hz : z = (n : Int)) (hn9 : n < 65536) (ha : ∀ cA : ClassId, vp_cell cA a0 = arrV cA n (fun _ => defaultValue ty)) (hbytes : n * componentBytes ty ≤ 536870912) (hcells : cells + 1 ≤ R.cells) (hslots : slots + n ≤ R.slots) (hd : decode cc pc = .ok (.newarray atype, 2) ∧ pc + 2 = pc2) (k : ∀ (ad1 : Nat → Nat) (g1 : Nat → va_E), (∀ r1, r1 ≠ N → ad1 r1 = ad r1) → g1 N = .inl (cA, a0) → (∀ r1, r1 ≠ N → g1 r1 = g r1) → kV p l e R s m args below meth c Q H0 B D cl nL (N + 1) (cells + 1) (slots + n) ad1 g1 lv (.ref (ad1 N) :: st) pc2) : kV p l e R s m args below meth c Q H0 B D cl nL N cells slots ad g lv (.int (iI z) :: st) pc := fun H locs ls hl hP hD hS => by
  obtain ⟨hd, rfl⟩ := hd
  have hz0 : ¬ iI z < 0 := by subst hz; rw [iI_nat]; exact nI_pos (by omega)
  refine va_newa C.1.1 C.1.2.1 (C.1.2.2.2.2 _ harr) hty C.2.1 hP hD hS C.hA ha hz0 (iI_cl hz (by omega)) hbytes hcells hslots hd (fun q cA1 H1 hK hP hD hS => ?_)
  have hcA : cA1 = cA := va_arrU hK (by simp) (List.mem_append_left _ (List.mem_of_getElem? ht))
  subst hcA
  rw [wl_succ] at hP hD
  have h3 := k (va_up ad N q) (va_up g N (.inl (cA1, a0))) (fun r1 h1 => va_up_ne _ _ h1) (va_up_self _ _ _) (fun r1 h1 => va_up_ne _ _ h1) H1 locs ls hl hP hD hS
  rw [va_up_self] at h3
  exact h3
end VR
