/-! the worlds' cells -/
abbrev rmF (f q mc ms : Nat) : Room := { frames := f, cells := mc, slots := ms, locals := q }
abbrev tyL (cI cZ cL cS cW : ClassId) : List (ClassId × FieldType) := [(cI, .int), (cZ, .boolean), (cL, .long), (cS, .object "ShadowArchive$Shelf"), (cW, .object "ShadowArchive$Worksheet")]
abbrev inA (cI : ClassId) (n : Nat) (f : Nat → Int32) : va_E := .inl (cI, n, .inl f)
abbrev rfA (cS : ClassId) (n : Nat) (f : Nat → Option Nat) : va_E := .inl (cS, n, .inr (.inr (.inr (.inr f))))
abbrev ShT : Type := Bool × Bool × Int × Int × Int × Int
abbrev shE (a : Nat) (t : ShT) : va_E := .inr (1, [.int (bI t.1), .int (bI t.2.1), .int (iI t.2.2.1), .int (iI t.2.2.2.1), .int (iI t.2.2.2.2.1), .int (iI t.2.2.2.2.2), .ref a])
abbrev wsE (ct lo : Int) (a1 a2 a3 : Nat) : va_E := .inr (2, [.int (iI ct), .int (iI lo), .ref a1, .ref a2, .ref a3])
def R_J : String := "java/util/Arrays"
theorem upd_all {f : Nat → Int32} {i : Nat} {x : Int32} (hf : ∀ k, k < i → f k = x) : ∀ k, k < i + 1 → upd f i x k = x := fun k hk => by
  by_cases h : k = i
  · rw [h, pk_us]
  · rw [pk_un h]; exact hf k (by omega)
theorem arr_ext {cA : ClassId} {n : Nat} {f f1 : Nat → Int32} (h : ∀ k, k < n → f k = f1 k) : vp_cell cA (n, .inl f) = vp_cell cA (n, .inl f1) := by
  show arrV cA n (fun j => .int (f j)) = arrV cA n (fun j => .int (f1 j))
  unfold arrV
  congr 2
  funext j
  show Value.int (f j.val) = Value.int (f1 j.val)
  rw [h j.val j.isLt]
section VB
variable {p : Program} {l : Launch} {e : Env} {R : Room} {s : State} {m : MethodId} {args : Array Value} {below : List Frame} {meth : Method} {c : Code} {Q : State → Prop} {H0 : Heap} {B : Nat} {D : va_G} {cl : List vw_C} {tys : List (ClassId × FieldType)} {Z : ZT} {cc : ByteArray} {nL N : Nat} {own : String} {Ts : List Cond} {cells slots : Nat} {ad : Nat → Nat} {g : Nat → va_E} {lv lv' : List (Nat × Value)} {st : List Value} {pc pc2 : Nat}
/-- an array's numbers beyond its length don't count -/
theorem v_ext {r n : Nat} {cA : ClassId} {f : Nat → Int32} (f1 : Nat → Int32) (hg : g r = inA cA n f) (he : ∀ k, k < n → f k = f1 k) (k : ∀ g1 : Nat → va_E, g1 r = inA cA n f1 → (∀ r1, r1 ≠ r → g1 r1 = g r1) → kV p l e R s m args below meth c Q H0 B D cl nL N cells slots ad g1 lv st pc) : kV p l e R s m args below meth c Q H0 B D cl nL N cells slots ad g lv st pc := fun H locs ls hl hP hD hS => by
  refine k (va_up g r (inA cA n f1)) (va_up_self _ _ _) (fun r1 h1 => va_up_ne _ _ h1) H locs ls hl (fun i q hq => ?_) ⟨fun i j x y hi hj hxy => ?_, fun i q hq => ?_⟩ hS
  · obtain ⟨h1, rfl⟩ := wl_of hq
    have h2 := hP i _ (wl_get h1)
    by_cases hi : i = r
    · subst hi
      rw [va_up_self]
      rw [hg] at h2
      show H[ad i]? = some (vp_cell cA (n, .inl f1))
      rw [← arr_ext he]
      exact h2
    · rw [va_up_ne _ _ hi]
      exact h2
  · obtain ⟨h1, rfl⟩ := wl_of hi
    obtain ⟨h2, rfl⟩ := wl_of hj
    exact hD.1 i j _ _ (wl_get h1) (wl_get h2) hxy
  · obtain ⟨h1, rfl⟩ := wl_of hq
    show aB B (ad i)
    exact hD.2 i _ (wl_get h1)
theorem v_mmin {a b : Int} {index : Nat} (C : Cx p m c s args cc nL own Ts H0 B D cl tys Z) (w1 : Cond.methodLink own index Lib.Math.min.name ∈ Ts) (w2 : Cond.static Lib.Math.min.name ∈ Ts) (w3 : Cond.initialized "java/lang/Math" ∈ Ts) (w4 : Cond.code Lib.Math.min.name Lib.Math.min.code 2 (some .int) ∈ Ts) (hf : 1 ≤ R.frames) (hq : (st.map fun v => v.category).sum + 13 ≤ R.locals) (hc : cells ≤ R.cells) (hs : slots ≤ R.slots) (hd : decode cc pc = .ok (.invokestatic index, 3) ∧ pc + 3 = pc2) (a1 : -2147483648 ≤ a) (a2 : a < 2147483648) (b1 : -2147483648 ≤ b) (b2 : b < 2147483648) (k : kV p l e R s m args below meth c Q H0 B D cl nL N cells slots ad g lv (.int (iI (if b < a then b else a)) :: st) pc2) : kV p l e R s m args below meth c Q H0 B D cl nL N cells slots ad g lv (.int (iI b) :: .int (iI a) :: st) pc := fun H locs ls hl hP hD hS => by
  obtain ⟨hd, rfl⟩ := hd
  have h := C.1.2.2.2.2
  refine va_mmin C.1.1 C.1.2.1 (C.1.2.2.1.trans hl.1.symm) C.1.2.2.2.1 (h _ w1) (h _ w2) (h _ w3) (h _ w4) hf hq hc hs hd ?_
  have e1 : (if iI b < iI a then iI b else iI a) = iI (if b < a then b else a) := by
    by_cases hh : b < a
    · rw [if_pos hh, if_pos ((iI_lt b1 b2 a1 a2).mpr hh)]
    · rw [if_neg hh, if_neg (fun q => hh ((iI_lt b1 b2 a1 a2).mp q))]
  rw [e1]
  exact k H locs ls hl hP hD hS
theorem v_mmax {a b : Int} {index : Nat} (C : Cx p m c s args cc nL own Ts H0 B D cl tys Z) (w1 : Cond.methodLink own index Lib.Math.max.name ∈ Ts) (w2 : Cond.static Lib.Math.max.name ∈ Ts) (w3 : Cond.initialized "java/lang/Math" ∈ Ts) (w4 : Cond.code Lib.Math.max.name Lib.Math.max.code 2 (some .int) ∈ Ts) (hf : 1 ≤ R.frames) (hq : (st.map fun v => v.category).sum + 13 ≤ R.locals) (hc : cells ≤ R.cells) (hs : slots ≤ R.slots) (hd : decode cc pc = .ok (.invokestatic index, 3) ∧ pc + 3 = pc2) (a1 : -2147483648 ≤ a) (a2 : a < 2147483648) (b1 : -2147483648 ≤ b) (b2 : b < 2147483648) (k : kV p l e R s m args below meth c Q H0 B D cl nL N cells slots ad g lv (.int (iI (if a < b then b else a)) :: st) pc2) : kV p l e R s m args below meth c Q H0 B D cl nL N cells slots ad g lv (.int (iI b) :: .int (iI a) :: st) pc := fun H locs ls hl hP hD hS => by
  obtain ⟨hd, rfl⟩ := hd
  have h := C.1.2.2.2.2
  refine va_mmax C.1.1 C.1.2.1 (C.1.2.2.1.trans hl.1.symm) C.1.2.2.2.1 (h _ w1) (h _ w2) (h _ w3) (h _ w4) hf hq hc hs hd ?_
  have e1 : (if iI a < iI b then iI b else iI a) = iI (if a < b then b else a) := by
    by_cases hh : a < b
    · rw [if_pos hh, if_pos ((iI_lt a1 a2 b1 b2).mpr hh)]
    · rw [if_neg hh, if_neg (fun q => hh ((iI_lt a1 a2 b1 b2).mp q))]
  rw [e1]
  exact k H locs ls hl hP hD hS
theorem v_mabs {a : Int} {index : Nat} (C : Cx p m c s args cc nL own Ts H0 B D cl tys Z) (w1 : Cond.methodLink own index Lib.Math.abs.name ∈ Ts) (w2 : Cond.static Lib.Math.abs.name ∈ Ts) (w3 : Cond.initialized "java/lang/Math" ∈ Ts) (w4 : Cond.code Lib.Math.abs.name Lib.Math.abs.code 1 (some .int) ∈ Ts) (hf : 1 ≤ R.frames) (hq : (st.map fun v => v.category).sum + 13 ≤ R.locals) (hc : cells ≤ R.cells) (hs : slots ≤ R.slots) (hd : decode cc pc = .ok (.invokestatic index, 3) ∧ pc + 3 = pc2) (a1 : -2147483648 ≤ a) (a2 : a < 2147483648) (k : kV p l e R s m args below meth c Q H0 B D cl nL N cells slots ad g lv (.int (iI (if 0 ≤ a then a else 0 - a)) :: st) pc2) : kV p l e R s m args below meth c Q H0 B D cl nL N cells slots ad g lv (.int (iI a) :: st) pc := fun H locs ls hl hP hD hS => by
  obtain ⟨hd, rfl⟩ := hd
  have h := C.1.2.2.2.2
  refine va_mabs C.1.1 C.1.2.1 (C.1.2.2.1.trans hl.1.symm) C.1.2.2.2.1 (h _ w1) (h _ w2) (h _ w3) (h _ w4) hf hq hc hs hd ?_
  have e1 : (if 0 ≤ iI a then iI a else 0 - iI a) = iI (if 0 ≤ a then a else 0 - a) := by
    have hz := iI_le (a := 0) (b := a) (by omega) (by omega) a1 a2
    rw [iI_0] at hz
    by_cases hh : 0 ≤ a
    · rw [if_pos hh, if_pos (hz.mpr hh)]
    · rw [if_neg hh, if_neg (fun q => hh (hz.mp q)), ← iI_0, iI_sub]
  rw [e1]
  exact k H locs ls hl hP hD hS
/-- System.arraycopy(a, 0, b, 0, n) -/
theorem v_copy {r0 r1 n0 n1 n : Nat} {z : Int} {f f1 : Nat → Int32} {index : Nat} (C : Cx p m c s args cc nL own Ts H0 B D cl tys Z) (w1 : Cond.methodLink own index arraycopyName ∈ Ts) (w2 : Cond.native arraycopyName ∈ Ts) (w3 : Cond.static arraycopyName ∈ Ts) (w4 : Cond.initialized "java/lang/System" ∈ Ts) (t0 : Nat) {cA : ClassId} (ht : tys[t0]? = some (cA, .int)) (hr0 : r0 < N) (hg0 : g r0 = inA cA n0 f) (hr1 : r1 < N) (hg1 : g r1 = inA cA n1 f1) (hz : z = (n : Int)) (h0 : n ≤ n0) (h1 : n ≤ n1) (hn : n < 2147483648) (hf : 1 ≤ R.frames) (hq : (st.map fun v => v.category).sum + (nativeFrameWords "java/lang/System" "arraycopy" 5 + 11) ≤ R.locals) (hd : decode cc pc = .ok (.invokestatic index, 3) ∧ pc + 3 = pc2) (k : ∀ g2 : Nat → va_E, g2 r1 = inA cA n1 (va_cpy f f1 0 0 n) → (∀ r2, r2 ≠ r1 → g2 r2 = g r2) → kV p l e R s m args below meth c Q H0 B D cl nL N cells slots ad g2 lv st pc2) : kV p l e R s m args below meth c Q H0 B D cl nL N cells slots ad g lv (.int (iI z) :: .int (iI 0) :: .ref (ad r1) :: .int (iI 0) :: .ref (ad r0) :: st) pc := fun H locs ls hl hP hD hS => by
  obtain ⟨hd, rfl⟩ := hd
  have h := C.1.2.2.2.2
  have e0 : (iI 0).toNatClampNeg = 0 := iI_cl (j := 0) rfl (by omega)
  have en : (iI z).toNatClampNeg = n := iI_cl hz hn
  have hz0 : ¬ iI z < 0 := by subst hz; rw [iI_nat]; exact nI_pos (by omega)
  refine va_copyi C.1.1 C.1.2.1 (C.1.2.2.1.trans hl.1.symm) C.1.2.2.2.1 (h _ w1) (h _ w2) (h _ w3) (h _ w4) C.2.1 hP hD hS r0 r1 t0 t0 ((wl_get hr0).trans (by rw [hg0])) ((wl_get hr1).trans (by rw [hg1])) ht ht rfl (by decide) (by decide) hz0 (by rw [e0, en]; omega) (by rw [e0, en]; omega) (fun i hi => rfl) hf hq hd (fun H1 locs1 hP hD hS => ?_)
  rw [e0, en, wl_set hr1] at hP hD
  exact k _ (va_up_self _ _ _) (fun r2 h2 => va_up_ne _ _ h2) H1 locs1 ls hl hP hD hS
end VB
theorem rem_tab : ∀ n : Nat, n < 33 → ∀ d : Nat, d < 17 → 2 ≤ d → iI ((n : Int) - 16) - iI ((n : Int) - 16) / iI (d : Int) * iI (d : Int) = iI (Int.tmod ((n : Int) - 16) (d : Int)) := by decide +kernel
theorem rem_btab : ∀ n : Nat, n < 33 → ∀ d : Nat, d < 17 → 2 ≤ d → -16 ≤ Int.tmod ((n : Int) - 16) (d : Int) ∧ Int.tmod ((n : Int) - 16) (d : Int) ≤ 16 := by decide +kernel
theorem rem_b {a d : Int} (a1 : -16 ≤ a) (a2 : a ≤ 16) (d1 : 2 ≤ d) (d2 : d ≤ 16) : -16 ≤ Int.tmod a d ∧ Int.tmod a d ≤ 16 := by
  have h := rem_btab (a + 16).toNat (by omega) d.toNat (by omega) (by omega)
  have e1 : (((a + 16).toNat : Nat) : Int) - 16 = a := by omega
  have e2 : ((d.toNat : Nat) : Int) = d := by omega
  rw [e1, e2] at h
  exact h
theorem rem_ok {a d : Int} (a1 : -16 ≤ a) (a2 : a ≤ 16) (d1 : 2 ≤ d) (d2 : d ≤ 16) : iI a - iI a / iI d * iI d = iI (Int.tmod a d) := by
  have h := rem_tab (a + 16).toNat (by omega) d.toNat (by omega) (by omega)
  have e1 : (((a + 16).toNat : Nat) : Int) - 16 = a := by omega
  have e2 : ((d.toNat : Nat) : Int) = d := by omega
  rw [e1, e2] at h
  exact h
theorem isin_bit : ∀ M : Nat, M < 256 → ∀ s : Nat, s < 8 → ((iI (M : Int) >>> (iI (s : Int) &&& 31)) &&& iI 1) = bI (Nat.testBit M s) := by decide +kernel
section VC
variable {p : Program} {l : Launch} {e : Env} {R : Room} {s : State} {m : MethodId} {args : Array Value} {below : List Frame} {meth : Method} {c : Code} {Q : State → Prop} {H0 : Heap} {B : Nat} {D : va_G} {cl : List vw_C} {tys : List (ClassId × FieldType)} {Z : ZT} {cc : ByteArray} {nL N : Nat} {own : String} {Ts : List Cond} {cells slots : Nat} {ad : Nat → Nat} {g : Nat → va_E} {lv lv' : List (Nat × Value)} {st st' : List Value} {pc pc2 : Nat}
theorem v_iremI {a d : Int} (C : Cx p m c s args cc nL own Ts H0 B D cl tys Z) (hd : decode cc pc = .ok (.irem, 1) ∧ pc + 1 = pc2) (a1 : -16 ≤ a) (a2 : a ≤ 16) (d1 : 2 ≤ d) (d2 : d ≤ 16) (k : -16 ≤ Int.tmod a d → Int.tmod a d ≤ 16 → kV p l e R s m args below meth c Q H0 B D cl nL N cells slots ad g lv (.int (iI (Int.tmod a d)) :: st) pc2) : kV p l e R s m args below meth c Q H0 B D cl nL N cells slots ad g lv (.int (iI d) :: .int (iI a) :: st) pc := by
  refine v_irem C hd (fun q => ?_) ?_
  · rw [← iI_0, iI_eq (by omega) (by omega) (by omega) (by omega)] at q
    omega
  · rw [rem_ok a1 a2 d1 d2]
    exact k (rem_b a1 a2 d1 d2).1 (rem_b a1 a2 d1 d2).2
theorem v_lvE (h : lv = lv') (k : kV p l e R s m args below meth c Q H0 B D cl nL N cells slots ad g lv' st pc) : kV p l e R s m args below meth c Q H0 B D cl nL N cells slots ad g lv st pc := by
  subst h
  exact k
theorem v_stE (h : st = st') (k : kV p l e R s m args below meth c Q H0 B D cl nL N cells slots ad g lv st' pc) : kV p l e R s m args below meth c Q H0 B D cl nL N cells slots ad g lv st pc := by
  subst h
  exact k
end VC
