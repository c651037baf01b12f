/-! the script: it lies below B, and stays -/
section VX
variable {p : Program} {l : Launch} {e : Env} {R : Room} {s : State} {m : MethodId} {args : Array Value} {below : List Frame} {meth : Method} {c : Code} {Q : State → Prop} {H0 : Heap} {B : Nat} {D : va_G} {cl : List vw_C} {tys : List (ClassId × FieldType)} {Z : ZT} {cc : ByteArray} {nL N : Nat} {own : String} {Ts : List Cond} {cells slots : Nat} {ad : Nat → Nat} {g : Nat → va_E} {lv : List (Nat × Value)} {st : List Value} {pc pc2 : Nat}
theorem v_sld {b L : Nat} {xs : Nat → Int32} (C : Cx p m c s args cc nL own Ts H0 B D cl tys Z) (hX : va_X b L xs s H0) (hb : b < B) {z : Int} (i0 : Nat) (hz : z = (i0 : Int)) (hi0 : i0 < L) (hL : L < 2147483648) (hd : decode cc pc = .ok (.iaload, 1) ∧ pc + 1 = pc2) (k : kV p l e R s m args below meth c Q H0 B D cl nL N cells slots ad g lv (.int (xs i0) :: st) pc2) : kV p l e R s m args below meth c Q H0 B D cl nL N cells slots ad g lv (.int (iI z) :: .ref b :: st) pc := fun H locs ls hl hP hD hS => by
  obtain ⟨hd, rfl⟩ := hd
  refine va_sld C.1.1 C.1.2.1 hX (Nat.lt_of_lt_of_le hb C.2.2.1) (fun q => Nat.not_le.mpr hb q) hS (iI_in hz hi0 hL) hd ?_
  rw [iI_cl hz (by omega)]
  exact k H locs ls hl hP hD hS
theorem v_slen {b L : Nat} {xs : Nat → Int32} (C : Cx p m c s args cc nL own Ts H0 B D cl tys Z) (hX : va_X b L xs s H0) (hb : b < B) (hd : decode cc pc = .ok (.arraylength, 1) ∧ pc + 1 = pc2) (k : kV p l e R s m args below meth c Q H0 B D cl nL N cells slots ad g lv (.int (iI (L : Int)) :: st) pc2) : kV p l e R s m args below meth c Q H0 B D cl nL N cells slots ad g lv (.ref b :: st) pc := fun H locs ls hl hP hD hS => by
  obtain ⟨hd, rfl⟩ := hd
  refine va_slen C.1.1 C.1.2.1 hX (Nat.lt_of_lt_of_le hb C.2.2.1) (fun q => Nat.not_le.mpr hb q) hS hd ?_
  have e1 : Int32.ofNat L = iI (L : Int) := (iI_nat L).symm
  rw [e1]
  exact k H locs ls hl hP hD hS
end VX
