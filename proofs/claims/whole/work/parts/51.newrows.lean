/-! objects made anew: roles pushed -/
section VO
variable {p : Program} {l : Launch} {e : Env} {R : Room} {s : State} {m : MethodId} {args : Array Value} {below : List Frame} {meth : Method} {c : Code} {Q : State → Prop} {H0 : Heap} {B : Nat} {D : va_G} {cl : List vw_C} {cI cZ cL cS cW : ClassId} {tys : List (ClassId × FieldType)} {Z : ZT} {cc : ByteArray} {nL N : Nat} {own : String} {cells slots : Nat} {ad : Nat → Nat} {g : Nat → va_E} {lv : List (Nat × Value)} {st : List Value} {pc pc2 : Nat}
theorem v_newP {C0 : String} {T : u_T} {M ci index : Nat} (C : Cx p m c s args cc nL own wG H0 B D cl tys Z) (hin : ∀ w ∈ u_ws C0 T M, w ∈ wG) (ty : Nat → FieldType) (hty : ∀ k, k < M → parseFieldDescriptor (T k).2.2.1 = some (ty k)) (hcl : Cond.classLink own index C0 ∈ wG) (hinst : Cond.instantiable C0 M ∈ wG) (hini : Cond.initialized C0 ∈ wG) (hc : cl[ci]? = some (C0, T, M)) {fs : List Value} (hfs : ∀ j, j < M → defaultValue (ty j) = vp_V fs j) (hcells : cells + 1 ≤ R.cells) (hslots : slots + M ≤ R.slots) (hd : decode cc pc = .ok (.new index, 3) ∧ pc + 3 = pc2) (k : ∀ (ad1 : Nat → Nat) (g1 : Nat → va_E), (∀ r1, r1 ≠ N → ad1 r1 = ad r1) → g1 N = .inr (ci, fs) → (∀ r1, r1 ≠ N → g1 r1 = g r1) → kV p l e R s m args below meth c Q H0 B D cl nL (N + 1) (cells + 1) (slots + M) ad1 g1 lv (.ref (ad1 N) :: st) pc2) : kV p l e R s m args below meth c Q H0 B D cl nL N cells slots ad g lv st pc := fun H locs ls hl hP hD hS => by
  obtain ⟨hd, rfl⟩ := hd
  have hts := C.1.2.2.2.2
  refine va_new C.1.1 C.1.2.1 hts hin ty hty C.1.2.2.2.1 (hts _ hcl) (hts _ hinst) (hts _ hini) C.2.1 hP hD hS C.hA hc hfs hcells hslots hd (fun q H1 hP hD hS => ?_)
  rw [wl_succ] at hP hD
  have h3 := k (va_up ad N q) (va_up g N (.inr (ci, fs))) (fun r1 h1 => va_up_ne _ _ h1) (va_up_self _ _ _) (fun r1 h1 => va_up_ne _ _ h1) H1 locs ls hl hP hD hS
  rw [va_up_self] at h3
  exact h3
theorem v_anewP {C0 : String} {index : Nat} (C : Cx p m c s args cc nL own wG H0 B D cl tys Z) (hcl : Cond.classLink own index C0 ∈ wG) (hover : va_AO C0 s) (t0 : Nat) {cA : ClassId} (ht : tys[t0]? = some (cA, .object C0)) {z : Int} {n : Nat} (hz : z = (n : Int)) (hn9 : n < 65536) (hcells : cells + 1 ≤ R.cells) (hslots : slots + n ≤ R.slots) (hd : decode cc pc = .ok (.anewarray index, 3) ∧ pc + 3 = pc2) (k : ∀ (ad1 : Nat → Nat) (g1 : Nat → va_E), (∀ r1, r1 ≠ N → ad1 r1 = ad r1) → g1 N = rfA cA n (fun _ => none) → (∀ r1, r1 ≠ N → g1 r1 = g r1) → kV p l e R s m args below meth c Q H0 B D cl nL (N + 1) (cells + 1) (slots + n) ad1 g1 lv (.ref (ad1 N) :: st) pc2) : kV p l e R s m args below meth c Q H0 B D cl nL N cells slots ad g lv (.int (iI z) :: st) pc := fun H locs ls hl hP hD hS => by
  obtain ⟨hd, rfl⟩ := hd
  have hz0 : ¬ iI z < 0 := by subst hz; rw [iI_nat]; exact nI_pos (by omega)
  refine va_newq C.1.1 C.1.2.1 C.1.2.2.2.1 (C.1.2.2.2.2 _ hcl) hover C.2.1 hP hD hS C.hA hz0 (iI_cl hz (by omega)) (by omega) hcells hslots hd (fun q cA1 H1 hK hP hD hS => ?_)
  have hcA : cA1 = cA := va_arrU hK (by simp) (List.mem_append_left _ (List.mem_of_getElem? ht))
  subst hcA
  rw [wl_succ] at hP hD
  have h3 := k (va_up ad N q) (va_up g N (rfA cA1 n (fun _ => none))) (fun r1 h1 => va_up_ne _ _ h1) (va_up_self _ _ _) (fun r1 h1 => va_up_ne _ _ h1) H1 locs ls hl hP hD hS
  rw [va_up_self] at h3
  exact h3
theorem v_oi {r index : Nat} (C : Cx p m c s args cc nL own wG H0 B D cl tys Z) (w1 : Cond.methodLink own index objectInit ∈ wG) (hd : decode cc pc = .ok (.invokespecial index, 3) ∧ pc + 3 = pc2) (hf : 1 ≤ R.frames) (hq : 12 ≤ R.locals) (k : kV p l e R s m args below meth c Q H0 B D cl nL N cells slots ad g lv [] pc2) : kV p l e R s m args below meth c Q H0 B D cl nL N cells slots ad g lv [.ref (ad r)] pc := fun H locs ls hl hP hD hS => by
  obtain ⟨hd, rfl⟩ := hd
  refine W.objInit C.1.1 C.1.2.1 C.1.2.2.2.1 (C.1.2.2.2.2 _ w1) (C.1.2.2.2.2 _ im_objectInit) (C.1.2.2.2.2 _ co_objectInit) rfl (by rw [C.1.2.2.1]; exact hl.1) rfl hd hf (by show _ ≤ R.locals; exact hq) ?_
  exact k H locs ls hl hP hD hS
end VO
