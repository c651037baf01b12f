abbrev WT : Type := (Nat → Nat) × (Nat → va_E)
/-- a call's start: the words of the start, and the world -/
def wPc (B : Nat) (D : va_G) (cl : List vw_C) (tys : List (ClassId × FieldType)) (Z : ZT) (N : Nat) (as : List Value) (ad : Nat → Nat) (g : Nat → va_E) : Array Value → State → Prop := va_Pc as (fun U => B ≤ U.heap.size ∧ va_K D cl tys U ∧ Z U U.heap ∧ Zmov B Z ∧ va_P D cl (wl N ad g) U.heap ∧ va_D (aB B) (wl N ad g))
def wB (B : Nat) (D : va_G) (cl : List vw_C) (N : Nat) (u : WT) (t : State) : Prop := va_P D cl (wl N u.1 u.2) t.heap ∧ va_D (aB B) (wl N u.1 u.2)
abbrev QI (B : Nat) (D : va_G) (cl : List vw_C) (N : Nat) (post : Int32 → (Nat → Nat) → (Nat → va_E) → Prop) : Array Value → State → Outcome → State → Prop := va_Qi (fun r (u : WT) => post r u.1 u.2) (wB B D cl N) (aB B)
abbrev QV (B : Nat) (D : va_G) (cl : List vw_C) (N : Nat) (post : (Nat → Nat) → (Nat → va_E) → Prop) : Array Value → State → Outcome → State → Prop := va_Qv (fun (u : WT) => post u.1 u.2) (wB B D cl N) (aB B)
/-- where it throws: which class, and the world is as it was -/
abbrev QX (B : Nat) (D : va_G) (cl : List vw_C) (N : Nat) (xp : String → Prop) (ad : Nat → Nat) (g : Nat → va_E) : String → State → State → Prop := vx_X (fun _ : Unit => True) (fun E _ t => xp E ∧ wB B D cl N (ad, g) t) (aB B)
def kX (p : Program) (l : Launch) (e : Env) (R : Room) (s : State) (m : MethodId) (args : Array Value) (below : List Frame) (meth : Method) (c : Code) (Q : State → Prop) (H0 : Heap) (B : Nat) (D : va_G) (cl : List vw_C) (nL N cells slots : Nat) (ad : Nat → Nat) (g : Nat → va_E) (lv : List (Nat × Value)) (st : List Value) (pc : Nat) (E : String) : Prop :=
  ∀ (H : Heap) (locs : List Loc) (ls : Array Slot), lv_has ls nL lv → va_P D cl (wl N ad g) H → va_D (aB B) (wl N ad g) → va_S (aB B) H0 H locs → ∀ (q : Addr) (ce : Cell), H[q]? = some ce → ce.vm = .none → s.vm.findClass E = some ce.cls → vx_W p l e R s m args below meth c H locs cells slots Q (F0 m pc ls st) q
section CT
variable {p : Program} {l : Launch} {e : Env} {R : Room} {s : State} {m : MethodId} {args : Array Value} {below : List Frame} {meth : Method} {c : Code} {Q : State → Prop} {H0 : Heap} {B : Nat} {D : va_G} {cl : List vw_C} {tys : List (ClassId × FieldType)} {Z : ZT} {cc : ByteArray} {nL N N2 : Nat} {own : String} {Ts : List Cond} {cells slots : Nat} {ad : Nat → Nat} {g : Nat → va_E} {lv : List (Nat × Value)} {st st0 : List Value} {pc pc2 : Nat}
variable {y : MethodName} {bytes : ByteArray} {maxL mc ms n index : Nat} {ret : Option FieldType} {ws : List Cond} {rm : Room} {As : List Value} {C0 host : String} {xp : String → Prop}
theorem wPc_blind : FrameBlind (wPc B D cl tys Z N As ad g) := fun a U g9 mk q => by
  obtain ⟨q0, q1, q2, q3, q4, q5, q6⟩ := q
  exact ⟨q0, q1, va_K.moved (u := U) (U := U.calling g9 mk a) (Vm.Alike.refl U.vm) q2, q4.2 U _ _ rfl q3, q4, q5, q6⟩
theorem wPre (C : Cx p m c s args cc nL own Ts H0 B D cl tys Z) {H : Heap} {locs : List Loc} (hP : va_P D cl (wl N ad g) H) (hD : va_D (aB B) (wl N ad g)) (hS : va_S (aB B) H0 H locs) (U : State) (hU : U.heap = H) (hW : s.WarmedH U.vm) : wPc B D cl tys Z N As ad g As.toArray U :=
  ⟨rfl, by rw [hU]; exact Nat.le_trans C.2.2.1 hS.1, va_K.moved hW.alike C.2.1, by rw [hU]; exact C.2.2.2.2.1 s U H0 H hW hS.1 hS.2.1 C.2.2.2.1, C.2.2.2.2, by rw [hU]; exact hP, hD⟩
theorem wRecv (C : Cx p m c s args cc nL own Ts H0 B D cl tys Z) {H : Heap} (hP : va_P D cl (wl N ad g) H) {r ci : Nat} {q : vw_C} {fs : List Value} (hr : r < N) (hg : g r = .inr (ci, fs)) (hc : cl[ci]? = some q) : ∃ cell : Cell, H[ad r]? = some cell ∧ cell.vm.isStatics = false ∧ s.vm.findClass q.1 = some cell.cls :=
  va_recv C.2.1 hP hc (q0 := r) (fs := fs) ((wl_get hr).trans (by rw [hg]))
theorem ofI {post : Int32 → (Nat → Nat) → (Nat → va_E) → Prop} (hy : plainName y.cls = true) (hown : y.cls = own) (hlen : (lg_sl As).length ≤ maxL)
    (body : ∀ (p : Program) (e : Env) (s : State) (m : MethodId) (below : List Frame) (meth : Method) (c : Code) (Q : State → Prop), Cx p m c s As.toArray cc maxL own Ts s.heap B D cl tys Z → meth.name = y.name → (∀ (cells slots : Nat) (ad1 : Nat → Nat) (g1 : Nat → va_E) (lv : List (Nat × Value)) (v : Int32) (pc : Nat), cells ≤ mc → slots ≤ ms → decode cc pc = .ok (.ireturn, 1) → post v ad1 g1 → kV p l e rm s m As.toArray below meth c Q s.heap B D cl maxL N2 cells slots ad1 g1 lv [.int v] pc) → kV p l e rm s m As.toArray below meth c Q s.heap B D cl maxL N 0 0 ad g (lv_args 0 As) [] 0) : Met l y (Cond.code y cc maxL (some .int) :: Ts) rm (wPc B D cl tys Z N As ad g) (QI B D cl N2 post) mc ms (aB B) := by
  refine Met.ofW (cc := cc) (maxL := maxL) (ret := some .int) hy rfl ?_
  intro p e s m args below meth c s₁ B9 hml hv
  obtain ⟨rfl, hsz, hK, hZ, hZm, hP, hD⟩ := hv
  have hx := B9.exec
  have hb := B9.bytes
  have hr := B9.returns
  have hlocks := B9.notSynchronized
  have hts := atoms_spec (ws := Cond.code y cc maxL (some .int) :: Ts) B9.pre
  rw [lg_entry_eq]
  refine body p e s m below meth c _ ⟨⟨hx, hb, hml, by rw [← hown]; exact findClass_of_methodNamed B9.named, fun w hw => hts w (List.mem_cons_of_mem _ hw)⟩, hK, hsz, hZ, hZm⟩ (name_of_methodNamed B9.named B9.method).1 (fun cells slots ad1 g1 lv v pc h1 h2 hd hp H locs ls hl hP hD hS => ?_) s.heap [] _ (lv_entry As hlen) hP hD va_S.rf
  refine W.widen h1 h2 ?_
  exact W.iret hx hb hr (fun t ht hW => ⟨⟨v, (ad1, g1), rfl, hp, by rw [ht]; exact hP, hD⟩, hS.F ht⟩) hS.2.2 hd
theorem ofZ {post : Bool → (Nat → Nat) → (Nat → va_E) → Prop} (hy : plainName y.cls = true) (hown : y.cls = own) (hlen : (lg_sl As).length ≤ maxL)
    (body : ∀ (p : Program) (e : Env) (s : State) (m : MethodId) (below : List Frame) (meth : Method) (c : Code) (Q : State → Prop), Cx p m c s As.toArray cc maxL own Ts s.heap B D cl tys Z → meth.name = y.name → (∀ (cells slots : Nat) (ad1 : Nat → Nat) (g1 : Nat → va_E) (lv : List (Nat × Value)) (v : Bool) (pc : Nat), cells ≤ mc → slots ≤ ms → decode cc pc = .ok (.ireturn, 1) → post v ad1 g1 → kV p l e rm s m As.toArray below meth c Q s.heap B D cl maxL N2 cells slots ad1 g1 lv [.int (bI v)] pc) → kV p l e rm s m As.toArray below meth c Q s.heap B D cl maxL N 0 0 ad g (lv_args 0 As) [] 0) : Met l y (Cond.code y cc maxL (some .boolean) :: Ts) rm (wPc B D cl tys Z N As ad g) (QI B D cl N2 (fun v ad1 g1 => ∃ b, v = bI b ∧ post b ad1 g1)) mc ms (aB B) := by
  refine Met.ofW (cc := cc) (maxL := maxL) (ret := some .boolean) hy rfl ?_
  intro p e s m args below meth c s₁ B9 hml hv
  obtain ⟨rfl, hsz, hK, hZ, hZm, hP, hD⟩ := hv
  have hx := B9.exec
  have hb := B9.bytes
  have hr := B9.returns
  have hlocks := B9.notSynchronized
  have hts := atoms_spec (ws := Cond.code y cc maxL (some .boolean) :: Ts) B9.pre
  rw [lg_entry_eq]
  refine body p e s m below meth c _ ⟨⟨hx, hb, hml, by rw [← hown]; exact findClass_of_methodNamed B9.named, fun w hw => hts w (List.mem_cons_of_mem _ hw)⟩, hK, hsz, hZ, hZm⟩ (name_of_methodNamed B9.named B9.method).1 (fun cells slots ad1 g1 lv v pc h1 h2 hd hp H locs ls hl hP hD hS => ?_) s.heap [] _ (lv_entry As hlen) hP hD va_S.rf
  refine W.widen h1 h2 ?_
  exact W.zret hx hb hr (bI_n v) (fun t ht hW => ⟨⟨bI v, (ad1, g1), rfl, ⟨v, rfl, hp⟩, by rw [ht]; exact hP, hD⟩, hS.F ht⟩) hS.2.2 hd
theorem ofV {post : (Nat → Nat) → (Nat → va_E) → Prop} (hy : plainName y.cls = true) (hown : y.cls = own) (hlen : (lg_sl As).length ≤ maxL)
    (body : ∀ (p : Program) (e : Env) (s : State) (m : MethodId) (below : List Frame) (meth : Method) (c : Code) (Q : State → Prop), Cx p m c s As.toArray cc maxL own Ts s.heap B D cl tys Z → meth.name = y.name → (∀ (cells slots : Nat) (ad1 : Nat → Nat) (g1 : Nat → va_E) (lv : List (Nat × Value)) (pc : Nat), cells ≤ mc → slots ≤ ms → decode cc pc = .ok (.return_, 1) → post ad1 g1 → kV p l e rm s m As.toArray below meth c Q s.heap B D cl maxL N2 cells slots ad1 g1 lv [] pc) → kV p l e rm s m As.toArray below meth c Q s.heap B D cl maxL N 0 0 ad g (lv_args 0 As) [] 0) : Met l y (Cond.code y cc maxL (none) :: Ts) rm (wPc B D cl tys Z N As ad g) (QV B D cl N2 post) mc ms (aB B) := by
  refine Met.ofW (cc := cc) (maxL := maxL) (ret := none) hy rfl ?_
  intro p e s m args below meth c s₁ B9 hml hv
  obtain ⟨rfl, hsz, hK, hZ, hZm, hP, hD⟩ := hv
  have hx := B9.exec
  have hb := B9.bytes
  have hr := B9.returns
  have hlocks := B9.notSynchronized
  have hts := atoms_spec (ws := Cond.code y cc maxL (none) :: Ts) B9.pre
  rw [lg_entry_eq]
  refine body p e s m below meth c _ ⟨⟨hx, hb, hml, by rw [← hown]; exact findClass_of_methodNamed B9.named, fun w hw => hts w (List.mem_cons_of_mem _ hw)⟩, hK, hsz, hZ, hZm⟩ (name_of_methodNamed B9.named B9.method).1 (fun cells slots ad1 g1 lv pc h1 h2 hd hp H locs ls hl hP hD hS => ?_) s.heap [] _ (lv_entry As hlen) hP hD va_S.rf
  refine W.widen h1 h2 ?_
  exact W.vret hx hb hr (fun t ht hW => ⟨⟨(ad1, g1), rfl, hp, by rw [ht]; exact hP, hD⟩, hS.F ht⟩) hS.2.2 hd
theorem ofXI {post : Int32 → (Nat → Nat) → (Nat → va_E) → Prop} (hy : plainName y.cls = true) (hown : y.cls = own) (hlen : (lg_sl As).length ≤ maxL)
    (body : ∀ (p : Program) (e : Env) (s : State) (m : MethodId) (below : List Frame) (meth : Method) (c : Code) (Q : State → Prop), Cx p m c s As.toArray cc maxL own Ts s.heap B D cl tys Z → meth.locks = false → (∀ x ∈ c.exceptionTable.toList, False) → Q = vx_MQ below (QI B D cl N2 post) (QX B D cl N xp ad g) As.toArray s mc ms (aB B) → (∀ (cells slots : Nat) (ad1 : Nat → Nat) (g1 : Nat → va_E) (lv : List (Nat × Value)) (v : Int32) (pc : Nat), cells ≤ mc → slots ≤ ms → decode cc pc = .ok (.ireturn, 1) → post v ad1 g1 → kV p l e rm s m As.toArray below meth c Q s.heap B D cl maxL N2 cells slots ad1 g1 lv [.int v] pc) → (∀ (E : String) (cells slots : Nat) (lv : List (Nat × Value)) (st : List Value) (pc : Nat), xp E → cells ≤ mc → slots ≤ ms → kX p l e rm s m As.toArray below meth c Q s.heap B D cl maxL N cells slots ad g lv st pc E) → kV p l e rm s m As.toArray below meth c Q s.heap B D cl maxL N 0 0 ad g (lv_args 0 As) [] 0) : vx_Met l y (Cond.code y cc maxL (some .int) :: Ts) rm (wPc B D cl tys Z N As ad g) (QI B D cl N2 post) (QX B D cl N xp ad g) mc ms (aB B) := by
  refine vx_ofW (cc := cc) (maxL := maxL) (ret := some .int) hy rfl ?_
  intro p e s m args below meth c s₁ B9 hml htab hv
  obtain ⟨rfl, hsz, hK, hZ, hZm, hP, hD⟩ := hv
  have hx := B9.exec
  have hb := B9.bytes
  have hr := B9.returns
  have hlocks := B9.notSynchronized
  have hts := atoms_spec (ws := Cond.code y cc maxL (some .int) :: Ts) B9.pre
  rw [lg_entry_eq]
  refine body p e s m below meth c _ ⟨⟨hx, hb, hml, by rw [← hown]; exact findClass_of_methodNamed B9.named, fun w hw => hts w (List.mem_cons_of_mem _ hw)⟩, hK, hsz, hZ, hZm⟩ hlocks htab rfl (fun cells slots ad1 g1 lv v pc h1 h2 hd hp H locs ls hl hP hD hS => ?_) (fun E cells slots lv st pc hE h1 h2 H locs ls hl hP hD hS q ce hce hcv hcl => ?_) s.heap [] _ (lv_entry As hlen) hP hD va_S.rf
  · refine W.widen h1 h2 (vx_ret ?_)
    exact W.iret hx hb hr (fun t ht hW => ⟨⟨v, (ad1, g1), rfl, hp, by rw [ht]; exact hP, hD⟩, hS.F ht⟩) hS.2.2 hd
  · exact vx_out (fun x hx => (htab x hx).elim) hlocks hce hcv hcl (fun t ht ha => ⟨(), trivial, ⟨hE, by rw [ht]; exact hP, hD⟩, hS.F ht⟩) hS.2.2 h1 h2
theorem ofXZ {post : Bool → (Nat → Nat) → (Nat → va_E) → Prop} (hy : plainName y.cls = true) (hown : y.cls = own) (hlen : (lg_sl As).length ≤ maxL)
    (body : ∀ (p : Program) (e : Env) (s : State) (m : MethodId) (below : List Frame) (meth : Method) (c : Code) (Q : State → Prop), Cx p m c s As.toArray cc maxL own Ts s.heap B D cl tys Z → meth.locks = false → (∀ x ∈ c.exceptionTable.toList, False) → Q = vx_MQ below (QI B D cl N2 (fun v ad1 g1 => ∃ b, v = bI b ∧ post b ad1 g1)) (QX B D cl N xp ad g) As.toArray s mc ms (aB B) → (∀ (cells slots : Nat) (ad1 : Nat → Nat) (g1 : Nat → va_E) (lv : List (Nat × Value)) (v : Bool) (pc : Nat), cells ≤ mc → slots ≤ ms → decode cc pc = .ok (.ireturn, 1) → post v ad1 g1 → kV p l e rm s m As.toArray below meth c Q s.heap B D cl maxL N2 cells slots ad1 g1 lv [.int (bI v)] pc) → (∀ (E : String) (cells slots : Nat) (lv : List (Nat × Value)) (st : List Value) (pc : Nat), xp E → cells ≤ mc → slots ≤ ms → kX p l e rm s m As.toArray below meth c Q s.heap B D cl maxL N cells slots ad g lv st pc E) → kV p l e rm s m As.toArray below meth c Q s.heap B D cl maxL N 0 0 ad g (lv_args 0 As) [] 0) : vx_Met l y (Cond.code y cc maxL (some .boolean) :: Ts) rm (wPc B D cl tys Z N As ad g) (QI B D cl N2 (fun v ad1 g1 => ∃ b, v = bI b ∧ post b ad1 g1)) (QX B D cl N xp ad g) mc ms (aB B) := by
  refine vx_ofW (cc := cc) (maxL := maxL) (ret := some .boolean) hy rfl ?_
  intro p e s m args below meth c s₁ B9 hml htab hv
  obtain ⟨rfl, hsz, hK, hZ, hZm, hP, hD⟩ := hv
  have hx := B9.exec
  have hb := B9.bytes
  have hr := B9.returns
  have hlocks := B9.notSynchronized
  have hts := atoms_spec (ws := Cond.code y cc maxL (some .boolean) :: Ts) B9.pre
  rw [lg_entry_eq]
  refine body p e s m below meth c _ ⟨⟨hx, hb, hml, by rw [← hown]; exact findClass_of_methodNamed B9.named, fun w hw => hts w (List.mem_cons_of_mem _ hw)⟩, hK, hsz, hZ, hZm⟩ hlocks htab rfl (fun cells slots ad1 g1 lv v pc h1 h2 hd hp H locs ls hl hP hD hS => ?_) (fun E cells slots lv st pc hE h1 h2 H locs ls hl hP hD hS q ce hce hcv hcl => ?_) s.heap [] _ (lv_entry As hlen) hP hD va_S.rf
  · refine W.widen h1 h2 (vx_ret ?_)
    exact W.zret hx hb hr (bI_n v) (fun t ht hW => ⟨⟨bI v, (ad1, g1), rfl, ⟨v, rfl, hp⟩, by rw [ht]; exact hP, hD⟩, hS.F ht⟩) hS.2.2 hd
  · exact vx_out (fun x hx => (htab x hx).elim) hlocks hce hcv hcl (fun t ht ha => ⟨(), trivial, ⟨hE, by rw [ht]; exact hP, hD⟩, hS.F ht⟩) hS.2.2 h1 h2
theorem ofXV {post : (Nat → Nat) → (Nat → va_E) → Prop} (hy : plainName y.cls = true) (hown : y.cls = own) (hlen : (lg_sl As).length ≤ maxL)
    (body : ∀ (p : Program) (e : Env) (s : State) (m : MethodId) (below : List Frame) (meth : Method) (c : Code) (Q : State → Prop), Cx p m c s As.toArray cc maxL own Ts s.heap B D cl tys Z → meth.locks = false → (∀ x ∈ c.exceptionTable.toList, False) → Q = vx_MQ below (QV B D cl N2 post) (QX B D cl N xp ad g) As.toArray s mc ms (aB B) → (∀ (cells slots : Nat) (ad1 : Nat → Nat) (g1 : Nat → va_E) (lv : List (Nat × Value)) (pc : Nat), cells ≤ mc → slots ≤ ms → decode cc pc = .ok (.return_, 1) → post ad1 g1 → kV p l e rm s m As.toArray below meth c Q s.heap B D cl maxL N2 cells slots ad1 g1 lv [] pc) → (∀ (E : String) (cells slots : Nat) (lv : List (Nat × Value)) (st : List Value) (pc : Nat), xp E → cells ≤ mc → slots ≤ ms → kX p l e rm s m As.toArray below meth c Q s.heap B D cl maxL N cells slots ad g lv st pc E) → kV p l e rm s m As.toArray below meth c Q s.heap B D cl maxL N 0 0 ad g (lv_args 0 As) [] 0) : vx_Met l y (Cond.code y cc maxL (none) :: Ts) rm (wPc B D cl tys Z N As ad g) (QV B D cl N2 post) (QX B D cl N xp ad g) mc ms (aB B) := by
  refine vx_ofW (cc := cc) (maxL := maxL) (ret := none) hy rfl ?_
  intro p e s m args below meth c s₁ B9 hml htab hv
  obtain ⟨rfl, hsz, hK, hZ, hZm, hP, hD⟩ := hv
  have hx := B9.exec
  have hb := B9.bytes
  have hr := B9.returns
  have hlocks := B9.notSynchronized
  have hts := atoms_spec (ws := Cond.code y cc maxL (none) :: Ts) B9.pre
  rw [lg_entry_eq]
  refine body p e s m below meth c _ ⟨⟨hx, hb, hml, by rw [← hown]; exact findClass_of_methodNamed B9.named, fun w hw => hts w (List.mem_cons_of_mem _ hw)⟩, hK, hsz, hZ, hZm⟩ hlocks htab rfl (fun cells slots ad1 g1 lv pc h1 h2 hd hp H locs ls hl hP hD hS => ?_) (fun E cells slots lv st pc hE h1 h2 H locs ls hl hP hD hS q ce hce hcv hcl => ?_) s.heap [] _ (lv_entry As hlen) hP hD va_S.rf
  · refine W.widen h1 h2 (vx_ret ?_)
    exact W.vret hx hb hr (fun t ht hW => ⟨⟨(ad1, g1), rfl, hp, by rw [ht]; exact hP, hD⟩, hS.F ht⟩) hS.2.2 hd
  · exact vx_out (fun x hx => (htab x hx).elim) hlocks hce hcv hcl (fun t ht ha => ⟨(), trivial, ⟨hE, by rw [ht]; exact hP, hD⟩, hS.F ht⟩) hS.2.2 h1 h2
theorem v_callSI {post : Int32 → (Nat → Nat) → (Nat → va_E) → Prop} (C : Cx p m c s args cc nL own Ts H0 B D cl tys Z) (hM : Met l y ws rm (wPc B D cl tys Z N (As) ad g) (QI B D cl N2 post) mc ms (aB B)) (cw : CallB R s args own index y bytes maxL ret ws rm mc ms n ∧ (Cond.static y).before args s = true) (hAs : As.length = n) (hst : st0 = As.reverse ++ st) (hW : (st.map fun v => v.category).sum ≤ 8) (hd : decode cc pc = .ok (.invokestatic index, 3) ∧ pc + 3 = pc2) (hf : cells + mc ≤ R.cells ∧ slots + ms ≤ R.slots) (k : ∀ (v : Int32) (ad1 : Nat → Nat) (g1 : Nat → va_E), post v ad1 g1 → kV p l e R s m args below meth c Q H0 B D cl nL N2 (cells + mc) (slots + ms) ad1 g1 lv (.int v :: st) pc2) : kV p l e R s m args below meth c Q H0 B D cl nL N cells slots ad g lv st0 pc := fun H locs ls hl hP hD hS => by
  obtain ⟨hd, rfl⟩ := hd
  refine va_calli (va_runS (As := As) (rest := st) C.1 hM cw ⟨wPc_blind, wPre C hP hD hS⟩ rfl hAs hl.1 hst (lv_room hW) hd hf) hS (fun q _ h => h) (fun q h => h) (fun v u t H1 locs1 ht hvm hp hB hz hk hS1 => ?_)
  obtain ⟨hP1, hD1⟩ := hB
  rw [ht] at hP1
  exact k v u.1 u.2 hp H1 locs1 ls hl hP1 hD1 hS1
theorem v_callSV {post : (Nat → Nat) → (Nat → va_E) → Prop} (C : Cx p m c s args cc nL own Ts H0 B D cl tys Z) (hM : Met l y ws rm (wPc B D cl tys Z N (As) ad g) (QV B D cl N2 post) mc ms (aB B)) (cw : CallB R s args own index y bytes maxL ret ws rm mc ms n ∧ (Cond.static y).before args s = true) (hAs : As.length = n) (hst : st0 = As.reverse ++ st) (hW : (st.map fun v => v.category).sum ≤ 8) (hd : decode cc pc = .ok (.invokestatic index, 3) ∧ pc + 3 = pc2) (hf : cells + mc ≤ R.cells ∧ slots + ms ≤ R.slots) (k : ∀ (ad1 : Nat → Nat) (g1 : Nat → va_E), post ad1 g1 → kV p l e R s m args below meth c Q H0 B D cl nL N2 (cells + mc) (slots + ms) ad1 g1 lv st pc2) : kV p l e R s m args below meth c Q H0 B D cl nL N cells slots ad g lv st0 pc := fun H locs ls hl hP hD hS => by
  obtain ⟨hd, rfl⟩ := hd
  refine va_callv (va_runS (As := As) (rest := st) C.1 hM cw ⟨wPc_blind, wPre C hP hD hS⟩ rfl hAs hl.1 hst (lv_room hW) hd hf) hS (fun q _ h => h) (fun q h => h) (fun u t H1 locs1 ht hvm hp hB hz hk hS1 => ?_)
  obtain ⟨hP1, hD1⟩ := hB
  rw [ht] at hP1
  exact k u.1 u.2 hp H1 locs1 ls hl hP1 hD1 hS1
theorem v_callSNI {post : Int32 → (Nat → Nat) → (Nat → va_E) → Prop} (C : Cx p m c s args cc nL own Ts H0 B D cl tys Z) (hM : Met l y ws rm (wPc B D cl tys Z N (As) ad g) (QI B D cl N2 post) mc ms (aB B)) (cw : va_CN R s args own index y host bytes maxL ret ws rm mc ms n ∧ (Cond.static y).before args s = true ∧ True) (hAs : As.length = n) (hst : st0 = As.reverse ++ st) (hW : (st.map fun v => v.category).sum ≤ 8) (hd : decode cc pc = .ok (.invokestatic index, 3) ∧ pc + 3 = pc2) (hf : cells + mc ≤ R.cells ∧ slots + ms ≤ R.slots) (k : ∀ (v : Int32) (ad1 : Nat → Nat) (g1 : Nat → va_E), post v ad1 g1 → kV p l e R s m args below meth c Q H0 B D cl nL N2 (cells + mc) (slots + ms) ad1 g1 lv (.int v :: st) pc2) : kV p l e R s m args below meth c Q H0 B D cl nL N cells slots ad g lv st0 pc := fun H locs ls hl hP hD hS => by
  obtain ⟨hd, rfl⟩ := hd
  refine va_calli (va_runSN (As := As) (rest := st) C.1 hM cw ⟨wPc_blind, wPre C hP hD hS⟩ rfl hAs hl.1 hst (lv_room hW) hd hf) hS (fun q _ h => h) (fun q h => h) (fun v u t H1 locs1 ht hvm hp hB hz hk hS1 => ?_)
  obtain ⟨hP1, hD1⟩ := hB
  rw [ht] at hP1
  exact k v u.1 u.2 hp H1 locs1 ls hl hP1 hD1 hS1
theorem v_callSNV {post : (Nat → Nat) → (Nat → va_E) → Prop} (C : Cx p m c s args cc nL own Ts H0 B D cl tys Z) (hM : Met l y ws rm (wPc B D cl tys Z N (As) ad g) (QV B D cl N2 post) mc ms (aB B)) (cw : va_CN R s args own index y host bytes maxL ret ws rm mc ms n ∧ (Cond.static y).before args s = true ∧ True) (hAs : As.length = n) (hst : st0 = As.reverse ++ st) (hW : (st.map fun v => v.category).sum ≤ 8) (hd : decode cc pc = .ok (.invokestatic index, 3) ∧ pc + 3 = pc2) (hf : cells + mc ≤ R.cells ∧ slots + ms ≤ R.slots) (k : ∀ (ad1 : Nat → Nat) (g1 : Nat → va_E), post ad1 g1 → kV p l e R s m args below meth c Q H0 B D cl nL N2 (cells + mc) (slots + ms) ad1 g1 lv st pc2) : kV p l e R s m args below meth c Q H0 B D cl nL N cells slots ad g lv st0 pc := fun H locs ls hl hP hD hS => by
  obtain ⟨hd, rfl⟩ := hd
  refine va_callv (va_runSN (As := As) (rest := st) C.1 hM cw ⟨wPc_blind, wPre C hP hD hS⟩ rfl hAs hl.1 hst (lv_room hW) hd hf) hS (fun q _ h => h) (fun q h => h) (fun u t H1 locs1 ht hvm hp hB hz hk hS1 => ?_)
  obtain ⟨hP1, hD1⟩ := hB
  rw [ht] at hP1
  exact k u.1 u.2 hp H1 locs1 ls hl hP1 hD1 hS1
theorem v_callVI {post : Int32 → (Nat → Nat) → (Nat → va_E) → Prop} {r0 ci : Nat} {q0 : vw_C} {fs : List Value} (hr : r0 < N) (hg : g r0 = .inr (ci, fs)) (hcl : cl[ci]? = some q0) (hC0 : q0.1 = C0) (C : Cx p m c s args cc nL own Ts H0 B D cl tys Z) (hM : Met l y ws rm (wPc B D cl tys Z N (.ref (ad r0) :: As) ad g) (QI B D cl N2 post) mc ms (aB B)) (cw : CallW R s args own C0 index y bytes maxL ret ws rm mc ms n) (hAs : As.length = n) (hst : st0 = As.reverse ++ .ref (ad r0) :: st) (hW : (st.map fun v => v.category).sum ≤ 8) (hd : decode cc pc = .ok (.invokevirtual index, 3) ∧ pc + 3 = pc2) (hf : cells + mc ≤ R.cells ∧ slots + ms ≤ R.slots) (k : ∀ (v : Int32) (ad1 : Nat → Nat) (g1 : Nat → va_E), post v ad1 g1 → kV p l e R s m args below meth c Q H0 B D cl nL N2 (cells + mc) (slots + ms) ad1 g1 lv (.int v :: st) pc2) : kV p l e R s m args below meth c Q H0 B D cl nL N cells slots ad g lv st0 pc := fun H locs ls hl hP hD hS => by
  obtain ⟨hd, rfl⟩ := hd
  refine va_calli (va_runV (As := As) (rest := st) C.1 hM cw ⟨wPc_blind, by rw [← hC0]; exact wRecv C hP hr hg hcl, wPre C hP hD hS⟩ rfl hAs hl.1 hst (lv_room hW) hd hf) hS (fun q _ h => h) (fun q h => h) (fun v u t H1 locs1 ht hvm hp hB hz hk hS1 => ?_)
  obtain ⟨hP1, hD1⟩ := hB
  rw [ht] at hP1
  exact k v u.1 u.2 hp H1 locs1 ls hl hP1 hD1 hS1
theorem v_callVV {post : (Nat → Nat) → (Nat → va_E) → Prop} {r0 ci : Nat} {q0 : vw_C} {fs : List Value} (hr : r0 < N) (hg : g r0 = .inr (ci, fs)) (hcl : cl[ci]? = some q0) (hC0 : q0.1 = C0) (C : Cx p m c s args cc nL own Ts H0 B D cl tys Z) (hM : Met l y ws rm (wPc B D cl tys Z N (.ref (ad r0) :: As) ad g) (QV B D cl N2 post) mc ms (aB B)) (cw : CallW R s args own C0 index y bytes maxL ret ws rm mc ms n) (hAs : As.length = n) (hst : st0 = As.reverse ++ .ref (ad r0) :: st) (hW : (st.map fun v => v.category).sum ≤ 8) (hd : decode cc pc = .ok (.invokevirtual index, 3) ∧ pc + 3 = pc2) (hf : cells + mc ≤ R.cells ∧ slots + ms ≤ R.slots) (k : ∀ (ad1 : Nat → Nat) (g1 : Nat → va_E), post ad1 g1 → kV p l e R s m args below meth c Q H0 B D cl nL N2 (cells + mc) (slots + ms) ad1 g1 lv st pc2) : kV p l e R s m args below meth c Q H0 B D cl nL N cells slots ad g lv st0 pc := fun H locs ls hl hP hD hS => by
  obtain ⟨hd, rfl⟩ := hd
  refine va_callv (va_runV (As := As) (rest := st) C.1 hM cw ⟨wPc_blind, by rw [← hC0]; exact wRecv C hP hr hg hcl, wPre C hP hD hS⟩ rfl hAs hl.1 hst (lv_room hW) hd hf) hS (fun q _ h => h) (fun q h => h) (fun u t H1 locs1 ht hvm hp hB hz hk hS1 => ?_)
  obtain ⟨hP1, hD1⟩ := hB
  rw [ht] at hP1
  exact k u.1 u.2 hp H1 locs1 ls hl hP1 hD1 hS1
theorem v_callVNI {post : Int32 → (Nat → Nat) → (Nat → va_E) → Prop} {r0 ci : Nat} {q0 : vw_C} {fs : List Value} (hr : r0 < N) (hg : g r0 = .inr (ci, fs)) (hcl : cl[ci]? = some q0) (hC0 : q0.1 = C0) (C : Cx p m c s args cc nL own Ts H0 B D cl tys Z) (hM : Met l y ws rm (wPc B D cl tys Z N (.ref (ad r0) :: As) ad g) (QI B D cl N2 post) mc ms (aB B)) (cw : va_CN R s args own index y host bytes maxL ret ws rm mc ms n ∧ (Cond.instanceMethod y).before args s = true ∧ (Cond.selects C0 y y).before args s = true) (hAs : As.length = n) (hst : st0 = As.reverse ++ .ref (ad r0) :: st) (hW : (st.map fun v => v.category).sum ≤ 8) (hd : decode cc pc = .ok (.invokevirtual index, 3) ∧ pc + 3 = pc2) (hf : cells + mc ≤ R.cells ∧ slots + ms ≤ R.slots) (k : ∀ (v : Int32) (ad1 : Nat → Nat) (g1 : Nat → va_E), post v ad1 g1 → kV p l e R s m args below meth c Q H0 B D cl nL N2 (cells + mc) (slots + ms) ad1 g1 lv (.int v :: st) pc2) : kV p l e R s m args below meth c Q H0 B D cl nL N cells slots ad g lv st0 pc := fun H locs ls hl hP hD hS => by
  obtain ⟨hd, rfl⟩ := hd
  refine va_calli (va_runVN (As := As) (rest := st) C.1 hM cw ⟨wPc_blind, by rw [← hC0]; exact wRecv C hP hr hg hcl, wPre C hP hD hS⟩ rfl hAs hl.1 hst (lv_room hW) hd hf) hS (fun q _ h => h) (fun q h => h) (fun v u t H1 locs1 ht hvm hp hB hz hk hS1 => ?_)
  obtain ⟨hP1, hD1⟩ := hB
  rw [ht] at hP1
  exact k v u.1 u.2 hp H1 locs1 ls hl hP1 hD1 hS1
theorem v_callVNV {post : (Nat → Nat) → (Nat → va_E) → Prop} {r0 ci : Nat} {q0 : vw_C} {fs : List Value} (hr : r0 < N) (hg : g r0 = .inr (ci, fs)) (hcl : cl[ci]? = some q0) (hC0 : q0.1 = C0) (C : Cx p m c s args cc nL own Ts H0 B D cl tys Z) (hM : Met l y ws rm (wPc B D cl tys Z N (.ref (ad r0) :: As) ad g) (QV B D cl N2 post) mc ms (aB B)) (cw : va_CN R s args own index y host bytes maxL ret ws rm mc ms n ∧ (Cond.instanceMethod y).before args s = true ∧ (Cond.selects C0 y y).before args s = true) (hAs : As.length = n) (hst : st0 = As.reverse ++ .ref (ad r0) :: st) (hW : (st.map fun v => v.category).sum ≤ 8) (hd : decode cc pc = .ok (.invokevirtual index, 3) ∧ pc + 3 = pc2) (hf : cells + mc ≤ R.cells ∧ slots + ms ≤ R.slots) (k : ∀ (ad1 : Nat → Nat) (g1 : Nat → va_E), post ad1 g1 → kV p l e R s m args below meth c Q H0 B D cl nL N2 (cells + mc) (slots + ms) ad1 g1 lv st pc2) : kV p l e R s m args below meth c Q H0 B D cl nL N cells slots ad g lv st0 pc := fun H locs ls hl hP hD hS => by
  obtain ⟨hd, rfl⟩ := hd
  refine va_callv (va_runVN (As := As) (rest := st) C.1 hM cw ⟨wPc_blind, by rw [← hC0]; exact wRecv C hP hr hg hcl, wPre C hP hD hS⟩ rfl hAs hl.1 hst (lv_room hW) hd hf) hS (fun q _ h => h) (fun q h => h) (fun u t H1 locs1 ht hvm hp hB hz hk hS1 => ?_)
  obtain ⟨hP1, hD1⟩ := hB
  rw [ht] at hP1
  exact k u.1 u.2 hp H1 locs1 ls hl hP1 hD1 hS1
theorem v_callIV {post : (Nat → Nat) → (Nat → va_E) → Prop} {r0 : Nat} (C : Cx p m c s args cc nL own Ts H0 B D cl tys Z) (hM : Met l y ws rm (wPc B D cl tys Z N (.ref (ad r0) :: As) ad g) (QV B D cl N2 post) mc ms (aB B)) (cw : CallB R s args own index y bytes maxL none ws rm mc ms n ∧ y.name = "<init>" ∧ (Cond.instanceMethod y).before args s = true) (hAs : As.length = n) (hst : st0 = As.reverse ++ .ref (ad r0) :: st) (hW : (st.map fun v => v.category).sum ≤ 8) (hd : decode cc pc = .ok (.invokespecial index, 3) ∧ pc + 3 = pc2) (hf : cells + mc ≤ R.cells ∧ slots + ms ≤ R.slots) (k : ∀ (ad1 : Nat → Nat) (g1 : Nat → va_E), post ad1 g1 → kV p l e R s m args below meth c Q H0 B D cl nL N2 (cells + mc) (slots + ms) ad1 g1 lv st pc2) : kV p l e R s m args below meth c Q H0 B D cl nL N cells slots ad g lv st0 pc := fun H locs ls hl hP hD hS => by
  obtain ⟨hd, rfl⟩ := hd
  refine va_callv (va_runI (As := As) (rest := st) C.1 hM cw ⟨wPc_blind, wPre C hP hD hS⟩ rfl hAs hl.1 hst (lv_room hW) hd hf) hS (fun q _ h => h) (fun q h => h) (fun u t H1 locs1 ht hvm hp hB hz hk hS1 => ?_)
  obtain ⟨hP1, hD1⟩ := hB
  rw [ht] at hP1
  exact k u.1 u.2 hp H1 locs1 ls hl hP1 hD1 hS1
theorem v_callINV {post : (Nat → Nat) → (Nat → va_E) → Prop} {r0 : Nat} (C : Cx p m c s args cc nL own Ts H0 B D cl tys Z) (hM : Met l y ws rm (wPc B D cl tys Z N (.ref (ad r0) :: As) ad g) (QV B D cl N2 post) mc ms (aB B)) (cw : va_CN R s args own index y host bytes maxL none ws rm mc ms n ∧ y.name = "<init>" ∧ (Cond.instanceMethod y).before args s = true) (hAs : As.length = n) (hst : st0 = As.reverse ++ .ref (ad r0) :: st) (hW : (st.map fun v => v.category).sum ≤ 8) (hd : decode cc pc = .ok (.invokespecial index, 3) ∧ pc + 3 = pc2) (hf : cells + mc ≤ R.cells ∧ slots + ms ≤ R.slots) (k : ∀ (ad1 : Nat → Nat) (g1 : Nat → va_E), post ad1 g1 → kV p l e R s m args below meth c Q H0 B D cl nL N2 (cells + mc) (slots + ms) ad1 g1 lv st pc2) : kV p l e R s m args below meth c Q H0 B D cl nL N cells slots ad g lv st0 pc := fun H locs ls hl hP hD hS => by
  obtain ⟨hd, rfl⟩ := hd
  refine va_callv (va_runIN (As := As) (rest := st) C.1 hM cw ⟨wPc_blind, wPre C hP hD hS⟩ rfl hAs hl.1 hst (lv_room hW) hd hf) hS (fun q _ h => h) (fun q h => h) (fun u t H1 locs1 ht hvm hp hB hz hk hS1 => ?_)
  obtain ⟨hP1, hD1⟩ := hB
  rw [ht] at hP1
  exact k u.1 u.2 hp H1 locs1 ls hl hP1 hD1 hS1
theorem v_xcallSI {post : Int32 → (Nat → Nat) → (Nat → va_E) → Prop} (C : Cx p m c s args cc nL own Ts H0 B D cl tys Z) (hM : vx_Met l y ws rm (wPc B D cl tys Z N (As) ad g) (QI B D cl N2 post) (QX B D cl N xp ad g) mc ms (aB B)) (cw : CallB R s args own index y bytes maxL ret ws rm mc ms n ∧ (Cond.static y).before args s = true) (hAs : As.length = n) (hst : st0 = As.reverse ++ st) (hW : (st.map fun v => v.category).sum ≤ 8) (hd : decode cc pc = .ok (.invokestatic index, 3) ∧ pc + 3 = pc2) (hf : cells + mc ≤ R.cells ∧ slots + ms ≤ R.slots) (kx : ∀ E : String, xp E → kX p l e R s m args below meth c Q H0 B D cl nL N (cells + mc) (slots + ms) ad g lv st pc E) (k : ∀ (v : Int32) (ad1 : Nat → Nat) (g1 : Nat → va_E), post v ad1 g1 → kV p l e R s m args below meth c Q H0 B D cl nL N2 (cells + mc) (slots + ms) ad1 g1 lv (.int v :: st) pc2) : kV p l e R s m args below meth c Q H0 B D cl nL N cells slots ad g lv st0 pc := fun H locs ls hl hP hD hS => by
  obtain ⟨hd, rfl⟩ := hd
  refine vx_calli (vx_runS (As := As) (rest := st) C.1 hM cw ⟨wPc_blind, wPre C hP hD hS⟩ rfl hAs hl.1 hst (lv_room hW) hd hf) hS (fun q _ h => h) (fun q h => h) (fun q _ h => h) (fun E ce q9 u t H1 locs1 ht hvm hpx hB hz hk hS1 hce hcv hcl9 => ?_) (fun v u t H1 locs1 ht hvm hp hB hz hk hS1 => ?_)
  · obtain ⟨hE, hP1, hD1⟩ := hB
    rw [ht] at hP1
    exact kx E hE H1 locs1 ls hl hP1 hD1 hS1 q9 ce hce hcv hcl9
  · obtain ⟨hP1, hD1⟩ := hB
    rw [ht] at hP1
    exact k v u.1 u.2 hp H1 locs1 ls hl hP1 hD1 hS1
theorem v_xcallSV {post : (Nat → Nat) → (Nat → va_E) → Prop} (C : Cx p m c s args cc nL own Ts H0 B D cl tys Z) (hM : vx_Met l y ws rm (wPc B D cl tys Z N (As) ad g) (QV B D cl N2 post) (QX B D cl N xp ad g) mc ms (aB B)) (cw : CallB R s args own index y bytes maxL ret ws rm mc ms n ∧ (Cond.static y).before args s = true) (hAs : As.length = n) (hst : st0 = As.reverse ++ st) (hW : (st.map fun v => v.category).sum ≤ 8) (hd : decode cc pc = .ok (.invokestatic index, 3) ∧ pc + 3 = pc2) (hf : cells + mc ≤ R.cells ∧ slots + ms ≤ R.slots) (kx : ∀ E : String, xp E → kX p l e R s m args below meth c Q H0 B D cl nL N (cells + mc) (slots + ms) ad g lv st pc E) (k : ∀ (ad1 : Nat → Nat) (g1 : Nat → va_E), post ad1 g1 → kV p l e R s m args below meth c Q H0 B D cl nL N2 (cells + mc) (slots + ms) ad1 g1 lv st pc2) : kV p l e R s m args below meth c Q H0 B D cl nL N cells slots ad g lv st0 pc := fun H locs ls hl hP hD hS => by
  obtain ⟨hd, rfl⟩ := hd
  refine vx_callv (vx_runS (As := As) (rest := st) C.1 hM cw ⟨wPc_blind, wPre C hP hD hS⟩ rfl hAs hl.1 hst (lv_room hW) hd hf) hS (fun q _ h => h) (fun q h => h) (fun q _ h => h) (fun E ce q9 u t H1 locs1 ht hvm hpx hB hz hk hS1 hce hcv hcl9 => ?_) (fun u t H1 locs1 ht hvm hp hB hz hk hS1 => ?_)
  · obtain ⟨hE, hP1, hD1⟩ := hB
    rw [ht] at hP1
    exact kx E hE H1 locs1 ls hl hP1 hD1 hS1 q9 ce hce hcv hcl9
  · obtain ⟨hP1, hD1⟩ := hB
    rw [ht] at hP1
    exact k u.1 u.2 hp H1 locs1 ls hl hP1 hD1 hS1
theorem v_xcallVI {post : Int32 → (Nat → Nat) → (Nat → va_E) → Prop} {r0 ci : Nat} {q0 : vw_C} {fs : List Value} (hr : r0 < N) (hg : g r0 = .inr (ci, fs)) (hcl : cl[ci]? = some q0) (hC0 : q0.1 = C0) (C : Cx p m c s args cc nL own Ts H0 B D cl tys Z) (hM : vx_Met l y ws rm (wPc B D cl tys Z N (.ref (ad r0) :: As) ad g) (QI B D cl N2 post) (QX B D cl N xp ad g) mc ms (aB B)) (cw : CallW R s args own C0 index y bytes maxL ret ws rm mc ms n) (hAs : As.length = n) (hst : st0 = As.reverse ++ .ref (ad r0) :: st) (hW : (st.map fun v => v.category).sum ≤ 8) (hd : decode cc pc = .ok (.invokevirtual index, 3) ∧ pc + 3 = pc2) (hf : cells + mc ≤ R.cells ∧ slots + ms ≤ R.slots) (kx : ∀ E : String, xp E → kX p l e R s m args below meth c Q H0 B D cl nL N (cells + mc) (slots + ms) ad g lv st pc E) (k : ∀ (v : Int32) (ad1 : Nat → Nat) (g1 : Nat → va_E), post v ad1 g1 → kV p l e R s m args below meth c Q H0 B D cl nL N2 (cells + mc) (slots + ms) ad1 g1 lv (.int v :: st) pc2) : kV p l e R s m args below meth c Q H0 B D cl nL N cells slots ad g lv st0 pc := fun H locs ls hl hP hD hS => by
  obtain ⟨hd, rfl⟩ := hd
  refine vx_calli (vx_runV (As := As) (rest := st) C.1 hM cw ⟨wPc_blind, by rw [← hC0]; exact wRecv C hP hr hg hcl, wPre C hP hD hS⟩ rfl hAs hl.1 hst (lv_room hW) hd hf) hS (fun q _ h => h) (fun q h => h) (fun q _ h => h) (fun E ce q9 u t H1 locs1 ht hvm hpx hB hz hk hS1 hce hcv hcl9 => ?_) (fun v u t H1 locs1 ht hvm hp hB hz hk hS1 => ?_)
  · obtain ⟨hE, hP1, hD1⟩ := hB
    rw [ht] at hP1
    exact kx E hE H1 locs1 ls hl hP1 hD1 hS1 q9 ce hce hcv hcl9
  · obtain ⟨hP1, hD1⟩ := hB
    rw [ht] at hP1
    exact k v u.1 u.2 hp H1 locs1 ls hl hP1 hD1 hS1
theorem v_xcallVV {post : (Nat → Nat) → (Nat → va_E) → Prop} {r0 ci : Nat} {q0 : vw_C} {fs : List Value} (hr : r0 < N) (hg : g r0 = .inr (ci, fs)) (hcl : cl[ci]? = some q0) (hC0 : q0.1 = C0) (C : Cx p m c s args cc nL own Ts H0 B D cl tys Z) (hM : vx_Met l y ws rm (wPc B D cl tys Z N (.ref (ad r0) :: As) ad g) (QV B D cl N2 post) (QX B D cl N xp ad g) mc ms (aB B)) (cw : CallW R s args own C0 index y bytes maxL ret ws rm mc ms n) (hAs : As.length = n) (hst : st0 = As.reverse ++ .ref (ad r0) :: st) (hW : (st.map fun v => v.category).sum ≤ 8) (hd : decode cc pc = .ok (.invokevirtual index, 3) ∧ pc + 3 = pc2) (hf : cells + mc ≤ R.cells ∧ slots + ms ≤ R.slots) (kx : ∀ E : String, xp E → kX p l e R s m args below meth c Q H0 B D cl nL N (cells + mc) (slots + ms) ad g lv st pc E) (k : ∀ (ad1 : Nat → Nat) (g1 : Nat → va_E), post ad1 g1 → kV p l e R s m args below meth c Q H0 B D cl nL N2 (cells + mc) (slots + ms) ad1 g1 lv st pc2) : kV p l e R s m args below meth c Q H0 B D cl nL N cells slots ad g lv st0 pc := fun H locs ls hl hP hD hS => by
  obtain ⟨hd, rfl⟩ := hd
  refine vx_callv (vx_runV (As := As) (rest := st) C.1 hM cw ⟨wPc_blind, by rw [← hC0]; exact wRecv C hP hr hg hcl, wPre C hP hD hS⟩ rfl hAs hl.1 hst (lv_room hW) hd hf) hS (fun q _ h => h) (fun q h => h) (fun q _ h => h) (fun E ce q9 u t H1 locs1 ht hvm hpx hB hz hk hS1 hce hcv hcl9 => ?_) (fun u t H1 locs1 ht hvm hp hB hz hk hS1 => ?_)
  · obtain ⟨hE, hP1, hD1⟩ := hB
    rw [ht] at hP1
    exact kx E hE H1 locs1 ls hl hP1 hD1 hS1 q9 ce hce hcv hcl9
  · obtain ⟨hP1, hD1⟩ := hB
    rw [ht] at hP1
    exact k u.1 u.2 hp H1 locs1 ls hl hP1 hD1 hS1
end CT
