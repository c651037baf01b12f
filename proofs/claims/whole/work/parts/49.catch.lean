/-! methods that catch -/
theorem ca_iae : Cond.castable "java/lang/IllegalArgumentException" "java/lang/IllegalArgumentException" ∈ fW := List.mem_filter.mpr ⟨by decide +kernel, by decide +kernel⟩
theorem ca_ioo : Cond.castable "java/lang/IndexOutOfBoundsException" "java/lang/IndexOutOfBoundsException" ∈ fW := List.mem_filter.mpr ⟨by decide +kernel, by decide +kernel⟩
theorem ca_ise : Cond.castable "java/lang/IllegalStateException" "java/lang/IllegalStateException" ∈ fW := List.mem_filter.mpr ⟨by decide +kernel, by decide +kernel⟩
section CH
variable {p : Program} {l : Launch} {e : Env} {R : Room} {s : State} {m : MethodId} {args : Array Value} {below : List Frame} {meth : Method} {c : Code} {Q : State → Prop} {H0 : Heap} {B : Nat} {D : va_G} {cl : List vw_C} {tys : List (ClassId × FieldType)} {Z : ZT} {cc : ByteArray} {nL N N2 : Nat} {own : String} {Ts : List Cond} {cells slots : Nat} {ad : Nat → Nat} {g : Nat → va_E} {lv : List (Nat × Value)} {st st0 : List Value} {pc pc2 : Nat}
variable {y : MethodName} {bytes : ByteArray} {maxL mc ms n index : Nat} {ret : Option FieldType} {ws : List Cond} {rm : Room} {As : List Value} {xp : String → Prop} {hh : List (Nat × Nat × Nat × Nat)}
theorem ofH {post : Int32 → (Nat → Nat) → (Nat → va_E) → Prop} (hy : plainName y.cls = true) (hown : y.cls = own) (hlen : (lg_sl As).length ≤ maxL)
    (body : ∀ (p : Program) (e : Env) (s : State) (m : MethodId) (below : List Frame) (meth : Method) (c : Code) (Q : State → Prop), Cx p m c s As.toArray cc maxL own Ts s.heap B D cl tys Z → c.exceptionTable.toList = tableOf hh → (∀ (cells slots : Nat) (ad1 : Nat → Nat) (g1 : Nat → va_E) (lv : List (Nat × Value)) (v : Int32) (pc : Nat), cells ≤ mc → slots ≤ ms → decode cc pc = .ok (.ireturn, 1) → post v ad1 g1 → kV p l e rm s m As.toArray below meth c Q s.heap B D cl maxL N2 cells slots ad1 g1 lv [.int v] pc) → kV p l e rm s m As.toArray below meth c Q s.heap B D cl maxL N 0 0 ad g (lv_args 0 As) [] 0) : vx_Met l y (Cond.codeWith y cc maxL (some .int) hh :: Ts) rm (wPc B D cl tys Z N As ad g) (QI B D cl N2 post) (QX B D cl N (fun _ => False) ad g) mc ms (aB B) := by
  refine vx_ofWH (cc := cc) (maxL := maxL) (ret := some .int) (hh := hh) hy rfl ?_
  intro p e s m args below meth c s₁ B9 hml hv
  obtain ⟨rfl, hsz, hK, hZ, hZm, hP, hD⟩ := hv
  have hx := B9.exec
  have hb := B9.bytes
  have hr := B9.returns
  have hts := atoms_spec (ws := Cond.codeWith y cc maxL (some .int) hh :: Ts) B9.pre
  have htab := vx_table (x := y) B9 (hts _ List.mem_cons_self)
  rw [lg_entry_eq]
  refine body p e s m below meth c _ ⟨⟨hx, hb, hml, by rw [← hown]; exact findClass_of_methodNamed B9.named, fun w hw => hts w (List.mem_cons_of_mem _ hw)⟩, hK, hsz, hZ, hZm⟩ htab (fun cells slots ad1 g1 lv v pc h1 h2 hd hp H locs ls hl hP hD hS => ?_) s.heap [] _ (lv_entry As hlen) hP hD va_S.rf
  refine W.widen h1 h2 (vx_ret ?_)
  exact W.iret hx hb hr (fun t ht hW => ⟨⟨v, (ad1, g1), rfl, hp, by rw [ht]; exact hP, hD⟩, hS.F ht⟩) hS.2.2 hd
theorem v_catch {E name : String} (C : Cx p m c s args cc nL own Ts H0 B D cl tys Z) (pre : List ExceptionTableEntry) (x : ExceptionTableEntry) (suf : List ExceptionTableEntry) (htab : c.exceptionTable.toList = pre ++ x :: suf) (hpass : ∀ z ∈ pre, covers z pc = false ∨ (z.catchType ≠ 0 ∧ ∃ nm : String, Cond.classLink own z.catchType nm ∈ Ts ∧ va_Nc E nm s)) (hx : covers x pc = true) (h0 : x.catchType ≠ 0) (hlink : Cond.classLink own x.catchType name ∈ Ts) (hcast : (Cond.castable E name).before args s = true) (k : ∀ q : Addr, kV p l e R s m args below meth c Q H0 B D cl nL N cells slots ad g lv [.ref q] x.handlerPc) : kX p l e R s m args below meth c Q H0 B D cl nL N cells slots ad g lv st pc E := fun H locs ls hl hP hD hS q ce hce hcv hcl =>
  vx_catch (own := own) (name := name) C.1.2.2.2.1 pre x suf htab (fun z hz => (hpass z hz).imp_right (fun ⟨h1, nm, h2, h3⟩ => ⟨h1, nm, C.1.2.2.2.2 _ h2, h3⟩)) hx h0 (C.1.2.2.2.2 _ hlink) hcast hce hcv hcl (k q H locs ls hl hP hD hS)
theorem v_xcallSH {post : Int32 → (Nat → Nat) → (Nat → va_E) → Prop} (C : Cx p m c s args cc nL own Ts H0 B D cl tys Z) (hM : vx_Met l y ws rm (wPc B D cl tys Z N As ad g) (QI B D cl N2 post) (QX B D cl N (fun _ => False) ad g) mc ms (aB B)) (cw : vx_CSW R s args own index y bytes maxL ret hh ws rm mc ms n) (hAs : As.length = n) (hst : st0 = As.reverse ++ st) (hW : (st.map fun v => v.category).sum ≤ 8) (hd : decode cc pc = .ok (.invokestatic index, 3) ∧ pc + 3 = pc2) (hf : cells + mc ≤ R.cells ∧ slots + ms ≤ R.slots) (k : ∀ (v : Int32) (ad1 : Nat → Nat) (g1 : Nat → va_E), post v ad1 g1 → kV p l e R s m args below meth c Q H0 B D cl nL N2 (cells + mc) (slots + ms) ad1 g1 lv (.int v :: st) pc2) : kV p l e R s m args below meth c Q H0 B D cl nL N cells slots ad g lv st0 pc := fun H locs ls hl hP hD hS => by
  obtain ⟨hd, rfl⟩ := hd
  refine vx_calli (vx_runSX (As := As) (rest := st) C.1 hM cw ⟨wPc_blind, wPre C hP hD hS⟩ rfl hAs hl.1 hst (lv_room hW) hd hf) hS (fun q _ h => h) (fun q h => h) (fun q _ h => h) (fun E ce q9 u t H1 locs1 ht hvm hpx hB hz hk hS1 hce hcv hcl9 => hB.1.elim) (fun v u t H1 locs1 ht hvm hp hB hz hk hS1 => ?_)
  obtain ⟨hP1, hD1⟩ := hB
  rw [ht] at hP1
  exact k v u.1 u.2 hp H1 locs1 ls hl hP1 hD1 hS1
end CH
