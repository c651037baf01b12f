/-! what the start gives for good -/
abbrev nest1 : Cond := .methodLinkNest R_A 60 y_S_init R_A
abbrev nest2 : Cond := .methodLinkNest R_A 61 y_W_init R_A
abbrev nest3 : Cond := .methodLinkNest R_W 53 y_A_cellAt R_A
abbrev nest4 : Cond := .methodLinkNest R_S 57 y_A_cellAt R_A
abbrev nest5 : Cond := .methodLinkNest R_S 70 y_A_addEach R_A
/-- words of the tables that stay though they aren't good ones -/
def fW : List Cond := lw_tbl.filter (fun w => w.onTables && w.keepsFace)
def strL : List (Nat × String) := [(64, "a picture has 1 to 16 columns and 1 to 16 rows"), (195, "no such pixel"), (205, "not in this state"), (92, "what is 0, 1 or 2"), (197, "no such shelf"), (103, "no direction"), (109, "another shelf has this direction"), (115, "what is 0 to 3"), (199, "no such bin"), (201, "a mask is 0 to 255"), (172, "what is 0 or 1")]
def ncL : List (String × String) := [("java/lang/IndexOutOfBoundsException", "java/lang/IllegalArgumentException"), ("java/lang/IllegalStateException", "java/lang/IllegalArgumentException"), ("java/lang/IllegalArgumentException", "java/lang/IndexOutOfBoundsException"), ("java/lang/IllegalStateException", "java/lang/IndexOutOfBoundsException"), ("java/lang/IllegalArgumentException", "java/lang/IllegalStateException"), ("java/lang/IndexOutOfBoundsException", "java/lang/IllegalStateException")]
def Zs (B : Nat) : ZT := fun U H => (va_Nw nest1 U ∧ va_Nw nest2 U ∧ va_Nw nest3 U ∧ va_Nw nest4 U ∧ va_Nw nest5 U) ∧ (va_AO "ShadowArchive$Shelf" U ∧ va_AO "ShadowArchive$Worksheet" U) ∧ (∀ w ∈ fW, va_Nw w U) ∧ (∀ q ∈ strL, ∃ a, vk_R R_A q.1 q.2 a U) ∧ vx_Zq Bundle.tN "UNASSIGNED_STACK" Bundle.steD (aB B) U H ∧ vx_Zq Bundle.tN "SUPPRESSED_SENTINEL" Bundle.listD (aB B) U H ∧ ∀ q ∈ ncL, va_Nc q.1 q.2 U
theorem fW_p {w : Cond} (h : w ∈ fW) : w.onTables = true ∧ w.keepsFace = true := by
  have := (List.mem_filter.mp h).2
  simpa using this
theorem Zs_mov (B : Nat) : Zmov B (Zs B) := by
  refine ⟨fun s U H H1 hW hsz hk hz => ?_, fun U U' H hv hz => ?_⟩
  · obtain ⟨⟨a1, a2, a3, a4, a5⟩, ⟨b1, b2⟩, c, d, e1, e2, nc⟩ := hz
    refine ⟨⟨va_Nw.warmM hW a1, va_Nw.warmM hW a2, va_Nw.warmM hW a3, va_Nw.warmM hW a4, va_Nw.warmM hW a5⟩, ⟨b1.moved hW.alike, b2.moved hW.alike⟩, fun w hw => ?_, fun q hq => ?_, (e1.kept hk).moved hW.alike, (e2.kept hk).moved hW.alike, fun q hq => (nc q hq).moved hW.alike⟩
    · exact va_tabs (fW_p hw).1 (rfl : (s.setVm U.vm).vm = U.vm) (Cond.before_shiftedFace (State.Shifted.of_warmed hW) w (fW_p hw).2 (c w hw))
    · obtain ⟨a, h⟩ := d q hq
      exact ⟨a, vk_R.warm hW h⟩
  · obtain ⟨⟨a1, a2, a3, a4, a5⟩, ⟨b1, b2⟩, c, d, e1, e2, nc⟩ := hz
    have hA : U.vm.Alike U'.vm := by rw [hv]; exact Vm.Alike.refl _
    refine ⟨⟨va_Nw.same rfl hv a1, va_Nw.same rfl hv a2, va_Nw.same rfl hv a3, va_Nw.same rfl hv a4, va_Nw.same rfl hv a5⟩, ⟨b1.moved hA, b2.moved hA⟩, fun w hw => va_Nw.same (fW_p hw).1 hv (c w hw), fun q hq => ?_, e1.moved hA, e2.moved hA, fun q hq => (nc q hq).moved hA⟩
    obtain ⟨a, h⟩ := d q hq
    exact ⟨a, vk_R.same hv.symm h⟩
theorem fW_w {args : Array Value} {U : State} {w : Cond} (h : va_Nw w U) (hw : w ∈ fW) : w.before args U = true := va_Nw.use (fW_p hw).1 h
abbrev at_iae : List Cond := vx_atS R_A 66 "java/lang/IllegalArgumentException" ["java/lang/RuntimeException", "java/lang/Exception"]
theorem at_iae_in : ∀ w ∈ at_iae, w ∈ lw_tbl := by decide +kernel
theorem at_iae_ok : ∀ w ∈ at_iae, goodWord w = true ∨ (w.onTables && w.keepsFace) = true := by decide +kernel
theorem at_iae_ot : ∀ w ∈ Cond.classLink R_A 62 "java/lang/IllegalArgumentException" :: Cond.initialized "java/lang/IllegalArgumentException" :: at_iae, vx_ot w = true := by decide +kernel
abbrev at_ioo : List Cond := vx_atS R_A 94 "java/lang/IndexOutOfBoundsException" ["java/lang/RuntimeException", "java/lang/Exception"]
theorem at_ioo_in : ∀ w ∈ at_ioo, w ∈ lw_tbl := by decide +kernel
theorem at_ioo_ok : ∀ w ∈ at_ioo, goodWord w = true ∨ (w.onTables && w.keepsFace) = true := by decide +kernel
theorem at_ioo_ot : ∀ w ∈ Cond.classLink R_A 90 "java/lang/IndexOutOfBoundsException" :: Cond.initialized "java/lang/IndexOutOfBoundsException" :: at_ioo, vx_ot w = true := by decide +kernel
abbrev at_ise : List Cond := vx_atS R_A 207 "java/lang/IllegalStateException" ["java/lang/RuntimeException", "java/lang/Exception"]
theorem at_ise_in : ∀ w ∈ at_ise, w ∈ lw_tbl := by decide +kernel
theorem at_ise_ok : ∀ w ∈ at_ise, goodWord w = true ∨ (w.onTables && w.keepsFace) = true := by decide +kernel
theorem at_ise_ot : ∀ w ∈ Cond.classLink R_A 203 "java/lang/IllegalStateException" :: Cond.initialized "java/lang/IllegalStateException" :: at_ise, vx_ot w = true := by decide +kernel
section VT
variable {p : Program} {l : Launch} {e : Env} {R : Room} {s : State} {m : MethodId} {args : Array Value} {below : List Frame} {meth : Method} {c : Code} {Q : State → Prop} {B : Nat} {D : va_G} {tys : List (ClassId × FieldType)} {cc : ByteArray} {nL N : Nat} {cells slots : Nat} {ad : Nat → Nat} {g : Nat → va_E} {lv : List (Nat × Value)} {st : List Value} {pc : Nat} {mc ms : Nat} {Qc : Array Value → State → Outcome → State → Prop} {xp : String → Prop}
/-- throw new E("text") -/
theorem v_throwS {cls text : String} {ik is ic : Nat} {names : List String} (C : Cx p m c s args cc nL R_A wG s.heap B D classes tys (Zs B)) (hl : l.stackTraces = false) (hQ : Q = vx_MQ below Qc (QX B D classes N xp ad g) args s mc ms (aB B)) (hlocks : meth.locks = false) (htab : ∀ x ∈ c.exceptionTable.toList, False)
    (hk : Cond.classLink R_A ik cls ∈ wG) (hini : Cond.initialized cls ∈ wG) (hin : ∀ w ∈ vx_atS R_A ic cls names, w ∈ lw_tbl) (hok : ∀ w ∈ vx_atS R_A ic cls names, goodWord w = true ∨ (w.onTables && w.keepsFace) = true) (hot : ∀ w ∈ Cond.classLink R_A ik cls :: Cond.initialized cls :: vx_atS R_A ic cls names, vx_ot w = true) (hcls : Bundle.fit cls = true) (hnames : ∀ n ∈ names, Bundle.fit n = true) (hstr : (is, text) ∈ strL)
    (d0 : decode cc pc = .ok (.new ik, 3)) (d3 : decode cc (pc + 3) = .ok (.dup, 1)) (d4 : decode cc (pc + 4) = .ok (.ldc is, 2)) (d6 : decode cc (pc + 6) = .ok (.invokespecial ic, 3)) (d9 : decode cc (pc + 9) = .ok (.athrow, 1))
    (hf : names.length + 3 < R.frames) (hq : (st.map fun v => v.category).sum + (13 * (names.length + 1) + 43) ≤ R.locals) (hc : cells + 1 ≤ R.cells) (hs : slots + 6 ≤ R.slots) (hc2 : cells + 1 ≤ mc) (hs2 : slots + 6 ≤ ms) (hx : xp cls) : kV p l e R s m args below meth c Q s.heap B D classes nL N cells slots ad g lv st pc := fun H locs ls hl9 hP hD hS => by
  subst hQ
  obtain ⟨-, -, hfw, hst, e1, e2, -⟩ := C.2.2.2.1
  obtain ⟨sa, hsa⟩ := hst (is, text) hstr
  have hts := C.1.2.2.2.2
  refine vx_throwS (A := aB B) C.1.1 C.1.2.1 hl C.1.2.2.2.1 hcls hnames (hts _ hk) (hts _ hini) hsa (fun w hw => ?_) hot e1 e2 hS (hl9.1.trans C.1.2.2.1.symm) d0 d3 d4 d6 d9 (fun x hx => (htab x hx).elim) hf hq hc hs hlocks (fun t ha hsz h3 => ⟨(), trivial, ⟨hx, hP.kept (fun k q hk => h3 q.1 (hP k q hk).lt), hD⟩, Nat.le_trans hS.1 hsz, fun q h1 h2 => (h3 q (Nat.lt_of_lt_of_le h1 hS.1)).trans (hS.2.1 q h1 h2)⟩) hS.2.2 hc2 hs2
  rcases hok w hw with h | h
  · exact hts w (List.mem_filter.mpr ⟨hin w hw, h⟩)
  · exact fW_w (hfw w (List.mem_filter.mpr ⟨hin w hw, h⟩)) (List.mem_filter.mpr ⟨hin w hw, h⟩)
end VT
