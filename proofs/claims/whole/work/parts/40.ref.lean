/-! the reference's cells -/
abbrev bA (f : Nat → Bool) : Nat → Int32 := fun k => bI (f k)
abbrev jA (f : Nat → Int) : Nat → Int32 := fun k => iI (f k)
def uP {α : Type} (f : Nat → α) (i : Nat) (x : α) : Nat → α := fun k => if k = i then x else f k
theorem uP_s {α : Type} {f : Nat → α} {i : Nat} {x : α} : uP f i x i = x := if_pos rfl
theorem uP_n {α : Type} {f : Nat → α} {i k : Nat} {x : α} (h : k ≠ i) : uP f i x k = f k := if_neg h
theorem upd_bA {f : Nat → Bool} {i : Nat} {b : Bool} : upd (bA f) i (vp_nar .boolean (bI b)) = bA (uP f i b) := by
  funext k
  by_cases h : k = i
  · subst h; rw [pk_us, bI_nar]; show bI b = bI (uP f k b k); rw [uP_s]
  · rw [pk_un h]; show bI (f k) = bI (uP f i b k); rw [uP_n h]
theorem upd_jA {f : Nat → Int} {i : Nat} {x : Int} : upd (jA f) i (iI x) = jA (uP f i x) := by
  funext k
  by_cases h : k = i
  · subst h; rw [pk_us]; show iI x = iI (uP f k x k); rw [uP_s]
  · rw [pk_un h]; show iI (f k) = iI (uP f i x k); rw [uP_n h]
abbrev mE (ad : Nat → Nat) (th w h : Int) (kp hb : Bool) (tr sq wm : Int) : va_E := .inr (3, [.int (iI th), .int (iI w), .int (iI h), .ref (ad 74), .ref (ad 75), .ref (ad 76), .ref (ad 77), .ref (ad 78), .int (bI kp), .int (bI hb), .ref (ad 79), .ref (ad 80), .ref (ad 81), .ref (ad 82), .ref (ad 83), .ref (ad 84), .ref (ad 85), .ref (ad 86), .ref (ad 87), .ref (ad 88), .ref (ad 89), .ref (ad 90), .int (iI tr), .ref (ad 91), .int (iI sq), .int (iI wm), .ref (ad 92), .ref (ad 93)])
section VM
variable {p : Program} {l : Launch} {e : Env} {R : Room} {s : State} {m : MethodId} {args : Array Value} {below : List Frame} {meth : Method} {c : Code} {Q : State → Prop} {H0 : Heap} {B : Nat} {D : va_G} {cl : List vw_C} {tys : List (ClassId × FieldType)} {Z : ZT} {cc : ByteArray} {nL N : Nat} {own : String} {Ts : List Cond} {cells slots : Nat} {ad : Nat → Nat} {g : Nat → va_E} {lv : List (Nat × Value)} {st : List Value} {pc pc2 : Nat}
theorem v_zaldB {r n : Nat} {f : Nat → Bool} (C : Cx p m c s args cc nL own Ts H0 B D cl tys Z) (t0 : Nat) {cA : ClassId} (hr : r < N) (hg : g r = inA cA n (bA f)) (ht : tys[t0]? = some (cA, .boolean)) {z : Int} (i0 : Nat) (hz : z = (i0 : Int)) (hi0 : i0 < n) (hn9 : n < 2147483648) (hd : decode cc pc = .ok (.baload, 1) ∧ pc + 1 = pc2) (k : kV p l e R s m args below meth c Q H0 B D cl nL N cells slots ad g lv (.int (bI (f i0)) :: st) pc2) : kV p l e R s m args below meth c Q H0 B D cl nL N cells slots ad g lv (.int (iI z) :: .ref (ad r) :: st) pc := v_zald C t0 hr hg ht i0 hz hi0 hn9 hd k
theorem v_ialdI {r n : Nat} {f : Nat → Int} (C : Cx p m c s args cc nL own Ts H0 B D cl tys Z) (t0 : Nat) {cA : ClassId} (hr : r < N) (hg : g r = inA cA n (jA f)) (ht : tys[t0]? = some (cA, .int)) {z : Int} (i0 : Nat) (hz : z = (i0 : Int)) (hi0 : i0 < n) (hn9 : n < 2147483648) (hd : decode cc pc = .ok (.iaload, 1) ∧ pc + 1 = pc2) (k : kV p l e R s m args below meth c Q H0 B D cl nL N cells slots ad g lv (.int (iI (f i0)) :: st) pc2) : kV p l e R s m args below meth c Q H0 B D cl nL N cells slots ad g lv (.int (iI z) :: .ref (ad r) :: st) pc := v_iald C t0 hr hg ht i0 hz hi0 hn9 hd k
theorem v_zastB {r n : Nat} {f : Nat → Bool} (b : Bool) (C : Cx p m c s args cc nL own Ts H0 B D cl tys Z) (t0 : Nat) {cA : ClassId} (hr : r < N) (hg : g r = inA cA n (bA f)) (ht : tys[t0]? = some (cA, .boolean)) {z : Int} (i0 : Nat) (hz : z = (i0 : Int)) (hi0 : i0 < n) (hn9 : n < 2147483648) (hd : decode cc pc = .ok (.bastore, 1) ∧ pc + 1 = pc2) (k : ∀ g1 : Nat → va_E, g1 r = inA cA n (bA (uP f i0 b)) → (∀ r1, r1 ≠ r → g1 r1 = g r1) → kV p l e R s m args below meth c Q H0 B D cl nL N cells slots ad g1 lv st pc2) : kV p l e R s m args below meth c Q H0 B D cl nL N cells slots ad g lv (.int (bI b) :: .int (iI z) :: .ref (ad r) :: st) pc := v_zast C t0 hr hg ht i0 hz hi0 hn9 hd (fun g1 h1 h2 => k g1 (h1.trans (by rw [upd_bA])) h2)
theorem v_iastI {r n : Nat} {f : Nat → Int} {x : Int} (C : Cx p m c s args cc nL own Ts H0 B D cl tys Z) (t0 : Nat) {cA : ClassId} (hr : r < N) (hg : g r = inA cA n (jA f)) (ht : tys[t0]? = some (cA, .int)) {z : Int} (i0 : Nat) (hz : z = (i0 : Int)) (hi0 : i0 < n) (hn9 : n < 2147483648) (hd : decode cc pc = .ok (.iastore, 1) ∧ pc + 1 = pc2) (k : ∀ g1 : Nat → va_E, g1 r = inA cA n (jA (uP f i0 x)) → (∀ r1, r1 ≠ r → g1 r1 = g r1) → kV p l e R s m args below meth c Q H0 B D cl nL N cells slots ad g1 lv st pc2) : kV p l e R s m args below meth c Q H0 B D cl nL N cells slots ad g lv (.int (iI x) :: .int (iI z) :: .ref (ad r) :: st) pc := v_iast C t0 hr hg ht i0 hz hi0 hn9 hd (fun g1 h1 h2 => k g1 (h1.trans (by rw [upd_jA])) h2)
end VM
theorem uP_all {α : Type} {f : Nat → α} {i : Nat} {x : α} (hf : ∀ k, k < i → f k = x) : ∀ k, k < i + 1 → uP f i x k = x := fun k hk => by
  by_cases h : k = i
  · rw [h, uP_s]
  · rw [uP_n h]; exact hf k (by omega)
set_option maxHeartbeats 1000000 in
set_option maxRecDepth 100000 in
theorem c_Mthrown (l : Launch) {B : Nat} {D : va_G} {cI cZ cL cS cW : ClassId} {ad : Nat → Nat} {g : Nat → va_E} (th : Int) (w h : Nat) (kp hb : Bool) (tr sq wm : Int) (hm : g 73 = mE ad th w h kp hb tr sq wm) : Met l y_M_thrown (Cond.code y_M_thrown b_M_thrown 1 (some .int) :: wG) (rmF 0 0 0 0) (wPc B D classes (tyL cI cZ cL cS cW) (Zs B) 95 [.ref (ad 73)] ad g) (QI B D classes 95 (fun v ad1 g1 => v = iI th ∧ ad = ad1 ∧ g = g1)) 0 0 (aB B) := by
  refine ofI (own := R_M) (by decide) rfl (Nat.le_of_ble_eq_true rfl) ?_
  intro p e s m below meth c Q C hnm hret
  change kV _ _ _ _ _ _ _ _ _ _ _ _ _ _ _ _ _ _ _ _ _ [(0, .ref (ad 73))] _ _
  refine v_aload_n C d_M_thrown_0 rfl 0 rfl ?_
  refine gf_M_81 C (by omega) hm rfl d_M_thrown_1 ?_
  exact hret _ _ _ _ _ _ _ (Nat.zero_le _) (Nat.zero_le _) d_M_thrown_4 ⟨rfl, rfl, rfl⟩
set_option maxHeartbeats 1000000 in
set_option maxRecDepth 100000 in
theorem c_throwing (l : Launch) {B : Nat} {D : va_G} {cI cZ cL cS cW : ClassId} {ad : Nat → Nat} {g : Nat → va_E} (th : Int) (w h : Nat) (kp hb : Bool) (tr sq wm : Int) (a b : Bool) (hm : g 73 = mE ad th w h kp hb tr sq wm) : Met l y_M_throwing (Cond.code y_M_throwing b_M_throwing 3 (some .boolean) :: wG) (rmF 0 0 0 0) (wPc B D classes (tyL cI cZ cL cS cW) (Zs B) 95 [.ref (ad 73), .int (bI a), .int (bI b)] ad g) (QI B D classes 95 (fun v9 ad1 g1 => ∃ v, v9 = bI v ∧ (((a = true ∧ v = true ∧ g1 73 = mE ad 1 w h kp hb tr sq wm) ∨ (a = false ∧ b = true ∧ v = true ∧ g1 73 = mE ad 2 w h kp hb tr sq wm) ∨ (a = false ∧ b = false ∧ v = false ∧ g1 73 = mE ad 0 w h kp hb tr sq wm)) ∧ ad = ad1 ∧ ∀ r1, r1 ≠ 73 → g1 r1 = g r1))) 0 0 (aB B) := by
  refine ofZ (own := R_M) (by decide) rfl (Nat.le_of_ble_eq_true rfl) ?_
  intro p e s m below meth c Q C hnm hret
  change kV _ _ _ _ _ _ _ _ _ _ _ _ _ _ _ _ _ _ _ _ _ [(0, .ref (ad 73)), (1, .int (bI a)), (2, .int (bI b))] _ _
  refine v_aload_n C d_M_throwing_0 rfl 0 rfl ?_
  refine v_iload_n C d_M_throwing_1 rfl 1 rfl ?_
  refine v_if_eqB C d_M_throwing_2 (fun hb2 => ?_) (fun hb2 => ?_)
  · refine v_iload_n C d_M_throwing_9 rfl 2 rfl ?_
    refine v_if_eqB C d_M_throwing_10 (fun hb10 => ?_) (fun hb10 => ?_)
    · refine v_iconst C d_M_throwing_17 ?_
      refine pf_M_81 (fs' := [.int (iI 0), .int (iI (w : Int)), .int (iI (h : Int)), .ref (ad 74), .ref (ad 75), .ref (ad 76), .ref (ad 77), .ref (ad 78), .int (bI kp), .int (bI hb), .ref (ad 79), .ref (ad 80), .ref (ad 81), .ref (ad 82), .ref (ad 83), .ref (ad 84), .ref (ad 85), .ref (ad 86), .ref (ad 87), .ref (ad 88), .ref (ad 89), .ref (ad 90), .int (iI tr), .ref (ad 91), .int (iI sq), .int (iI wm), .ref (ad 92), .ref (ad 93)]) C (by omega) hm rfl rfl (Nat.le_of_ble_eq_true rfl) rfl d_M_throwing_18 (fun g1 hm fr2 => ?_)
      refine v_aload_n C d_M_throwing_21 rfl 0 rfl ?_
      refine gf_M_81 C (by omega) hm rfl d_M_throwing_22 ?_
      refine v_if_leI C d_M_throwing_25 (by omega) (by omega) (fun _ => ?_) (fun hz9 => absurd hz9 (by omega))
      refine v_iconst C d_M_throwing_32 ?_
      exact hret _ _ _ _ _ false _ (Nat.zero_le _) (Nat.zero_le _) d_M_throwing_33 ⟨Or.inr (Or.inr ⟨hb2, hb10, rfl, hm⟩), rfl, (fun r1 n0 => (fr2 r1 n0))⟩
    · refine v_iconst C d_M_throwing_13 ?_
      refine v_goto C d_M_throwing_14 ?_
      refine pf_M_81 (fs' := [.int (iI 2), .int (iI (w : Int)), .int (iI (h : Int)), .ref (ad 74), .ref (ad 75), .ref (ad 76), .ref (ad 77), .ref (ad 78), .int (bI kp), .int (bI hb), .ref (ad 79), .ref (ad 80), .ref (ad 81), .ref (ad 82), .ref (ad 83), .ref (ad 84), .ref (ad 85), .ref (ad 86), .ref (ad 87), .ref (ad 88), .ref (ad 89), .ref (ad 90), .int (iI tr), .ref (ad 91), .int (iI sq), .int (iI wm), .ref (ad 92), .ref (ad 93)]) C (by omega) hm rfl rfl (Nat.le_of_ble_eq_true rfl) rfl d_M_throwing_18 (fun g3 hm fr4 => ?_)
      refine v_aload_n C d_M_throwing_21 rfl 0 rfl ?_
      refine gf_M_81 C (by omega) hm rfl d_M_throwing_22 ?_
      refine v_if_leI C d_M_throwing_25 (by omega) (by omega) (fun hz9 => absurd hz9 (by omega)) (fun _ => ?_)
      refine v_iconst C d_M_throwing_28 ?_
      refine v_goto C d_M_throwing_29 ?_
      exact hret _ _ _ _ _ true _ (Nat.zero_le _) (Nat.zero_le _) d_M_throwing_33 ⟨Or.inr (Or.inl ⟨hb2, hb10, rfl, hm⟩), rfl, (fun r1 n0 => (fr4 r1 n0))⟩
  · refine v_iconst C d_M_throwing_5 ?_
    refine v_goto C d_M_throwing_6 ?_
    refine pf_M_81 (fs' := [.int (iI 1), .int (iI (w : Int)), .int (iI (h : Int)), .ref (ad 74), .ref (ad 75), .ref (ad 76), .ref (ad 77), .ref (ad 78), .int (bI kp), .int (bI hb), .ref (ad 79), .ref (ad 80), .ref (ad 81), .ref (ad 82), .ref (ad 83), .ref (ad 84), .ref (ad 85), .ref (ad 86), .ref (ad 87), .ref (ad 88), .ref (ad 89), .ref (ad 90), .int (iI tr), .ref (ad 91), .int (iI sq), .int (iI wm), .ref (ad 92), .ref (ad 93)]) C (by omega) hm rfl rfl (Nat.le_of_ble_eq_true rfl) rfl d_M_throwing_18 (fun g5 hm fr6 => ?_)
    refine v_aload_n C d_M_throwing_21 rfl 0 rfl ?_
    refine gf_M_81 C (by omega) hm rfl d_M_throwing_22 ?_
    refine v_if_leI C d_M_throwing_25 (by omega) (by omega) (fun hz9 => absurd hz9 (by omega)) (fun _ => ?_)
    refine v_iconst C d_M_throwing_28 ?_
    refine v_goto C d_M_throwing_29 ?_
    exact hret _ _ _ _ _ true _ (Nat.zero_le _) (Nat.zero_le _) d_M_throwing_33 ⟨Or.inl ⟨hb2, rfl, hm⟩, rfl, (fun r1 n0 => (fr6 r1 n0))⟩
set_option maxHeartbeats 1000000 in
set_option maxRecDepth 100000 in
theorem c_isShelf (l : Launch) {B : Nat} {D : va_G} {cI cZ cL cS cW : ClassId} {ad : Nat → Nat} {g : Nat → va_E} (z : Int) (z1 : -2147483648 ≤ z) (z2 : z < 2147483648) : Met l y_M_isShelf (Cond.code y_M_isShelf b_M_isShelf 1 (some .boolean) :: wG) (rmF 0 0 0 0) (wPc B D classes (tyL cI cZ cL cS cW) (Zs B) 95 [.int (iI z)] ad g) (QI B D classes 95 (fun v9 ad1 g1 => ∃ v, v9 = bI v ∧ (v = decide (0 ≤ z ∧ z < 8) ∧ ad = ad1 ∧ g = g1))) 0 0 (aB B) := by
  refine ofZ (own := R_M) (by decide) rfl (Nat.le_of_ble_eq_true rfl) ?_
  intro p e s m below meth c Q C hnm hret
  change kV _ _ _ _ _ _ _ _ _ _ _ _ _ _ _ _ _ _ _ _ _ [(0, .int (iI z))] _ _
  refine v_iload_n C d_M_isShelf_0 rfl 0 rfl ?_
  refine v_if_ltI C d_M_isShelf_1 (by omega) (by omega) (fun hb1 => ?_) (fun hb1 => ?_)
  · refine v_iconst C d_M_isShelf_14 ?_
    exact hret _ _ _ _ _ false _ (Nat.zero_le _) (Nat.zero_le _) d_M_isShelf_15 ⟨(decide_eq_false (by omega)).symm, rfl, rfl⟩
  · refine v_iload_n C d_M_isShelf_4 rfl 0 rfl ?_
    refine v_bipush C d_M_isShelf_5 (by decide +kernel) ?_
    refine v_icmp_geI C d_M_isShelf_7 (by omega) (by omega) (by omega) (by omega) (fun hb7 => ?_) (fun hb7 => ?_)
    · refine v_iconst C d_M_isShelf_14 ?_
      exact hret _ _ _ _ _ false _ (Nat.zero_le _) (Nat.zero_le _) d_M_isShelf_15 ⟨(decide_eq_false (by omega)).symm, rfl, rfl⟩
    · refine v_iconst C d_M_isShelf_10 ?_
      refine v_goto C d_M_isShelf_11 ?_
      exact hret _ _ _ _ _ true _ (Nat.zero_le _) (Nat.zero_le _) d_M_isShelf_15 ⟨(decide_eq_true (by omega)).symm, rfl, rfl⟩
set_option maxHeartbeats 1000000 in
set_option maxRecDepth 100000 in
theorem c_isMask (l : Launch) {B : Nat} {D : va_G} {cI cZ cL cS cW : ClassId} {ad : Nat → Nat} {g : Nat → va_E} (z : Int) (z1 : -2147483648 ≤ z) (z2 : z < 2147483648) : Met l y_M_isMask (Cond.code y_M_isMask b_M_isMask 1 (some .boolean) :: wG) (rmF 0 0 0 0) (wPc B D classes (tyL cI cZ cL cS cW) (Zs B) 95 [.int (iI z)] ad g) (QI B D classes 95 (fun v9 ad1 g1 => ∃ v, v9 = bI v ∧ (v = decide (0 ≤ z ∧ z < 256) ∧ ad = ad1 ∧ g = g1))) 0 0 (aB B) := by
  refine ofZ (own := R_M) (by decide) rfl (Nat.le_of_ble_eq_true rfl) ?_
  intro p e s m below meth c Q C hnm hret
  change kV _ _ _ _ _ _ _ _ _ _ _ _ _ _ _ _ _ _ _ _ _ [(0, .int (iI z))] _ _
  refine v_iload_n C d_M_isMask_0 rfl 0 rfl ?_
  refine v_if_ltI C d_M_isMask_1 (by omega) (by omega) (fun hb1 => ?_) (fun hb1 => ?_)
  · refine v_iconst C d_M_isMask_15 ?_
    exact hret _ _ _ _ _ false _ (Nat.zero_le _) (Nat.zero_le _) d_M_isMask_16 ⟨(decide_eq_false (by omega)).symm, rfl, rfl⟩
  · refine v_iload_n C d_M_isMask_4 rfl 0 rfl ?_
    refine v_sipush C d_M_isMask_5 (by decide +kernel) ?_
    refine v_icmp_geI C d_M_isMask_8 (by omega) (by omega) (by omega) (by omega) (fun hb8 => ?_) (fun hb8 => ?_)
    · refine v_iconst C d_M_isMask_15 ?_
      exact hret _ _ _ _ _ false _ (Nat.zero_le _) (Nat.zero_le _) d_M_isMask_16 ⟨(decide_eq_false (by omega)).symm, rfl, rfl⟩
    · refine v_iconst C d_M_isMask_11 ?_
      refine v_goto C d_M_isMask_12 ?_
      exact hret _ _ _ _ _ true _ (Nat.zero_le _) (Nat.zero_le _) d_M_isMask_16 ⟨(decide_eq_true (by omega)).symm, rfl, rfl⟩
set_option maxHeartbeats 1000000 in
set_option maxRecDepth 100000 in
theorem c_isPixel (l : Launch) {B : Nat} {D : va_G} {cI cZ cL cS cW : ClassId} {ad : Nat → Nat} {g : Nat → va_E} (th : Int) (w h : Nat) (kp hb : Bool) (tr sq wm : Int) (x y : Int) (x1 : -2147483648 ≤ x) (x2 : x < 2147483648) (y1 : -2147483648 ≤ y) (y2 : y < 2147483648) (hw : 1 ≤ w ∧ w ≤ 16) (hh : 1 ≤ h ∧ h ≤ 16) (hm : g 73 = mE ad th w h kp hb tr sq wm) : Met l y_M_isPixel (Cond.code y_M_isPixel b_M_isPixel 3 (some .boolean) :: wG) (rmF 0 0 0 0) (wPc B D classes (tyL cI cZ cL cS cW) (Zs B) 95 [.ref (ad 73), .int (iI x), .int (iI y)] ad g) (QI B D classes 95 (fun v9 ad1 g1 => ∃ v, v9 = bI v ∧ (v = decide (0 ≤ x ∧ x < (w : Int) ∧ 0 ≤ y ∧ y < (h : Int)) ∧ ad = ad1 ∧ g = g1))) 0 0 (aB B) := by
  refine ofZ (own := R_M) (by decide) rfl (Nat.le_of_ble_eq_true rfl) ?_
  intro p e s m below meth c Q C hnm hret
  change kV _ _ _ _ _ _ _ _ _ _ _ _ _ _ _ _ _ _ _ _ _ [(0, .ref (ad 73)), (1, .int (iI x)), (2, .int (iI y))] _ _
  refine v_iload_n C d_M_isPixel_0 rfl 1 rfl ?_
  refine v_if_ltI C d_M_isPixel_1 (by omega) (by omega) (fun hb1 => ?_) (fun hb1 => ?_)
  · refine v_iconst C d_M_isPixel_28 ?_
    exact hret _ _ _ _ _ false _ (Nat.zero_le _) (Nat.zero_le _) d_M_isPixel_29 ⟨(decide_eq_false (by omega)).symm, rfl, rfl⟩
  · refine v_iload_n C d_M_isPixel_4 rfl 1 rfl ?_
    refine v_aload_n C d_M_isPixel_5 rfl 0 rfl ?_
    refine gf_M_7 C (by omega) hm rfl d_M_isPixel_6 ?_
    refine v_icmp_geI C d_M_isPixel_9 (by omega) (by omega) (by omega) (by omega) (fun hb9 => ?_) (fun hb9 => ?_)
    · refine v_iconst C d_M_isPixel_28 ?_
      exact hret _ _ _ _ _ false _ (Nat.zero_le _) (Nat.zero_le _) d_M_isPixel_29 ⟨(decide_eq_false (by omega)).symm, rfl, rfl⟩
    · refine v_iload_n C d_M_isPixel_12 rfl 2 rfl ?_
      refine v_if_ltI C d_M_isPixel_13 (by omega) (by omega) (fun hb13 => ?_) (fun hb13 => ?_)
      · refine v_iconst C d_M_isPixel_28 ?_
        exact hret _ _ _ _ _ false _ (Nat.zero_le _) (Nat.zero_le _) d_M_isPixel_29 ⟨(decide_eq_false (by omega)).symm, rfl, rfl⟩
      · refine v_iload_n C d_M_isPixel_16 rfl 2 rfl ?_
        refine v_aload_n C d_M_isPixel_17 rfl 0 rfl ?_
        refine gf_M_13 C (by omega) hm rfl d_M_isPixel_18 ?_
        refine v_icmp_geI C d_M_isPixel_21 (by omega) (by omega) (by omega) (by omega) (fun hb21 => ?_) (fun hb21 => ?_)
        · refine v_iconst C d_M_isPixel_28 ?_
          exact hret _ _ _ _ _ false _ (Nat.zero_le _) (Nat.zero_le _) d_M_isPixel_29 ⟨(decide_eq_false (by omega)).symm, rfl, rfl⟩
        · refine v_iconst C d_M_isPixel_24 ?_
          refine v_goto C d_M_isPixel_25 ?_
          exact hret _ _ _ _ _ true _ (Nat.zero_le _) (Nat.zero_le _) d_M_isPixel_29 ⟨(decide_eq_true (by omega)).symm, rfl, rfl⟩
set_option maxHeartbeats 1000000 in
set_option maxRecDepth 100000 in
theorem c_hasDirection (l : Launch) {B : Nat} {D : va_G} {cI cZ cL cS cW : ClassId} {ad : Nat → Nat} {g : Nat → va_E} (th : Int) (w h : Nat) (kp hb : Bool) (tr sq wm : Int) (z : Int) (z1 : -2147483648 ≤ z) (z2 : z < 2147483648) (hm : g 73 = mE ad th w h kp hb tr sq wm) (tol : Nat → Bool) (htol : g 79 = inA cZ 8 (bA tol)) : Met l y_M_hasDirection (Cond.code y_M_hasDirection b_M_hasDirection 2 (some .boolean) :: wG) (rmF 1 40 0 0) (wPc B D classes (tyL cI cZ cL cS cW) (Zs B) 95 [.ref (ad 73), .int (iI z)] ad g) (QI B D classes 95 (fun v9 ad1 g1 => ∃ v, v9 = bI v ∧ (v = (decide (0 ≤ z ∧ z < 8) && tol z.toNat) ∧ ad = ad1 ∧ g = g1))) 0 0 (aB B) := by
  refine ofZ (own := R_M) (by decide) rfl (Nat.le_of_ble_eq_true rfl) ?_
  intro p e s m below meth c Q C hnm hret
  change kV _ _ _ _ _ _ _ _ _ _ _ _ _ _ _ _ _ _ _ _ _ [(0, .ref (ad 73)), (1, .int (iI z))] _ _
  refine v_iload_n C d_M_hasDirection_0 rfl 1 rfl ?_
  refine v_callSI (As := [.int (iI z)]) (st := []) C (c_isShelf l z z1 z2) (lk_M_84 C.1.2.2.2.2 rfl rfl ⟨Nat.le_of_ble_eq_true rfl, Nat.le_of_ble_eq_true rfl⟩) rfl rfl (Nat.le_of_ble_eq_true rfl) d_M_hasDirection_1 ⟨Nat.le_of_ble_eq_true rfl, Nat.le_of_ble_eq_true rfl⟩ (fun w1 ad1 g1 hp1 => ?_)
  obtain ⟨bs1, rfl, hbs1, rfl, rfl⟩ := hp1
  refine v_if_eqB C d_M_hasDirection_4 (fun hb4 => ?_) (fun hb4 => ?_)
  · refine v_iconst C d_M_hasDirection_20 ?_
    exact hret _ _ _ _ _ false _ (Nat.zero_le _) (Nat.zero_le _) d_M_hasDirection_21 ⟨by rw [← hbs1, hb4]; rfl, rfl, rfl⟩
  · have hz := of_decide_eq_true (hbs1.symm.trans hb4)
    obtain ⟨s0, hs0⟩ : ∃ s0 : Nat, (s0 : Int) = z := ⟨z.toNat, by omega⟩
    have hs8 : z.toNat = s0 := by omega
    refine v_aload_n C d_M_hasDirection_7 rfl 0 rfl ?_
    refine gf_M_33 C (by omega) hm rfl d_M_hasDirection_8 ?_
    refine v_iload_n C d_M_hasDirection_11 rfl 1 rfl ?_
    refine v_zaldB C 1 (by omega) htol rfl s0 (by omega) (by omega) (by omega) d_M_hasDirection_12 ?_
    refine v_if_eqB C d_M_hasDirection_13 (fun hb13 => ?_) (fun hb13 => ?_)
    · refine v_iconst C d_M_hasDirection_20 ?_
      exact hret _ _ _ _ _ false _ (Nat.zero_le _) (Nat.zero_le _) d_M_hasDirection_21 ⟨by rw [← hbs1, hb4, hs8, hb13]; rfl, rfl, rfl⟩
    · refine v_iconst C d_M_hasDirection_16 ?_
      refine v_goto C d_M_hasDirection_17 ?_
      exact hret _ _ _ _ _ true _ (Nat.zero_le _) (Nat.zero_le _) d_M_hasDirection_21 ⟨by rw [← hbs1, hb4, hs8, hb13]; rfl, rfl, rfl⟩
set_option maxHeartbeats 1000000 in
set_option maxRecDepth 100000 in
theorem c_sizeOf (l : Launch) {B : Nat} {D : va_G} {cI cZ cL cS cW : ClassId} {ad : Nat → Nat} {g : Nat → va_E} (x : Int) (x1 : -2147483648 ≤ x) (x2 : x < 2147483648) : Met l y_M_sizeOf (Cond.code y_M_sizeOf b_M_sizeOf 1 (some .int) :: wG) (rmF 0 0 0 0) (wPc B D classes (tyL cI cZ cL cS cW) (Zs B) 95 [.int (iI x)] ad g) (QI B D classes 95 (fun v ad1 g1 => v = iI (aI x) ∧ ad = ad1 ∧ g = g1)) 0 0 (aB B) := by
  refine ofI (own := R_M) (by decide) rfl (Nat.le_of_ble_eq_true rfl) ?_
  intro p e s m below meth c Q C hnm hret
  change kV _ _ _ _ _ _ _ _ _ _ _ _ _ _ _ _ _ _ _ _ _ [(0, .int (iI x))] _ _
  refine v_iload_n C d_M_sizeOf_0 rfl 0 rfl ?_
  refine v_if_geI C d_M_sizeOf_1 (by omega) (by omega) (fun hb1 => ?_) (fun hb1 => ?_)
  · refine v_iload_n C d_M_sizeOf_9 rfl 0 rfl ?_
    exact hret _ _ _ _ _ _ _ (Nat.zero_le _) (Nat.zero_le _) d_M_sizeOf_10 ⟨by unfold aI; rw [if_pos (by omega)], rfl, rfl⟩
  · refine v_iload_n C d_M_sizeOf_4 rfl 0 rfl ?_
    refine v_inegI C d_M_sizeOf_5 ?_
    refine v_goto C d_M_sizeOf_6 ?_
    exact hret _ _ _ _ _ _ _ (Nat.zero_le _) (Nat.zero_le _) d_M_sizeOf_10 ⟨by unfold aI; rw [if_neg (by omega), Int.zero_sub], rfl, rfl⟩
set_option maxHeartbeats 1000000 in
set_option maxRecDepth 100000 in
theorem c_binsOf (l : Launch) {B : Nat} {D : va_G} {cI cZ cL cS cW : ClassId} {ad : Nat → Nat} {g : Nat → va_E} (th : Int) (w h : Nat) (kp hb : Bool) (tr sq wm : Int) (s0 : Nat) (hs : s0 < 8) (hm : g 73 = mE ad th w h kp hb tr sq wm) (rP : Nat → Int) (hrP : g 80 = inA cI 8 (jA rP)) (rQ : Nat → Int) (hrQ : g 81 = inA cI 8 (jA rQ)) (hPQ : ∀ j, j < 8 → okD (rP j) (rQ j)) : Met l y_M_binsOf (Cond.code y_M_binsOf b_M_binsOf 2 (some .int) :: wG) (rmF 1 40 0 0) (wPc B D classes (tyL cI cZ cL cS cW) (Zs B) 95 [.ref (ad 73), .int (iI (s0 : Int))] ad g) (QI B D classes 95 (fun v ad1 g1 => v = iI (ctI (rP s0) (rQ s0) w h) ∧ ad = ad1 ∧ g = g1)) 0 0 (aB B) := by
  refine ofI (own := R_M) (by decide) rfl (Nat.le_of_ble_eq_true rfl) ?_
  intro p e s m below meth c Q C hnm hret
  change kV _ _ _ _ _ _ _ _ _ _ _ _ _ _ _ _ _ _ _ _ _ [(0, .ref (ad 73)), (1, .int (iI (s0 : Int)))] _ _
  refine v_aload_n C d_M_binsOf_0 rfl 0 rfl ?_
  refine gf_M_36 C (by omega) hm rfl d_M_binsOf_1 ?_
  refine v_iload_n C d_M_binsOf_4 rfl 1 rfl ?_
  refine v_ialdI C 0 (by omega) hrP rfl (s0 : Nat) (by omega) (by omega) (by omega) d_M_binsOf_5 ?_
  have hok := hPQ s0 (by omega)
  have hok1 := hok.1; have hok2 := hok.2.1; have hok3 := hok.2.2.1; have hok4 := hok.2.2.2
  refine v_callSI (As := [.int (iI (rP (s0 : Nat)))]) (st := []) C (c_sizeOf l (rP (s0 : Nat)) (by omega) (by omega)) (lk_M_110 C.1.2.2.2.2 rfl rfl ⟨Nat.le_of_ble_eq_true rfl, Nat.le_of_ble_eq_true rfl⟩) rfl rfl (Nat.le_of_ble_eq_true rfl) d_M_binsOf_6 ⟨Nat.le_of_ble_eq_true rfl, Nat.le_of_ble_eq_true rfl⟩ (fun w1 ad1 g1 hp1 => ?_)
  obtain ⟨rfl, rfl, rfl⟩ := hp1
  refine v_aload_n C d_M_binsOf_9 rfl 0 rfl ?_
  refine gf_M_13 C (by omega) hm rfl d_M_binsOf_10 ?_
  refine v_iconst C d_M_binsOf_13 ?_
  refine v_isubI C d_M_binsOf_14 ?_
  refine v_imulI C d_M_binsOf_15 ?_
  refine v_aload_n C d_M_binsOf_16 rfl 0 rfl ?_
  refine gf_M_39 C (by omega) hm rfl d_M_binsOf_17 ?_
  refine v_iload_n C d_M_binsOf_20 rfl 1 rfl ?_
  refine v_ialdI C 0 (by omega) hrQ rfl (s0 : Nat) (by omega) (by omega) (by omega) d_M_binsOf_21 ?_
  refine v_aload_n C d_M_binsOf_22 rfl 0 rfl ?_
  refine gf_M_7 C (by omega) hm rfl d_M_binsOf_23 ?_
  refine v_iconst C d_M_binsOf_26 ?_
  refine v_isubI C d_M_binsOf_27 ?_
  refine v_imulI C d_M_binsOf_28 ?_
  refine v_iaddI C d_M_binsOf_29 ?_
  refine v_iconst C d_M_binsOf_30 ?_
  refine v_iaddI C d_M_binsOf_31 ?_
  exact hret _ _ _ _ _ _ _ (Nat.zero_le _) (Nat.zero_le _) d_M_binsOf_32 ⟨rfl, rfl, rfl⟩
set_option maxHeartbeats 1000000 in
set_option maxRecDepth 100000 in
theorem c_MbinAt (l : Launch) {B : Nat} {D : va_G} {cI cZ cL cS cW : ClassId} {ad : Nat → Nat} {g : Nat → va_E} (th : Int) (w h : Nat) (kp hb : Bool) (tr sq wm : Int) (s0 : Nat) (x y : Int) (hs : s0 < 8) (hh : 1 ≤ h) (hm : g 73 = mE ad th w h kp hb tr sq wm) (rP : Nat → Int) (hrP : g 80 = inA cI 8 (jA rP)) (rQ : Nat → Int) (hrQ : g 81 = inA cI 8 (jA rQ)) (hPQ : ∀ j, j < 8 → okD (rP j) (rQ j)) : Met l y_M_binAt (Cond.code y_M_binAt b_M_binAt 5 (some .int) :: wG) (rmF 0 0 0 0) (wPc B D classes (tyL cI cZ cL cS cW) (Zs B) 95 [.ref (ad 73), .int (iI (s0 : Int)), .int (iI x), .int (iI y)] ad g) (QI B D classes 95 (fun v ad1 g1 => v = iI (bnI (rP s0) (rQ s0) w h x y) ∧ ad = ad1 ∧ g = g1)) 0 0 (aB B) := by
  refine ofI (own := R_M) (by decide) rfl (Nat.le_of_ble_eq_true rfl) ?_
  intro p e s m below meth c Q C hnm hret
  change kV _ _ _ _ _ _ _ _ _ _ _ _ _ _ _ _ _ _ _ _ _ [(0, .ref (ad 73)), (1, .int (iI (s0 : Int))), (2, .int (iI x)), (3, .int (iI y))] _ _
  refine v_aload_n C d_M_binAt_0 rfl 0 rfl ?_
  refine gf_M_36 C (by omega) hm rfl d_M_binAt_1 ?_
  refine v_iload_n C d_M_binAt_4 rfl 1 rfl ?_
  have hok := hPQ s0 (by omega)
  have hok1 := hok.1; have hok2 := hok.2.1
  refine v_ialdI C 0 (by omega) hrP rfl (s0 : Nat) (by omega) (by omega) (by omega) d_M_binAt_5 ?_
  refine v_if_geI C d_M_binAt_6 (by omega) (by omega) (fun hb6 => ?_) (fun hb6 => ?_)
  · refine v_iconst C d_M_binAt_25 ?_
    refine v_aload_n C d_M_binAt_26 rfl 0 rfl ?_
    refine gf_M_39 C (by omega) hm rfl d_M_binAt_27 ?_
    refine v_iload_n C d_M_binAt_30 rfl 1 rfl ?_
    refine v_ialdI C 0 (by omega) hrQ rfl (s0 : Nat) (by omega) (by omega) (by omega) d_M_binAt_31 ?_
    refine v_aload_n C d_M_binAt_32 rfl 0 rfl ?_
    refine gf_M_7 C (by omega) hm rfl d_M_binAt_33 ?_
    refine v_iconst C d_M_binAt_36 ?_
    refine v_isubI C d_M_binAt_37 ?_
    refine v_imulI C d_M_binAt_38 ?_
    refine v_isubI C d_M_binAt_39 ?_
    refine v_istore (lv' := [(4, .int (iI (0 - ((rQ (s0 : Nat)) * ((w : Int) - 1))))), (0, .ref (ad 73)), (1, .int (iI (s0 : Int))), (2, .int (iI x)), (3, .int (iI y))]) C d_M_binAt_40 (by decide) rfl ?_
    refine v_aload_n C d_M_binAt_42 rfl 1 rfl ?_
    refine gf_M_36 C (by omega) hm rfl d_M_binAt_43 ?_
    refine v_iload_n C d_M_binAt_46 rfl 2 rfl ?_
    refine v_ialdI C 0 (by omega) hrP rfl (s0 : Nat) (by omega) (by omega) (by omega) d_M_binAt_47 ?_
    refine v_iload_n C d_M_binAt_48 rfl 4 rfl ?_
    refine v_imulI C d_M_binAt_49 ?_
    refine v_aload_n C d_M_binAt_50 rfl 1 rfl ?_
    refine gf_M_39 C (by omega) hm rfl d_M_binAt_51 ?_
    refine v_iload_n C d_M_binAt_54 rfl 2 rfl ?_
    refine v_ialdI C 0 (by omega) hrQ rfl (s0 : Nat) (by omega) (by omega) (by omega) d_M_binAt_55 ?_
    refine v_iload_n C d_M_binAt_56 rfl 3 rfl ?_
    refine v_imulI C d_M_binAt_57 ?_
    refine v_isubI C d_M_binAt_58 ?_
    refine v_iload C d_M_binAt_59 0 rfl ?_
    refine v_isubI C d_M_binAt_61 ?_
    exact hret _ _ _ _ _ _ _ (Nat.zero_le _) (Nat.zero_le _) d_M_binAt_62 ⟨by unfold bnI; rw [← lz_ref hh]; first | rw [if_pos (by omega)] | rw [if_neg (by omega)], rfl, rfl⟩
  · refine v_aload_n C d_M_binAt_9 rfl 0 rfl ?_
    refine gf_M_36 C (by omega) hm rfl d_M_binAt_10 ?_
    refine v_iload_n C d_M_binAt_13 rfl 1 rfl ?_
    refine v_ialdI C 0 (by omega) hrP rfl (s0 : Nat) (by omega) (by omega) (by omega) d_M_binAt_14 ?_
    refine v_aload_n C d_M_binAt_15 rfl 0 rfl ?_
    refine gf_M_13 C (by omega) hm rfl d_M_binAt_16 ?_
    refine v_iconst C d_M_binAt_19 ?_
    refine v_isubI C d_M_binAt_20 ?_
    refine v_imulI C d_M_binAt_21 ?_
    refine v_goto C d_M_binAt_22 ?_
    refine v_aload_n C d_M_binAt_26 rfl 0 rfl ?_
    refine gf_M_39 C (by omega) hm rfl d_M_binAt_27 ?_
    refine v_iload_n C d_M_binAt_30 rfl 1 rfl ?_
    refine v_ialdI C 0 (by omega) hrQ rfl (s0 : Nat) (by omega) (by omega) (by omega) d_M_binAt_31 ?_
    refine v_aload_n C d_M_binAt_32 rfl 0 rfl ?_
    refine gf_M_7 C (by omega) hm rfl d_M_binAt_33 ?_
    refine v_iconst C d_M_binAt_36 ?_
    refine v_isubI C d_M_binAt_37 ?_
    refine v_imulI C d_M_binAt_38 ?_
    refine v_isubI C d_M_binAt_39 ?_
    refine v_istore (lv' := [(4, .int (iI (((rP (s0 : Nat)) * ((h : Int) - 1)) - ((rQ (s0 : Nat)) * ((w : Int) - 1))))), (0, .ref (ad 73)), (1, .int (iI (s0 : Int))), (2, .int (iI x)), (3, .int (iI y))]) C d_M_binAt_40 (by decide) rfl ?_
    refine v_aload_n C d_M_binAt_42 rfl 1 rfl ?_
    refine gf_M_36 C (by omega) hm rfl d_M_binAt_43 ?_
    refine v_iload_n C d_M_binAt_46 rfl 2 rfl ?_
    refine v_ialdI C 0 (by omega) hrP rfl (s0 : Nat) (by omega) (by omega) (by omega) d_M_binAt_47 ?_
    refine v_iload_n C d_M_binAt_48 rfl 4 rfl ?_
    refine v_imulI C d_M_binAt_49 ?_
    refine v_aload_n C d_M_binAt_50 rfl 1 rfl ?_
    refine gf_M_39 C (by omega) hm rfl d_M_binAt_51 ?_
    refine v_iload_n C d_M_binAt_54 rfl 2 rfl ?_
    refine v_ialdI C 0 (by omega) hrQ rfl (s0 : Nat) (by omega) (by omega) (by omega) d_M_binAt_55 ?_
    refine v_iload_n C d_M_binAt_56 rfl 3 rfl ?_
    refine v_imulI C d_M_binAt_57 ?_
    refine v_isubI C d_M_binAt_58 ?_
    refine v_iload C d_M_binAt_59 0 rfl ?_
    refine v_isubI C d_M_binAt_61 ?_
    exact hret _ _ _ _ _ _ _ (Nat.zero_le _) (Nat.zero_le _) d_M_binAt_62 ⟨by unfold bnI; rw [← lz_ref hh]; first | rw [if_pos (by omega)] | rw [if_neg (by omega)], rfl, rfl⟩
set_option maxHeartbeats 1000000 in
set_option maxRecDepth 100000 in
theorem c_isOf (l : Launch) {B : Nat} {D : va_G} {cI cZ cL cS cW : ClassId} {ad : Nat → Nat} {g : Nat → va_E} (th : Int) (w h : Nat) (kp hb : Bool) (tr sq wm : Int) (M s9 : Nat) (hM : M < 256) (hs : s9 < 8) (hm : g 73 = mE ad th w h kp hb tr sq wm) (tol : Nat → Bool) (htol : g 79 = inA cZ 8 (bA tol)) : Met l y_M_isOf (Cond.code y_M_isOf b_M_isOf 3 (some .boolean) :: wG) (rmF 0 0 0 0) (wPc B D classes (tyL cI cZ cL cS cW) (Zs B) 95 [.ref (ad 73), .int (iI (M : Int)), .int (iI (s9 : Int))] ad g) (QI B D classes 95 (fun v9 ad1 g1 => ∃ v, v9 = bI v ∧ (v = (Nat.testBit M s9 && tol s9) ∧ ad = ad1 ∧ g = g1))) 0 0 (aB B) := by
  refine ofZ (own := R_M) (by decide) rfl (Nat.le_of_ble_eq_true rfl) ?_
  intro p e s m below meth c Q C hnm hret
  change kV _ _ _ _ _ _ _ _ _ _ _ _ _ _ _ _ _ _ _ _ _ [(0, .ref (ad 73)), (1, .int (iI (M : Int))), (2, .int (iI (s9 : Int)))] _ _
  refine v_iload_n C d_M_isOf_0 rfl 1 rfl ?_
  refine v_iload_n C d_M_isOf_1 rfl 2 rfl ?_
  refine v_ishr C d_M_isOf_2 ?_
  refine v_iconst C d_M_isOf_3 ?_
  refine v_iand C d_M_isOf_4 ?_
  refine v_iconst C d_M_isOf_5 ?_
  rw [isin_bit M hM s9 hs]
  refine v_icmp_ne C d_M_isOf_6 (fun hb6 => ?_) (fun hb6 => ?_)
  · refine v_iconst C d_M_isOf_22 ?_
    exact hret _ _ _ _ _ false _ (Nat.zero_le _) (Nat.zero_le _) d_M_isOf_23 ⟨by rw [Bool.eq_false_iff.mpr (fun q => hb6 ((bI_1 _).mpr q))]; rfl, rfl, rfl⟩
  · refine v_aload_n C d_M_isOf_9 rfl 0 rfl ?_
    refine gf_M_33 C (by omega) hm rfl d_M_isOf_10 ?_
    refine v_iload_n C d_M_isOf_13 rfl 2 rfl ?_
    refine v_zaldB C 1 (by omega) htol rfl (s9 : Nat) (by omega) (by omega) (by omega) d_M_isOf_14 ?_
    refine v_if_eqB C d_M_isOf_15 (fun hb15 => ?_) (fun hb15 => ?_)
    · refine v_iconst C d_M_isOf_22 ?_
      exact hret _ _ _ _ _ false _ (Nat.zero_le _) (Nat.zero_le _) d_M_isOf_23 ⟨by rw [(bI_1 _).mp hb6, hb15]; rfl, rfl, rfl⟩
    · refine v_iconst C d_M_isOf_18 ?_
      refine v_goto C d_M_isOf_19 ?_
      exact hret _ _ _ _ _ true _ (Nat.zero_le _) (Nat.zero_le _) d_M_isOf_23 ⟨by rw [(bI_1 _).mp hb6, hb15]; rfl, rfl, rfl⟩
