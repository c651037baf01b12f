/-! the class's object as it is made -/
def pfn (A : Nat → Nat) (b j : Nat) : Nat → Option Nat := fun s => if s < j then some (A (b + 8 * s)) else none
abbrev T00 : ShT := (false, false, 0, 0, 0, 0)
def famI (cI : ClassId) (A : Nat → Nat) (G : Nat → va_E) (s : Nat) : Prop := G (9 + 8 * s) = shE (A (9 + 8 * s + 1)) T00 ∧ G (9 + 8 * s + 1) = inA cI 0 (fun _ => 0) ∧ G (11 + 8 * s) = shE (A (11 + 8 * s + 1)) T00 ∧ G (11 + 8 * s + 1) = inA cI 0 (fun _ => 0) ∧ G (13 + 8 * s) = wsE 0 0 (A (13 + 8 * s + 1)) (A (13 + 8 * s + 2)) (A (13 + 8 * s + 3)) ∧ G (13 + 8 * s + 1) = inA cI 0 (fun _ => 0) ∧ G (13 + 8 * s + 2) = inA cI 0 (fun _ => 0) ∧ G (13 + 8 * s + 3) = inA cI 0 (fun _ => 0)
theorem famI_mv {cI : ClassId} {A A1 : Nat → Nat} {G G1 : Nat → va_E} {s j : Nat} (hs : s < j) (hA : ∀ r, r < 9 + 8 * j → A1 r = A r) (hG : ∀ r, 9 ≤ r → r < 9 + 8 * j → G1 r = G r) (h : famI cI A G s) : famI cI A1 G1 s := by
  unfold famI at h ⊢
  rw [hG _ (by omega) (by omega), hG _ (by omega) (by omega), hG _ (by omega) (by omega), hG _ (by omega) (by omega), hG _ (by omega) (by omega), hG _ (by omega) (by omega), hG _ (by omega) (by omega), hG _ (by omega) (by omega), hA _ (by omega), hA _ (by omega), hA _ (by omega), hA _ (by omega), hA _ (by omega)]
  exact h
theorem pfn_s {A A1 : Nat → Nat} {b j : Nat} (hA : ∀ s, s < j → A1 (b + 8 * s) = A (b + 8 * s)) : va_up (pfn A b j) j (some (A1 (b + 8 * j))) = pfn A1 b (j + 1) := by
  funext s
  by_cases e : s = j
  · subst e; rw [va_up_self]; exact (if_pos (Nat.lt_succ_self _)).symm
  · rw [va_up_ne _ _ e]
    unfold pfn
    by_cases h : s < j
    · rw [if_pos h, if_pos (by omega), hA s h]
    · rw [if_neg h, if_neg (by omega)]
theorem pfn_0 {A : Nat → Nat} {b : Nat} : pfn A b 0 = fun _ => none := by
  funext s
  exact if_neg (by omega)
theorem d_S : ∀ j, j < 7 → defaultValue (t_S j) = vp_V [.int 0, .int 0, .int 0, .int 0, .int 0, .int 0, .null] j := fun j hj => by
  rcases (show j = 0 ∨ j = 1 ∨ j = 2 ∨ j = 3 ∨ j = 4 ∨ j = 5 ∨ j = 6 by omega) with rfl | rfl | rfl | rfl | rfl | rfl | rfl <;> rfl
theorem d_W : ∀ j, j < 5 → defaultValue (t_W j) = vp_V [.int 0, .int 0, .null, .null, .null] j := fun j hj => by
  rcases (show j = 0 ∨ j = 1 ∨ j = 2 ∨ j = 3 ∨ j = 4 by omega) with rfl | rfl | rfl | rfl | rfl <;> rfl
section VE
variable {p : Program} {l : Launch} {e : Env} {R : Room} {s : State} {m : MethodId} {args : Array Value} {below : List Frame} {meth : Method} {c : Code} {Q : State → Prop} {H0 : Heap} {B : Nat} {D : va_G} {cl : List vw_C} {nL N N' : Nat} {cells slots : Nat} {ad : Nat → Nat} {g : Nat → va_E} {lv : List (Nat × Value)} {st : List Value} {pc : Nat}
theorem v_NE (h : N = N') (k : kV p l e R s m args below meth c Q H0 B D cl nL N' cells slots ad g lv st pc) : kV p l e R s m args below meth c Q H0 B D cl nL N cells slots ad g lv st pc := by
  subst h
  exact k
end VE
set_option maxHeartbeats 1000000 in
set_option maxRecDepth 100000 in
theorem c_Ainit (l : Launch) {B : Nat} {D : va_G} {cI cZ cL cS cW : ClassId} {ad : Nat → Nat} {g : Nat → va_E} (h0 : g 0 = .inr (0, [.int 0, .int 0, .null, .null, .int 0, .null, .null, .int 0, .null, .int 0, .int 0, .null, .null, .null])) : Met l y_A_init (Cond.code y_A_init b_A_init 2 none :: wG) (rmF 2 60 72 1456) (wPc B D classes (tyL cI cZ cL cS cW) (Zs B) 1 [.ref (ad 0)] ad g) (QV B D classes 73 (fun ad1 g1 => ad1 0 = ad 0 ∧ g1 0 = xE ad1 1 1 false false 0 (-1) ∧ g1 1 = inA cI 256 (fun _ => 0) ∧ g1 3 = inA cI 256 (fun _ => 0) ∧ g1 5 = inA cI 256 (fun _ => 0) ∧ g1 6 = inA cI 256 (fun _ => 0) ∧ g1 8 = inA cI 256 (fun _ => 0) ∧ g1 2 = rfA cS 8 (pfn ad1 9 8) ∧ g1 4 = rfA cS 8 (pfn ad1 11 8) ∧ g1 7 = rfA cW 8 (pfn ad1 13 8) ∧ ∀ s, s < 8 → famI cI ad1 g1 s)) 72 1456 (aB B) := by
  refine ofV (own := R_A) (by decide) rfl (Nat.le_of_ble_eq_true rfl) ?_
  intro p e s m below meth c Q C hnm hret
  change kV _ _ _ _ _ _ _ _ _ _ _ _ _ _ _ _ _ _ _ _ _ [(0, .ref (ad 0))] _ _
  refine v_aload_n C d_A_init_0 rfl 0 rfl ?_
  refine v_oi C ml_A_3 d_A_init_1 (Nat.le_of_ble_eq_true rfl) (Nat.le_of_ble_eq_true rfl) ?_
  refine v_aload_n C d_A_init_4 rfl 0 rfl ?_
  refine v_iconst C d_A_init_5 ?_
  refine pf_A_9 (fs' := [.int (iI 1), .int 0, .null, .null, .int 0, .null, .null, .int 0, .null, .int 0, .int 0, .null, .null, .null]) C (by omega) h0 rfl rfl (Nat.le_of_ble_eq_true rfl) rfl d_A_init_6 (fun g1 h0 fr2 => ?_)
  refine v_aload_n C d_A_init_9 rfl 0 rfl ?_
  refine v_iconst C d_A_init_10 ?_
  refine pf_A_13 (fs' := [.int (iI 1), .int (iI 1), .null, .null, .int 0, .null, .null, .int 0, .null, .int 0, .int 0, .null, .null, .null]) C (by omega) h0 rfl rfl (Nat.le_of_ble_eq_true rfl) rfl d_A_init_11 (fun g3 h0 fr4 => ?_)
  refine v_aload_n C d_A_init_14 rfl 0 rfl ?_
  refine v_sipush C d_A_init_15 (by decide +kernel) ?_
  refine v_newiP C 256 rfl (by decide) (Nat.le_of_ble_eq_true rfl) (Nat.le_of_ble_eq_true rfl) d_A_init_18 (fun ad5 g5 hA5 h1 fr5 => ?_)
  have h0 := (fr5 0 (by omega)).trans h0
  refine v_lvE (lv' := [(0, .ref (ad5 0))]) (by rw [hA5 0 (by omega)]) ?_
  refine v_stE (st' := [.ref (ad5 1), .ref (ad5 0)]) (by rw [hA5 0 (by omega)]) ?_
  refine pf_A_16 (fs' := [.int (iI 1), .int (iI 1), .ref (ad5 1), .null, .int 0, .null, .null, .int 0, .null, .int 0, .int 0, .null, .null, .null]) C hnm (by omega) h0 rfl rfl (Nat.le_of_ble_eq_true rfl) rfl d_A_init_20 (fun g6 h0 fr7 => ?_)
  have h1 := (fr7 1 (by omega)).trans h1
  refine v_aload_n C d_A_init_23 rfl 0 rfl ?_
  refine v_bipush C d_A_init_24 (by decide +kernel) ?_
  refine v_anewP (n := 8) C kl_A_20 C.2.2.2.1.2.1.1 3 rfl rfl (by decide) (Nat.le_of_ble_eq_true rfl) (Nat.le_of_ble_eq_true rfl) d_A_init_26 (fun ad8 g8 hA8 h2 fr8 => ?_)
  have h0 := (fr8 0 (by omega)).trans h0
  have h1 := (fr8 1 (by omega)).trans h1
  refine v_lvE (lv' := [(0, .ref (ad8 0))]) (by rw [hA8 0 (by omega)]) ?_
  refine v_stE (st' := [.ref (ad8 2), .ref (ad8 0)]) (by rw [hA8 0 (by omega)]) ?_
  have h0 : g8 0 = .inr (0, [.int (iI 1), .int (iI 1), .ref (ad8 1), .null, .int 0, .null, .null, .int 0, .null, .int 0, .int 0, .null, .null, .null]) := by rw [hA8 1 (by omega)]; exact h0
  refine pf_A_22 (fs' := [.int (iI 1), .int (iI 1), .ref (ad8 1), .ref (ad8 2), .int 0, .null, .null, .int 0, .null, .int 0, .int 0, .null, .null, .null]) C hnm (by omega) h0 rfl rfl (Nat.le_of_ble_eq_true rfl) rfl d_A_init_29 (fun g9 h0 fr10 => ?_)
  have h1 := (fr10 1 (by omega)).trans h1
  have h2 := (fr10 2 (by omega)).trans h2
  refine v_aload_n C d_A_init_32 rfl 0 rfl ?_
  refine v_iconst C d_A_init_33 ?_
  refine pf_A_26 (fs' := [.int (iI 1), .int (iI 1), .ref (ad8 1), .ref (ad8 2), .int (iI 0), .null, .null, .int 0, .null, .int 0, .int 0, .null, .null, .null]) C (by omega) h0 rfl rfl (Nat.le_of_ble_eq_true rfl) rfl d_A_init_34 (fun g11 h0 fr12 => ?_)
  have h1 := (fr12 1 (by omega)).trans h1
  have h2 := (fr12 2 (by omega)).trans h2
  refine v_aload_n C d_A_init_37 rfl 0 rfl ?_
  refine v_sipush C d_A_init_38 (by decide +kernel) ?_
  refine v_newiP C 256 rfl (by decide) (Nat.le_of_ble_eq_true rfl) (Nat.le_of_ble_eq_true rfl) d_A_init_41 (fun ad13 g13 hA13 h3 fr13 => ?_)
  have h0 := (fr13 0 (by omega)).trans h0
  have h1 := (fr13 1 (by omega)).trans h1
  have h2 := (fr13 2 (by omega)).trans h2
  refine v_lvE (lv' := [(0, .ref (ad13 0))]) (by rw [hA13 0 (by omega)]) ?_
  refine v_stE (st' := [.ref (ad13 3), .ref (ad13 0)]) (by rw [hA13 0 (by omega)]) ?_
  have h0 : g13 0 = .inr (0, [.int (iI 1), .int (iI 1), .ref (ad13 1), .ref (ad13 2), .int (iI 0), .null, .null, .int 0, .null, .int 0, .int 0, .null, .null, .null]) := by rw [hA13 1 (by omega), hA13 2 (by omega)]; exact h0
  refine pf_A_30 (fs' := [.int (iI 1), .int (iI 1), .ref (ad13 1), .ref (ad13 2), .int (iI 0), .ref (ad13 3), .null, .int 0, .null, .int 0, .int 0, .null, .null, .null]) C hnm (by omega) h0 rfl rfl (Nat.le_of_ble_eq_true rfl) rfl d_A_init_43 (fun g14 h0 fr15 => ?_)
  have h1 := (fr15 1 (by omega)).trans h1
  have h2 := (fr15 2 (by omega)).trans h2
  have h3 := (fr15 3 (by omega)).trans h3
  refine v_aload_n C d_A_init_46 rfl 0 rfl ?_
  refine v_bipush C d_A_init_47 (by decide +kernel) ?_
  refine v_anewP (n := 8) C kl_A_20 C.2.2.2.1.2.1.1 3 rfl rfl (by decide) (Nat.le_of_ble_eq_true rfl) (Nat.le_of_ble_eq_true rfl) d_A_init_49 (fun ad16 g16 hA16 h4 fr16 => ?_)
  have h0 := (fr16 0 (by omega)).trans h0
  have h1 := (fr16 1 (by omega)).trans h1
  have h2 := (fr16 2 (by omega)).trans h2
  have h3 := (fr16 3 (by omega)).trans h3
  refine v_lvE (lv' := [(0, .ref (ad16 0))]) (by rw [hA16 0 (by omega)]) ?_
  refine v_stE (st' := [.ref (ad16 4), .ref (ad16 0)]) (by rw [hA16 0 (by omega)]) ?_
  have h0 : g16 0 = .inr (0, [.int (iI 1), .int (iI 1), .ref (ad16 1), .ref (ad16 2), .int (iI 0), .ref (ad16 3), .null, .int 0, .null, .int 0, .int 0, .null, .null, .null]) := by rw [hA16 1 (by omega), hA16 2 (by omega), hA16 3 (by omega)]; exact h0
  refine pf_A_33 (fs' := [.int (iI 1), .int (iI 1), .ref (ad16 1), .ref (ad16 2), .int (iI 0), .ref (ad16 3), .ref (ad16 4), .int 0, .null, .int 0, .int 0, .null, .null, .null]) C hnm (by omega) h0 rfl rfl (Nat.le_of_ble_eq_true rfl) rfl d_A_init_52 (fun g17 h0 fr18 => ?_)
  have h1 := (fr18 1 (by omega)).trans h1
  have h2 := (fr18 2 (by omega)).trans h2
  have h3 := (fr18 3 (by omega)).trans h3
  have h4 := (fr18 4 (by omega)).trans h4
  refine v_aload_n C d_A_init_55 rfl 0 rfl ?_
  refine v_iconst C d_A_init_56 ?_
  refine pf_A_36 (fs' := [.int (iI 1), .int (iI 1), .ref (ad16 1), .ref (ad16 2), .int (iI 0), .ref (ad16 3), .ref (ad16 4), .int (iI 0), .null, .int 0, .int 0, .null, .null, .null]) C (by omega) h0 rfl rfl (Nat.le_of_ble_eq_true rfl) rfl d_A_init_57 (fun g19 h0 fr20 => ?_)
  have h1 := (fr20 1 (by omega)).trans h1
  have h2 := (fr20 2 (by omega)).trans h2
  have h3 := (fr20 3 (by omega)).trans h3
  have h4 := (fr20 4 (by omega)).trans h4
  refine v_aload_n C d_A_init_60 rfl 0 rfl ?_
  refine v_sipush C d_A_init_61 (by decide +kernel) ?_
  refine v_newiP C 256 rfl (by decide) (Nat.le_of_ble_eq_true rfl) (Nat.le_of_ble_eq_true rfl) d_A_init_64 (fun ad21 g21 hA21 h5 fr21 => ?_)
  have h0 := (fr21 0 (by omega)).trans h0
  have h1 := (fr21 1 (by omega)).trans h1
  have h2 := (fr21 2 (by omega)).trans h2
  have h3 := (fr21 3 (by omega)).trans h3
  have h4 := (fr21 4 (by omega)).trans h4
  refine v_lvE (lv' := [(0, .ref (ad21 0))]) (by rw [hA21 0 (by omega)]) ?_
  refine v_stE (st' := [.ref (ad21 5), .ref (ad21 0)]) (by rw [hA21 0 (by omega)]) ?_
  have h0 : g21 0 = .inr (0, [.int (iI 1), .int (iI 1), .ref (ad21 1), .ref (ad21 2), .int (iI 0), .ref (ad21 3), .ref (ad21 4), .int (iI 0), .null, .int 0, .int 0, .null, .null, .null]) := by rw [hA21 1 (by omega), hA21 2 (by omega), hA21 3 (by omega), hA21 4 (by omega)]; exact h0
  refine pf_A_39 (fs' := [.int (iI 1), .int (iI 1), .ref (ad21 1), .ref (ad21 2), .int (iI 0), .ref (ad21 3), .ref (ad21 4), .int (iI 0), .ref (ad21 5), .int 0, .int 0, .null, .null, .null]) C hnm (by omega) h0 rfl rfl (Nat.le_of_ble_eq_true rfl) rfl d_A_init_66 (fun g22 h0 fr23 => ?_)
  have h1 := (fr23 1 (by omega)).trans h1
  have h2 := (fr23 2 (by omega)).trans h2
  have h3 := (fr23 3 (by omega)).trans h3
  have h4 := (fr23 4 (by omega)).trans h4
  have h5 := (fr23 5 (by omega)).trans h5
  refine v_aload_n C d_A_init_69 rfl 0 rfl ?_
  refine v_iconst C d_A_init_70 ?_
  refine pf_A_42 (fs' := [.int (iI 1), .int (iI 1), .ref (ad21 1), .ref (ad21 2), .int (iI 0), .ref (ad21 3), .ref (ad21 4), .int (iI 0), .ref (ad21 5), .int (iI 0), .int 0, .null, .null, .null]) C (by omega) h0 rfl rfl (Nat.le_of_ble_eq_true rfl) rfl d_A_init_71 (fun g24 h0 fr25 => ?_)
  have h1 := (fr25 1 (by omega)).trans h1
  have h2 := (fr25 2 (by omega)).trans h2
  have h3 := (fr25 3 (by omega)).trans h3
  have h4 := (fr25 4 (by omega)).trans h4
  have h5 := (fr25 5 (by omega)).trans h5
  refine v_aload_n C d_A_init_74 rfl 0 rfl ?_
  refine v_iconst C d_A_init_75 ?_
  refine pf_A_45 (fs' := [.int (iI 1), .int (iI 1), .ref (ad21 1), .ref (ad21 2), .int (iI 0), .ref (ad21 3), .ref (ad21 4), .int (iI 0), .ref (ad21 5), .int (iI 0), .int (iI (-1)), .null, .null, .null]) C (by omega) h0 rfl rfl (Nat.le_of_ble_eq_true rfl) rfl d_A_init_76 (fun g26 h0 fr27 => ?_)
  have h1 := (fr27 1 (by omega)).trans h1
  have h2 := (fr27 2 (by omega)).trans h2
  have h3 := (fr27 3 (by omega)).trans h3
  have h4 := (fr27 4 (by omega)).trans h4
  have h5 := (fr27 5 (by omega)).trans h5
  refine v_aload_n C d_A_init_79 rfl 0 rfl ?_
  refine v_sipush C d_A_init_80 (by decide +kernel) ?_
  refine v_newiP C 256 rfl (by decide) (Nat.le_of_ble_eq_true rfl) (Nat.le_of_ble_eq_true rfl) d_A_init_83 (fun ad28 g28 hA28 h6 fr28 => ?_)
  have h0 := (fr28 0 (by omega)).trans h0
  have h1 := (fr28 1 (by omega)).trans h1
  have h2 := (fr28 2 (by omega)).trans h2
  have h3 := (fr28 3 (by omega)).trans h3
  have h4 := (fr28 4 (by omega)).trans h4
  have h5 := (fr28 5 (by omega)).trans h5
  refine v_lvE (lv' := [(0, .ref (ad28 0))]) (by rw [hA28 0 (by omega)]) ?_
  refine v_stE (st' := [.ref (ad28 6), .ref (ad28 0)]) (by rw [hA28 0 (by omega)]) ?_
  have h0 : g28 0 = .inr (0, [.int (iI 1), .int (iI 1), .ref (ad28 1), .ref (ad28 2), .int (iI 0), .ref (ad28 3), .ref (ad28 4), .int (iI 0), .ref (ad28 5), .int (iI 0), .int (iI (-1)), .null, .null, .null]) := by rw [hA28 1 (by omega), hA28 2 (by omega), hA28 3 (by omega), hA28 4 (by omega), hA28 5 (by omega)]; exact h0
  refine pf_A_48 (fs' := [.int (iI 1), .int (iI 1), .ref (ad28 1), .ref (ad28 2), .int (iI 0), .ref (ad28 3), .ref (ad28 4), .int (iI 0), .ref (ad28 5), .int (iI 0), .int (iI (-1)), .ref (ad28 6), .null, .null]) C hnm (by omega) h0 rfl rfl (Nat.le_of_ble_eq_true rfl) rfl d_A_init_85 (fun g29 h0 fr30 => ?_)
  have h1 := (fr30 1 (by omega)).trans h1
  have h2 := (fr30 2 (by omega)).trans h2
  have h3 := (fr30 3 (by omega)).trans h3
  have h4 := (fr30 4 (by omega)).trans h4
  have h5 := (fr30 5 (by omega)).trans h5
  have h6 := (fr30 6 (by omega)).trans h6
  refine v_aload_n C d_A_init_88 rfl 0 rfl ?_
  refine v_bipush C d_A_init_89 (by decide +kernel) ?_
  refine v_anewP (n := 8) C kl_A_51 C.2.2.2.1.2.1.2 4 rfl rfl (by decide) (Nat.le_of_ble_eq_true rfl) (Nat.le_of_ble_eq_true rfl) d_A_init_91 (fun ad31 g31 hA31 h7 fr31 => ?_)
  have h0 := (fr31 0 (by omega)).trans h0
  have h1 := (fr31 1 (by omega)).trans h1
  have h2 := (fr31 2 (by omega)).trans h2
  have h3 := (fr31 3 (by omega)).trans h3
  have h4 := (fr31 4 (by omega)).trans h4
  have h5 := (fr31 5 (by omega)).trans h5
  have h6 := (fr31 6 (by omega)).trans h6
  refine v_lvE (lv' := [(0, .ref (ad31 0))]) (by rw [hA31 0 (by omega)]) ?_
  refine v_stE (st' := [.ref (ad31 7), .ref (ad31 0)]) (by rw [hA31 0 (by omega)]) ?_
  have h0 : g31 0 = .inr (0, [.int (iI 1), .int (iI 1), .ref (ad31 1), .ref (ad31 2), .int (iI 0), .ref (ad31 3), .ref (ad31 4), .int (iI 0), .ref (ad31 5), .int (iI 0), .int (iI (-1)), .ref (ad31 6), .null, .null]) := by rw [hA31 1 (by omega), hA31 2 (by omega), hA31 3 (by omega), hA31 4 (by omega), hA31 5 (by omega), hA31 6 (by omega)]; exact h0
  refine pf_A_53 (fs' := [.int (iI 1), .int (iI 1), .ref (ad31 1), .ref (ad31 2), .int (iI 0), .ref (ad31 3), .ref (ad31 4), .int (iI 0), .ref (ad31 5), .int (iI 0), .int (iI (-1)), .ref (ad31 6), .ref (ad31 7), .null]) C hnm (by omega) h0 rfl rfl (Nat.le_of_ble_eq_true rfl) rfl d_A_init_94 (fun g32 h0 fr33 => ?_)
  have h1 := (fr33 1 (by omega)).trans h1
  have h2 := (fr33 2 (by omega)).trans h2
  have h3 := (fr33 3 (by omega)).trans h3
  have h4 := (fr33 4 (by omega)).trans h4
  have h5 := (fr33 5 (by omega)).trans h5
  have h6 := (fr33 6 (by omega)).trans h6
  have h7 := (fr33 7 (by omega)).trans h7
  refine v_aload_n C d_A_init_97 rfl 0 rfl ?_
  refine v_sipush C d_A_init_98 (by decide +kernel) ?_
  refine v_newiP C 256 rfl (by decide) (Nat.le_of_ble_eq_true rfl) (Nat.le_of_ble_eq_true rfl) d_A_init_101 (fun ad34 g34 hA34 h8 fr34 => ?_)
  have h0 := (fr34 0 (by omega)).trans h0
  have h1 := (fr34 1 (by omega)).trans h1
  have h2 := (fr34 2 (by omega)).trans h2
  have h3 := (fr34 3 (by omega)).trans h3
  have h4 := (fr34 4 (by omega)).trans h4
  have h5 := (fr34 5 (by omega)).trans h5
  have h6 := (fr34 6 (by omega)).trans h6
  have h7 := (fr34 7 (by omega)).trans h7
  refine v_lvE (lv' := [(0, .ref (ad34 0))]) (by rw [hA34 0 (by omega)]) ?_
  refine v_stE (st' := [.ref (ad34 8), .ref (ad34 0)]) (by rw [hA34 0 (by omega)]) ?_
  have h0 : g34 0 = .inr (0, [.int (iI 1), .int (iI 1), .ref (ad34 1), .ref (ad34 2), .int (iI 0), .ref (ad34 3), .ref (ad34 4), .int (iI 0), .ref (ad34 5), .int (iI 0), .int (iI (-1)), .ref (ad34 6), .ref (ad34 7), .null]) := by rw [hA34 1 (by omega), hA34 2 (by omega), hA34 3 (by omega), hA34 4 (by omega), hA34 5 (by omega), hA34 6 (by omega), hA34 7 (by omega)]; exact h0
  refine pf_A_57 (fs' := [.int (iI 1), .int (iI 1), .ref (ad34 1), .ref (ad34 2), .int (iI 0), .ref (ad34 3), .ref (ad34 4), .int (iI 0), .ref (ad34 5), .int (iI 0), .int (iI (-1)), .ref (ad34 6), .ref (ad34 7), .ref (ad34 8)]) C hnm (by omega) h0 rfl rfl (Nat.le_of_ble_eq_true rfl) rfl d_A_init_103 (fun g35 h0 fr36 => ?_)
  have h1 := (fr36 1 (by omega)).trans h1
  have h2 := (fr36 2 (by omega)).trans h2
  have h3 := (fr36 3 (by omega)).trans h3
  have h4 := (fr36 4 (by omega)).trans h4
  have h5 := (fr36 5 (by omega)).trans h5
  have h6 := (fr36 6 (by omega)).trans h6
  have h7 := (fr36 7 (by omega)).trans h7
  have h8 := (fr36 8 (by omega)).trans h8
  refine v_iconst C d_A_init_106 ?_
  refine v_istore_n (lv' := [(1, .int (iI 0)), (0, .ref (ad34 0))]) C d_A_init_107 rfl (by decide) rfl ?_
  refine v_lv (lv' := [(0, .ref (ad34 0)), (1, .int (iI 0))]) [1, 0] rfl ?_
  have L108 : ∀ (d9 j : Nat) (A : Nat → Nat) (G : Nat → va_E), 8 - j < d9 → j ≤ 8 → A 0 = ad 0 → G 0 = xE A 1 1 false false 0 (-1) → G 1 = inA cI 256 (fun _ => 0) → G 3 = inA cI 256 (fun _ => 0) → G 5 = inA cI 256 (fun _ => 0) → G 6 = inA cI 256 (fun _ => 0) → G 8 = inA cI 256 (fun _ => 0) → G 2 = rfA cS 8 (pfn A 9 j) → G 4 = rfA cS 8 (pfn A 11 j) → G 7 = rfA cW 8 (pfn A 13 j) → (∀ s, s < j → famI cI A G s) → kV p l e (rmF 2 60 72 1456) s m ([.ref (ad 0)] : List Value).toArray below meth c Q s.heap B D classes 2 (9 + 8 * j) (8 + 8 * j) (1304 + 19 * j) A G [(0, .ref (A 0)), (1, .int (iI (j : Int)))] [] 108 := by
    intro d9
    induction d9 with
    | zero => intro j A G hd9; exact absurd hd9 (Nat.not_lt_zero _)
    | succ d9 ih =>
      intro j A G hd hj hA0 h0 h1 h3 h5 h6 h8 h2 h4 h7 hfm
      refine v_iload_n C d_A_init_108 rfl 1 rfl ?_
      refine v_bipush C d_A_init_109 (by decide +kernel) ?_
      refine v_icmp_geI C d_A_init_111 (by omega) (by omega) (by omega) (by omega) (fun hb111 => ?_) (fun hb111 => ?_)
      · have hj8 : j = 8 := by omega
        subst hj8
        exact hret _ _ _ _ _ _ (by omega) (by omega) d_A_init_159 ⟨hA0, h0, h1, h3, h5, h6, h8, h2, h4, h7, hfm⟩
      · refine v_aload_n C d_A_init_114 rfl 0 rfl ?_
        refine gf_A_22 C (by omega) h0 rfl d_A_init_115 ?_
        refine v_iload_n C d_A_init_118 rfl 1 rfl ?_
        refine v_newP (ci := 1) C ws_S t_S t_S_ok kl_A_20 ia_S in_S rfl d_S (by show _ ≤ 72; omega) (by show _ ≤ 1456; omega) d_A_init_119 (fun ad37 g37 hA37 ha fr37 => ?_)
        have h0 := (fr37 0 (by omega)).trans h0
        have h1 := (fr37 1 (by omega)).trans h1
        have h3 := (fr37 3 (by omega)).trans h3
        have h5 := (fr37 5 (by omega)).trans h5
        have h6 := (fr37 6 (by omega)).trans h6
        have h8 := (fr37 8 (by omega)).trans h8
        have h2 := (fr37 2 (by omega)).trans h2
        have h4 := (fr37 4 (by omega)).trans h4
        have h7 := (fr37 7 (by omega)).trans h7
        refine v_lvE (lv' := [(0, .ref (ad37 0)), (1, .int (iI (j : Int)))]) (by rw [hA37 0 (by omega)]) ?_
        refine v_stE (st' := [.ref (ad37 (9 + 8 * j)), .int (iI (j : Int)), .ref (ad37 2)]) (by rw [hA37 2 (by omega)]) ?_
        have h0 : g37 0 = .inr (0, [.int (iI (1 : Int)), .int (iI (1 : Int)), .ref (ad37 1), .ref (ad37 2), .int (bI false), .ref (ad37 3), .ref (ad37 4), .int (bI false), .ref (ad37 5), .int (iI 0), .int (iI (-1)), .ref (ad37 6), .ref (ad37 7), .ref (ad37 8)]) := by rw [hA37 1 (by omega), hA37 2 (by omega), hA37 3 (by omega), hA37 4 (by omega), hA37 5 (by omega), hA37 6 (by omega), hA37 7 (by omega), hA37 8 (by omega)]; exact h0
        refine v_dup C d_A_init_122 rfl ?_
        refine v_callINV (As := []) (st := [.ref (ad37 (9 + 8 * j)), .int (iI (j : Int)), .ref (ad37 2)]) (r0 := (9 + 8 * j)) C (c_Sinit l (9 + 8 * j) ha) (lk_A_60 C.1.2.2.2.2 C.2.2.2.1.1.1 rfl rfl ⟨Nat.le_of_ble_eq_true rfl, Nat.le_of_ble_eq_true rfl⟩) rfl rfl (Nat.le_of_ble_eq_true rfl) d_A_init_123 ⟨by show _ ≤ 72; omega, by show _ ≤ 1456; omega⟩ (fun ad38 g38 hp38 => ?_)
        obtain ⟨ha, ha1, fr38, hA38⟩ := hp38
        have h0 := (fr38 0 (by omega) (by omega)).trans h0
        have h1 := (fr38 1 (by omega) (by omega)).trans h1
        have h3 := (fr38 3 (by omega) (by omega)).trans h3
        have h5 := (fr38 5 (by omega) (by omega)).trans h5
        have h6 := (fr38 6 (by omega) (by omega)).trans h6
        have h8 := (fr38 8 (by omega) (by omega)).trans h8
        have h2 := (fr38 2 (by omega) (by omega)).trans h2
        have h4 := (fr38 4 (by omega) (by omega)).trans h4
        have h7 := (fr38 7 (by omega) (by omega)).trans h7
        refine v_lvE (lv' := [(0, .ref (ad38 0)), (1, .int (iI (j : Int)))]) (by rw [hA38 0 (by omega)]) ?_
        refine v_stE (st' := [.ref (ad38 (9 + 8 * j)), .int (iI (j : Int)), .ref (ad38 2)]) (by rw [hA38 (9 + 8 * j) (by omega), hA38 2 (by omega)]) ?_
        have h0 : g38 0 = .inr (0, [.int (iI (1 : Int)), .int (iI (1 : Int)), .ref (ad38 1), .ref (ad38 2), .int (bI false), .ref (ad38 3), .ref (ad38 4), .int (bI false), .ref (ad38 5), .int (iI 0), .int (iI (-1)), .ref (ad38 6), .ref (ad38 7), .ref (ad38 8)]) := by rw [hA38 1 (by omega), hA38 2 (by omega), hA38 3 (by omega), hA38 4 (by omega), hA38 5 (by omega), hA38 6 (by omega), hA38 7 (by omega), hA38 8 (by omega)]; exact h0
        refine v_aast (q := (R_S, F_S, 7)) C 3 1 (by omega) h2 rfl (by omega) ha rfl j rfl (by omega) (by decide) d_A_init_126 (fun g39 h2 fr40 => ?_)
        have h0 := (fr40 0 (by omega)).trans h0
        have h1 := (fr40 1 (by omega)).trans h1
        have h3 := (fr40 3 (by omega)).trans h3
        have h5 := (fr40 5 (by omega)).trans h5
        have h6 := (fr40 6 (by omega)).trans h6
        have h8 := (fr40 8 (by omega)).trans h8
        have h4 := (fr40 4 (by omega)).trans h4
        have h7 := (fr40 7 (by omega)).trans h7
        have ha := (fr40 (9 + 8 * j) (by omega)).trans ha
        have ha1 := (fr40 (9 + 8 * j + 1) (by omega)).trans ha1
        refine v_aload_n C d_A_init_127 rfl 0 rfl ?_
        refine gf_A_33 C (by omega) h0 rfl d_A_init_128 ?_
        refine v_iload_n C d_A_init_131 rfl 1 rfl ?_
        refine v_newP (ci := 1) C ws_S t_S t_S_ok kl_A_20 ia_S in_S rfl d_S (by show _ ≤ 72; omega) (by show _ ≤ 1456; omega) d_A_init_132 (fun ad41 g41 hA41 hb fr41 => ?_)
        have h0 := (fr41 0 (by omega)).trans h0
        have h1 := (fr41 1 (by omega)).trans h1
        have h3 := (fr41 3 (by omega)).trans h3
        have h5 := (fr41 5 (by omega)).trans h5
        have h6 := (fr41 6 (by omega)).trans h6
        have h8 := (fr41 8 (by omega)).trans h8
        have h2 := (fr41 2 (by omega)).trans h2
        have h4 := (fr41 4 (by omega)).trans h4
        have h7 := (fr41 7 (by omega)).trans h7
        have ha := (fr41 (9 + 8 * j) (by omega)).trans ha
        have ha1 := (fr41 (9 + 8 * j + 1) (by omega)).trans ha1
        refine v_lvE (lv' := [(0, .ref (ad41 0)), (1, .int (iI (j : Int)))]) (by rw [hA41 0 (by omega)]) ?_
        refine v_stE (st' := [.ref (ad41 (9 + 8 * j + 2)), .int (iI (j : Int)), .ref (ad41 4)]) (by rw [hA41 4 (by omega)]) ?_
        have h0 : g41 0 = .inr (0, [.int (iI (1 : Int)), .int (iI (1 : Int)), .ref (ad41 1), .ref (ad41 2), .int (bI false), .ref (ad41 3), .ref (ad41 4), .int (bI false), .ref (ad41 5), .int (iI 0), .int (iI (-1)), .ref (ad41 6), .ref (ad41 7), .ref (ad41 8)]) := by rw [hA41 1 (by omega), hA41 2 (by omega), hA41 3 (by omega), hA41 4 (by omega), hA41 5 (by omega), hA41 6 (by omega), hA41 7 (by omega), hA41 8 (by omega)]; exact h0
        have ha : g41 (9 + 8 * j) = .inr (1, [.int (bI false), .int (bI false), .int (iI 0), .int (iI 0), .int (iI 0), .int (iI 0), .ref (ad41 (9 + 8 * j + 1))]) := by rw [hA41 (9 + 8 * j + 1) (by omega)]; exact ha
        refine v_dup C d_A_init_135 rfl ?_
        refine v_callINV (As := []) (st := [.ref (ad41 (9 + 8 * j + 2)), .int (iI (j : Int)), .ref (ad41 4)]) (r0 := (9 + 8 * j + 2)) C (c_Sinit l (9 + 8 * j + 2) hb) (lk_A_60 C.1.2.2.2.2 C.2.2.2.1.1.1 rfl rfl ⟨Nat.le_of_ble_eq_true rfl, Nat.le_of_ble_eq_true rfl⟩) rfl rfl (Nat.le_of_ble_eq_true rfl) d_A_init_136 ⟨by show _ ≤ 72; omega, by show _ ≤ 1456; omega⟩ (fun ad42 g42 hp42 => ?_)
        obtain ⟨hb, hb1, fr42, hA42⟩ := hp42
        have h0 := (fr42 0 (by omega) (by omega)).trans h0
        have h1 := (fr42 1 (by omega) (by omega)).trans h1
        have h3 := (fr42 3 (by omega) (by omega)).trans h3
        have h5 := (fr42 5 (by omega) (by omega)).trans h5
        have h6 := (fr42 6 (by omega) (by omega)).trans h6
        have h8 := (fr42 8 (by omega) (by omega)).trans h8
        have h2 := (fr42 2 (by omega) (by omega)).trans h2
        have h4 := (fr42 4 (by omega) (by omega)).trans h4
        have h7 := (fr42 7 (by omega) (by omega)).trans h7
        have ha := (fr42 (9 + 8 * j) (by omega) (by omega)).trans ha
        have ha1 := (fr42 (9 + 8 * j + 1) (by omega) (by omega)).trans ha1
        refine v_lvE (lv' := [(0, .ref (ad42 0)), (1, .int (iI (j : Int)))]) (by rw [hA42 0 (by omega)]) ?_
        refine v_stE (st' := [.ref (ad42 (9 + 8 * j + 2)), .int (iI (j : Int)), .ref (ad42 4)]) (by rw [hA42 (9 + 8 * j + 2) (by omega), hA42 4 (by omega)]) ?_
        have h0 : g42 0 = .inr (0, [.int (iI (1 : Int)), .int (iI (1 : Int)), .ref (ad42 1), .ref (ad42 2), .int (bI false), .ref (ad42 3), .ref (ad42 4), .int (bI false), .ref (ad42 5), .int (iI 0), .int (iI (-1)), .ref (ad42 6), .ref (ad42 7), .ref (ad42 8)]) := by rw [hA42 1 (by omega), hA42 2 (by omega), hA42 3 (by omega), hA42 4 (by omega), hA42 5 (by omega), hA42 6 (by omega), hA42 7 (by omega), hA42 8 (by omega)]; exact h0
        have ha : g42 (9 + 8 * j) = .inr (1, [.int (bI false), .int (bI false), .int (iI 0), .int (iI 0), .int (iI 0), .int (iI 0), .ref (ad42 (9 + 8 * j + 1))]) := by rw [hA42 (9 + 8 * j + 1) (by omega)]; exact ha
        refine v_aast (q := (R_S, F_S, 7)) C 3 1 (by omega) h4 rfl (by omega) hb rfl j rfl (by omega) (by decide) d_A_init_139 (fun g43 h4 fr44 => ?_)
        have h0 := (fr44 0 (by omega)).trans h0
        have h1 := (fr44 1 (by omega)).trans h1
        have h3 := (fr44 3 (by omega)).trans h3
        have h5 := (fr44 5 (by omega)).trans h5
        have h6 := (fr44 6 (by omega)).trans h6
        have h8 := (fr44 8 (by omega)).trans h8
        have h2 := (fr44 2 (by omega)).trans h2
        have h7 := (fr44 7 (by omega)).trans h7
        have ha := (fr44 (9 + 8 * j) (by omega)).trans ha
        have ha1 := (fr44 (9 + 8 * j + 1) (by omega)).trans ha1
        have hb := (fr44 (9 + 8 * j + 2) (by omega)).trans hb
        have hb1 := (fr44 (9 + 8 * j + 2 + 1) (by omega)).trans hb1
        refine v_aload_n C d_A_init_140 rfl 0 rfl ?_
        refine gf_A_53 C (by omega) h0 rfl d_A_init_141 ?_
        refine v_iload_n C d_A_init_144 rfl 1 rfl ?_
        refine v_newP (ci := 2) C ws_W t_W t_W_ok kl_A_51 ia_W in_W rfl d_W (by show _ ≤ 72; omega) (by show _ ≤ 1456; omega) d_A_init_145 (fun ad45 g45 hA45 hc fr45 => ?_)
        have h0 := (fr45 0 (by omega)).trans h0
        have h1 := (fr45 1 (by omega)).trans h1
        have h3 := (fr45 3 (by omega)).trans h3
        have h5 := (fr45 5 (by omega)).trans h5
        have h6 := (fr45 6 (by omega)).trans h6
        have h8 := (fr45 8 (by omega)).trans h8
        have h2 := (fr45 2 (by omega)).trans h2
        have h4 := (fr45 4 (by omega)).trans h4
        have h7 := (fr45 7 (by omega)).trans h7
        have ha := (fr45 (9 + 8 * j) (by omega)).trans ha
        have ha1 := (fr45 (9 + 8 * j + 1) (by omega)).trans ha1
        have hb := (fr45 (9 + 8 * j + 2) (by omega)).trans hb
        have hb1 := (fr45 (9 + 8 * j + 2 + 1) (by omega)).trans hb1
        refine v_lvE (lv' := [(0, .ref (ad45 0)), (1, .int (iI (j : Int)))]) (by rw [hA45 0 (by omega)]) ?_
        refine v_stE (st' := [.ref (ad45 (9 + 8 * j + 2 + 2)), .int (iI (j : Int)), .ref (ad45 7)]) (by rw [hA45 7 (by omega)]) ?_
        have h0 : g45 0 = .inr (0, [.int (iI (1 : Int)), .int (iI (1 : Int)), .ref (ad45 1), .ref (ad45 2), .int (bI false), .ref (ad45 3), .ref (ad45 4), .int (bI false), .ref (ad45 5), .int (iI 0), .int (iI (-1)), .ref (ad45 6), .ref (ad45 7), .ref (ad45 8)]) := by rw [hA45 1 (by omega), hA45 2 (by omega), hA45 3 (by omega), hA45 4 (by omega), hA45 5 (by omega), hA45 6 (by omega), hA45 7 (by omega), hA45 8 (by omega)]; exact h0
        have ha : g45 (9 + 8 * j) = .inr (1, [.int (bI false), .int (bI false), .int (iI 0), .int (iI 0), .int (iI 0), .int (iI 0), .ref (ad45 (9 + 8 * j + 1))]) := by rw [hA45 (9 + 8 * j + 1) (by omega)]; exact ha
        have hb : g45 (9 + 8 * j + 2) = .inr (1, [.int (bI false), .int (bI false), .int (iI 0), .int (iI 0), .int (iI 0), .int (iI 0), .ref (ad45 (9 + 8 * j + 2 + 1))]) := by rw [hA45 (9 + 8 * j + 2 + 1) (by omega)]; exact hb
        refine v_dup C d_A_init_148 rfl ?_
        refine v_callINV (As := []) (st := [.ref (ad45 (9 + 8 * j + 2 + 2)), .int (iI (j : Int)), .ref (ad45 7)]) (r0 := (9 + 8 * j + 2 + 2)) C (c_Winit l (9 + 8 * j + 2 + 2) hc) (lk_A_61 C.1.2.2.2.2 C.2.2.2.1.1.2.1 rfl rfl ⟨Nat.le_of_ble_eq_true rfl, Nat.le_of_ble_eq_true rfl⟩) rfl rfl (Nat.le_of_ble_eq_true rfl) d_A_init_149 ⟨by show _ ≤ 72; omega, by show _ ≤ 1456; omega⟩ (fun ad46 g46 hp46 => ?_)
        obtain ⟨hc, hc1, hc2, hc3, fr46, hA46⟩ := hp46
        have h0 := (fr46 0 (by omega) (by omega) (by omega) (by omega)).trans h0
        have h1 := (fr46 1 (by omega) (by omega) (by omega) (by omega)).trans h1
        have h3 := (fr46 3 (by omega) (by omega) (by omega) (by omega)).trans h3
        have h5 := (fr46 5 (by omega) (by omega) (by omega) (by omega)).trans h5
        have h6 := (fr46 6 (by omega) (by omega) (by omega) (by omega)).trans h6
        have h8 := (fr46 8 (by omega) (by omega) (by omega) (by omega)).trans h8
        have h2 := (fr46 2 (by omega) (by omega) (by omega) (by omega)).trans h2
        have h4 := (fr46 4 (by omega) (by omega) (by omega) (by omega)).trans h4
        have h7 := (fr46 7 (by omega) (by omega) (by omega) (by omega)).trans h7
        have ha := (fr46 (9 + 8 * j) (by omega) (by omega) (by omega) (by omega)).trans ha
        have ha1 := (fr46 (9 + 8 * j + 1) (by omega) (by omega) (by omega) (by omega)).trans ha1
        have hb := (fr46 (9 + 8 * j + 2) (by omega) (by omega) (by omega) (by omega)).trans hb
        have hb1 := (fr46 (9 + 8 * j + 2 + 1) (by omega) (by omega) (by omega) (by omega)).trans hb1
        refine v_lvE (lv' := [(0, .ref (ad46 0)), (1, .int (iI (j : Int)))]) (by rw [hA46 0 (by omega) (by omega) (by omega)]) ?_
        refine v_stE (st' := [.ref (ad46 (9 + 8 * j + 2 + 2)), .int (iI (j : Int)), .ref (ad46 7)]) (by rw [hA46 (9 + 8 * j + 2 + 2) (by omega) (by omega) (by omega), hA46 7 (by omega) (by omega) (by omega)]) ?_
        have h0 : g46 0 = .inr (0, [.int (iI (1 : Int)), .int (iI (1 : Int)), .ref (ad46 1), .ref (ad46 2), .int (bI false), .ref (ad46 3), .ref (ad46 4), .int (bI false), .ref (ad46 5), .int (iI 0), .int (iI (-1)), .ref (ad46 6), .ref (ad46 7), .ref (ad46 8)]) := by rw [hA46 1 (by omega) (by omega) (by omega), hA46 2 (by omega) (by omega) (by omega), hA46 3 (by omega) (by omega) (by omega), hA46 4 (by omega) (by omega) (by omega), hA46 5 (by omega) (by omega) (by omega), hA46 6 (by omega) (by omega) (by omega), hA46 7 (by omega) (by omega) (by omega), hA46 8 (by omega) (by omega) (by omega)]; exact h0
        have ha : g46 (9 + 8 * j) = .inr (1, [.int (bI false), .int (bI false), .int (iI 0), .int (iI 0), .int (iI 0), .int (iI 0), .ref (ad46 (9 + 8 * j + 1))]) := by rw [hA46 (9 + 8 * j + 1) (by omega) (by omega) (by omega)]; exact ha
        have hb : g46 (9 + 8 * j + 2) = .inr (1, [.int (bI false), .int (bI false), .int (iI 0), .int (iI 0), .int (iI 0), .int (iI 0), .ref (ad46 (9 + 8 * j + 2 + 1))]) := by rw [hA46 (9 + 8 * j + 2 + 1) (by omega) (by omega) (by omega)]; exact hb
        refine v_aast (q := (R_W, F_W, 5)) C 4 2 (by omega) h7 rfl (by omega) hc rfl j rfl (by omega) (by decide) d_A_init_152 (fun g47 h7 fr48 => ?_)
        have h0 := (fr48 0 (by omega)).trans h0
        have h1 := (fr48 1 (by omega)).trans h1
        have h3 := (fr48 3 (by omega)).trans h3
        have h5 := (fr48 5 (by omega)).trans h5
        have h6 := (fr48 6 (by omega)).trans h6
        have h8 := (fr48 8 (by omega)).trans h8
        have h2 := (fr48 2 (by omega)).trans h2
        have h4 := (fr48 4 (by omega)).trans h4
        have ha := (fr48 (9 + 8 * j) (by omega)).trans ha
        have ha1 := (fr48 (9 + 8 * j + 1) (by omega)).trans ha1
        have hb := (fr48 (9 + 8 * j + 2) (by omega)).trans hb
        have hb1 := (fr48 (9 + 8 * j + 2 + 1) (by omega)).trans hb1
        have hc := (fr48 (9 + 8 * j + 2 + 2) (by omega)).trans hc
        have hc1 := (fr48 (9 + 8 * j + 2 + 2 + 1) (by omega)).trans hc1
        have hc2 := (fr48 (9 + 8 * j + 2 + 2 + 2) (by omega)).trans hc2
        have hc3 := (fr48 (9 + 8 * j + 2 + 2 + 3) (by omega)).trans hc3
        refine v_iinc (lv' := [(1, .int (iI ((j : Int) + 1))), (0, .ref (ad46 0))]) C d_A_init_153 1 rfl (by decide) rfl ?_
        refine v_goto C d_A_init_156 ?_
        refine v_lv (lv' := [(0, .ref (ad46 0)), (1, .int (iI ((j : Int) + 1)))]) [1, 0] rfl ?_
        have hfr9 := (fun r1 n0 n1 n2 n3 n4 n5 n6 n7 n8 n9 n10 => ((fr48 r1 n2).trans ((fr46 r1 n7 n8 n9 n10).trans ((fr45 r1 n7).trans ((fr44 r1 n1).trans ((fr42 r1 n5 n6).trans ((fr41 r1 n5).trans ((fr40 r1 n0).trans ((fr38 r1 n3 n4).trans (fr37 r1 n3))))))))))
        have haf9 := (fun r1 n0 n1 n2 n3 n4 n5 n6 n7 => ((hA46 r1 n5 n6 n7).trans ((hA45 r1 n4).trans ((hA42 r1 n3).trans ((hA41 r1 n2).trans ((hA38 r1 n1).trans (hA37 r1 n0)))))))
        have haf : ∀ r, r < 9 + 8 * j → ad46 r = A r := fun r hr => haf9 r (by omega) (by omega) (by omega) (by omega) (by omega) (by omega) (by omega) (by omega)
        have eh2 : ad46 (9 + 8 * j) = ad38 (9 + 8 * j) := by rw [show 9 + 8 * j = 9 + 8 * j by omega]; exact (fun r1 n0 n1 n2 n3 n4 n5 n6 n7 => ((hA46 r1 n5 n6 n7).trans ((hA45 r1 n4).trans ((hA42 r1 n3).trans (hA41 r1 n2))))) (9 + 8 * j) (by omega) (by omega) (by omega) (by omega) (by omega) (by omega) (by omega) (by omega)
        rw [← eh2, pfn_s (fun s hs => haf _ (by omega))] at h2
        have eh4 : ad46 (11 + 8 * j) = ad42 (9 + 8 * j + 2) := by rw [show 11 + 8 * j = 9 + 8 * j + 2 by omega]; exact (fun r1 n0 n1 n2 n3 n4 n5 n6 n7 => ((hA46 r1 n5 n6 n7).trans (hA45 r1 n4))) (9 + 8 * j + 2) (by omega) (by omega) (by omega) (by omega) (by omega) (by omega) (by omega) (by omega)
        rw [← eh4, pfn_s (fun s hs => haf _ (by omega))] at h4
        have eh7 : ad46 (13 + 8 * j) = ad46 (9 + 8 * j + 2 + 2) := by rw [show 13 + 8 * j = 9 + 8 * j + 2 + 2 by omega]
        rw [← eh7, pfn_s (fun s hs => haf _ (by omega))] at h7
        have hfm2 : ∀ s, s < j + 1 → famI cI ad46 g47 s := fun s hs => by
          by_cases e9 : s = j
          · subst e9; unfold famI; rw [show 11 + 8 * s = 9 + 8 * s + 2 by omega, show 13 + 8 * s = 9 + 8 * s + 2 + 2 by omega]; exact ⟨ha, ha1, hb, hb1, hc, hc1, hc2, hc3⟩
          · exact famI_mv (j := j) (by omega) haf (fun r h1 h2 => hfr9 r (by omega) (by omega) (by omega) (by omega) (by omega) (by omega) (by omega) (by omega) (by omega) (by omega) (by omega)) (hfm s (by omega))
        refine v_NE (N' := 9 + 8 * (j + 1)) (by omega) ?_
        refine v_wid (k := 8 + 8 * (j + 1)) (n := 1304 + 19 * (j + 1)) (by omega) (by omega) ?_
        exact ih (j + 1) _ _ (by omega) (by omega) ((haf 0 (by omega)).trans hA0) h0 h1 h3 h5 h6 h8 h2 h4 h7 hfm2
  exact L108 _ 0 _ _ (Nat.lt_succ_self _) (by omega) ((fun r1 n0 n1 n2 n3 n4 n5 n6 n7 => ((hA34 r1 n7).trans ((hA31 r1 n6).trans ((hA28 r1 n5).trans ((hA21 r1 n4).trans ((hA16 r1 n3).trans ((hA13 r1 n2).trans ((hA8 r1 n1).trans (hA5 r1 n0))))))))) 0 (by omega) (by omega) (by omega) (by omega) (by omega) (by omega) (by omega) (by omega)) h0 h1 h3 h5 h6 h8 (h2.trans (by rw [pfn_0])) (h4.trans (by rw [pfn_0])) (h7.trans (by rw [pfn_0])) (fun s hs => absurd hs (by omega))
