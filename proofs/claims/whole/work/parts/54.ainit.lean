/-! the class's object as it is made -/
def pfn (A : Nat → Nat) (b j : Nat) : Nat → Option Nat := fun s => if s < j then some (A (b + 8 * s)) else none
abbrev T00 : ShT := (false, false, 0, 0, 0, 0)
def famI (cI : ClassId) (A : Nat → Nat) (G : Nat → va_E) (s : Nat) : Prop := G (9 + 8 * s) = shE (A (9 + 8 * s + 1)) T00 ∧ G (9 + 8 * s + 1) = inA cI 0 (fun _ => 0) ∧ G (11 + 8 * s) = shE (A (11 + 8 * s + 1)) T00 ∧ G (11 + 8 * s + 1) = inA cI 0 (fun _ => 0) ∧ G (13 + 8 * s) = wsE 0 0 (A (13 + 8 * s + 1)) (A (13 + 8 * s + 2)) (A (13 + 8 * s + 3)) ∧ G (13 + 8 * s + 1) = inA cI 0 (fun _ => 0) ∧ G (13 + 8 * s + 2) = inA cI 0 (fun _ => 0) ∧ G (13 + 8 * s + 3) = inA cI 0 (fun _ => 0)
theorem famI_mv {cI : ClassId} {A A1 : Nat → Nat} {G G1 : Nat → va_E} {s j : Nat} (hs : s < j) (hA : ∀ r, r < 9 + 8 * j → A1 r = A r) (hG : ∀ r, 9 ≤ r → r < 9 + 8 * j → G1 r = G r) (h : famI cI A G s) : famI cI A1 G1 s := by
  unfold famI at h ⊢
  rw [hG _ (by omega) (by omega), hG _ (by omega) (by omega), hG _ (by omega) (by omega), hG _ (by omega) (by omega), hG _ (by omega) (by omega), hG _ (by omega) (by omega), hG _ (by omega) (by omega), hG _ (by omega) (by omega), hA _ (by omega), hA _ (by omega), hA _ (by omega), hA _ (by omega), hA _ (by omega)]
  exact h
theorem pfn_s {A A1 : Nat → Nat} {b j : Nat} (hA : ∀ s, s < j → A1 (b + 8 * s) = A (b + 8 * s)) : va_up (pfn A b j) j (some (A1 (b + 8 * j))) = pfn A1 b (j + 1) := by
  funext s
  by_cases e : s = j
  · subst e; rw [va_up_self]; exact (if_pos (Nat.lt_succ_self _)).symm
  · rw [va_up_ne _ _ e]
    unfold pfn
    by_cases h : s < j
    · rw [if_pos h, if_pos (by omega), hA s h]
    · rw [if_neg h, if_neg (by omega)]
theorem pfn_0 {A : Nat → Nat} {b : Nat} : pfn A b 0 = fun _ => none := by
  funext s
  exact if_neg (by omega)
theorem d_S : ∀ j, j < 7 → defaultValue (t_S j) = vp_V [.int 0, .int 0, .int 0, .int 0, .int 0, .int 0, .null] j := fun j hj => by
  rcases (show j = 0 ∨ j = 1 ∨ j = 2 ∨ j = 3 ∨ j = 4 ∨ j = 5 ∨ j = 6 by omega) with rfl | rfl | rfl | rfl | rfl | rfl | rfl <;> rfl
theorem d_W : ∀ j, j < 5 → defaultValue (t_W j) = vp_V [.int 0, .int 0, .null, .null, .null] j := fun j hj => by
  rcases (show j = 0 ∨ j = 1 ∨ j = 2 ∨ j = 3 ∨ j = 4 by omega) with rfl | rfl | rfl | rfl | rfl <;> rfl
section VE
variable {p : Program} {l : Launch} {e : Env} {R : Room} {s : State} {m : MethodId} {args : Array Value} {below : List Frame} {meth : Method} {c : Code} {Q : State → Prop} {H0 : Heap} {B : Nat} {D : va_G} {cl : List vw_C} {nL N N' : Nat} {cells slots : Nat} {ad : Nat → Nat} {g : Nat → va_E} {lv : List (Nat × Value)} {st : List Value} {pc : Nat}
theorem v_NE (h : N = N') (k : kV p l e R s m args below meth c Q H0 B D cl nL N' cells slots ad g lv st pc) : kV p l e R s m args below meth c Q H0 B D cl nL N cells slots ad g lv st pc := by
  subst h
  exact k
end VE
