/-! a cell's column and row; room rounded up -/
theorem rem16 : ∀ c : Nat, c < 256 → iI (c : Int) - iI (c : Int) / iI 16 * iI 16 = iI ((c % 16 : Nat) : Int) := by decide +kernel
theorem div16 : ∀ c : Nat, c < 256 → iI (c : Int) / iI 16 = iI ((c / 16 : Nat) : Int) := by decide +kernel
theorem ne16 : ¬ iI 16 = 0 := by decide
section VW
variable {p : Program} {l : Launch} {e : Env} {R : Room} {s : State} {m : MethodId} {args : Array Value} {below : List Frame} {meth : Method} {c : Code} {Q : State → Prop} {H0 : Heap} {B : Nat} {D : va_G} {cl : List vw_C} {nL N : Nat} {cells slots : Nat} {ad : Nat → Nat} {g : Nat → va_E} {lv : List (Nat × Value)} {st : List Value} {pc : Nat}
theorem v_wid {k n : Nat} (h1 : cells ≤ k) (h2 : slots ≤ n) (kk : kV p l e R s m args below meth c Q H0 B D cl nL N k n ad g lv st pc) : kV p l e R s m args below meth c Q H0 B D cl nL N cells slots ad g lv st pc := fun H locs ls hl hP hD hS => W.widen h1 h2 (kk H locs ls hl hP hD hS)
end VW
/-- a family of cells, one of them anew -/
theorem fam_up {α : Type} {g g1 : Nat → va_E} {b k s0 : Nat} {F : Nat → α → va_E} {X : Nat → α} {x : α} (h : ∀ j, j < 8 → g (b + 8 * j + k) = F j (X j)) (h1 : g1 (b + 8 * s0 + k) = F s0 x) (hf : ∀ j, j < 8 → j ≠ s0 → g1 (b + 8 * j + k) = g (b + 8 * j + k)) : ∀ j, j < 8 → g1 (b + 8 * j + k) = F j (va_up X s0 x j) := fun j hj => by
  by_cases hjs : j = s0
  · subst hjs; rw [va_up_self]; exact h1
  · rw [va_up_ne _ _ hjs, hf j hj hjs]; exact h j hj
