/-! an array of references: what lies beyond its length doesn't count -/
theorem arr_extR {cA : ClassId} {n : Nat} {f f1 : Nat → Option Nat} (h : ∀ k, k < n → f k = f1 k) : vp_cell cA (n, .inr (.inr (.inr (.inr f)))) = vp_cell cA (n, .inr (.inr (.inr (.inr f1)))) := by
  show arrV cA n (fun j => va_rf (f j)) = arrV cA n (fun j => va_rf (f1 j))
  unfold arrV
  congr 2
  funext j
  show va_rf (f j.val) = va_rf (f1 j.val)
  rw [h j.val j.isLt]
section VB
variable {p : Program} {l : Launch} {e : Env} {R : Room} {s : State} {m : MethodId} {args : Array Value} {below : List Frame} {meth : Method} {c : Code} {Q : State → Prop} {H0 : Heap} {B : Nat} {D : va_G} {cl : List vw_C} {tys : List (ClassId × FieldType)} {Z : ZT} {cc : ByteArray} {nL N : Nat} {own : String} {Ts : List Cond} {cells slots : Nat} {ad : Nat → Nat} {g : Nat → va_E} {lv lv' : List (Nat × Value)} {st : List Value} {pc pc2 : Nat}
theorem v_extR {r n : Nat} {cA : ClassId} {f : Nat → Option Nat} (f1 : Nat → Option Nat) (hg : g r = rfA cA n f) (he : ∀ k, k < n → f k = f1 k) (k : ∀ g1 : Nat → va_E, g1 r = rfA cA n f1 → (∀ r1, r1 ≠ r → g1 r1 = g r1) → kV p l e R s m args below meth c Q H0 B D cl nL N cells slots ad g1 lv st pc) : kV p l e R s m args below meth c Q H0 B D cl nL N cells slots ad g lv st pc := fun H locs ls hl hP hD hS => by
  refine k (va_up g r (rfA cA n f1)) (va_up_self _ _ _) (fun r1 h1 => va_up_ne _ _ h1) H locs ls hl (fun i q hq => ?_) ⟨fun i j x y hi hj hxy => ?_, fun i q hq => ?_⟩ hS
  · obtain ⟨h1, rfl⟩ := wl_of hq
    have h2 := hP i _ (wl_get h1)
    by_cases hi : i = r
    · subst hi
      rw [va_up_self]
      rw [hg] at h2
      show H[ad i]? = some (vp_cell cA (n, .inr (.inr (.inr (.inr f1)))))
      rw [← arr_extR he]
      exact h2
    · rw [va_up_ne _ _ hi]
      exact h2
  · obtain ⟨h1, rfl⟩ := wl_of hi
    obtain ⟨h2, rfl⟩ := wl_of hj
    exact hD.1 i j _ _ (wl_get h1) (wl_get h2) hxy
  · obtain ⟨h1, rfl⟩ := wl_of hq
    show aB B (ad i)
    exact hD.2 i _ (wl_get h1)
end VB
