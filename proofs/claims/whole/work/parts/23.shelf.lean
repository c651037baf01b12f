/-- the first n numbers of f with those of f2 added, or taken away -/
def addF (b : Bool) (f f2 : Nat → Int32) (n : Nat) : Nat → Int32 := fun k => if k < n then f k + (if b = true then f2 k else -f2 k) else f k
theorem addF_0 (b : Bool) (f f2 : Nat → Int32) : addF b f f2 0 = f := by
  funext k
  exact if_neg (Nat.not_lt_zero _)
theorem addF_s {b : Bool} {f f2 : Nat → Int32} {i : Nat} {x : Int32} (hx : (if b = true then f2 i else -f2 i) = x) : upd (addF b f f2 i) i (addF b f f2 i i + x) = addF b f f2 (i + 1) := by
  funext k
  have e0 : addF b f f2 i i = f i := if_neg (Nat.lt_irrefl _)
  by_cases hk : k = i
  · subst hk
    rw [pk_us, e0, ← hx]
    exact (if_pos (Nat.lt_succ_self _)).symm
  · rw [pk_un hk]
    unfold addF
    by_cases h1 : k < i
    · rw [if_pos h1, if_pos (show k < i + 1 by omega)]
    · rw [if_neg h1, if_neg (show ¬ k < i + 1 by omega)]
set_option maxHeartbeats 1000000 in
set_option maxRecDepth 100000 in
theorem c_addEach (l : Launch) {B : Nat} {D : va_G} {cI cZ cL cS cW : ClassId} {ad : Nat → Nat} {g : Nat → va_E} (ra rb n n1 n2 : Nat) (b : Bool) (f f2 : Nat → Int32) (hr1 : ra < 95) (hr2 : rb < 95) (hne : rb ≠ ra) (h1n : n ≤ n1) (h2n : n ≤ n2) (hn1 : n1 < 65536) (hn2 : n2 < 65536) (h1 : g ra = inA cI n1 f) (h2 : g rb = inA cI n2 f2) : Met l y_A_addEach (Cond.code y_A_addEach b_A_addEach 5 none :: wG) (rmF 0 0 0 0) (wPc B D classes (tyL cI cZ cL cS cW) (Zs B) 95 [.ref (ad ra), .ref (ad rb), .int (iI (n : Int)), .int (bI b)] ad g) (QV B D classes 95 (fun ad1 g1 => ad = ad1 ∧ g1 ra = inA cI n1 (addF b f f2 n) ∧ ∀ r, r ≠ ra → g1 r = g r)) 0 0 (aB B) := by
  refine ofV (own := R_A) (by decide) rfl (Nat.le_of_ble_eq_true rfl) ?_
  intro p e s m below meth c Q C hnm hret
  change kV _ _ _ _ _ _ _ _ _ _ _ _ _ _ _ _ _ _ _ _ _ [(0, .ref (ad ra)), (1, .ref (ad rb)), (2, .int (iI (n : Int))), (3, .int (bI b))] _ _
  refine v_iconst C d_A_addEach_0 ?_
  refine v_istore (lv' := [(4, .int (iI 0)), (0, .ref (ad ra)), (1, .ref (ad rb)), (2, .int (iI (n : Int))), (3, .int (bI b))]) C d_A_addEach_1 (by decide) rfl ?_
  refine v_lv (lv' := [(0, .ref (ad ra)), (1, .ref (ad rb)), (2, .int (iI (n : Int))), (3, .int (bI b)), (4, .int (iI 0))]) [1, 2, 3, 4, 0] rfl ?_
  have L3 : ∀ (d9 : Nat) (i : Nat) (G3 : Nat → va_E), n - i < d9 → (i ≤ n) → (∀ r1, r1 ≠ ra → G3 r1 = g r1) → G3 ra = inA cI n1 (addF b f f2 i) → kV p l e (rmF 0 0 0 0) s m ([.ref (ad ra), .ref (ad rb), .int (iI (n : Int)), .int (bI b)] : List Value).toArray below meth c Q s.heap B D classes 5 95 0 0 ad G3 [(0, .ref (ad ra)), (1, .ref (ad rb)), (2, .int (iI (n : Int))), (3, .int (bI b)), (4, .int (iI (i : Int)))] [] 3 := by
    intro d9
    induction d9 with
    | zero => intro i G3 hd9; exact absurd hd9 (Nat.not_lt_zero _)
    | succ d9 ih3 =>
      intro i G3 hd3 hi hfr3 h1
      have h2 := (hfr3 rb (by omega)).trans h2
      refine v_iload C d_A_addEach_3 4 rfl ?_
      refine v_iload_n C d_A_addEach_5 rfl 2 rfl ?_
      refine v_icmp_geI C d_A_addEach_6 (by omega) (by omega) (by omega) (by omega) (fun hb6 => ?_) (fun hb6 => ?_)
      · have hin : i = n := by omega
        rw [hin] at h1
        exact hret _ _ _ _ _ _ (Nat.zero_le _) (Nat.zero_le _) d_A_addEach_38 ⟨rfl, h1, (fun r1 n0 => (hfr3 r1 n0))⟩
      · refine v_aload_n C d_A_addEach_9 rfl 0 rfl ?_
        refine v_iload C d_A_addEach_10 4 rfl ?_
        refine v_dup2 C d_A_addEach_12 rfl rfl ?_
        refine v_iald C 0 (by omega) h1 rfl (i : Nat) (by omega) (by omega) (by omega) d_A_addEach_13 ?_
        refine v_iload_n C d_A_addEach_14 rfl 3 rfl ?_
        refine v_if_eqB C d_A_addEach_15 (fun hb15 => ?_) (fun hb15 => ?_)
        · refine v_aload_n C d_A_addEach_25 rfl 1 rfl ?_
          refine v_iload C d_A_addEach_26 4 rfl ?_
          refine v_iald C 0 (by omega) h2 rfl (i : Nat) (by omega) (by omega) (by omega) d_A_addEach_28 ?_
          refine v_ineg C d_A_addEach_29 ?_
          refine v_iadd C d_A_addEach_30 ?_
          refine v_iast C 0 (by omega) h1 rfl (i : Nat) (by omega) (by omega) (by omega) d_A_addEach_31 (fun g1 h1 fr2 => ?_)
          have h2 := (fr2 rb (by omega)).trans h2
          refine v_iinc (lv' := [(4, .int (iI ((i : Int) + 1))), (0, .ref (ad ra)), (1, .ref (ad rb)), (2, .int (iI (n : Int))), (3, .int (bI b))]) C d_A_addEach_32 4 rfl (by decide) rfl ?_
          refine v_goto C d_A_addEach_35 ?_
          refine v_lv (lv' := [(0, .ref (ad ra)), (1, .ref (ad rb)), (2, .int (iI (n : Int))), (3, .int (bI b)), (4, .int (iI ((i : Int) + 1)))]) [1, 2, 3, 4, 0] rfl ?_
          exact ih3 (i + 1) _ (by omega) (by omega) (fun r1 n0 => ((fr2 r1 n0).trans (hfr3 r1 n0))) (h1.trans (by rw [addF_s (by rw [hb15]; rfl)]))
        · refine v_aload_n C d_A_addEach_18 rfl 1 rfl ?_
          refine v_iload C d_A_addEach_19 4 rfl ?_
          refine v_iald C 0 (by omega) h2 rfl (i : Nat) (by omega) (by omega) (by omega) d_A_addEach_21 ?_
          refine v_goto C d_A_addEach_22 ?_
          refine v_iadd C d_A_addEach_30 ?_
          refine v_iast C 0 (by omega) h1 rfl (i : Nat) (by omega) (by omega) (by omega) d_A_addEach_31 (fun g3 h1 fr4 => ?_)
          have h2 := (fr4 rb (by omega)).trans h2
          refine v_iinc (lv' := [(4, .int (iI ((i : Int) + 1))), (0, .ref (ad ra)), (1, .ref (ad rb)), (2, .int (iI (n : Int))), (3, .int (bI b))]) C d_A_addEach_32 4 rfl (by decide) rfl ?_
          refine v_goto C d_A_addEach_35 ?_
          refine v_lv (lv' := [(0, .ref (ad ra)), (1, .ref (ad rb)), (2, .int (iI (n : Int))), (3, .int (bI b)), (4, .int (iI ((i : Int) + 1)))]) [1, 2, 3, 4, 0] rfl ?_
          exact ih3 (i + 1) _ (by omega) (by omega) (fun r1 n0 => ((fr4 r1 n0).trans (hfr3 r1 n0))) (h1.trans (by rw [addF_s (by rw [hb15]; rfl)]))
  exact L3 _ 0 _ (Nat.lt_succ_self _) (Nat.zero_le _) (fun r1 _ => rfl) (by rw [addF_0]; exact h1)
set_option maxHeartbeats 1000000 in
set_option maxRecDepth 100000 in
theorem c_addShelf (l : Launch) {B : Nat} {D : va_G} {cI cZ cL cS cW : ClassId} {ad : Nat → Nat} {g : Nat → va_E} (r r2 nb nb2 n : Nat) (t t2 : ShT) (b : Bool) (f f2 : Nat → Int32) (hr : r < 94) (hr2 : r2 < 94) (hne : r2 ≠ r ∧ r2 ≠ r + 1 ∧ r ≠ r2 + 1) (hb : -16 ≤ t.2.2.1 ∧ t.2.2.1 ≤ 16 ∧ -16 ≤ t.2.2.2.1 ∧ t.2.2.2.1 ≤ 16) (hb2 : -16 ≤ t2.2.2.1 ∧ t2.2.2.1 ≤ 16 ∧ -16 ≤ t2.2.2.2.1 ∧ t2.2.2.2.1 ≤ 16) (hfl : (t.2.1 && t2.2.1 && decide (t2.2.2.1 = t.2.2.1 ∧ t2.2.2.2.1 = t.2.2.2.1)) = true → nb = 481 ∧ nb2 = 481 ∧ t.2.2.2.2.2 = (n : Int) ∧ n ≤ 481) (h0 : g r = shE (ad (r + 1)) t) (h1 : g (r + 1) = inA cI nb f) (h2 : g r2 = shE (ad (r2 + 1)) t2) (h3 : g (r2 + 1) = inA cI nb2 f2) : Met l y_S_addShelf (Cond.code y_S_addShelf b_S_addShelf 3 none :: wG) (rmF 1 40 0 0) (wPc B D classes (tyL cI cZ cL cS cW) (Zs B) 95 [.ref (ad r), .ref (ad r2), .int (bI b)] ad g) (QV B D classes 95 (fun ad1 g1 => ad = ad1 ∧ g1 r = shE (ad (r + 1)) (t.1, (t.2.1 && t2.2.1 && decide (t2.2.2.1 = t.2.2.1 ∧ t2.2.2.2.1 = t.2.2.2.1)), t.2.2) ∧ g1 (r + 1) = inA cI nb (if (t.2.1 && t2.2.1 && decide (t2.2.2.1 = t.2.2.1 ∧ t2.2.2.2.1 = t.2.2.2.1)) = true then addF b f f2 n else f) ∧ ∀ r1, r1 ≠ r → r1 ≠ r + 1 → g1 r1 = g r1)) 0 0 (aB B) := by
  refine ofV (own := R_S) (by decide) rfl (Nat.le_of_ble_eq_true rfl) ?_
  intro p e s m below meth c Q C hnm hret
  change kV _ _ _ _ _ _ _ _ _ _ _ _ _ _ _ _ _ _ _ _ _ [(0, .ref (ad r)), (1, .ref (ad r2)), (2, .int (bI b))] _ _
  refine v_aload_n C d_S_addShelf_0 rfl 0 rfl ?_
  refine v_aload_n C d_S_addShelf_1 rfl 0 rfl ?_
  refine gf_S_15 C (by omega) h0 rfl d_S_addShelf_2 ?_
  refine v_if_eqB C d_S_addShelf_5 (fun hb5 => ?_) (fun hb5 => ?_)
  · refine v_iconst C d_S_addShelf_34 ?_
    refine pf_S_15 (fs' := [.int (bI t.1), .int (iI 0), .int (iI t.2.2.1), .int (iI t.2.2.2.1), .int (iI t.2.2.2.2.1), .int (iI t.2.2.2.2.2), .ref (ad (r + 1))]) C (by omega) h0 rfl rfl (Nat.le_of_ble_eq_true rfl) rfl d_S_addShelf_35 (fun g1 h0 fr2 => ?_)
    have h1 := (fr2 (r + 1) (by omega)).trans h1
    have h2 := (fr2 r2 (by omega)).trans h2
    have h3 := (fr2 (r2 + 1) (by omega)).trans h3
    refine v_aload_n C d_S_addShelf_38 rfl 0 rfl ?_
    refine gf_S_15 C (by omega) h0 rfl d_S_addShelf_39 ?_
    refine v_if_eqI C d_S_addShelf_42 (by omega) (by omega) (fun _ => ?_) (fun hz9 => absurd hz9 (by omega))
    have hfv : (t.2.1 && t2.2.1 && decide (t2.2.2.1 = t.2.2.1 ∧ t2.2.2.2.1 = t.2.2.2.1)) = false := by simp [hb5]
    exact hret _ _ _ _ _ _ (Nat.zero_le _) (Nat.zero_le _) d_S_addShelf_61 ⟨rfl, h0.trans (by rw [hfv]; rfl), h1.trans (by rw [if_neg (by rw [hfv]; decide)]), (fun r1 n0 n1 => (fr2 r1 n0))⟩
  · refine v_aload_n C d_S_addShelf_8 rfl 1 rfl ?_
    refine gf_S_15 C (by omega) h2 rfl d_S_addShelf_9 ?_
    refine v_if_eqB C d_S_addShelf_12 (fun hb12 => ?_) (fun hb12 => ?_)
    · refine v_iconst C d_S_addShelf_34 ?_
      refine pf_S_15 (fs' := [.int (bI t.1), .int (iI 0), .int (iI t.2.2.1), .int (iI t.2.2.2.1), .int (iI t.2.2.2.2.1), .int (iI t.2.2.2.2.2), .ref (ad (r + 1))]) C (by omega) h0 rfl rfl (Nat.le_of_ble_eq_true rfl) rfl d_S_addShelf_35 (fun g3 h0 fr4 => ?_)
      have h1 := (fr4 (r + 1) (by omega)).trans h1
      have h2 := (fr4 r2 (by omega)).trans h2
      have h3 := (fr4 (r2 + 1) (by omega)).trans h3
      refine v_aload_n C d_S_addShelf_38 rfl 0 rfl ?_
      refine gf_S_15 C (by omega) h0 rfl d_S_addShelf_39 ?_
      refine v_if_eqI C d_S_addShelf_42 (by omega) (by omega) (fun _ => ?_) (fun hz9 => absurd hz9 (by omega))
      have hfv : (t.2.1 && t2.2.1 && decide (t2.2.2.1 = t.2.2.1 ∧ t2.2.2.2.1 = t.2.2.2.1)) = false := by simp [hb12]
      exact hret _ _ _ _ _ _ (Nat.zero_le _) (Nat.zero_le _) d_S_addShelf_61 ⟨rfl, h0.trans (by rw [hfv]; rfl), h1.trans (by rw [if_neg (by rw [hfv]; decide)]), (fun r1 n0 n1 => (fr4 r1 n0))⟩
    · refine v_aload_n C d_S_addShelf_15 rfl 1 rfl ?_
      refine v_aload_n C d_S_addShelf_16 rfl 0 rfl ?_
      refine gf_S_18 C (by omega) h0 rfl d_S_addShelf_17 ?_
      refine v_aload_n C d_S_addShelf_20 rfl 0 rfl ?_
      refine gf_S_22 C (by omega) h0 rfl d_S_addShelf_21 ?_
      refine v_callVI (As := [.int (iI t.2.2.1), .int (iI t.2.2.2.1)]) (st := [.ref (ad r)]) (by omega) h2 rfl rfl C (c_goesAlong l r2 t2 t.2.2.1 t.2.2.2.1 (by omega) hb2 (by omega) h2) (lk_S_66 C.1.2.2.2.2 rfl rfl ⟨Nat.le_of_ble_eq_true rfl, Nat.le_of_ble_eq_true rfl⟩) rfl rfl (Nat.le_of_ble_eq_true rfl) d_S_addShelf_24 ⟨Nat.le_of_ble_eq_true rfl, Nat.le_of_ble_eq_true rfl⟩ (fun w5 ad5 g5 hp5 => ?_)
      obtain ⟨bg, rfl, hbg, rfl, rfl⟩ := hp5
      refine v_if_eqB C d_S_addShelf_27 (fun hb27 => ?_) (fun hb27 => ?_)
      · refine v_iconst C d_S_addShelf_34 ?_
        refine pf_S_15 (fs' := [.int (bI t.1), .int (iI 0), .int (iI t.2.2.1), .int (iI t.2.2.2.1), .int (iI t.2.2.2.2.1), .int (iI t.2.2.2.2.2), .ref (ad (r + 1))]) C (by omega) h0 rfl rfl (Nat.le_of_ble_eq_true rfl) rfl d_S_addShelf_35 (fun g6 h0 fr7 => ?_)
        have h1 := (fr7 (r + 1) (by omega)).trans h1
        have h2 := (fr7 r2 (by omega)).trans h2
        have h3 := (fr7 (r2 + 1) (by omega)).trans h3
        refine v_aload_n C d_S_addShelf_38 rfl 0 rfl ?_
        refine gf_S_15 C (by omega) h0 rfl d_S_addShelf_39 ?_
        refine v_if_eqI C d_S_addShelf_42 (by omega) (by omega) (fun _ => ?_) (fun hz9 => absurd hz9 (by omega))
        have hfv : (t.2.1 && t2.2.1 && decide (t2.2.2.1 = t.2.2.1 ∧ t2.2.2.2.1 = t.2.2.2.1)) = false := by simp [hb27, ← hbg]
        exact hret _ _ _ _ _ _ (Nat.zero_le _) (Nat.zero_le _) d_S_addShelf_61 ⟨rfl, h0.trans (by rw [hfv]; rfl), h1.trans (by rw [if_neg (by rw [hfv]; decide)]), (fun r1 n0 n1 => (fr7 r1 n0))⟩
      · refine v_iconst C d_S_addShelf_30 ?_
        refine v_goto C d_S_addShelf_31 ?_
        refine pf_S_15 (fs' := [.int (bI t.1), .int (iI 1), .int (iI t.2.2.1), .int (iI t.2.2.2.1), .int (iI t.2.2.2.2.1), .int (iI t.2.2.2.2.2), .ref (ad (r + 1))]) C (by omega) h0 rfl rfl (Nat.le_of_ble_eq_true rfl) rfl d_S_addShelf_35 (fun g8 h0 fr9 => ?_)
        have h1 := (fr9 (r + 1) (by omega)).trans h1
        have h2 := (fr9 r2 (by omega)).trans h2
        have h3 := (fr9 (r2 + 1) (by omega)).trans h3
        refine v_aload_n C d_S_addShelf_38 rfl 0 rfl ?_
        refine gf_S_15 C (by omega) h0 rfl d_S_addShelf_39 ?_
        refine v_if_eqI C d_S_addShelf_42 (by omega) (by omega) (fun hz9 => absurd hz9 (by omega)) (fun _ => ?_)
        refine v_aload_n C d_S_addShelf_45 rfl 0 rfl ?_
        refine gf_S_31 C (by omega) h0 rfl d_S_addShelf_46 ?_
        refine v_aload_n C d_S_addShelf_49 rfl 1 rfl ?_
        refine gf_S_31 C (by omega) h2 rfl d_S_addShelf_50 ?_
        refine v_aload_n C d_S_addShelf_53 rfl 0 rfl ?_
        refine gf_S_28 C (by omega) h0 rfl d_S_addShelf_54 ?_
        refine v_iload_n C d_S_addShelf_57 rfl 2 rfl ?_
        have hfv : (t.2.1 && t2.2.1 && decide (t2.2.2.1 = t.2.2.1 ∧ t2.2.2.2.1 = t.2.2.2.1)) = true := by rw [hb5, hb12, ← hbg, hb27]; rfl
        obtain ⟨e1, e2, e3, e4⟩ := hfl hfv
        subst e1; subst e2
        rw [e3]
        refine v_callSNV (As := [.ref (ad (r + 1)), .ref (ad (r2 + 1)), .int (iI (n : Int)), .int (bI b)]) (st := []) C (c_addEach l (r + 1) (r2 + 1) n 481 481 b f f2 (by omega) (by omega) (by omega) e4 e4 (by decide) (by decide) h1 h3) (lk_S_70 C.1.2.2.2.2 C.2.2.2.1.1.2.2.2.2 rfl rfl ⟨Nat.le_of_ble_eq_true rfl, Nat.le_of_ble_eq_true rfl⟩) rfl rfl (Nat.le_of_ble_eq_true rfl) d_S_addShelf_58 ⟨Nat.le_of_ble_eq_true rfl, Nat.le_of_ble_eq_true rfl⟩ (fun ad10 g10 hp10 => ?_)
        obtain ⟨rfl, h1, fr10⟩ := hp10
        have h0 := (fr10 r (by omega)).trans h0
        have h2 := (fr10 r2 (by omega)).trans h2
        have h3 := (fr10 (r2 + 1) (by omega)).trans h3
        exact hret _ _ _ _ _ _ (Nat.zero_le _) (Nat.zero_le _) d_S_addShelf_61 ⟨rfl, h0.trans (by rw [hfv]; rfl), h1.trans (by rw [if_pos hfv]), (fun r1 n0 n1 => ((fr10 r1 n1).trans (fr9 r1 n0)))⟩
set_option maxHeartbeats 1000000 in
set_option maxRecDepth 100000 in
theorem c_copyFrom (l : Launch) {B : Nat} {D : va_G} {cI cZ cL cS cW : ClassId} {ad : Nat → Nat} {g : Nat → va_E} (r r2 n nb nb2 : Nat) (t t2 : ShT) (f f2 : Nat → Int32) (hr : r < 94) (hr2 : r2 < 94) (hne : r2 ≠ r ∧ r2 ≠ r + 1 ∧ r ≠ r2 + 1) (hn : nb = 0 ∨ nb = 481) (hfl : t2.2.1 = true → nb2 = 481 ∧ t2.2.2.2.2.2 = (n : Int) ∧ n ≤ 481) (h0 : g r = shE (ad (r + 1)) t) (h1 : g (r + 1) = inA cI nb f) (h2 : g r2 = shE (ad (r2 + 1)) t2) (h3 : g (r2 + 1) = inA cI nb2 f2) : Met l y_S_copyFrom (Cond.code y_S_copyFrom b_S_copyFrom 2 none :: wG) (rmF 1 40 1 481) (wPc B D classes (tyL cI cZ cL cS cW) (Zs B) 95 [.ref (ad r), .ref (ad r2)] ad g) (QV B D classes 95 (fun ad1 g1 => ∃ nb1 f1, (nb1 = 0 ∨ nb1 = 481) ∧ g1 (r + 1) = inA cI nb1 f1 ∧ (t2.2.1 = true → nb1 = 481 ∧ ∀ k, k < n → f1 k = f2 k) ∧ g1 r = shE (ad1 (r + 1)) t2 ∧ (∀ r1, r1 ≠ r → r1 ≠ r + 1 → g1 r1 = g r1) ∧ ∀ r1, r1 ≠ r + 1 → ad1 r1 = ad r1)) 1 481 (aB B) := by
  refine ofV (own := R_S) (by decide) rfl (Nat.le_of_ble_eq_true rfl) ?_
  intro p e s m below meth c Q C hnm hret
  change kV _ _ _ _ _ _ _ _ _ _ _ _ _ _ _ _ _ _ _ _ _ [(0, .ref (ad r)), (1, .ref (ad r2))] _ _
  refine v_aload_n C d_S_copyFrom_0 rfl 0 rfl ?_
  refine v_aload_n C d_S_copyFrom_1 rfl 1 rfl ?_
  refine gf_S_9 C (by omega) h2 rfl d_S_copyFrom_2 ?_
  refine pf_S_9 (fs' := [.int (bI t2.1), .int (bI t.2.1), .int (iI t.2.2.1), .int (iI t.2.2.2.1), .int (iI t.2.2.2.2.1), .int (iI t.2.2.2.2.2), .ref (ad (r + 1))]) C (by omega) h0 (bI_n _) (bI_f _) (Nat.le_of_ble_eq_true rfl) rfl d_S_copyFrom_5 (fun g1 h0 fr2 => ?_)
  have h1 := (fr2 (r + 1) (by omega)).trans h1
  have h2 := (fr2 r2 (by omega)).trans h2
  have h3 := (fr2 (r2 + 1) (by omega)).trans h3
  refine v_aload_n C d_S_copyFrom_8 rfl 0 rfl ?_
  refine v_aload_n C d_S_copyFrom_9 rfl 1 rfl ?_
  refine gf_S_15 C (by omega) h2 rfl d_S_copyFrom_10 ?_
  refine pf_S_15 (fs' := [.int (bI t2.1), .int (bI t2.2.1), .int (iI t.2.2.1), .int (iI t.2.2.2.1), .int (iI t.2.2.2.2.1), .int (iI t.2.2.2.2.2), .ref (ad (r + 1))]) C (by omega) h0 (bI_n _) (bI_f _) (Nat.le_of_ble_eq_true rfl) rfl d_S_copyFrom_13 (fun g3 h0 fr4 => ?_)
  have h1 := (fr4 (r + 1) (by omega)).trans h1
  have h2 := (fr4 r2 (by omega)).trans h2
  have h3 := (fr4 (r2 + 1) (by omega)).trans h3
  refine v_aload_n C d_S_copyFrom_16 rfl 0 rfl ?_
  refine v_aload_n C d_S_copyFrom_17 rfl 1 rfl ?_
  refine gf_S_18 C (by omega) h2 rfl d_S_copyFrom_18 ?_
  refine pf_S_18 (fs' := [.int (bI t2.1), .int (bI t2.2.1), .int (iI t2.2.2.1), .int (iI t.2.2.2.1), .int (iI t.2.2.2.2.1), .int (iI t.2.2.2.2.2), .ref (ad (r + 1))]) C (by omega) h0 rfl rfl (Nat.le_of_ble_eq_true rfl) rfl d_S_copyFrom_21 (fun g5 h0 fr6 => ?_)
  have h1 := (fr6 (r + 1) (by omega)).trans h1
  have h2 := (fr6 r2 (by omega)).trans h2
  have h3 := (fr6 (r2 + 1) (by omega)).trans h3
  refine v_aload_n C d_S_copyFrom_24 rfl 0 rfl ?_
  refine v_aload_n C d_S_copyFrom_25 rfl 1 rfl ?_
  refine gf_S_22 C (by omega) h2 rfl d_S_copyFrom_26 ?_
  refine pf_S_22 (fs' := [.int (bI t2.1), .int (bI t2.2.1), .int (iI t2.2.2.1), .int (iI t2.2.2.2.1), .int (iI t.2.2.2.2.1), .int (iI t.2.2.2.2.2), .ref (ad (r + 1))]) C (by omega) h0 rfl rfl (Nat.le_of_ble_eq_true rfl) rfl d_S_copyFrom_29 (fun g7 h0 fr8 => ?_)
  have h1 := (fr8 (r + 1) (by omega)).trans h1
  have h2 := (fr8 r2 (by omega)).trans h2
  have h3 := (fr8 (r2 + 1) (by omega)).trans h3
  refine v_aload_n C d_S_copyFrom_32 rfl 0 rfl ?_
  refine v_aload_n C d_S_copyFrom_33 rfl 1 rfl ?_
  refine gf_S_25 C (by omega) h2 rfl d_S_copyFrom_34 ?_
  refine pf_S_25 (fs' := [.int (bI t2.1), .int (bI t2.2.1), .int (iI t2.2.2.1), .int (iI t2.2.2.2.1), .int (iI t2.2.2.2.2.1), .int (iI t.2.2.2.2.2), .ref (ad (r + 1))]) C (by omega) h0 rfl rfl (Nat.le_of_ble_eq_true rfl) rfl d_S_copyFrom_37 (fun g9 h0 fr10 => ?_)
  have h1 := (fr10 (r + 1) (by omega)).trans h1
  have h2 := (fr10 r2 (by omega)).trans h2
  have h3 := (fr10 (r2 + 1) (by omega)).trans h3
  refine v_aload_n C d_S_copyFrom_40 rfl 0 rfl ?_
  refine v_aload_n C d_S_copyFrom_41 rfl 1 rfl ?_
  refine gf_S_28 C (by omega) h2 rfl d_S_copyFrom_42 ?_
  refine pf_S_28 (fs' := [.int (bI t2.1), .int (bI t2.2.1), .int (iI t2.2.2.1), .int (iI t2.2.2.2.1), .int (iI t2.2.2.2.2.1), .int (iI t2.2.2.2.2.2), .ref (ad (r + 1))]) C (by omega) h0 rfl rfl (Nat.le_of_ble_eq_true rfl) rfl d_S_copyFrom_45 (fun g11 h0 fr12 => ?_)
  have h1 := (fr12 (r + 1) (by omega)).trans h1
  have h2 := (fr12 r2 (by omega)).trans h2
  have h3 := (fr12 (r2 + 1) (by omega)).trans h3
  refine v_aload_n C d_S_copyFrom_48 rfl 0 rfl ?_
  refine gf_S_15 C (by omega) h0 rfl d_S_copyFrom_49 ?_
  refine v_if_eqB C d_S_copyFrom_52 (fun hb52 => ?_) (fun hb52 => ?_)
  · exact hret _ _ _ _ _ _ (by omega) (by omega) d_S_copyFrom_76 ⟨nb, f, hn, h1, fun q => absurd q (by rw [hb52]; decide), h0, (fun r1 n0 n1 => ((fr12 r1 n0).trans ((fr10 r1 n0).trans ((fr8 r1 n0).trans ((fr6 r1 n0).trans ((fr4 r1 n0).trans (fr2 r1 n0))))))), (fun r1 n0 => rfl)⟩
  · refine v_aload_n C d_S_copyFrom_55 rfl 0 rfl ?_
    refine v_callVV (As := []) (st := []) (by omega) h0 rfl rfl C (c_makeBins l r nb f t2 (by omega) hn h0 h1) (lk_S_45 C.1.2.2.2.2 rfl rfl ⟨Nat.le_of_ble_eq_true rfl, Nat.le_of_ble_eq_true rfl⟩) rfl rfl (Nat.le_of_ble_eq_true rfl) d_S_copyFrom_56 ⟨Nat.le_of_ble_eq_true rfl, Nat.le_of_ble_eq_true rfl⟩ (fun ad13 g13 hp13 => ?_)
    obtain ⟨f9, h1, h0, fr13, hA13⟩ := hp13
    have h2 := (fr13 r2 (by omega) (by omega)).trans h2
    have h3 := (fr13 (r2 + 1) (by omega) (by omega)).trans h3
    refine v_lvE (lv' := [(0, .ref (ad13 r)), (1, .ref (ad13 r2))]) (by rw [hA13 r (by omega), hA13 r2 (by omega)]) ?_
    have h2 : g13 r2 = .inr (1, [.int (bI t2.1), .int (bI t2.2.1), .int (iI t2.2.2.1), .int (iI t2.2.2.2.1), .int (iI t2.2.2.2.2.1), .int (iI t2.2.2.2.2.2), .ref (ad13 (r2 + 1))]) := by rw [hA13 (r2 + 1) (by omega)]; exact h2
    refine v_aload_n C d_S_copyFrom_59 rfl 1 rfl ?_
    refine gf_S_31 C (by omega) h2 rfl d_S_copyFrom_60 ?_
    refine v_iconst C d_S_copyFrom_63 ?_
    refine v_aload_n C d_S_copyFrom_64 rfl 0 rfl ?_
    refine gf_S_31 C (by omega) h0 rfl d_S_copyFrom_65 ?_
    refine v_iconst C d_S_copyFrom_68 ?_
    refine v_aload_n C d_S_copyFrom_69 rfl 0 rfl ?_
    refine gf_S_28 C (by omega) h0 rfl d_S_copyFrom_70 ?_
    obtain ⟨e2, e3, e4⟩ := hfl hb52
    subst e2
    refine v_copy (n := n) C ml_S_60 nm_arraycopyName sm_arraycopyName in_Y 0 rfl (by omega) h3 (by omega) h1 e3 e4 e4 (by omega) (Nat.le_of_ble_eq_true rfl) (by decide +kernel) d_S_copyFrom_73 (fun g14 h1 fr15 => ?_)
    have h0 := (fr15 r (by omega)).trans h0
    have h2 := (fr15 r2 (by omega)).trans h2
    have h3 := (fr15 (r2 + 1) (by omega)).trans h3
    exact hret _ _ _ _ _ _ (by omega) (by omega) d_S_copyFrom_76 ⟨481, _, Or.inr rfl, h1, fun _ => ⟨rfl, fun k hk => (pk_cpy_in (Nat.zero_le _) (by omega)).trans (by rw [Nat.zero_add, Nat.sub_zero])⟩, h0, (fun r1 n0 n1 => ((fr15 r1 n1).trans ((fr13 r1 n1 n0).trans ((fr12 r1 n0).trans ((fr10 r1 n0).trans ((fr8 r1 n0).trans ((fr6 r1 n0).trans ((fr4 r1 n0).trans (fr2 r1 n0))))))))), (fun r1 n0 => (hA13 r1 n0))⟩
