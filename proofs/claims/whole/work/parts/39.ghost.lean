/-! a ghost: a picture moved and taken away, in place -/
def mvG (w : Nat) (p q : Int) (f : Nat → Int32) (x y : Nat) : Int32 := if q ≤ (y : Int) ∧ 0 ≤ (x : Int) - p ∧ (x : Int) - p < (w : Int) then f (16 * y + x) - f (16 * ((y : Int) - q) + ((x : Int) - p)).toNat else f (16 * y + x)
def mvI (w h : Nat) (p q : Int) (f f9 : Nat → Int32) (k i : Nat) : Prop := ∀ x y, x < w → y < h → f9 (16 * y + x) = if k ≤ y ∨ (y + 1 = k ∧ i ≤ x) then mvG w p q f x y else f (16 * y + x)
theorem mv_skip {w h k i : Nat} {p q : Int} {f f9 : Nat → Int32} (H : mvI w h p q f f9 k (i + 1)) (hk : 1 ≤ k) (hc : ¬ (q ≤ (k : Int) - 1 ∧ 0 ≤ (i : Int) - p ∧ (i : Int) - p < (w : Int))) : mvI w h p q f f9 k i := fun x y hx hy => by
  rw [H x y hx hy]
  by_cases h1 : k ≤ y ∨ (y + 1 = k ∧ i + 1 ≤ x)
  · rw [if_pos h1, if_pos (by omega)]
  · rw [if_neg h1]
    by_cases h2 : k ≤ y ∨ (y + 1 = k ∧ i ≤ x)
    · rw [if_pos h2]
      have hxi : x = i := by omega
      have hyk : y + 1 = k := by omega
      unfold mvG
      rw [if_neg (fun z => hc (by omega))]
    · rw [if_neg h2]
theorem mv_step {w h k i c1 : Nat} {p q : Int} {f f9 : Nat → Int32} (H : mvI w h p q f f9 k (i + 1)) (hw : w ≤ 16) (hi : i < w) (hk : 1 ≤ k) (hkh : k ≤ h) (hq : 0 ≤ q) (hpq : q = 0 → 0 < p) (hc : q ≤ (k : Int) - 1 ∧ 0 ≤ (i : Int) - p ∧ (i : Int) - p < (w : Int)) (hc1 : (c1 : Int) = ((k : Int) - 1 - q) * 16 + ((i : Int) - p)) : mvI w h p q f (upd f9 (16 * (k - 1) + i) (f9 (16 * (k - 1) + i) - f9 c1)) k i := fun x y hx hy => by
  by_cases hxy : x = i ∧ y + 1 = k
  · obtain ⟨rfl, hyk⟩ := hxy
    have ek : k - 1 = y := by omega
    rw [ek, pk_us, if_pos (by omega), H x y hx hy, if_neg (by omega)]
    unfold mvG
    rw [if_pos (by omega)]
    have hx2 : ((x : Int) - p).toNat < w := by omega
    have hy2 : ((y : Int) - q).toNat < h := by omega
    have e1 : c1 = 16 * ((y : Int) - q).toNat + ((x : Int) - p).toNat := by omega
    have e2 : (16 * ((y : Int) - q) + ((x : Int) - p)).toNat = c1 := by omega
    rw [e2]
    have h3 := H _ _ hx2 hy2
    rw [← e1, if_neg (by omega)] at h3
    rw [h3]
  · rw [pk_un (by omega), H x y hx hy]
    by_cases h1 : k ≤ y ∨ (y + 1 = k ∧ i + 1 ≤ x)
    · rw [if_pos h1, if_pos (by omega)]
    · rw [if_neg h1, if_neg (by omega)]
/-- the same on a window of columns and rows -/
def mv2 (w : Nat) (p q : Int) (F : Nat → Nat → Int32) (x y : Nat) : Int32 := if q ≤ (y : Int) ∧ 0 ≤ (x : Int) - p ∧ (x : Int) - p < (w : Int) then F x y - F ((x : Int) - p).toNat ((y : Int) - q).toNat else F x y
theorem mvG_2 {w h x y : Nat} {p q : Int} {f : Nat → Int32} {F : Nat → Nat → Int32} (hF : ∀ x y, x < w → y < h → f (16 * y + x) = F x y) (hq : 0 ≤ q) (hx : x < w) (hy : y < h) : mvG w p q f x y = mv2 w p q F x y := by
  unfold mvG mv2
  by_cases hc : q ≤ (y : Int) ∧ 0 ≤ (x : Int) - p ∧ (x : Int) - p < (w : Int)
  · rw [if_pos hc, if_pos hc, hF x y hx hy]
    have e2 : (16 * ((y : Int) - q) + ((x : Int) - p)).toNat = 16 * ((y : Int) - q).toNat + ((x : Int) - p).toNat := by omega
    rw [e2, hF _ _ (by omega) (by omega)]
  · rw [if_neg hc, if_neg hc, hF x y hx hy]
def gh (w st : Nat) (M : Nat) (T : Nat → ShT) : Nat → Nat → Nat → Int32
  | 0 => fun x y => if x = st ∧ y = 0 then 1 else 0
  | j + 1 => if Nat.testBit M j = true then mv2 w (T j).2.2.1 (T j).2.2.2.1 (gh w st M T j) else gh w st M T j
def negI (z : Int) : Int := if 0 < -z then -z else 0
theorem sI_le {F G : Nat → Int} : ∀ n : Nat, (∀ j, j < n → F j ≤ G j) → sI n F ≤ sI n G
  | 0, _ => Int.le_refl _
  | n + 1, h => by
    have h1 := sI_le (F := F) (G := G) n (fun j hj => h j (by omega))
    have h2 := h n (by omega)
    show sI n F + F n ≤ sI n G + G n
    omega
set_option maxHeartbeats 1000000 in
set_option maxRecDepth 100000 in
theorem c_takeGhostMoved (l : Launch) {B : Nat} {D : va_G} {cI cZ cL cS cW : ClassId} {ad : Nat → Nat} {g : Nat → va_E} (w h : Nat) (hk hr : Bool) (sp wb : Int) (p0 q0 : Int) (f : Nat → Int32) (hw : 1 ≤ w ∧ w ≤ 16) (hh : 1 ≤ h ∧ h ≤ 16) (hp : -16 ≤ p0 ∧ p0 ≤ 16) (hq : 0 ≤ q0 ∧ q0 ≤ 16) (hpq : q0 = 0 → 0 < p0) (h0 : g 0 = xE ad w h hk hr sp wb) (h8 : g 8 = inA cI 256 f) : Met l y_A_takeGhostMoved (Cond.code y_A_takeGhostMoved b_A_takeGhostMoved 6 none :: wG) (rmF 1 40 0 0) (wPc B D classes (tyL cI cZ cL cS cW) (Zs B) 95 [.ref (ad 0), .int (iI p0), .int (iI q0)] ad g) (QV B D classes 95 (fun ad1 g1 => ∃ f1, (∀ x y, x < w → y < h → f1 (16 * y + x) = mvG w p0 q0 f x y) ∧ ad = ad1 ∧ g1 8 = inA cI 256 f1 ∧ ∀ r1, r1 ≠ 8 → g1 r1 = g r1)) 0 0 (aB B) := by
  refine ofV (own := R_A) (by decide) rfl (Nat.le_of_ble_eq_true rfl) ?_
  intro p e s m below meth c Q C hnm hret
  change kV _ _ _ _ _ _ _ _ _ _ _ _ _ _ _ _ _ _ _ _ _ [(0, .ref (ad 0)), (1, .int (iI p0)), (2, .int (iI q0))] _ _
  refine v_aload_n C d_A_takeGhostMoved_0 rfl 0 rfl ?_
  refine gf_A_13 C (by omega) h0 rfl d_A_takeGhostMoved_1 ?_
  refine v_iconst C d_A_takeGhostMoved_4 ?_
  refine v_isubI C d_A_takeGhostMoved_5 ?_
  refine v_istore_n (lv' := [(3, .int (iI ((h : Int) - 1))), (0, .ref (ad 0)), (1, .int (iI p0)), (2, .int (iI q0))]) C d_A_takeGhostMoved_6 rfl (by decide) rfl ?_
  refine v_lv (lv' := [(0, .ref (ad 0)), (1, .int (iI p0)), (2, .int (iI q0)), (3, .int (iI ((h : Int) - 1)))]) [1, 2, 3, 0] rfl ?_
  have L7 : ∀ (d9 : Nat) (k : Nat) (f9 : Nat → Int32) (G7 : Nat → va_E), k < d9 → (k ≤ h) → (mvI w h p0 q0 f f9 k w) → (∀ r1, r1 ≠ 8 → G7 r1 = g r1) → G7 8 = inA cI 256 f9 → kV p l e (rmF 1 40 0 0) s m ([.ref (ad 0), .int (iI p0), .int (iI q0)] : List Value).toArray below meth c Q s.heap B D classes 6 95 0 0 ad G7 [(0, .ref (ad 0)), (1, .int (iI p0)), (2, .int (iI q0)), (3, .int (iI ((k : Int) - 1)))] [] 7 := by
    intro d9
    induction d9 with
    | zero => intro k f9 G7 hd9; exact absurd hd9 (Nat.not_lt_zero _)
    | succ d9 ih7 =>
      intro k f9 G7 hd7 hkh hI hfr7 h8
      have h0 := (hfr7 0 (by omega)).trans h0
      refine v_iload_n C d_A_takeGhostMoved_7 rfl 3 rfl ?_
      refine v_iload_n C d_A_takeGhostMoved_8 rfl 2 rfl ?_
      refine v_icmp_ltI C d_A_takeGhostMoved_9 (by omega) (by omega) (by omega) (by omega) (fun hb9 => ?_) (fun hb9 => ?_)
      · exact hret _ _ _ _ _ _ (by omega) (by omega) d_A_takeGhostMoved_84 ⟨f9, fun x y hx hy => by rw [hI x y hx hy]; by_cases z : k ≤ y ∨ (y + 1 = k ∧ w ≤ x); (rw [if_pos z]); rw [if_neg z]; unfold mvG; rw [if_neg (fun z2 => by omega)], rfl, h8, (fun r1 n0 => (hfr7 r1 n0))⟩
      · refine v_aload_n C d_A_takeGhostMoved_12 rfl 0 rfl ?_
        refine gf_A_9 C (by omega) h0 rfl d_A_takeGhostMoved_13 ?_
        refine v_iconst C d_A_takeGhostMoved_16 ?_
        refine v_isubI C d_A_takeGhostMoved_17 ?_
        refine v_istore (lv' := [(4, .int (iI ((w : Int) - 1))), (0, .ref (ad 0)), (1, .int (iI p0)), (2, .int (iI q0)), (3, .int (iI ((k : Int) - 1)))]) C d_A_takeGhostMoved_18 (by decide) rfl ?_
        refine v_lv (lv' := [(0, .ref (ad 0)), (1, .int (iI p0)), (2, .int (iI q0)), (3, .int (iI ((k : Int) - 1))), (4, .int (iI ((w : Int) - 1)))]) [1, 2, 3, 4, 0] rfl ?_
        have L20 : ∀ (d9 : Nat) (i : Nat) (f8 : Nat → Int32) (G20 : Nat → va_E), i < d9 → (i ≤ w) → (mvI w h p0 q0 f f8 k i) → (∀ r1, r1 ≠ 8 → G20 r1 = G7 r1) → G20 8 = inA cI 256 f8 → kV p l e (rmF 1 40 0 0) s m ([.ref (ad 0), .int (iI p0), .int (iI q0)] : List Value).toArray below meth c Q s.heap B D classes 6 95 0 0 ad G20 [(0, .ref (ad 0)), (1, .int (iI p0)), (2, .int (iI q0)), (3, .int (iI ((k : Int) - 1))), (4, .int (iI ((i : Int) - 1)))] [] 20 := by
          intro d9
          induction d9 with
          | zero => intro i f8 G20 hd9; exact absurd hd9 (Nat.not_lt_zero _)
          | succ d9 ih20 =>
            intro i f8 G20 hd20 hiw hJ hfr20 h8
            have h0 := (hfr20 0 (by omega)).trans h0
            refine v_iload C d_A_takeGhostMoved_20 4 rfl ?_
            refine v_if_ltI C d_A_takeGhostMoved_22 (by omega) (by omega) (fun hb22 => ?_) (fun hb22 => ?_)
            · refine v_iinc (lv' := [(3, .int (iI (((k : Int) - 1) + (-1)))), (0, .ref (ad 0)), (1, .int (iI p0)), (2, .int (iI q0)), (4, .int (iI ((i : Int) - 1)))]) C d_A_takeGhostMoved_78 3 rfl (by decide) rfl ?_
              refine v_lvE (lv' := [(3, .int (iI (((k - 1 : Nat) : Int) - 1))), (0, .ref (ad 0)), (1, .int (iI p0)), (2, .int (iI q0)), (4, .int (iI ((i : Int) - 1)))]) (by rw [show (k : Int) - 1 + (-1) = ((k - 1 : Nat) : Int) - 1 by omega]) ?_
              refine v_goto C d_A_takeGhostMoved_81 ?_
              refine v_lv (lv' := [(0, .ref (ad 0)), (1, .int (iI p0)), (2, .int (iI q0)), (3, .int (iI (((k - 1 : Nat) : Int) - 1)))]) [1, 2, 3, 0] rfl ?_
              exact ih7 (k - 1) f8 _ (by omega) (by omega) (fun x y hx hy => by rw [hJ x y hx hy]; by_cases z : k ≤ y ∨ (y + 1 = k ∧ i ≤ x); (rw [if_pos z, if_pos (by omega)]); rw [if_neg z, if_neg (by omega)]) (fun r1 n0 => ((hfr20 r1 n0).trans (hfr7 r1 n0))) h8
            · refine v_iload C d_A_takeGhostMoved_25 4 rfl ?_
              refine v_iload_n C d_A_takeGhostMoved_27 rfl 1 rfl ?_
              refine v_isubI C d_A_takeGhostMoved_28 ?_
              refine v_istore (lv' := [(5, .int (iI (((i : Int) - 1) - p0))), (0, .ref (ad 0)), (1, .int (iI p0)), (2, .int (iI q0)), (3, .int (iI ((k : Int) - 1))), (4, .int (iI ((i : Int) - 1)))]) C d_A_takeGhostMoved_29 (by decide) rfl ?_
              refine v_iload C d_A_takeGhostMoved_31 0 rfl ?_
              refine v_if_ltI C d_A_takeGhostMoved_33 (by omega) (by omega) (fun hb33 => ?_) (fun hb33 => ?_)
              · refine v_iinc (lv' := [(4, .int (iI (((i : Int) - 1) + (-1)))), (5, .int (iI (((i : Int) - 1) - p0))), (0, .ref (ad 0)), (1, .int (iI p0)), (2, .int (iI q0)), (3, .int (iI ((k : Int) - 1)))]) C d_A_takeGhostMoved_72 5 rfl (by decide) rfl ?_
                refine v_lvE (lv' := [(4, .int (iI (((i - 1 : Nat) : Int) - 1))), (5, .int (iI (((i : Int) - 1) - p0))), (0, .ref (ad 0)), (1, .int (iI p0)), (2, .int (iI q0)), (3, .int (iI ((k : Int) - 1)))]) (by rw [show (i : Int) - 1 + (-1) = ((i - 1 : Nat) : Int) - 1 by omega]) ?_
                refine v_goto C d_A_takeGhostMoved_75 ?_
                refine v_lv (lv' := [(0, .ref (ad 0)), (1, .int (iI p0)), (2, .int (iI q0)), (3, .int (iI ((k : Int) - 1))), (4, .int (iI (((i - 1 : Nat) : Int) - 1)))]) [2, 3, 4, 5, 0] rfl ?_
                exact ih20 (i - 1) f8 _ (by omega) (by omega) (mv_skip (by rw [show i - 1 + 1 = i by omega]; exact hJ) (by omega) (by omega)) (fun r1 n0 => (hfr20 r1 n0)) h8
              · refine v_iload C d_A_takeGhostMoved_36 0 rfl ?_
                refine v_aload_n C d_A_takeGhostMoved_38 rfl 1 rfl ?_
                refine gf_A_9 C (by omega) h0 rfl d_A_takeGhostMoved_39 ?_
                refine v_icmp_geI C d_A_takeGhostMoved_42 (by omega) (by omega) (by omega) (by omega) (fun hb42 => ?_) (fun hb42 => ?_)
                · refine v_iinc (lv' := [(4, .int (iI (((i : Int) - 1) + (-1)))), (5, .int (iI (((i : Int) - 1) - p0))), (0, .ref (ad 0)), (1, .int (iI p0)), (2, .int (iI q0)), (3, .int (iI ((k : Int) - 1)))]) C d_A_takeGhostMoved_72 5 rfl (by decide) rfl ?_
                  refine v_lvE (lv' := [(4, .int (iI (((i - 1 : Nat) : Int) - 1))), (5, .int (iI (((i : Int) - 1) - p0))), (0, .ref (ad 0)), (1, .int (iI p0)), (2, .int (iI q0)), (3, .int (iI ((k : Int) - 1)))]) (by rw [show (i : Int) - 1 + (-1) = ((i - 1 : Nat) : Int) - 1 by omega]) ?_
                  refine v_goto C d_A_takeGhostMoved_75 ?_
                  refine v_lv (lv' := [(0, .ref (ad 0)), (1, .int (iI p0)), (2, .int (iI q0)), (3, .int (iI ((k : Int) - 1))), (4, .int (iI (((i - 1 : Nat) : Int) - 1)))]) [2, 3, 4, 5, 0] rfl ?_
                  exact ih20 (i - 1) f8 _ (by omega) (by omega) (mv_skip (by rw [show i - 1 + 1 = i by omega]; exact hJ) (by omega) (by omega)) (fun r1 n0 => (hfr20 r1 n0)) h8
                · obtain ⟨c1, hc1⟩ : ∃ c1 : Nat, (c1 : Int) = ((k : Int) - 1 - q0) * 16 + ((i : Int) - 1 - p0) := ⟨(((k : Int) - 1 - q0) * 16 + ((i : Int) - 1 - p0)).toNat, by omega⟩
                  have hc2 : c1 < 256 := by omega
                  refine v_aload_n C d_A_takeGhostMoved_45 rfl 1 rfl ?_
                  refine gf_A_57 C (by omega) h0 rfl d_A_takeGhostMoved_46 ?_
                  refine v_iload C d_A_takeGhostMoved_49 5 rfl ?_
                  refine v_iload_n C d_A_takeGhostMoved_51 rfl 4 rfl ?_
                  refine v_callSI (As := [.int (iI ((i : Int) - 1)), .int (iI ((k : Int) - 1))]) (st := [.ref (ad 8)]) C (c_cellAt l ((i : Int) - 1) ((k : Int) - 1)) (lk_A_82 C.1.2.2.2.2 rfl rfl ⟨Nat.le_of_ble_eq_true rfl, Nat.le_of_ble_eq_true rfl⟩) rfl rfl (Nat.le_of_ble_eq_true rfl) d_A_takeGhostMoved_52 ⟨Nat.le_of_ble_eq_true rfl, Nat.le_of_ble_eq_true rfl⟩ (fun w1 ad1 g1 hp1 => ?_)
                  obtain ⟨rfl, rfl, rfl⟩ := hp1
                  refine v_dup2 C d_A_takeGhostMoved_55 rfl rfl ?_
                  refine v_iald C 0 (by omega) h8 rfl (16 * (k - 1) + (i - 1)) (by omega) (by omega) (by omega) d_A_takeGhostMoved_56 ?_
                  refine v_aload_n C d_A_takeGhostMoved_57 rfl 1 rfl ?_
                  refine gf_A_57 C (by omega) h0 rfl d_A_takeGhostMoved_58 ?_
                  refine v_iload C d_A_takeGhostMoved_61 0 rfl ?_
                  refine v_iload_n C d_A_takeGhostMoved_63 rfl 4 rfl ?_
                  refine v_iload_n C d_A_takeGhostMoved_64 rfl 3 rfl ?_
                  refine v_isubI C d_A_takeGhostMoved_65 ?_
                  refine v_callSI (As := [.int (iI (((i : Int) - 1) - p0)), .int (iI (((k : Int) - 1) - q0))]) (st := [.ref (ad 8), .int (f8 (16 * (k - 1) + (i - 1))), .int (iI (((k : Int) - 1) * 16 + ((i : Int) - 1))), .ref (ad 8)]) C (c_cellAt l (((i : Int) - 1) - p0) (((k : Int) - 1) - q0)) (lk_A_82 C.1.2.2.2.2 rfl rfl ⟨Nat.le_of_ble_eq_true rfl, Nat.le_of_ble_eq_true rfl⟩) rfl rfl (Nat.le_of_ble_eq_true rfl) d_A_takeGhostMoved_66 ⟨Nat.le_of_ble_eq_true rfl, Nat.le_of_ble_eq_true rfl⟩ (fun w2 ad2 g2 hp2 => ?_)
                  obtain ⟨rfl, rfl, rfl⟩ := hp2
                  refine v_iald C 0 (by omega) h8 rfl c1 (by omega) (hc2) (by omega) d_A_takeGhostMoved_69 ?_
                  refine v_isub C d_A_takeGhostMoved_70 ?_
                  refine v_iast C 0 (by omega) h8 rfl (16 * (k - 1) + (i - 1)) (by omega) (by omega) (by omega) d_A_takeGhostMoved_71 (fun g3 h8 fr4 => ?_)
                  have h0 := (fr4 0 (by omega)).trans h0
                  refine v_iinc (lv' := [(4, .int (iI (((i : Int) - 1) + (-1)))), (5, .int (iI (((i : Int) - 1) - p0))), (0, .ref (ad 0)), (1, .int (iI p0)), (2, .int (iI q0)), (3, .int (iI ((k : Int) - 1)))]) C d_A_takeGhostMoved_72 5 rfl (by decide) rfl ?_
                  refine v_lvE (lv' := [(4, .int (iI (((i - 1 : Nat) : Int) - 1))), (5, .int (iI (((i : Int) - 1) - p0))), (0, .ref (ad 0)), (1, .int (iI p0)), (2, .int (iI q0)), (3, .int (iI ((k : Int) - 1)))]) (by rw [show (i : Int) - 1 + (-1) = ((i - 1 : Nat) : Int) - 1 by omega]) ?_
                  refine v_goto C d_A_takeGhostMoved_75 ?_
                  refine v_lv (lv' := [(0, .ref (ad 0)), (1, .int (iI p0)), (2, .int (iI q0)), (3, .int (iI ((k : Int) - 1))), (4, .int (iI (((i - 1 : Nat) : Int) - 1)))]) [2, 3, 4, 5, 0] rfl ?_
                  exact ih20 (i - 1) (upd f8 (16 * (k - 1) + (i - 1)) (f8 (16 * (k - 1) + (i - 1)) - f8 c1)) _ (by omega) (by omega) (mv_step (by rw [show i - 1 + 1 = i by omega]; exact hJ) hw.2 (by omega) (by omega) hkh hq.1 hpq (by omega) (by omega)) (fun r1 n0 => ((fr4 r1 n0).trans (hfr20 r1 n0))) h8
        exact L20 _ w f9 _ (Nat.lt_succ_self _) (Nat.le_refl _) hI (fun r1 _ => rfl) h8
  exact L7 _ h f _ (Nat.lt_succ_self _) (Nat.le_refl _) (fun x y hx hy => (if_neg (by omega)).symm) (fun r1 _ => rfl) h8
set_option maxHeartbeats 1000000 in
set_option maxRecDepth 100000 in
theorem c_drawGhost (l : Launch) {B : Nat} {D : va_G} {cI cZ cL cS cW : ClassId} {ad : Nat → Nat} {g : Nat → va_E} (w h : Nat) (hk hr : Bool) (sp wb : Int) (M : Nat) (hM : M < 256) (f : Nat → Int32) (hw : 1 ≤ w ∧ w ≤ 16) (hh : 1 ≤ h ∧ h ≤ 16) (h0 : g 0 = xE ad w h hk hr sp wb) (h2 : g 2 = rfA cS 8 (shs ad 9)) (T : Nat → ShT) (hT : bdT T) (hsh : ∀ j, j < 8 → g (9 + 8 * j) = shE (ad (9 + 8 * j + 1)) (T j)) (h8 : g 8 = inA cI 256 f) (hne : sI 8 (fun j => if Nat.testBit M j = true then aI (T j).2.2.1 else 0) < (w : Int)) (hpos : ∀ j, j < 8 → Nat.testBit M j = true → (T j).2.2.2.1 = 0 → 0 < (T j).2.2.1) : Met l y_A_drawGhost (Cond.code y_A_drawGhost b_A_drawGhost 4 none :: wG) (rmF 2 75 0 0) (wPc B D classes (tyL cI cZ cL cS cW) (Zs B) 95 [.ref (ad 0), .int (iI (M : Int))] ad g) (QV B D classes 95 (fun ad1 g1 => ∃ f1, (∀ x y, x < w → y < h → f1 (16 * y + x) = gh w (sI 8 (fun j => if Nat.testBit M j = true then negI (T j).2.2.1 else 0)).toNat M T 8 x y) ∧ ad = ad1 ∧ g1 8 = inA cI 256 f1 ∧ ∀ r1, r1 ≠ 8 → g1 r1 = g r1)) 0 0 (aB B) := by
  refine ofV (own := R_A) (by decide) rfl (Nat.le_of_ble_eq_true rfl) ?_
  intro p e s m below meth c Q C hnm hret
  change kV _ _ _ _ _ _ _ _ _ _ _ _ _ _ _ _ _ _ _ _ _ [(0, .ref (ad 0)), (1, .int (iI (M : Int)))] _ _
  refine v_aload_n C d_A_drawGhost_0 rfl 0 rfl ?_
  refine gf_A_57 C (by omega) h0 rfl d_A_drawGhost_1 ?_
  refine v_iconst C d_A_drawGhost_4 ?_
  refine v_callSV (As := [.ref (ad 8), .int (iI 0)]) (st := []) C (c_fill l 8 256 f (iI 0) (by omega) (by decide) h8) (lk_A_69 C.1.2.2.2.2 rfl rfl ⟨Nat.le_of_ble_eq_true rfl, Nat.le_of_ble_eq_true rfl⟩) rfl rfl (Nat.le_of_ble_eq_true rfl) d_A_drawGhost_5 ⟨Nat.le_of_ble_eq_true rfl, Nat.le_of_ble_eq_true rfl⟩ (fun ad1 g1 hp1 => ?_)
  obtain ⟨rfl, h8, fr1⟩ := hp1
  have h0 := (fr1 0 (by omega)).trans h0
  have h2 := (fr1 2 (by omega)).trans h2
  have hsh := fun j9 (hj9 : j9 < 8) => (fr1 (9 + 8 * j9) (by omega)).trans (hsh j9 hj9)
  refine v_iconst C d_A_drawGhost_8 ?_
  refine v_istore_n (lv' := [(2, .int (iI 0)), (0, .ref (ad 0)), (1, .int (iI (M : Int)))]) C d_A_drawGhost_9 rfl (by decide) rfl ?_
  refine v_iconst C d_A_drawGhost_10 ?_
  refine v_istore_n (lv' := [(3, .int (iI 0)), (2, .int (iI 0)), (0, .ref (ad 0)), (1, .int (iI (M : Int)))]) C d_A_drawGhost_11 rfl (by decide) rfl ?_
  refine v_lv (lv' := [(0, .ref (ad 0)), (1, .int (iI (M : Int))), (2, .int (iI 0)), (3, .int (iI 0))]) [2, 3, 1, 0] rfl ?_
  have L12 : ∀ (d9 : Nat) (j : Nat) (a : Int), 8 - j < d9 → (j ≤ 8) → (a = sI j (fun j => if Nat.testBit M j = true then negI (T j).2.2.1 else 0)) → (0 ≤ a ∧ a ≤ 16 * (j : Int)) → kV p l e (rmF 2 75 0 0) s m ([.ref (ad 0), .int (iI (M : Int))] : List Value).toArray below meth c Q s.heap B D classes 4 95 0 0 ad g1 [(0, .ref (ad 0)), (1, .int (iI (M : Int))), (2, .int (iI a)), (3, .int (iI (j : Int)))] [] 12 := by
    intro d9
    induction d9 with
    | zero => intro j a hd9; exact absurd hd9 (Nat.not_lt_zero _)
    | succ d9 ih12 =>
      intro j a hd12 hj ha hb0
      refine v_iload_n C d_A_drawGhost_12 rfl 3 rfl ?_
      refine v_bipush C d_A_drawGhost_13 (by decide +kernel) ?_
      refine v_icmp_geI C d_A_drawGhost_15 (by omega) (by omega) (by omega) (by omega) (fun hb15 => ?_) (fun hb15 => ?_)
      · have hj8 : j = 8 := by omega
        rw [hj8] at ha
        have hle : sI 8 (fun j => if Nat.testBit M j = true then negI (T j).2.2.1 else 0) ≤ sI 8 (fun j => if Nat.testBit M j = true then aI (T j).2.2.1 else 0) := sI_le 8 (fun i hi => by show (if Nat.testBit M i = true then negI (T i).2.2.1 else 0) ≤ (if Nat.testBit M i = true then aI (T i).2.2.1 else 0); unfold negI aI; split <;> (try split) <;> (try split) <;> omega)
        obtain ⟨st0, hst0⟩ : ∃ st0 : Nat, (st0 : Int) = a := ⟨a.toNat, by omega⟩
        have hst1 : (sI 8 (fun j => if Nat.testBit M j = true then negI (T j).2.2.1 else 0)).toNat = st0 := by omega
        have hst2 : st0 < w := by omega
        refine v_aload_n C d_A_drawGhost_49 rfl 0 rfl ?_
        refine gf_A_57 C (by omega) h0 rfl d_A_drawGhost_50 ?_
        refine v_iload_n C d_A_drawGhost_53 rfl 2 rfl ?_
        refine v_iconst C d_A_drawGhost_54 ?_
        refine v_callSI (As := [.int (iI a), .int (iI 0)]) (st := [.ref (ad 8)]) C (c_cellAt l a 0) (lk_A_82 C.1.2.2.2.2 rfl rfl ⟨Nat.le_of_ble_eq_true rfl, Nat.le_of_ble_eq_true rfl⟩) rfl rfl (Nat.le_of_ble_eq_true rfl) d_A_drawGhost_55 ⟨Nat.le_of_ble_eq_true rfl, Nat.le_of_ble_eq_true rfl⟩ (fun w2 ad2 g2 hp2 => ?_)
        obtain ⟨rfl, rfl, rfl⟩ := hp2
        refine v_iconst C d_A_drawGhost_58 ?_
        refine v_iast C 0 (by omega) h8 rfl st0 (by omega) (by omega) (by omega) d_A_drawGhost_59 (fun g3 h8 fr4 => ?_)
        have h0 := (fr4 0 (by omega)).trans h0
        have h2 := (fr4 2 (by omega)).trans h2
        have hsh := fun j9 (hj9 : j9 < 8) => (fr4 (9 + 8 * j9) (by omega)).trans (hsh j9 hj9)
        refine v_iconst C d_A_drawGhost_60 ?_
        refine v_istore_n (lv' := [(3, .int (iI 0)), (0, .ref (ad 0)), (1, .int (iI (M : Int))), (2, .int (iI a))]) C d_A_drawGhost_61 rfl (by decide) rfl ?_
        refine v_lv (lv' := [(0, .ref (ad 0)), (1, .int (iI (M : Int))), (3, .int (iI 0))]) [1, 2, 0] rfl ?_
        have L62 : ∀ (d9 : Nat) (i : Nat) (f9 : Nat → Int32) (G62 : Nat → va_E), 8 - i < d9 → (i ≤ 8) → (∀ x y, x < w → y < h → f9 (16 * y + x) = gh w st0 M T i x y) → (∀ r1, r1 ≠ 8 → G62 r1 = g3 r1) → G62 8 = inA cI 256 f9 → kV p l e (rmF 2 75 0 0) s m ([.ref (ad 0), .int (iI (M : Int))] : List Value).toArray below meth c Q s.heap B D classes 4 95 0 0 ad G62 [(0, .ref (ad 0)), (1, .int (iI (M : Int))), (3, .int (iI (i : Int)))] [] 62 := by
          intro d9
          induction d9 with
          | zero => intro i f9 G62 hd9; exact absurd hd9 (Nat.not_lt_zero _)
          | succ d9 ih62 =>
            intro i f9 G62 hd62 hi hG hfr62 h8
            have h0 := (hfr62 0 (by omega)).trans h0
            have h2 := (hfr62 2 (by omega)).trans h2
            have hsh := fun j9 (hj9 : j9 < 8) => (hfr62 (9 + 8 * j9) (by omega)).trans (hsh j9 hj9)
            refine v_iload_n C d_A_drawGhost_62 rfl 2 rfl ?_
            refine v_bipush C d_A_drawGhost_63 (by decide +kernel) ?_
            refine v_icmp_geI C d_A_drawGhost_65 (by omega) (by omega) (by omega) (by omega) (fun hb65 => ?_) (fun hb65 => ?_)
            · exact hret _ _ _ _ _ _ (by omega) (by omega) d_A_drawGhost_104 ⟨f9, fun x y hx hy => by rw [hst1, ← (show i = 8 by omega)]; exact hG x y hx hy, rfl, h8, (fun r1 n0 => ((hfr62 r1 n0).trans ((fr4 r1 n0).trans (fr1 r1 n0))))⟩
            · refine v_iload_n C d_A_drawGhost_68 rfl 1 rfl ?_
              refine v_iload_n C d_A_drawGhost_69 rfl 2 rfl ?_
              refine v_callSI (As := [.int (iI (M : Int)), .int (iI (i : Int))]) (st := []) C (c_isIn l M i hM (by omega)) (lk_A_177 C.1.2.2.2.2 rfl rfl ⟨Nat.le_of_ble_eq_true rfl, Nat.le_of_ble_eq_true rfl⟩) rfl rfl (Nat.le_of_ble_eq_true rfl) d_A_drawGhost_70 ⟨Nat.le_of_ble_eq_true rfl, Nat.le_of_ble_eq_true rfl⟩ (fun w5 ad5 g5 hp5 => ?_)
              obtain ⟨bb5, rfl, hbb5, rfl, rfl⟩ := hp5
              refine v_if_eqB C d_A_drawGhost_73 (fun hb73 => ?_) (fun hb73 => ?_)
              · refine v_iinc (lv' := [(3, .int (iI ((i : Int) + 1))), (0, .ref (ad 0)), (1, .int (iI (M : Int)))]) C d_A_drawGhost_98 2 rfl (by decide) rfl ?_
                refine v_goto C d_A_drawGhost_101 ?_
                refine v_lv (lv' := [(0, .ref (ad 0)), (1, .int (iI (M : Int))), (3, .int (iI ((i : Int) + 1)))]) [1, 2, 0] rfl ?_
                exact ih62 (i + 1) f9 _ (by omega) (by omega) (fun x y hx hy => by rw [hG x y hx hy]; show _ = (if Nat.testBit M i = true then mv2 w (T i).2.2.1 (T i).2.2.2.1 (gh w st0 M T i) else gh w st0 M T i) x y; rw [if_neg (by rw [← hbb5, hb73]; decide)]) (fun r1 n0 => (hfr62 r1 n0)) h8
              · refine v_aload_n C d_A_drawGhost_76 rfl 0 rfl ?_
                refine v_aload_n C d_A_drawGhost_77 rfl 0 rfl ?_
                refine gf_A_22 C (by omega) h0 rfl d_A_drawGhost_78 ?_
                refine v_iload_n C d_A_drawGhost_81 rfl 2 rfl ?_
                refine v_aald C 3 (by omega) h2 rfl (i : Nat) (by omega) (by omega) (by omega) (rfl) d_A_drawGhost_82 ?_
                have hq6 := hsh (i : Nat) (by omega)
                refine gf_A_120 C (by omega) hq6 rfl d_A_drawGhost_83 ?_
                refine v_aload_n C d_A_drawGhost_86 rfl 0 rfl ?_
                refine gf_A_22 C (by omega) h0 rfl d_A_drawGhost_87 ?_
                refine v_iload_n C d_A_drawGhost_90 rfl 2 rfl ?_
                refine v_aald C 3 (by omega) h2 rfl (i : Nat) (by omega) (by omega) (by omega) (rfl) d_A_drawGhost_91 ?_
                refine gf_A_123 C (by omega) hq6 rfl d_A_drawGhost_92 ?_
                have hTi := hT i (by omega)
                refine v_callVV (As := [.int (iI ((T (i : Nat)).2.2.1)), .int (iI ((T (i : Nat)).2.2.2.1))]) (st := []) (by omega) h0 rfl rfl C (c_takeGhostMoved l w h hk hr sp wb (T i).2.2.1 (T i).2.2.2.1 f9 hw hh (by omega) (by omega) (hpos i (by omega) (hbb5.symm.trans hb73)) h0 h8) (lk_A_246 C.1.2.2.2.2 rfl rfl ⟨Nat.le_of_ble_eq_true rfl, Nat.le_of_ble_eq_true rfl⟩) rfl rfl (Nat.le_of_ble_eq_true rfl) d_A_drawGhost_95 ⟨Nat.le_of_ble_eq_true rfl, Nat.le_of_ble_eq_true rfl⟩ (fun ad7 g7 hp7 => ?_)
                obtain ⟨f7, hf7, rfl, h8, fr7⟩ := hp7
                have h0 := (fr7 0 (by omega)).trans h0
                have h2 := (fr7 2 (by omega)).trans h2
                have hq6 := (fr7 (9 + 8 * (i : Nat)) (by omega)).trans hq6
                have hsh := fun j9 (hj9 : j9 < 8) => (fr7 (9 + 8 * j9) (by omega)).trans (hsh j9 hj9)
                refine v_iinc (lv' := [(3, .int (iI ((i : Int) + 1))), (0, .ref (ad 0)), (1, .int (iI (M : Int)))]) C d_A_drawGhost_98 2 rfl (by decide) rfl ?_
                refine v_goto C d_A_drawGhost_101 ?_
                refine v_lv (lv' := [(0, .ref (ad 0)), (1, .int (iI (M : Int))), (3, .int (iI ((i : Int) + 1)))]) [1, 2, 0] rfl ?_
                exact ih62 (i + 1) f7 _ (by omega) (by omega) (fun x y hx hy => by rw [hf7 x y hx hy, mvG_2 hG (by omega) hx hy]; show _ = (if Nat.testBit M i = true then mv2 w (T i).2.2.1 (T i).2.2.2.1 (gh w st0 M T i) else gh w st0 M T i) x y; rw [if_pos (hbb5.symm.trans hb73)]) (fun r1 n0 => ((fr7 r1 n0).trans (hfr62 r1 n0))) h8
        exact L62 _ 0 _ _ (Nat.lt_succ_self _) (by omega) (fun x y hx hy => by show upd (fun _ => iI 0) st0 (iI 1) (16 * y + x) = (if x = st0 ∧ y = 0 then 1 else 0); by_cases z : x = st0 ∧ y = 0; (rw [if_pos z, show 16 * y + x = st0 by omega, pk_us]; rfl); rw [if_neg z, pk_un (by omega)]; rfl) (fun r1 _ => rfl) h8
      · refine v_iload_n C d_A_drawGhost_18 rfl 1 rfl ?_
        refine v_iload_n C d_A_drawGhost_19 rfl 3 rfl ?_
        refine v_callSI (As := [.int (iI (M : Int)), .int (iI (j : Int))]) (st := []) C (c_isIn l M j hM (by omega)) (lk_A_177 C.1.2.2.2.2 rfl rfl ⟨Nat.le_of_ble_eq_true rfl, Nat.le_of_ble_eq_true rfl⟩) rfl rfl (Nat.le_of_ble_eq_true rfl) d_A_drawGhost_20 ⟨Nat.le_of_ble_eq_true rfl, Nat.le_of_ble_eq_true rfl⟩ (fun w8 ad8 g8 hp8 => ?_)
        obtain ⟨bb8, rfl, hbb8, rfl, rfl⟩ := hp8
        refine v_if_eqB C d_A_drawGhost_23 (fun hb23 => ?_) (fun hb23 => ?_)
        · refine v_iinc (lv' := [(3, .int (iI ((j : Int) + 1))), (0, .ref (ad 0)), (1, .int (iI (M : Int))), (2, .int (iI a))]) C d_A_drawGhost_43 3 rfl (by decide) rfl ?_
          refine v_goto C d_A_drawGhost_46 ?_
          refine v_lv (lv' := [(0, .ref (ad 0)), (1, .int (iI (M : Int))), (2, .int (iI a)), (3, .int (iI ((j : Int) + 1)))]) [1, 2, 3, 0] rfl ?_
          exact ih12 (j + 1) a (by omega) (by omega) (by show _ = sI j _ + (if Nat.testBit M j = true then negI (T j).2.2.1 else 0); rw [if_neg (by rw [← hbb8, hb23]; decide), ha, Int.add_zero]) (by omega)
        · have hTj := hT j (by omega)
          refine v_iload_n C d_A_drawGhost_26 rfl 2 rfl ?_
          refine v_iconst C d_A_drawGhost_27 ?_
          refine v_aload_n C d_A_drawGhost_28 rfl 0 rfl ?_
          refine gf_A_22 C (by omega) h0 rfl d_A_drawGhost_29 ?_
          refine v_iload_n C d_A_drawGhost_32 rfl 3 rfl ?_
          refine v_aald C 3 (by omega) h2 rfl (j : Nat) (by omega) (by omega) (by omega) (rfl) d_A_drawGhost_33 ?_
          have hq9 := hsh (j : Nat) (by omega)
          refine gf_A_120 C (by omega) hq9 rfl d_A_drawGhost_34 ?_
          refine v_inegI C d_A_drawGhost_37 ?_
          refine v_mmax C ml_A_243 sm_max in_H co_max (Nat.le_of_ble_eq_true rfl) (Nat.le_of_ble_eq_true rfl) (Nat.zero_le _) (Nat.zero_le _) d_A_drawGhost_38 (by omega) (by omega) (by omega) (by omega) ?_
          refine v_iaddI C d_A_drawGhost_41 ?_
          refine v_istore_n (lv' := [(2, .int (iI (a + (if 0 < -((T (j : Nat)).2.2.1) then -((T (j : Nat)).2.2.1) else 0)))), (0, .ref (ad 0)), (1, .int (iI (M : Int))), (3, .int (iI (j : Int)))]) C d_A_drawGhost_42 rfl (by decide) rfl ?_
          refine v_iinc (lv' := [(3, .int (iI ((j : Int) + 1))), (2, .int (iI (a + (if 0 < -((T (j : Nat)).2.2.1) then -((T (j : Nat)).2.2.1) else 0)))), (0, .ref (ad 0)), (1, .int (iI (M : Int)))]) C d_A_drawGhost_43 3 rfl (by decide) rfl ?_
          refine v_goto C d_A_drawGhost_46 ?_
          refine v_lv (lv' := [(0, .ref (ad 0)), (1, .int (iI (M : Int))), (2, .int (iI (a + (if 0 < -((T (j : Nat)).2.2.1) then -((T (j : Nat)).2.2.1) else 0)))), (3, .int (iI ((j : Int) + 1)))]) [2, 3, 1, 0] rfl ?_
          exact ih12 (j + 1) (a + (if 0 < -((T (j : Nat)).2.2.1) then -((T (j : Nat)).2.2.1) else 0)) (by omega) (by omega) (by show _ = sI j _ + (if Nat.testBit M j = true then negI (T j).2.2.1 else 0); rw [if_pos (hbb8.symm.trans hb23), ha]; rfl) (by split <;> omega)
  exact L12 _ 0 0 (Nat.lt_succ_self _) (by omega) rfl (by omega)
set_option maxHeartbeats 1000000 in
set_option maxRecDepth 100000 in
theorem c_ghost (l : Launch) (hl : l.stackTraces = false) {B : Nat} {D : va_G} {cI cZ cL cS cW : ClassId} {ad : Nat → Nat} {g : Nat → va_E} (w h : Nat) (hk hr : Bool) (sp wb : Int) (z x y : Int) (f : Nat → Int32) (z1 : -2147483648 ≤ z) (z2 : z < 2147483648) (x1 : -2147483648 ≤ x) (x2 : x < 2147483648) (y1 : -2147483648 ≤ y) (y2 : y < 2147483648) (hw : 1 ≤ w ∧ w ≤ 16) (hh : 1 ≤ h ∧ h ≤ 16) (h0 : g 0 = xE ad w h hk hr sp wb) (h2 : g 2 = rfA cS 8 (shs ad 9)) (T : Nat → ShT) (hT : bdT T) (hsh : ∀ j, j < 8 → g (9 + 8 * j) = shE (ad (9 + 8 * j + 1)) (T j)) (h8 : g 8 = inA cI 256 f) (hpos : ∀ j, j < 8 → (T j).1 = true → (T j).2.2.2.1 = 0 → 0 < (T j).2.2.1) : vx_Met l y_A_ghost (Cond.code y_A_ghost b_A_ghost 5 (some .int) :: wG) (rmF 7 110 3 18) (wPc B D classes (tyL cI cZ cL cS cW) (Zs B) 95 [.ref (ad 0), .int (iI z), .int (iI x), .int (iI y)] ad g) (QI B D classes 95 (fun v ad1 g1 => ((0 ≤ z ∧ z < 256) ∧ (0 ≤ x ∧ x < (w : Int) ∧ 0 ≤ y ∧ y < (h : Int)) ∧ ¬ ((w : Int) ≤ sI 8 (fun j => if Nat.testBit (mkM (fun j => Nat.testBit z.toNat j && (T j).1) 8) j = true then aI (T j).2.2.1 else 0) ∨ (h : Int) ≤ sI 8 (fun j => if Nat.testBit (mkM (fun j => Nat.testBit z.toNat j && (T j).1) 8) j = true then (T j).2.2.2.1 else 0)) ∧ v = gh w (sI 8 (fun j => if Nat.testBit (mkM (fun j => Nat.testBit z.toNat j && (T j).1) 8) j = true then negI (T j).2.2.1 else 0)).toNat (mkM (fun j => Nat.testBit z.toNat j && (T j).1) 8) T 8 x.toNat y.toNat) ∧ ∃ f1, ad = ad1 ∧ g1 8 = inA cI 256 f1 ∧ ∀ r1, r1 ≠ 8 → g1 r1 = g r1)) (QX B D classes 95 (fun E => (E = "java/lang/IllegalArgumentException" ∧ ¬ (0 ≤ z ∧ z < 256)) ∨ (E = "java/lang/IndexOutOfBoundsException" ∧ (0 ≤ z ∧ z < 256) ∧ ¬ (0 ≤ x ∧ x < (w : Int) ∧ 0 ≤ y ∧ y < (h : Int))) ∨ (E = "java/lang/IllegalStateException" ∧ (0 ≤ z ∧ z < 256) ∧ (0 ≤ x ∧ x < (w : Int) ∧ 0 ≤ y ∧ y < (h : Int)) ∧ ((w : Int) ≤ sI 8 (fun j => if Nat.testBit (mkM (fun j => Nat.testBit z.toNat j && (T j).1) 8) j = true then aI (T j).2.2.1 else 0) ∨ (h : Int) ≤ sI 8 (fun j => if Nat.testBit (mkM (fun j => Nat.testBit z.toNat j && (T j).1) 8) j = true then (T j).2.2.2.1 else 0)))) ad g) 3 18 (aB B) := by
  refine ofXI (own := R_A) (by decide) rfl (Nat.le_of_ble_eq_true rfl) ?_
  intro p e s m below meth c Q C hlocks htab hQ hret hout
  change kV _ _ _ _ _ _ _ _ _ _ _ _ _ _ _ _ _ _ _ _ _ [(0, .ref (ad 0)), (1, .int (iI z)), (2, .int (iI x)), (3, .int (iI y))] _ _
  refine v_iload_n C d_A_ghost_0 rfl 1 rfl ?_
  refine v_xcallSV (As := [.int (iI z)]) (st := []) C (c_requireMask l hl z z1 z2) (lk_A_142 C.1.2.2.2.2 rfl rfl ⟨Nat.le_of_ble_eq_true rfl, Nat.le_of_ble_eq_true rfl⟩) rfl rfl (Nat.le_of_ble_eq_true rfl) d_A_ghost_1 ⟨Nat.le_of_ble_eq_true rfl, Nat.le_of_ble_eq_true rfl⟩ (fun E hE => hout E _ _ _ _ _ (Or.inl hE) (Nat.le_of_ble_eq_true rfl) (Nat.le_of_ble_eq_true rfl)) (fun ad1 g1 hp1 => ?_)
  obtain ⟨hz1, hz2, rfl, rfl⟩ := hp1
  have hM0 : ((z.toNat : Nat) : Int) = z := by omega
  refine v_lvE (lv' := [(0, .ref (ad 0)), (1, .int (iI (z.toNat : Int))), (2, .int (iI x)), (3, .int (iI y))]) (by rw [hM0]) ?_
  refine v_aload_n C d_A_ghost_4 rfl 0 rfl ?_
  refine v_iload_n C d_A_ghost_5 rfl 2 rfl ?_
  refine v_iload_n C d_A_ghost_6 rfl 3 rfl ?_
  refine v_xcallVV (As := [.int (iI x), .int (iI y)]) (st := []) (by omega) h0 rfl rfl C (c_requirePixel l hl w h hk hr sp wb x y x1 x2 y1 y2 hw hh h0) (lk_A_78 C.1.2.2.2.2 rfl rfl ⟨Nat.le_of_ble_eq_true rfl, Nat.le_of_ble_eq_true rfl⟩) rfl rfl (Nat.le_of_ble_eq_true rfl) d_A_ghost_7 ⟨Nat.le_of_ble_eq_true rfl, Nat.le_of_ble_eq_true rfl⟩ (fun E hE => hout E _ _ _ _ _ (Or.inr (Or.inl ⟨hE.1, ⟨hz1, hz2⟩, hE.2⟩)) (Nat.le_of_ble_eq_true rfl) (Nat.le_of_ble_eq_true rfl)) (fun ad2 g2 hp2 => ?_)
  obtain ⟨hin, rfl, rfl⟩ := hp2
  refine v_aload_n C d_A_ghost_10 rfl 0 rfl ?_
  refine v_iload_n C d_A_ghost_11 rfl 1 rfl ?_
  refine v_callVI (As := [.int (iI (z.toNat : Int))]) (st := []) (by omega) h0 rfl rfl C (c_aimedOf l w h hk hr sp wb z.toNat (by omega) h0 h2 T hT hsh) (lk_A_145 C.1.2.2.2.2 rfl rfl ⟨Nat.le_of_ble_eq_true rfl, Nat.le_of_ble_eq_true rfl⟩) rfl rfl (Nat.le_of_ble_eq_true rfl) d_A_ghost_12 ⟨Nat.le_of_ble_eq_true rfl, Nat.le_of_ble_eq_true rfl⟩ (fun w3 ad3 g3 hp3 => ?_)
  obtain ⟨rfl, rfl, rfl⟩ := hp3
  refine v_istore (lv' := [(4, .int (iI ((mkM (fun j => Nat.testBit z.toNat j && (T j).1) 8 : Nat) : Int))), (0, .ref (ad 0)), (1, .int (iI (z.toNat : Int))), (2, .int (iI x)), (3, .int (iI y))]) C d_A_ghost_15 (by decide) rfl ?_
  refine v_aload_n C d_A_ghost_17 rfl 1 rfl ?_
  refine v_iload C d_A_ghost_18 0 rfl ?_
  refine v_callVI (As := [.int (iI ((mkM (fun j => Nat.testBit z.toNat j && (T j).1) 8 : Nat) : Int))]) (st := []) (by omega) h0 rfl rfl C (c_areEnough l w h hk hr sp wb (mkM (fun j => Nat.testBit z.toNat j && (T j).1) 8) (mkM_lt _ 8) hw hh h0 h2 T hT hsh) (lk_A_149 C.1.2.2.2.2 rfl rfl ⟨Nat.le_of_ble_eq_true rfl, Nat.le_of_ble_eq_true rfl⟩) rfl rfl (Nat.le_of_ble_eq_true rfl) d_A_ghost_20 ⟨Nat.le_of_ble_eq_true rfl, Nat.le_of_ble_eq_true rfl⟩ (fun w4 ad4 g4 hp4 => ?_)
  obtain ⟨be, rfl, hbe, rfl, rfl⟩ := hp4
  refine v_if_neB C d_A_ghost_23 (fun hb23 => ?_) (fun hb23 => ?_)
  · refine v_iconst C d_A_ghost_30 ?_
    refine v_xcallSV (As := [.int (bI false)]) (st := []) C (c_requireState l hl false) (lk_A_86 C.1.2.2.2.2 rfl rfl ⟨Nat.le_of_ble_eq_true rfl, Nat.le_of_ble_eq_true rfl⟩) rfl rfl (Nat.le_of_ble_eq_true rfl) d_A_ghost_31 ⟨Nat.le_of_ble_eq_true rfl, Nat.le_of_ble_eq_true rfl⟩ (fun E hE => hout E _ _ _ _ _ (Or.inr (Or.inr ⟨hE.1, ⟨hz1, hz2⟩, hin, of_decide_eq_true (hbe.symm.trans hb23)⟩)) (Nat.le_of_ble_eq_true rfl) (Nat.le_of_ble_eq_true rfl)) (fun ad5 g5 hp5 => ?_)
    obtain ⟨hst, rfl, rfl⟩ := hp5
    exact absurd hst (by decide)
  · refine v_iconst C d_A_ghost_26 ?_
    refine v_goto C d_A_ghost_27 ?_
    refine v_xcallSV (As := [.int (bI true)]) (st := []) C (c_requireState l hl true) (lk_A_86 C.1.2.2.2.2 rfl rfl ⟨Nat.le_of_ble_eq_true rfl, Nat.le_of_ble_eq_true rfl⟩) rfl rfl (Nat.le_of_ble_eq_true rfl) d_A_ghost_31 ⟨Nat.le_of_ble_eq_true rfl, Nat.le_of_ble_eq_true rfl⟩ (fun E hE => hout E _ _ _ _ _ (absurd hE.2 (by decide)) (Nat.le_of_ble_eq_true rfl) (Nat.le_of_ble_eq_true rfl)) (fun ad6 g6 hp6 => ?_)
    obtain ⟨hst, rfl, rfl⟩ := hp6
    have hne : ¬ ((w : Int) ≤ sI 8 (fun j => if Nat.testBit (mkM (fun j => Nat.testBit z.toNat j && (T j).1) 8) j = true then aI (T j).2.2.1 else 0) ∨ (h : Int) ≤ sI 8 (fun j => if Nat.testBit (mkM (fun j => Nat.testBit z.toNat j && (T j).1) 8) j = true then (T j).2.2.2.1 else 0)) := of_decide_eq_false (hbe.symm.trans hb23)
    refine v_aload_n C d_A_ghost_34 rfl 1 rfl ?_
    refine v_iload C d_A_ghost_35 0 rfl ?_
    refine v_callVV (As := [.int (iI ((mkM (fun j => Nat.testBit z.toNat j && (T j).1) 8 : Nat) : Int))]) (st := []) (by omega) h0 rfl rfl C (c_drawGhost l w h hk hr sp wb (mkM (fun j => Nat.testBit z.toNat j && (T j).1) 8) (mkM_lt _ 8) f hw hh h0 h2 T hT hsh h8 (by omega) (fun j hj hb hq => hpos j hj (by have h9 := (mkM_bit _ j hj).symm.trans hb; simp only [Bool.and_eq_true] at h9; exact h9.2) hq)) (lk_A_180 C.1.2.2.2.2 rfl rfl ⟨Nat.le_of_ble_eq_true rfl, Nat.le_of_ble_eq_true rfl⟩) rfl rfl (Nat.le_of_ble_eq_true rfl) d_A_ghost_37 ⟨Nat.le_of_ble_eq_true rfl, Nat.le_of_ble_eq_true rfl⟩ (fun ad7 g7 hp7 => ?_)
    obtain ⟨f7, hf7, rfl, h8, fr7⟩ := hp7
    have h0 := (fr7 0 (by omega)).trans h0
    have h2 := (fr7 2 (by omega)).trans h2
    have hsh := fun j9 (hj9 : j9 < 8) => (fr7 (9 + 8 * j9) (by omega)).trans (hsh j9 hj9)
    obtain ⟨x0, hx0⟩ : ∃ x0 : Nat, (x0 : Int) = x := ⟨x.toNat, by omega⟩
    obtain ⟨y0, hy0⟩ : ∃ y0 : Nat, (y0 : Int) = y := ⟨y.toNat, by omega⟩
    refine v_aload_n C d_A_ghost_40 rfl 1 rfl ?_
    refine gf_A_57 C (by omega) h0 rfl d_A_ghost_41 ?_
    refine v_iload_n C d_A_ghost_44 rfl 3 rfl ?_
    refine v_iload_n C d_A_ghost_45 rfl 4 rfl ?_
    refine v_callSI (As := [.int (iI x), .int (iI y)]) (st := [.ref (ad 8)]) C (c_cellAt l x y) (lk_A_82 C.1.2.2.2.2 rfl rfl ⟨Nat.le_of_ble_eq_true rfl, Nat.le_of_ble_eq_true rfl⟩) rfl rfl (Nat.le_of_ble_eq_true rfl) d_A_ghost_46 ⟨Nat.le_of_ble_eq_true rfl, Nat.le_of_ble_eq_true rfl⟩ (fun w8 ad8 g8 hp8 => ?_)
    obtain ⟨rfl, rfl, rfl⟩ := hp8
    refine v_iald C 0 (by omega) h8 rfl (16 * y0 + x0) (by omega) (by omega) (by omega) d_A_ghost_49 ?_
    exact hret _ _ _ _ _ _ _ (by omega) (by omega) d_A_ghost_50 ⟨⟨⟨hz1, hz2⟩, hin, hne, by rw [show x.toNat = x0 by omega, show y.toNat = y0 by omega]; exact hf7 x0 y0 (by omega) (by omega)⟩, f7, rfl, h8, (fun r1 n0 => (fr7 r1 n0))⟩
