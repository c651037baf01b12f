abbrev loE (cL : ClassId) (f : Nat → Int64) : va_E := .inl (cL, 1, .inr (.inl f))
set_option maxRecDepth 100000 in
theorem hl_size (l : Launch) {B : Nat} {D : va_G} {cI cZ cL cS cW : ClassId} {ad : Nat → Nat} {g : Nat → va_E} {f q mc ms : Nat} {post : (Nat → Nat) → (Nat → va_E) → Prop} {xp : String → Prop} (a1 a2 : Int32) (fs : List Value) (h0 : g 0 = .inr (0, fs)) (hxp : ∀ E, xp E → E = "java/lang/IllegalArgumentException") (hM : vx_Met l y_A_size (Cond.code y_A_size b_A_size 4 none :: wG) (rmF f q mc ms) (wPc B D classes (tyL cI cZ cL cS cW) (Zs B) 95 [.ref (ad 0), .int a1, .int a2] ad g) (QV B D classes 95 post) (QX B D classes 95 xp ad g) mc ms (aB B)) : vx_Met l y_L_size (Cond.codeWith y_L_size b_L_size 4 (some .int) [(0, 6, 9, 13)] :: wG) (rmF (f + 1) (8 + (4 + 11) + q) mc ms) (wPc B D classes (tyL cI cZ cL cS cW) (Zs B) 95 [.ref (ad 0), .int a1, .int a2] ad g) (QI B D classes 95 (fun v ad1 g1 => (v = iI 0 ∧ post ad1 g1) ∨ (v = iI 1 ∧ xp "java/lang/IllegalArgumentException" ∧ ad = ad1 ∧ g = g1))) (QX B D classes 95 (fun _ => False) ad g) mc ms (aB B) := by
  refine ofH (own := R_L) (by decide) rfl (Nat.le_of_ble_eq_true rfl) ?_
  intro p e s m below meth c Q C htab hret
  change kV _ _ _ _ _ _ _ _ _ _ _ _ _ _ _ _ _ _ _ _ _ [(0, .ref (ad 0)), (1, .int a1), (2, .int a2)] _ _
  refine v_aload_n C d_L_size_0 rfl 0 rfl ?_
  refine v_iload_n C d_L_size_1 rfl 1 rfl ?_
  refine v_iload_n C d_L_size_2 rfl 2 rfl ?_
  refine v_xcallVV (As := [.int a1, .int a2]) (st := []) (by omega) h0 rfl rfl C hM (lk_L_7 C.1.2.2.2.2 rfl rfl ⟨Nat.le_refl _, Nat.le_refl _⟩) rfl rfl (Nat.le_of_ble_eq_true rfl) d_L_size_3 ⟨by show 0 + mc ≤ mc; omega, by show 0 + ms ≤ ms; omega⟩ (fun E hE => ?_) (fun ad1 g1 hp => ?_)
  · rcases hxp E hE with rfl
    · refine v_catch C [] ⟨0, 6, 9, 13⟩ [] (htab.trans rfl) (fun z hz => nomatch hz) (by decide) (by decide) kl_L_13 (fW_w (C.2.2.2.1.2.2.1 _ ca_iae) ca_iae) (fun qx => ?_)
      refine v_astore_n (lv' := [(3, .ref (id qx)), (0, .ref (ad 0)), (1, .int a1), (2, .int a2)]) C d_L_size_9 rfl (by decide) rfl ?_
      refine v_iconst C d_L_size_10 ?_
      exact hret _ _ _ _ _ _ _ (by omega) (by omega) d_L_size_11 (Or.inr ⟨rfl, hE, rfl, rfl⟩)
  refine v_goto C d_L_size_6 ?_
  refine v_iconst C d_L_size_12 ?_
  exact hret _ _ _ _ _ _ _ (by omega) (by omega) d_L_size_13 (Or.inl ⟨rfl, hp⟩)
set_option maxRecDepth 100000 in
theorem hl_pixel (l : Launch) {B : Nat} {D : va_G} {cI cZ cL cS cW : ClassId} {ad : Nat → Nat} {g : Nat → va_E} {f q mc ms : Nat} {post : Int32 → (Nat → Nat) → (Nat → va_E) → Prop} {xp : String → Prop} (a1 a2 a3 : Int32) (fs : List Value) (h0 : g 0 = .inr (0, fs)) (lf : Nat → Int64) (h94 : g 94 = loE cL lf) (hpo : ∀ r ad1 g1, post r ad1 g1 → ad1 94 = ad 94 ∧ g1 94 = loE cL lf) (hxp : ∀ E, xp E → E = "java/lang/IndexOutOfBoundsException") (hM : vx_Met l y_A_pixel (Cond.code y_A_pixel b_A_pixel 6 (some .int) :: wG) (rmF f q mc ms) (wPc B D classes (tyL cI cZ cL cS cW) (Zs B) 95 [.ref (ad 0), .int a1, .int a2, .int a3] ad g) (QI B D classes 95 post) (QX B D classes 95 xp ad g) mc ms (aB B)) : vx_Met l y_L_pixel (Cond.codeWith y_L_pixel b_L_pixel 6 (some .int) [(0, 12, 15, 19)] :: wG) (rmF (f + 1) (8 + (6 + 11) + q) mc ms) (wPc B D classes (tyL cI cZ cL cS cW) (Zs B) 95 [.ref (ad 0), .int a1, .int a2, .int a3, .ref (ad 94)] ad g) (QI B D classes 95 (fun v ad1 g1 => (v = iI 0 ∧ ∃ (r : Int32) (g0 : Nat → va_E), post r ad1 g0 ∧ g1 94 = loE cL (vp_updL lf 0 r.toInt64) ∧ ∀ r1, r1 ≠ 94 → g1 r1 = g0 r1) ∨ (v = iI 1 ∧ xp "java/lang/IndexOutOfBoundsException" ∧ ad = ad1 ∧ g = g1))) (QX B D classes 95 (fun _ => False) ad g) mc ms (aB B) := by
  refine ofH (own := R_L) (by decide) rfl (Nat.le_of_ble_eq_true rfl) ?_
  intro p e s m below meth c Q C htab hret
  change kV _ _ _ _ _ _ _ _ _ _ _ _ _ _ _ _ _ _ _ _ _ [(0, .ref (ad 0)), (1, .int a1), (2, .int a2), (3, .int a3), (4, .ref (ad 94))] _ _
  refine v_aload C d_L_pixel_0 4 rfl ?_
  refine v_iconst C d_L_pixel_2 ?_
  refine v_aload_n C d_L_pixel_3 rfl 0 rfl ?_
  refine v_iload_n C d_L_pixel_4 rfl 1 rfl ?_
  refine v_iload_n C d_L_pixel_5 rfl 2 rfl ?_
  refine v_iload_n C d_L_pixel_6 rfl 3 rfl ?_
  refine v_xcallVI (As := [.int a1, .int a2, .int a3]) (st := [.int (iI 0), .ref (ad 94)]) (by omega) h0 rfl rfl C hM (lk_L_15 C.1.2.2.2.2 rfl rfl ⟨Nat.le_refl _, Nat.le_refl _⟩) rfl rfl (Nat.le_of_ble_eq_true rfl) d_L_pixel_7 ⟨by show 0 + mc ≤ mc; omega, by show 0 + ms ≤ ms; omega⟩ (fun E hE => ?_) (fun r ad1 g1 hp => ?_)
  · rcases hxp E hE with rfl
    · refine v_catch C [] ⟨0, 12, 15, 19⟩ [] (htab.trans rfl) (fun z hz => nomatch hz) (by decide) (by decide) kl_L_19 (fW_w (C.2.2.2.1.2.2.1 _ ca_ioo) ca_ioo) (fun qx => ?_)
      refine v_astore (lv' := [(5, .ref (id qx)), (0, .ref (ad 0)), (1, .int a1), (2, .int a2), (3, .int a3), (4, .ref (ad 94))]) C d_L_pixel_15 (by decide) rfl ?_
      refine v_iconst C d_L_pixel_17 ?_
      exact hret _ _ _ _ _ _ _ (by omega) (by omega) d_L_pixel_18 (Or.inr ⟨rfl, hE, rfl, rfl⟩)
  obtain ⟨e94, h94⟩ := hpo _ _ _ hp
  refine v_stE (st' := [.int r, .int (iI 0), .ref (ad1 94)]) (by rw [e94]) ?_
  refine v_i2l C d_L_pixel_10 ?_
  refine v_last C 2 (by omega) h94 rfl 0 rfl (by decide) (by omega) d_L_pixel_11 (fun gs1 h94 fr2 => ?_)
  refine v_goto C d_L_pixel_12 ?_
  refine v_iconst C d_L_pixel_19 ?_
  exact hret _ _ _ _ _ _ _ (by omega) (by omega) d_L_pixel_20 (Or.inl ⟨rfl, r, g1, hp, h94, (fun r1 n0 => (fr2 r1 n0))⟩)
set_option maxRecDepth 100000 in
theorem hl_look (l : Launch) {B : Nat} {D : va_G} {cI cZ cL cS cW : ClassId} {ad : Nat → Nat} {g : Nat → va_E} {f q mc ms : Nat} {post : Int32 → (Nat → Nat) → (Nat → va_E) → Prop} {xp : String → Prop} (a1 a2 a3 : Int32) (fs : List Value) (h0 : g 0 = .inr (0, fs)) (lf : Nat → Int64) (h94 : g 94 = loE cL lf) (hpo : ∀ r ad1 g1, post r ad1 g1 → ad1 94 = ad 94 ∧ g1 94 = loE cL lf) (hxp : ∀ E, xp E → E = "java/lang/IndexOutOfBoundsException" ∨ E = "java/lang/IllegalStateException") (hM : vx_Met l y_A_look (Cond.code y_A_look b_A_look 5 (some .int) :: wG) (rmF f q mc ms) (wPc B D classes (tyL cI cZ cL cS cW) (Zs B) 95 [.ref (ad 0), .int a1, .int a2, .int a3] ad g) (QI B D classes 95 post) (QX B D classes 95 xp ad g) mc ms (aB B)) : vx_Met l y_L_look (Cond.codeWith y_L_look b_L_look 6 (some .int) [(0, 12, 15, 19), (0, 12, 19, 24)] :: wG) (rmF (f + 1) (8 + (5 + 11) + q) mc ms) (wPc B D classes (tyL cI cZ cL cS cW) (Zs B) 95 [.ref (ad 0), .int a1, .int a2, .int a3, .ref (ad 94)] ad g) (QI B D classes 95 (fun v ad1 g1 => (v = iI 0 ∧ ∃ (r : Int32) (g0 : Nat → va_E), post r ad1 g0 ∧ g1 94 = loE cL (vp_updL lf 0 r.toInt64) ∧ ∀ r1, r1 ≠ 94 → g1 r1 = g0 r1) ∨ (v = iI 1 ∧ xp "java/lang/IndexOutOfBoundsException" ∧ ad = ad1 ∧ g = g1) ∨ (v = iI 2 ∧ xp "java/lang/IllegalStateException" ∧ ad = ad1 ∧ g = g1))) (QX B D classes 95 (fun _ => False) ad g) mc ms (aB B) := by
  refine ofH (own := R_L) (by decide) rfl (Nat.le_of_ble_eq_true rfl) ?_
  intro p e s m below meth c Q C htab hret
  change kV _ _ _ _ _ _ _ _ _ _ _ _ _ _ _ _ _ _ _ _ _ [(0, .ref (ad 0)), (1, .int a1), (2, .int a2), (3, .int a3), (4, .ref (ad 94))] _ _
  refine v_aload C d_L_look_0 4 rfl ?_
  refine v_iconst C d_L_look_2 ?_
  refine v_aload_n C d_L_look_3 rfl 0 rfl ?_
  refine v_iload_n C d_L_look_4 rfl 1 rfl ?_
  refine v_iload_n C d_L_look_5 rfl 2 rfl ?_
  refine v_iload_n C d_L_look_6 rfl 3 rfl ?_
  refine v_xcallVI (As := [.int a1, .int a2, .int a3]) (st := [.int (iI 0), .ref (ad 94)]) (by omega) h0 rfl rfl C hM (lk_L_21 C.1.2.2.2.2 rfl rfl ⟨Nat.le_refl _, Nat.le_refl _⟩) rfl rfl (Nat.le_of_ble_eq_true rfl) d_L_look_7 ⟨by show 0 + mc ≤ mc; omega, by show 0 + ms ≤ ms; omega⟩ (fun E hE => ?_) (fun r ad1 g1 hp => ?_)
  · rcases hxp E hE with rfl | rfl
    · refine v_catch C [] ⟨0, 12, 15, 19⟩ [⟨0, 12, 19, 24⟩] (htab.trans rfl) (fun z hz => nomatch hz) (by decide) (by decide) kl_L_19 (fW_w (C.2.2.2.1.2.2.1 _ ca_ioo) ca_ioo) (fun qx => ?_)
      refine v_astore (lv' := [(5, .ref (id qx)), (0, .ref (ad 0)), (1, .int a1), (2, .int a2), (3, .int a3), (4, .ref (ad 94))]) C d_L_look_15 (by decide) rfl ?_
      refine v_iconst C d_L_look_17 ?_
      exact hret _ _ _ _ _ _ _ (by omega) (by omega) d_L_look_18 (Or.inr (Or.inl ⟨rfl, hE, rfl, rfl⟩))
    · refine v_catch C [⟨0, 12, 15, 19⟩] ⟨0, 12, 19, 24⟩ [] (htab.trans rfl) (fun z hz => by cases hz with | head => exact Or.inr ⟨by decide, _, kl_L_19, C.2.2.2.1.2.2.2.2.2.2 ("java/lang/IllegalStateException", "java/lang/IndexOutOfBoundsException") (by decide)⟩ | tail _ hz => cases hz) (by decide) (by decide) kl_L_24 (fW_w (C.2.2.2.1.2.2.1 _ ca_ise) ca_ise) (fun qx => ?_)
      refine v_astore (lv' := [(5, .ref (id qx)), (0, .ref (ad 0)), (1, .int a1), (2, .int a2), (3, .int a3), (4, .ref (ad 94))]) C d_L_look_19 (by decide) rfl ?_
      refine v_iconst C d_L_look_21 ?_
      exact hret _ _ _ _ _ _ _ (by omega) (by omega) d_L_look_22 (Or.inr (Or.inr ⟨rfl, hE, rfl, rfl⟩))
  obtain ⟨e94, h94⟩ := hpo _ _ _ hp
  refine v_stE (st' := [.int r, .int (iI 0), .ref (ad1 94)]) (by rw [e94]) ?_
  refine v_i2l C d_L_look_10 ?_
  refine v_last C 2 (by omega) h94 rfl 0 rfl (by decide) (by omega) d_L_look_11 (fun gs1 h94 fr2 => ?_)
  refine v_goto C d_L_look_12 ?_
  refine v_iconst C d_L_look_23 ?_
  exact hret _ _ _ _ _ _ _ (by omega) (by omega) d_L_look_24 (Or.inl ⟨rfl, r, g1, hp, h94, (fun r1 n0 => (fr2 r1 n0))⟩)
set_option maxRecDepth 100000 in
theorem hl_direction (l : Launch) {B : Nat} {D : va_G} {cI cZ cL cS cW : ClassId} {ad : Nat → Nat} {g : Nat → va_E} {f q mc ms : Nat} {post : (Nat → Nat) → (Nat → va_E) → Prop} {xp : String → Prop} (a1 a2 a3 : Int32) (fs : List Value) (h0 : g 0 = .inr (0, fs)) (hxp : ∀ E, xp E → E = "java/lang/IndexOutOfBoundsException" ∨ E = "java/lang/IllegalArgumentException") (hM : vx_Met l y_A_direction (Cond.code y_A_direction b_A_direction 7 none :: wG) (rmF f q mc ms) (wPc B D classes (tyL cI cZ cL cS cW) (Zs B) 95 [.ref (ad 0), .int a1, .int a2, .int a3] ad g) (QV B D classes 95 post) (QX B D classes 95 xp ad g) mc ms (aB B)) : vx_Met l y_L_direction (Cond.codeWith y_L_direction b_L_direction 5 (some .int) [(0, 7, 10, 19), (0, 7, 14, 13)] :: wG) (rmF (f + 1) (8 + (7 + 11) + q) mc ms) (wPc B D classes (tyL cI cZ cL cS cW) (Zs B) 95 [.ref (ad 0), .int a1, .int a2, .int a3] ad g) (QI B D classes 95 (fun v ad1 g1 => (v = iI 0 ∧ post ad1 g1) ∨ (v = iI 1 ∧ xp "java/lang/IndexOutOfBoundsException" ∧ ad = ad1 ∧ g = g1) ∨ (v = iI 2 ∧ xp "java/lang/IllegalArgumentException" ∧ ad = ad1 ∧ g = g1))) (QX B D classes 95 (fun _ => False) ad g) mc ms (aB B) := by
  refine ofH (own := R_L) (by decide) rfl (Nat.le_of_ble_eq_true rfl) ?_
  intro p e s m below meth c Q C htab hret
  change kV _ _ _ _ _ _ _ _ _ _ _ _ _ _ _ _ _ _ _ _ _ [(0, .ref (ad 0)), (1, .int a1), (2, .int a2), (3, .int a3)] _ _
  refine v_aload_n C d_L_direction_0 rfl 0 rfl ?_
  refine v_iload_n C d_L_direction_1 rfl 1 rfl ?_
  refine v_iload_n C d_L_direction_2 rfl 2 rfl ?_
  refine v_iload_n C d_L_direction_3 rfl 3 rfl ?_
  refine v_xcallVV (As := [.int a1, .int a2, .int a3]) (st := []) (by omega) h0 rfl rfl C hM (lk_L_26 C.1.2.2.2.2 rfl rfl ⟨Nat.le_refl _, Nat.le_refl _⟩) rfl rfl (Nat.le_of_ble_eq_true rfl) d_L_direction_4 ⟨by show 0 + mc ≤ mc; omega, by show 0 + ms ≤ ms; omega⟩ (fun E hE => ?_) (fun ad1 g1 hp => ?_)
  · rcases hxp E hE with rfl | rfl
    · refine v_catch C [] ⟨0, 7, 10, 19⟩ [⟨0, 7, 14, 13⟩] (htab.trans rfl) (fun z hz => nomatch hz) (by decide) (by decide) kl_L_19 (fW_w (C.2.2.2.1.2.2.1 _ ca_ioo) ca_ioo) (fun qx => ?_)
      refine v_astore (lv' := [(4, .ref (id qx)), (0, .ref (ad 0)), (1, .int a1), (2, .int a2), (3, .int a3)]) C d_L_direction_10 (by decide) rfl ?_
      refine v_iconst C d_L_direction_12 ?_
      exact hret _ _ _ _ _ _ _ (by omega) (by omega) d_L_direction_13 (Or.inr (Or.inl ⟨rfl, hE, rfl, rfl⟩))
    · refine v_catch C [⟨0, 7, 10, 19⟩] ⟨0, 7, 14, 13⟩ [] (htab.trans rfl) (fun z hz => by cases hz with | head => exact Or.inr ⟨by decide, _, kl_L_19, C.2.2.2.1.2.2.2.2.2.2 ("java/lang/IllegalArgumentException", "java/lang/IndexOutOfBoundsException") (by decide)⟩ | tail _ hz => cases hz) (by decide) (by decide) kl_L_13 (fW_w (C.2.2.2.1.2.2.1 _ ca_iae) ca_iae) (fun qx => ?_)
      refine v_astore (lv' := [(4, .ref (id qx)), (0, .ref (ad 0)), (1, .int a1), (2, .int a2), (3, .int a3)]) C d_L_direction_14 (by decide) rfl ?_
      refine v_iconst C d_L_direction_16 ?_
      exact hret _ _ _ _ _ _ _ (by omega) (by omega) d_L_direction_17 (Or.inr (Or.inr ⟨rfl, hE, rfl, rfl⟩))
  refine v_goto C d_L_direction_7 ?_
  refine v_iconst C d_L_direction_18 ?_
  exact hret _ _ _ _ _ _ _ (by omega) (by omega) d_L_direction_19 (Or.inl ⟨rfl, hp⟩)
set_option maxRecDepth 100000 in
theorem hl_shelf (l : Launch) {B : Nat} {D : va_G} {cI cZ cL cS cW : ClassId} {ad : Nat → Nat} {g : Nat → va_E} {f q mc ms : Nat} {post : Int32 → (Nat → Nat) → (Nat → va_E) → Prop} {xp : String → Prop} (a1 a2 : Int32) (fs : List Value) (h0 : g 0 = .inr (0, fs)) (lf : Nat → Int64) (h94 : g 94 = loE cL lf) (hpo : ∀ r ad1 g1, post r ad1 g1 → ad1 94 = ad 94 ∧ g1 94 = loE cL lf) (hxp : ∀ E, xp E → E = "java/lang/IndexOutOfBoundsException" ∨ E = "java/lang/IllegalStateException") (hM : vx_Met l y_A_shelf (Cond.code y_A_shelf b_A_shelf 4 (some .int) :: wG) (rmF f q mc ms) (wPc B D classes (tyL cI cZ cL cS cW) (Zs B) 95 [.ref (ad 0), .int a1, .int a2] ad g) (QI B D classes 95 post) (QX B D classes 95 xp ad g) mc ms (aB B)) : vx_Met l y_L_shelf (Cond.codeWith y_L_shelf b_L_shelf 5 (some .int) [(0, 10, 13, 19), (0, 10, 17, 24)] :: wG) (rmF (f + 1) (8 + (4 + 11) + q) mc ms) (wPc B D classes (tyL cI cZ cL cS cW) (Zs B) 95 [.ref (ad 0), .int a1, .int a2, .ref (ad 94)] ad g) (QI B D classes 95 (fun v ad1 g1 => (v = iI 0 ∧ ∃ (r : Int32) (g0 : Nat → va_E), post r ad1 g0 ∧ g1 94 = loE cL (vp_updL lf 0 r.toInt64) ∧ ∀ r1, r1 ≠ 94 → g1 r1 = g0 r1) ∨ (v = iI 1 ∧ xp "java/lang/IndexOutOfBoundsException" ∧ ad = ad1 ∧ g = g1) ∨ (v = iI 2 ∧ xp "java/lang/IllegalStateException" ∧ ad = ad1 ∧ g = g1))) (QX B D classes 95 (fun _ => False) ad g) mc ms (aB B) := by
  refine ofH (own := R_L) (by decide) rfl (Nat.le_of_ble_eq_true rfl) ?_
  intro p e s m below meth c Q C htab hret
  change kV _ _ _ _ _ _ _ _ _ _ _ _ _ _ _ _ _ _ _ _ _ [(0, .ref (ad 0)), (1, .int a1), (2, .int a2), (3, .ref (ad 94))] _ _
  refine v_aload_n C d_L_shelf_0 rfl 3 rfl ?_
  refine v_iconst C d_L_shelf_1 ?_
  refine v_aload_n C d_L_shelf_2 rfl 0 rfl ?_
  refine v_iload_n C d_L_shelf_3 rfl 1 rfl ?_
  refine v_iload_n C d_L_shelf_4 rfl 2 rfl ?_
  refine v_xcallVI (As := [.int a1, .int a2]) (st := [.int (iI 0), .ref (ad 94)]) (by omega) h0 rfl rfl C hM (lk_L_30 C.1.2.2.2.2 rfl rfl ⟨Nat.le_refl _, Nat.le_refl _⟩) rfl rfl (Nat.le_of_ble_eq_true rfl) d_L_shelf_5 ⟨by show 0 + mc ≤ mc; omega, by show 0 + ms ≤ ms; omega⟩ (fun E hE => ?_) (fun r ad1 g1 hp => ?_)
  · rcases hxp E hE with rfl | rfl
    · refine v_catch C [] ⟨0, 10, 13, 19⟩ [⟨0, 10, 17, 24⟩] (htab.trans rfl) (fun z hz => nomatch hz) (by decide) (by decide) kl_L_19 (fW_w (C.2.2.2.1.2.2.1 _ ca_ioo) ca_ioo) (fun qx => ?_)
      refine v_astore (lv' := [(4, .ref (id qx)), (0, .ref (ad 0)), (1, .int a1), (2, .int a2), (3, .ref (ad 94))]) C d_L_shelf_13 (by decide) rfl ?_
      refine v_iconst C d_L_shelf_15 ?_
      exact hret _ _ _ _ _ _ _ (by omega) (by omega) d_L_shelf_16 (Or.inr (Or.inl ⟨rfl, hE, rfl, rfl⟩))
    · refine v_catch C [⟨0, 10, 13, 19⟩] ⟨0, 10, 17, 24⟩ [] (htab.trans rfl) (fun z hz => by cases hz with | head => exact Or.inr ⟨by decide, _, kl_L_19, C.2.2.2.1.2.2.2.2.2.2 ("java/lang/IllegalStateException", "java/lang/IndexOutOfBoundsException") (by decide)⟩ | tail _ hz => cases hz) (by decide) (by decide) kl_L_24 (fW_w (C.2.2.2.1.2.2.1 _ ca_ise) ca_ise) (fun qx => ?_)
      refine v_astore (lv' := [(4, .ref (id qx)), (0, .ref (ad 0)), (1, .int a1), (2, .int a2), (3, .ref (ad 94))]) C d_L_shelf_17 (by decide) rfl ?_
      refine v_iconst C d_L_shelf_19 ?_
      exact hret _ _ _ _ _ _ _ (by omega) (by omega) d_L_shelf_20 (Or.inr (Or.inr ⟨rfl, hE, rfl, rfl⟩))
  obtain ⟨e94, h94⟩ := hpo _ _ _ hp
  refine v_stE (st' := [.int r, .int (iI 0), .ref (ad1 94)]) (by rw [e94]) ?_
  refine v_i2l C d_L_shelf_8 ?_
  refine v_last C 2 (by omega) h94 rfl 0 rfl (by decide) (by omega) d_L_shelf_9 (fun gs1 h94 fr2 => ?_)
  refine v_goto C d_L_shelf_10 ?_
  refine v_iconst C d_L_shelf_21 ?_
  exact hret _ _ _ _ _ _ _ (by omega) (by omega) d_L_shelf_22 (Or.inl ⟨rfl, r, g1, hp, h94, (fun r1 n0 => (fr2 r1 n0))⟩)
set_option maxRecDepth 100000 in
theorem hl_project (l : Launch) {B : Nat} {D : va_G} {cI cZ cL cS cW : ClassId} {ad : Nat → Nat} {g : Nat → va_E} {f q mc ms : Nat} {post : (Nat → Nat) → (Nat → va_E) → Prop} {xp : String → Prop} (a1 : Int32) (fs : List Value) (h0 : g 0 = .inr (0, fs)) (hxp : ∀ E, xp E → E = "java/lang/IndexOutOfBoundsException" ∨ E = "java/lang/IllegalStateException") (hM : vx_Met l y_A_project (Cond.code y_A_project b_A_project 2 none :: wG) (rmF f q mc ms) (wPc B D classes (tyL cI cZ cL cS cW) (Zs B) 95 [.ref (ad 0), .int a1] ad g) (QV B D classes 95 post) (QX B D classes 95 xp ad g) mc ms (aB B)) : vx_Met l y_L_project (Cond.codeWith y_L_project b_L_project 3 (some .int) [(0, 5, 8, 19), (0, 5, 11, 24)] :: wG) (rmF (f + 1) (8 + (2 + 11) + q) mc ms) (wPc B D classes (tyL cI cZ cL cS cW) (Zs B) 95 [.ref (ad 0), .int a1] ad g) (QI B D classes 95 (fun v ad1 g1 => (v = iI 0 ∧ post ad1 g1) ∨ (v = iI 1 ∧ xp "java/lang/IndexOutOfBoundsException" ∧ ad = ad1 ∧ g = g1) ∨ (v = iI 2 ∧ xp "java/lang/IllegalStateException" ∧ ad = ad1 ∧ g = g1))) (QX B D classes 95 (fun _ => False) ad g) mc ms (aB B) := by
  refine ofH (own := R_L) (by decide) rfl (Nat.le_of_ble_eq_true rfl) ?_
  intro p e s m below meth c Q C htab hret
  change kV _ _ _ _ _ _ _ _ _ _ _ _ _ _ _ _ _ _ _ _ _ [(0, .ref (ad 0)), (1, .int a1)] _ _
  refine v_aload_n C d_L_project_0 rfl 0 rfl ?_
  refine v_iload_n C d_L_project_1 rfl 1 rfl ?_
  refine v_xcallVV (As := [.int a1]) (st := []) (by omega) h0 rfl rfl C hM (lk_L_34 C.1.2.2.2.2 rfl rfl ⟨Nat.le_refl _, Nat.le_refl _⟩) rfl rfl (Nat.le_of_ble_eq_true rfl) d_L_project_2 ⟨by show 0 + mc ≤ mc; omega, by show 0 + ms ≤ ms; omega⟩ (fun E hE => ?_) (fun ad1 g1 hp => ?_)
  · rcases hxp E hE with rfl | rfl
    · refine v_catch C [] ⟨0, 5, 8, 19⟩ [⟨0, 5, 11, 24⟩] (htab.trans rfl) (fun z hz => nomatch hz) (by decide) (by decide) kl_L_19 (fW_w (C.2.2.2.1.2.2.1 _ ca_ioo) ca_ioo) (fun qx => ?_)
      refine v_astore_n (lv' := [(2, .ref (id qx)), (0, .ref (ad 0)), (1, .int a1)]) C d_L_project_8 rfl (by decide) rfl ?_
      refine v_iconst C d_L_project_9 ?_
      exact hret _ _ _ _ _ _ _ (by omega) (by omega) d_L_project_10 (Or.inr (Or.inl ⟨rfl, hE, rfl, rfl⟩))
    · refine v_catch C [⟨0, 5, 8, 19⟩] ⟨0, 5, 11, 24⟩ [] (htab.trans rfl) (fun z hz => by cases hz with | head => exact Or.inr ⟨by decide, _, kl_L_19, C.2.2.2.1.2.2.2.2.2.2 ("java/lang/IllegalStateException", "java/lang/IndexOutOfBoundsException") (by decide)⟩ | tail _ hz => cases hz) (by decide) (by decide) kl_L_24 (fW_w (C.2.2.2.1.2.2.1 _ ca_ise) ca_ise) (fun qx => ?_)
      refine v_astore_n (lv' := [(2, .ref (id qx)), (0, .ref (ad 0)), (1, .int a1)]) C d_L_project_11 rfl (by decide) rfl ?_
      refine v_iconst C d_L_project_12 ?_
      exact hret _ _ _ _ _ _ _ (by omega) (by omega) d_L_project_13 (Or.inr (Or.inr ⟨rfl, hE, rfl, rfl⟩))
  refine v_goto C d_L_project_5 ?_
  refine v_iconst C d_L_project_14 ?_
  exact hret _ _ _ _ _ _ _ (by omega) (by omega) d_L_project_15 (Or.inl ⟨rfl, hp⟩)
set_option maxRecDepth 100000 in
theorem hl_drop (l : Launch) {B : Nat} {D : va_G} {cI cZ cL cS cW : ClassId} {ad : Nat → Nat} {g : Nat → va_E} {f q mc ms : Nat} {post : Int32 → (Nat → Nat) → (Nat → va_E) → Prop} {xp : String → Prop} (a1 : Int32) (fs : List Value) (h0 : g 0 = .inr (0, fs)) (lf : Nat → Int64) (h94 : g 94 = loE cL lf) (hpo : ∀ r ad1 g1, post r ad1 g1 → ad1 94 = ad 94 ∧ g1 94 = loE cL lf) (hxp : ∀ E, xp E → E = "java/lang/IndexOutOfBoundsException") (hM : vx_Met l y_A_drop (Cond.code y_A_drop b_A_drop 3 (some .boolean) :: wG) (rmF f q mc ms) (wPc B D classes (tyL cI cZ cL cS cW) (Zs B) 95 [.ref (ad 0), .int a1] ad g) (QI B D classes 95 post) (QX B D classes 95 xp ad g) mc ms (aB B)) : vx_Met l y_L_drop (Cond.codeWith y_L_drop b_L_drop 4 (some .int) [(0, 16, 19, 19)] :: wG) (rmF (f + 1) (8 + (3 + 11) + q) mc ms) (wPc B D classes (tyL cI cZ cL cS cW) (Zs B) 95 [.ref (ad 0), .int a1, .ref (ad 94)] ad g) (QI B D classes 95 (fun v ad1 g1 => (v = iI 0 ∧ ∃ (r : Int32) (g0 : Nat → va_E), post r ad1 g0 ∧ g1 94 = loE cL (vp_updL lf 0 (if r = 0 then 0 else 1)) ∧ ∀ r1, r1 ≠ 94 → g1 r1 = g0 r1) ∨ (v = iI 1 ∧ xp "java/lang/IndexOutOfBoundsException" ∧ ad = ad1 ∧ g = g1))) (QX B D classes 95 (fun _ => False) ad g) mc ms (aB B) := by
  refine ofH (own := R_L) (by decide) rfl (Nat.le_of_ble_eq_true rfl) ?_
  intro p e s m below meth c Q C htab hret
  change kV _ _ _ _ _ _ _ _ _ _ _ _ _ _ _ _ _ _ _ _ _ [(0, .ref (ad 0)), (1, .int a1), (2, .ref (ad 94))] _ _
  refine v_aload_n C d_L_drop_0 rfl 2 rfl ?_
  refine v_iconst C d_L_drop_1 ?_
  refine v_aload_n C d_L_drop_2 rfl 0 rfl ?_
  refine v_iload_n C d_L_drop_3 rfl 1 rfl ?_
  refine v_xcallVI (As := [.int a1]) (st := [.int (iI 0), .ref (ad 94)]) (by omega) h0 rfl rfl C hM (lk_L_38 C.1.2.2.2.2 rfl rfl ⟨Nat.le_refl _, Nat.le_refl _⟩) rfl rfl (Nat.le_of_ble_eq_true rfl) d_L_drop_4 ⟨by show 0 + mc ≤ mc; omega, by show 0 + ms ≤ ms; omega⟩ (fun E hE => ?_) (fun r ad1 g1 hp => ?_)
  · rcases hxp E hE with rfl
    · refine v_catch C [] ⟨0, 16, 19, 19⟩ [] (htab.trans rfl) (fun z hz => nomatch hz) (by decide) (by decide) kl_L_19 (fW_w (C.2.2.2.1.2.2.1 _ ca_ioo) ca_ioo) (fun qx => ?_)
      refine v_astore_n (lv' := [(3, .ref (id qx)), (0, .ref (ad 0)), (1, .int a1), (2, .ref (ad 94))]) C d_L_drop_19 rfl (by decide) rfl ?_
      refine v_iconst C d_L_drop_20 ?_
      exact hret _ _ _ _ _ _ _ (by omega) (by omega) d_L_drop_21 (Or.inr ⟨rfl, hE, rfl, rfl⟩)
  obtain ⟨e94, h94⟩ := hpo _ _ _ hp
  refine v_stE (st' := [.int r, .int (iI 0), .ref (ad1 94)]) (by rw [e94]) ?_
  refine v_if_eq C d_L_drop_7 (fun hb7 => ?_) (fun hb7 => ?_)
  · refine v_lconst C d_L_drop_14 rfl ?_
    refine v_last C 2 (by omega) h94 rfl 0 rfl (by decide) (by omega) d_L_drop_15 (fun gs1 h94 fr2 => ?_)
    refine v_goto C d_L_drop_16 ?_
    refine v_iconst C d_L_drop_22 ?_
    exact hret _ _ _ _ _ _ _ (by omega) (by omega) d_L_drop_23 (Or.inl ⟨rfl, r, g1, hp, h94.trans (by rw [if_pos hb7]; rfl), (fun r1 n0 => (fr2 r1 n0))⟩)
  · refine v_lconst C d_L_drop_10 rfl ?_
    refine v_goto C d_L_drop_11 ?_
    refine v_last C 2 (by omega) h94 rfl 0 rfl (by decide) (by omega) d_L_drop_15 (fun gs3 h94 fr4 => ?_)
    refine v_goto C d_L_drop_16 ?_
    refine v_iconst C d_L_drop_22 ?_
    exact hret _ _ _ _ _ _ _ (by omega) (by omega) d_L_drop_23 (Or.inl ⟨rfl, r, g1, hp, h94.trans (by rw [if_neg hb7]; rfl), (fun r1 n0 => (fr4 r1 n0))⟩)
set_option maxRecDepth 100000 in
theorem hl_bin (l : Launch) {B : Nat} {D : va_G} {cI cZ cL cS cW : ClassId} {ad : Nat → Nat} {g : Nat → va_E} {f q mc ms : Nat} {post : Int32 → (Nat → Nat) → (Nat → va_E) → Prop} {xp : String → Prop} (a1 a2 : Int32) (fs : List Value) (h0 : g 0 = .inr (0, fs)) (lf : Nat → Int64) (h94 : g 94 = loE cL lf) (hpo : ∀ r ad1 g1, post r ad1 g1 → ad1 94 = ad 94 ∧ g1 94 = loE cL lf) (hxp : ∀ E, xp E → E = "java/lang/IndexOutOfBoundsException" ∨ E = "java/lang/IllegalStateException") (hM : vx_Met l y_A_bin (Cond.code y_A_bin b_A_bin 3 (some .int) :: wG) (rmF f q mc ms) (wPc B D classes (tyL cI cZ cL cS cW) (Zs B) 95 [.ref (ad 0), .int a1, .int a2] ad g) (QI B D classes 95 post) (QX B D classes 95 xp ad g) mc ms (aB B)) : vx_Met l y_L_bin (Cond.codeWith y_L_bin b_L_bin 5 (some .int) [(0, 10, 13, 19), (0, 10, 17, 24)] :: wG) (rmF (f + 1) (8 + (3 + 11) + q) mc ms) (wPc B D classes (tyL cI cZ cL cS cW) (Zs B) 95 [.ref (ad 0), .int a1, .int a2, .ref (ad 94)] ad g) (QI B D classes 95 (fun v ad1 g1 => (v = iI 0 ∧ ∃ (r : Int32) (g0 : Nat → va_E), post r ad1 g0 ∧ g1 94 = loE cL (vp_updL lf 0 r.toInt64) ∧ ∀ r1, r1 ≠ 94 → g1 r1 = g0 r1) ∨ (v = iI 1 ∧ xp "java/lang/IndexOutOfBoundsException" ∧ ad = ad1 ∧ g = g1) ∨ (v = iI 2 ∧ xp "java/lang/IllegalStateException" ∧ ad = ad1 ∧ g = g1))) (QX B D classes 95 (fun _ => False) ad g) mc ms (aB B) := by
  refine ofH (own := R_L) (by decide) rfl (Nat.le_of_ble_eq_true rfl) ?_
  intro p e s m below meth c Q C htab hret
  change kV _ _ _ _ _ _ _ _ _ _ _ _ _ _ _ _ _ _ _ _ _ [(0, .ref (ad 0)), (1, .int a1), (2, .int a2), (3, .ref (ad 94))] _ _
  refine v_aload_n C d_L_bin_0 rfl 3 rfl ?_
  refine v_iconst C d_L_bin_1 ?_
  refine v_aload_n C d_L_bin_2 rfl 0 rfl ?_
  refine v_iload_n C d_L_bin_3 rfl 1 rfl ?_
  refine v_iload_n C d_L_bin_4 rfl 2 rfl ?_
  refine v_xcallVI (As := [.int a1, .int a2]) (st := [.int (iI 0), .ref (ad 94)]) (by omega) h0 rfl rfl C hM (lk_L_42 C.1.2.2.2.2 rfl rfl ⟨Nat.le_refl _, Nat.le_refl _⟩) rfl rfl (Nat.le_of_ble_eq_true rfl) d_L_bin_5 ⟨by show 0 + mc ≤ mc; omega, by show 0 + ms ≤ ms; omega⟩ (fun E hE => ?_) (fun r ad1 g1 hp => ?_)
  · rcases hxp E hE with rfl | rfl
    · refine v_catch C [] ⟨0, 10, 13, 19⟩ [⟨0, 10, 17, 24⟩] (htab.trans rfl) (fun z hz => nomatch hz) (by decide) (by decide) kl_L_19 (fW_w (C.2.2.2.1.2.2.1 _ ca_ioo) ca_ioo) (fun qx => ?_)
      refine v_astore (lv' := [(4, .ref (id qx)), (0, .ref (ad 0)), (1, .int a1), (2, .int a2), (3, .ref (ad 94))]) C d_L_bin_13 (by decide) rfl ?_
      refine v_iconst C d_L_bin_15 ?_
      exact hret _ _ _ _ _ _ _ (by omega) (by omega) d_L_bin_16 (Or.inr (Or.inl ⟨rfl, hE, rfl, rfl⟩))
    · refine v_catch C [⟨0, 10, 13, 19⟩] ⟨0, 10, 17, 24⟩ [] (htab.trans rfl) (fun z hz => by cases hz with | head => exact Or.inr ⟨by decide, _, kl_L_19, C.2.2.2.1.2.2.2.2.2.2 ("java/lang/IllegalStateException", "java/lang/IndexOutOfBoundsException") (by decide)⟩ | tail _ hz => cases hz) (by decide) (by decide) kl_L_24 (fW_w (C.2.2.2.1.2.2.1 _ ca_ise) ca_ise) (fun qx => ?_)
      refine v_astore (lv' := [(4, .ref (id qx)), (0, .ref (ad 0)), (1, .int a1), (2, .int a2), (3, .ref (ad 94))]) C d_L_bin_17 (by decide) rfl ?_
      refine v_iconst C d_L_bin_19 ?_
      exact hret _ _ _ _ _ _ _ (by omega) (by omega) d_L_bin_20 (Or.inr (Or.inr ⟨rfl, hE, rfl, rfl⟩))
  obtain ⟨e94, h94⟩ := hpo _ _ _ hp
  refine v_stE (st' := [.int r, .int (iI 0), .ref (ad1 94)]) (by rw [e94]) ?_
  refine v_i2l C d_L_bin_8 ?_
  refine v_last C 2 (by omega) h94 rfl 0 rfl (by decide) (by omega) d_L_bin_9 (fun gs1 h94 fr2 => ?_)
  refine v_goto C d_L_bin_10 ?_
  refine v_iconst C d_L_bin_21 ?_
  exact hret _ _ _ _ _ _ _ (by omega) (by omega) d_L_bin_22 (Or.inl ⟨rfl, r, g1, hp, h94, (fun r1 n0 => (fr2 r1 n0))⟩)
set_option maxRecDepth 100000 in
theorem hl_put (l : Launch) {B : Nat} {D : va_G} {cI cZ cL cS cW : ClassId} {ad : Nat → Nat} {g : Nat → va_E} {f q mc ms : Nat} {post : Int32 → (Nat → Nat) → (Nat → va_E) → Prop} {xp : String → Prop} (a1 a2 a3 : Int32) (fs : List Value) (h0 : g 0 = .inr (0, fs)) (lf : Nat → Int64) (h94 : g 94 = loE cL lf) (hpo : ∀ r ad1 g1, post r ad1 g1 → ad1 94 = ad 94 ∧ g1 94 = loE cL lf) (hxp : ∀ E, xp E → E = "java/lang/IndexOutOfBoundsException" ∨ E = "java/lang/IllegalStateException") (hM : vx_Met l y_A_put (Cond.code y_A_put b_A_put 6 (some .int) :: wG) (rmF f q mc ms) (wPc B D classes (tyL cI cZ cL cS cW) (Zs B) 95 [.ref (ad 0), .int a1, .int a2, .int a3] ad g) (QI B D classes 95 post) (QX B D classes 95 xp ad g) mc ms (aB B)) : vx_Met l y_L_put (Cond.codeWith y_L_put b_L_put 6 (some .int) [(0, 12, 15, 19), (0, 12, 19, 24)] :: wG) (rmF (f + 1) (8 + (6 + 11) + q) mc ms) (wPc B D classes (tyL cI cZ cL cS cW) (Zs B) 95 [.ref (ad 0), .int a1, .int a2, .int a3, .ref (ad 94)] ad g) (QI B D classes 95 (fun v ad1 g1 => (v = iI 0 ∧ ∃ (r : Int32) (g0 : Nat → va_E), post r ad1 g0 ∧ g1 94 = loE cL (vp_updL lf 0 r.toInt64) ∧ ∀ r1, r1 ≠ 94 → g1 r1 = g0 r1) ∨ (v = iI 1 ∧ xp "java/lang/IndexOutOfBoundsException" ∧ ad = ad1 ∧ g = g1) ∨ (v = iI 2 ∧ xp "java/lang/IllegalStateException" ∧ ad = ad1 ∧ g = g1))) (QX B D classes 95 (fun _ => False) ad g) mc ms (aB B) := by
  refine ofH (own := R_L) (by decide) rfl (Nat.le_of_ble_eq_true rfl) ?_
  intro p e s m below meth c Q C htab hret
  change kV _ _ _ _ _ _ _ _ _ _ _ _ _ _ _ _ _ _ _ _ _ [(0, .ref (ad 0)), (1, .int a1), (2, .int a2), (3, .int a3), (4, .ref (ad 94))] _ _
  refine v_aload C d_L_put_0 4 rfl ?_
  refine v_iconst C d_L_put_2 ?_
  refine v_aload_n C d_L_put_3 rfl 0 rfl ?_
  refine v_iload_n C d_L_put_4 rfl 1 rfl ?_
  refine v_iload_n C d_L_put_5 rfl 2 rfl ?_
  refine v_iload_n C d_L_put_6 rfl 3 rfl ?_
  refine v_xcallVI (As := [.int a1, .int a2, .int a3]) (st := [.int (iI 0), .ref (ad 94)]) (by omega) h0 rfl rfl C hM (lk_L_45 C.1.2.2.2.2 rfl rfl ⟨Nat.le_refl _, Nat.le_refl _⟩) rfl rfl (Nat.le_of_ble_eq_true rfl) d_L_put_7 ⟨by show 0 + mc ≤ mc; omega, by show 0 + ms ≤ ms; omega⟩ (fun E hE => ?_) (fun r ad1 g1 hp => ?_)
  · rcases hxp E hE with rfl | rfl
    · refine v_catch C [] ⟨0, 12, 15, 19⟩ [⟨0, 12, 19, 24⟩] (htab.trans rfl) (fun z hz => nomatch hz) (by decide) (by decide) kl_L_19 (fW_w (C.2.2.2.1.2.2.1 _ ca_ioo) ca_ioo) (fun qx => ?_)
      refine v_astore (lv' := [(5, .ref (id qx)), (0, .ref (ad 0)), (1, .int a1), (2, .int a2), (3, .int a3), (4, .ref (ad 94))]) C d_L_put_15 (by decide) rfl ?_
      refine v_iconst C d_L_put_17 ?_
      exact hret _ _ _ _ _ _ _ (by omega) (by omega) d_L_put_18 (Or.inr (Or.inl ⟨rfl, hE, rfl, rfl⟩))
    · refine v_catch C [⟨0, 12, 15, 19⟩] ⟨0, 12, 19, 24⟩ [] (htab.trans rfl) (fun z hz => by cases hz with | head => exact Or.inr ⟨by decide, _, kl_L_19, C.2.2.2.1.2.2.2.2.2.2 ("java/lang/IllegalStateException", "java/lang/IndexOutOfBoundsException") (by decide)⟩ | tail _ hz => cases hz) (by decide) (by decide) kl_L_24 (fW_w (C.2.2.2.1.2.2.1 _ ca_ise) ca_ise) (fun qx => ?_)
      refine v_astore (lv' := [(5, .ref (id qx)), (0, .ref (ad 0)), (1, .int a1), (2, .int a2), (3, .int a3), (4, .ref (ad 94))]) C d_L_put_19 (by decide) rfl ?_
      refine v_iconst C d_L_put_21 ?_
      exact hret _ _ _ _ _ _ _ (by omega) (by omega) d_L_put_22 (Or.inr (Or.inr ⟨rfl, hE, rfl, rfl⟩))
  obtain ⟨e94, h94⟩ := hpo _ _ _ hp
  refine v_stE (st' := [.int r, .int (iI 0), .ref (ad1 94)]) (by rw [e94]) ?_
  refine v_i2l C d_L_put_10 ?_
  refine v_last C 2 (by omega) h94 rfl 0 rfl (by decide) (by omega) d_L_put_11 (fun gs1 h94 fr2 => ?_)
  refine v_goto C d_L_put_12 ?_
  refine v_iconst C d_L_put_23 ?_
  exact hret _ _ _ _ _ _ _ (by omega) (by omega) d_L_put_24 (Or.inl ⟨rfl, r, g1, hp, h94, (fun r1 n0 => (fr2 r1 n0))⟩)
set_option maxRecDepth 100000 in
theorem hl_enough (l : Launch) {B : Nat} {D : va_G} {cI cZ cL cS cW : ClassId} {ad : Nat → Nat} {g : Nat → va_E} {f q mc ms : Nat} {post : Int32 → (Nat → Nat) → (Nat → va_E) → Prop} {xp : String → Prop} (a1 : Int32) (fs : List Value) (h0 : g 0 = .inr (0, fs)) (lf : Nat → Int64) (h94 : g 94 = loE cL lf) (hpo : ∀ r ad1 g1, post r ad1 g1 → ad1 94 = ad 94 ∧ g1 94 = loE cL lf) (hxp : ∀ E, xp E → E = "java/lang/IllegalArgumentException") (hM : vx_Met l y_A_enough (Cond.code y_A_enough b_A_enough 2 (some .boolean) :: wG) (rmF f q mc ms) (wPc B D classes (tyL cI cZ cL cS cW) (Zs B) 95 [.ref (ad 0), .int a1] ad g) (QI B D classes 95 post) (QX B D classes 95 xp ad g) mc ms (aB B)) : vx_Met l y_L_enough (Cond.codeWith y_L_enough b_L_enough 4 (some .int) [(0, 16, 19, 13)] :: wG) (rmF (f + 1) (8 + (2 + 11) + q) mc ms) (wPc B D classes (tyL cI cZ cL cS cW) (Zs B) 95 [.ref (ad 0), .int a1, .ref (ad 94)] ad g) (QI B D classes 95 (fun v ad1 g1 => (v = iI 0 ∧ ∃ (r : Int32) (g0 : Nat → va_E), post r ad1 g0 ∧ g1 94 = loE cL (vp_updL lf 0 (if r = 0 then 0 else 1)) ∧ ∀ r1, r1 ≠ 94 → g1 r1 = g0 r1) ∨ (v = iI 1 ∧ xp "java/lang/IllegalArgumentException" ∧ ad = ad1 ∧ g = g1))) (QX B D classes 95 (fun _ => False) ad g) mc ms (aB B) := by
  refine ofH (own := R_L) (by decide) rfl (Nat.le_of_ble_eq_true rfl) ?_
  intro p e s m below meth c Q C htab hret
  change kV _ _ _ _ _ _ _ _ _ _ _ _ _ _ _ _ _ _ _ _ _ [(0, .ref (ad 0)), (1, .int a1), (2, .ref (ad 94))] _ _
  refine v_aload_n C d_L_enough_0 rfl 2 rfl ?_
  refine v_iconst C d_L_enough_1 ?_
  refine v_aload_n C d_L_enough_2 rfl 0 rfl ?_
  refine v_iload_n C d_L_enough_3 rfl 1 rfl ?_
  refine v_xcallVI (As := [.int a1]) (st := [.int (iI 0), .ref (ad 94)]) (by omega) h0 rfl rfl C hM (lk_L_48 C.1.2.2.2.2 rfl rfl ⟨Nat.le_refl _, Nat.le_refl _⟩) rfl rfl (Nat.le_of_ble_eq_true rfl) d_L_enough_4 ⟨by show 0 + mc ≤ mc; omega, by show 0 + ms ≤ ms; omega⟩ (fun E hE => ?_) (fun r ad1 g1 hp => ?_)
  · rcases hxp E hE with rfl
    · refine v_catch C [] ⟨0, 16, 19, 13⟩ [] (htab.trans rfl) (fun z hz => nomatch hz) (by decide) (by decide) kl_L_13 (fW_w (C.2.2.2.1.2.2.1 _ ca_iae) ca_iae) (fun qx => ?_)
      refine v_astore_n (lv' := [(3, .ref (id qx)), (0, .ref (ad 0)), (1, .int a1), (2, .ref (ad 94))]) C d_L_enough_19 rfl (by decide) rfl ?_
      refine v_iconst C d_L_enough_20 ?_
      exact hret _ _ _ _ _ _ _ (by omega) (by omega) d_L_enough_21 (Or.inr ⟨rfl, hE, rfl, rfl⟩)
  obtain ⟨e94, h94⟩ := hpo _ _ _ hp
  refine v_stE (st' := [.int r, .int (iI 0), .ref (ad1 94)]) (by rw [e94]) ?_
  refine v_if_eq C d_L_enough_7 (fun hb7 => ?_) (fun hb7 => ?_)
  · refine v_lconst C d_L_enough_14 rfl ?_
    refine v_last C 2 (by omega) h94 rfl 0 rfl (by decide) (by omega) d_L_enough_15 (fun gs1 h94 fr2 => ?_)
    refine v_goto C d_L_enough_16 ?_
    refine v_iconst C d_L_enough_22 ?_
    exact hret _ _ _ _ _ _ _ (by omega) (by omega) d_L_enough_23 (Or.inl ⟨rfl, r, g1, hp, h94.trans (by rw [if_pos hb7]; rfl), (fun r1 n0 => (fr2 r1 n0))⟩)
  · refine v_lconst C d_L_enough_10 rfl ?_
    refine v_goto C d_L_enough_11 ?_
    refine v_last C 2 (by omega) h94 rfl 0 rfl (by decide) (by omega) d_L_enough_15 (fun gs3 h94 fr4 => ?_)
    refine v_goto C d_L_enough_16 ?_
    refine v_iconst C d_L_enough_22 ?_
    exact hret _ _ _ _ _ _ _ (by omega) (by omega) d_L_enough_23 (Or.inl ⟨rfl, r, g1, hp, h94.trans (by rw [if_neg hb7]; rfl), (fun r1 n0 => (fr4 r1 n0))⟩)
set_option maxRecDepth 100000 in
theorem hl_rebuild (l : Launch) {B : Nat} {D : va_G} {cI cZ cL cS cW : ClassId} {ad : Nat → Nat} {g : Nat → va_E} {f q mc ms : Nat} {post : Int32 → (Nat → Nat) → (Nat → va_E) → Prop} {xp : String → Prop} (a1 : Int32) (fs : List Value) (h0 : g 0 = .inr (0, fs)) (lf : Nat → Int64) (h94 : g 94 = loE cL lf) (hpo : ∀ r ad1 g1, post r ad1 g1 → ad1 94 = ad 94 ∧ g1 94 = loE cL lf) (hxp : ∀ E, xp E → E = "java/lang/IllegalArgumentException" ∨ E = "java/lang/IllegalStateException") (hM : vx_Met l y_A_rebuild (Cond.code y_A_rebuild b_A_rebuild 4 (some .int) :: wG) (rmF f q mc ms) (wPc B D classes (tyL cI cZ cL cS cW) (Zs B) 95 [.ref (ad 0), .int a1] ad g) (QI B D classes 95 post) (QX B D classes 95 xp ad g) mc ms (aB B)) : vx_Met l y_L_rebuild (Cond.codeWith y_L_rebuild b_L_rebuild 4 (some .int) [(0, 9, 12, 13), (0, 9, 15, 24)] :: wG) (rmF (f + 1) (8 + (4 + 11) + q) mc ms) (wPc B D classes (tyL cI cZ cL cS cW) (Zs B) 95 [.ref (ad 0), .int a1, .ref (ad 94)] ad g) (QI B D classes 95 (fun v ad1 g1 => (v = iI 0 ∧ ∃ (r : Int32) (g0 : Nat → va_E), post r ad1 g0 ∧ g1 94 = loE cL (vp_updL lf 0 r.toInt64) ∧ ∀ r1, r1 ≠ 94 → g1 r1 = g0 r1) ∨ (v = iI 1 ∧ xp "java/lang/IllegalArgumentException" ∧ ad = ad1 ∧ g = g1) ∨ (v = iI 2 ∧ xp "java/lang/IllegalStateException" ∧ ad = ad1 ∧ g = g1))) (QX B D classes 95 (fun _ => False) ad g) mc ms (aB B) := by
  refine ofH (own := R_L) (by decide) rfl (Nat.le_of_ble_eq_true rfl) ?_
  intro p e s m below meth c Q C htab hret
  change kV _ _ _ _ _ _ _ _ _ _ _ _ _ _ _ _ _ _ _ _ _ [(0, .ref (ad 0)), (1, .int a1), (2, .ref (ad 94))] _ _
  refine v_aload_n C d_L_rebuild_0 rfl 2 rfl ?_
  refine v_iconst C d_L_rebuild_1 ?_
  refine v_aload_n C d_L_rebuild_2 rfl 0 rfl ?_
  refine v_iload_n C d_L_rebuild_3 rfl 1 rfl ?_
  refine v_xcallVI (As := [.int a1]) (st := [.int (iI 0), .ref (ad 94)]) (by omega) h0 rfl rfl C hM (lk_L_51 C.1.2.2.2.2 rfl rfl ⟨Nat.le_refl _, Nat.le_refl _⟩) rfl rfl (Nat.le_of_ble_eq_true rfl) d_L_rebuild_4 ⟨by show 0 + mc ≤ mc; omega, by show 0 + ms ≤ ms; omega⟩ (fun E hE => ?_) (fun r ad1 g1 hp => ?_)
  · rcases hxp E hE with rfl | rfl
    · refine v_catch C [] ⟨0, 9, 12, 13⟩ [⟨0, 9, 15, 24⟩] (htab.trans rfl) (fun z hz => nomatch hz) (by decide) (by decide) kl_L_13 (fW_w (C.2.2.2.1.2.2.1 _ ca_iae) ca_iae) (fun qx => ?_)
      refine v_astore_n (lv' := [(3, .ref (id qx)), (0, .ref (ad 0)), (1, .int a1), (2, .ref (ad 94))]) C d_L_rebuild_12 rfl (by decide) rfl ?_
      refine v_iconst C d_L_rebuild_13 ?_
      exact hret _ _ _ _ _ _ _ (by omega) (by omega) d_L_rebuild_14 (Or.inr (Or.inl ⟨rfl, hE, rfl, rfl⟩))
    · refine v_catch C [⟨0, 9, 12, 13⟩] ⟨0, 9, 15, 24⟩ [] (htab.trans rfl) (fun z hz => by cases hz with | head => exact Or.inr ⟨by decide, _, kl_L_13, C.2.2.2.1.2.2.2.2.2.2 ("java/lang/IllegalStateException", "java/lang/IllegalArgumentException") (by decide)⟩ | tail _ hz => cases hz) (by decide) (by decide) kl_L_24 (fW_w (C.2.2.2.1.2.2.1 _ ca_ise) ca_ise) (fun qx => ?_)
      refine v_astore_n (lv' := [(3, .ref (id qx)), (0, .ref (ad 0)), (1, .int a1), (2, .ref (ad 94))]) C d_L_rebuild_15 rfl (by decide) rfl ?_
      refine v_iconst C d_L_rebuild_16 ?_
      exact hret _ _ _ _ _ _ _ (by omega) (by omega) d_L_rebuild_17 (Or.inr (Or.inr ⟨rfl, hE, rfl, rfl⟩))
  obtain ⟨e94, h94⟩ := hpo _ _ _ hp
  refine v_stE (st' := [.int r, .int (iI 0), .ref (ad1 94)]) (by rw [e94]) ?_
  refine v_i2l C d_L_rebuild_7 ?_
  refine v_last C 2 (by omega) h94 rfl 0 rfl (by decide) (by omega) d_L_rebuild_8 (fun gs1 h94 fr2 => ?_)
  refine v_goto C d_L_rebuild_9 ?_
  refine v_iconst C d_L_rebuild_18 ?_
  exact hret _ _ _ _ _ _ _ (by omega) (by omega) d_L_rebuild_19 (Or.inl ⟨rfl, r, g1, hp, h94, (fun r1 n0 => (fr2 r1 n0))⟩)
set_option maxRecDepth 100000 in
theorem hl_about (l : Launch) {B : Nat} {D : va_G} {cI cZ cL cS cW : ClassId} {ad : Nat → Nat} {g : Nat → va_E} {f q mc ms : Nat} {post : Int32 → (Nat → Nat) → (Nat → va_E) → Prop} {xp : String → Prop} (a1 : Int32) (fs : List Value) (h0 : g 0 = .inr (0, fs)) (lf : Nat → Int64) (h94 : g 94 = loE cL lf) (hpo : ∀ r ad1 g1, post r ad1 g1 → ad1 94 = ad 94 ∧ g1 94 = loE cL lf) (hxp : ∀ E, xp E → E = "java/lang/IllegalArgumentException") (hM : vx_Met l y_A_about (Cond.code y_A_about b_A_about 2 (some .int) :: wG) (rmF f q mc ms) (wPc B D classes (tyL cI cZ cL cS cW) (Zs B) 95 [.ref (ad 0), .int a1] ad g) (QI B D classes 95 post) (QX B D classes 95 xp ad g) mc ms (aB B)) : vx_Met l y_L_about (Cond.codeWith y_L_about b_L_about 4 (some .int) [(0, 9, 12, 13)] :: wG) (rmF (f + 1) (8 + (2 + 11) + q) mc ms) (wPc B D classes (tyL cI cZ cL cS cW) (Zs B) 95 [.ref (ad 0), .int a1, .ref (ad 94)] ad g) (QI B D classes 95 (fun v ad1 g1 => (v = iI 0 ∧ ∃ (r : Int32) (g0 : Nat → va_E), post r ad1 g0 ∧ g1 94 = loE cL (vp_updL lf 0 r.toInt64) ∧ ∀ r1, r1 ≠ 94 → g1 r1 = g0 r1) ∨ (v = iI 1 ∧ xp "java/lang/IllegalArgumentException" ∧ ad = ad1 ∧ g = g1))) (QX B D classes 95 (fun _ => False) ad g) mc ms (aB B) := by
  refine ofH (own := R_L) (by decide) rfl (Nat.le_of_ble_eq_true rfl) ?_
  intro p e s m below meth c Q C htab hret
  change kV _ _ _ _ _ _ _ _ _ _ _ _ _ _ _ _ _ _ _ _ _ [(0, .ref (ad 0)), (1, .int a1), (2, .ref (ad 94))] _ _
  refine v_aload_n C d_L_about_0 rfl 2 rfl ?_
  refine v_iconst C d_L_about_1 ?_
  refine v_aload_n C d_L_about_2 rfl 0 rfl ?_
  refine v_iload_n C d_L_about_3 rfl 1 rfl ?_
  refine v_xcallVI (As := [.int a1]) (st := [.int (iI 0), .ref (ad 94)]) (by omega) h0 rfl rfl C hM (lk_L_55 C.1.2.2.2.2 rfl rfl ⟨Nat.le_refl _, Nat.le_refl _⟩) rfl rfl (Nat.le_of_ble_eq_true rfl) d_L_about_4 ⟨by show 0 + mc ≤ mc; omega, by show 0 + ms ≤ ms; omega⟩ (fun E hE => ?_) (fun r ad1 g1 hp => ?_)
  · rcases hxp E hE with rfl
    · refine v_catch C [] ⟨0, 9, 12, 13⟩ [] (htab.trans rfl) (fun z hz => nomatch hz) (by decide) (by decide) kl_L_13 (fW_w (C.2.2.2.1.2.2.1 _ ca_iae) ca_iae) (fun qx => ?_)
      refine v_astore_n (lv' := [(3, .ref (id qx)), (0, .ref (ad 0)), (1, .int a1), (2, .ref (ad 94))]) C d_L_about_12 rfl (by decide) rfl ?_
      refine v_iconst C d_L_about_13 ?_
      exact hret _ _ _ _ _ _ _ (by omega) (by omega) d_L_about_14 (Or.inr ⟨rfl, hE, rfl, rfl⟩)
  obtain ⟨e94, h94⟩ := hpo _ _ _ hp
  refine v_stE (st' := [.int r, .int (iI 0), .ref (ad1 94)]) (by rw [e94]) ?_
  refine v_i2l C d_L_about_7 ?_
  refine v_last C 2 (by omega) h94 rfl 0 rfl (by decide) (by omega) d_L_about_8 (fun gs1 h94 fr2 => ?_)
  refine v_goto C d_L_about_9 ?_
  refine v_iconst C d_L_about_15 ?_
  exact hret _ _ _ _ _ _ _ (by omega) (by omega) d_L_about_16 (Or.inl ⟨rfl, r, g1, hp, h94, (fun r1 n0 => (fr2 r1 n0))⟩)
set_option maxRecDepth 100000 in
theorem hl_regenerate (l : Launch) {B : Nat} {D : va_G} {cI cZ cL cS cW : ClassId} {ad : Nat → Nat} {g : Nat → va_E} {f q mc ms : Nat} {post : Int32 → (Nat → Nat) → (Nat → va_E) → Prop} {xp : String → Prop} (a1 : Int32) (fs : List Value) (h0 : g 0 = .inr (0, fs)) (lf : Nat → Int64) (h94 : g 94 = loE cL lf) (hpo : ∀ r ad1 g1, post r ad1 g1 → ad1 94 = ad 94 ∧ g1 94 = loE cL lf) (hxp : ∀ E, xp E → E = "java/lang/IndexOutOfBoundsException" ∨ E = "java/lang/IllegalStateException") (hM : vx_Met l y_A_regenerate (Cond.code y_A_regenerate b_A_regenerate 3 (some .boolean) :: wG) (rmF f q mc ms) (wPc B D classes (tyL cI cZ cL cS cW) (Zs B) 95 [.ref (ad 0), .int a1] ad g) (QI B D classes 95 post) (QX B D classes 95 xp ad g) mc ms (aB B)) : vx_Met l y_L_regenerate (Cond.codeWith y_L_regenerate b_L_regenerate 4 (some .int) [(0, 16, 19, 19), (0, 16, 22, 24)] :: wG) (rmF (f + 1) (8 + (3 + 11) + q) mc ms) (wPc B D classes (tyL cI cZ cL cS cW) (Zs B) 95 [.ref (ad 0), .int a1, .ref (ad 94)] ad g) (QI B D classes 95 (fun v ad1 g1 => (v = iI 0 ∧ ∃ (r : Int32) (g0 : Nat → va_E), post r ad1 g0 ∧ g1 94 = loE cL (vp_updL lf 0 (if r = 0 then 0 else 1)) ∧ ∀ r1, r1 ≠ 94 → g1 r1 = g0 r1) ∨ (v = iI 1 ∧ xp "java/lang/IndexOutOfBoundsException" ∧ ad = ad1 ∧ g = g1) ∨ (v = iI 2 ∧ xp "java/lang/IllegalStateException" ∧ ad = ad1 ∧ g = g1))) (QX B D classes 95 (fun _ => False) ad g) mc ms (aB B) := by
  refine ofH (own := R_L) (by decide) rfl (Nat.le_of_ble_eq_true rfl) ?_
  intro p e s m below meth c Q C htab hret
  change kV _ _ _ _ _ _ _ _ _ _ _ _ _ _ _ _ _ _ _ _ _ [(0, .ref (ad 0)), (1, .int a1), (2, .ref (ad 94))] _ _
  refine v_aload_n C d_L_regenerate_0 rfl 2 rfl ?_
  refine v_iconst C d_L_regenerate_1 ?_
  refine v_aload_n C d_L_regenerate_2 rfl 0 rfl ?_
  refine v_iload_n C d_L_regenerate_3 rfl 1 rfl ?_
  refine v_xcallVI (As := [.int a1]) (st := [.int (iI 0), .ref (ad 94)]) (by omega) h0 rfl rfl C hM (lk_L_58 C.1.2.2.2.2 rfl rfl ⟨Nat.le_refl _, Nat.le_refl _⟩) rfl rfl (Nat.le_of_ble_eq_true rfl) d_L_regenerate_4 ⟨by show 0 + mc ≤ mc; omega, by show 0 + ms ≤ ms; omega⟩ (fun E hE => ?_) (fun r ad1 g1 hp => ?_)
  · rcases hxp E hE with rfl | rfl
    · refine v_catch C [] ⟨0, 16, 19, 19⟩ [⟨0, 16, 22, 24⟩] (htab.trans rfl) (fun z hz => nomatch hz) (by decide) (by decide) kl_L_19 (fW_w (C.2.2.2.1.2.2.1 _ ca_ioo) ca_ioo) (fun qx => ?_)
      refine v_astore_n (lv' := [(3, .ref (id qx)), (0, .ref (ad 0)), (1, .int a1), (2, .ref (ad 94))]) C d_L_regenerate_19 rfl (by decide) rfl ?_
      refine v_iconst C d_L_regenerate_20 ?_
      exact hret _ _ _ _ _ _ _ (by omega) (by omega) d_L_regenerate_21 (Or.inr (Or.inl ⟨rfl, hE, rfl, rfl⟩))
    · refine v_catch C [⟨0, 16, 19, 19⟩] ⟨0, 16, 22, 24⟩ [] (htab.trans rfl) (fun z hz => by cases hz with | head => exact Or.inr ⟨by decide, _, kl_L_19, C.2.2.2.1.2.2.2.2.2.2 ("java/lang/IllegalStateException", "java/lang/IndexOutOfBoundsException") (by decide)⟩ | tail _ hz => cases hz) (by decide) (by decide) kl_L_24 (fW_w (C.2.2.2.1.2.2.1 _ ca_ise) ca_ise) (fun qx => ?_)
      refine v_astore_n (lv' := [(3, .ref (id qx)), (0, .ref (ad 0)), (1, .int a1), (2, .ref (ad 94))]) C d_L_regenerate_22 rfl (by decide) rfl ?_
      refine v_iconst C d_L_regenerate_23 ?_
      exact hret _ _ _ _ _ _ _ (by omega) (by omega) d_L_regenerate_24 (Or.inr (Or.inr ⟨rfl, hE, rfl, rfl⟩))
  obtain ⟨e94, h94⟩ := hpo _ _ _ hp
  refine v_stE (st' := [.int r, .int (iI 0), .ref (ad1 94)]) (by rw [e94]) ?_
  refine v_if_eq C d_L_regenerate_7 (fun hb7 => ?_) (fun hb7 => ?_)
  · refine v_lconst C d_L_regenerate_14 rfl ?_
    refine v_last C 2 (by omega) h94 rfl 0 rfl (by decide) (by omega) d_L_regenerate_15 (fun gs1 h94 fr2 => ?_)
    refine v_goto C d_L_regenerate_16 ?_
    refine v_iconst C d_L_regenerate_25 ?_
    exact hret _ _ _ _ _ _ _ (by omega) (by omega) d_L_regenerate_26 (Or.inl ⟨rfl, r, g1, hp, h94.trans (by rw [if_pos hb7]; rfl), (fun r1 n0 => (fr2 r1 n0))⟩)
  · refine v_lconst C d_L_regenerate_10 rfl ?_
    refine v_goto C d_L_regenerate_11 ?_
    refine v_last C 2 (by omega) h94 rfl 0 rfl (by decide) (by omega) d_L_regenerate_15 (fun gs3 h94 fr4 => ?_)
    refine v_goto C d_L_regenerate_16 ?_
    refine v_iconst C d_L_regenerate_25 ?_
    exact hret _ _ _ _ _ _ _ (by omega) (by omega) d_L_regenerate_26 (Or.inl ⟨rfl, r, g1, hp, h94.trans (by rw [if_neg hb7]; rfl), (fun r1 n0 => (fr4 r1 n0))⟩)
set_option maxRecDepth 100000 in
theorem hl_ghost (l : Launch) {B : Nat} {D : va_G} {cI cZ cL cS cW : ClassId} {ad : Nat → Nat} {g : Nat → va_E} {f q mc ms : Nat} {post : Int32 → (Nat → Nat) → (Nat → va_E) → Prop} {xp : String → Prop} (a1 a2 a3 : Int32) (fs : List Value) (h0 : g 0 = .inr (0, fs)) (lf : Nat → Int64) (h94 : g 94 = loE cL lf) (hpo : ∀ r ad1 g1, post r ad1 g1 → ad1 94 = ad 94 ∧ g1 94 = loE cL lf) (hxp : ∀ E, xp E → E = "java/lang/IllegalArgumentException" ∨ E = "java/lang/IndexOutOfBoundsException" ∨ E = "java/lang/IllegalStateException") (hM : vx_Met l y_A_ghost (Cond.code y_A_ghost b_A_ghost 5 (some .int) :: wG) (rmF f q mc ms) (wPc B D classes (tyL cI cZ cL cS cW) (Zs B) 95 [.ref (ad 0), .int a1, .int a2, .int a3] ad g) (QI B D classes 95 post) (QX B D classes 95 xp ad g) mc ms (aB B)) : vx_Met l y_L_ghost (Cond.codeWith y_L_ghost b_L_ghost 6 (some .int) [(0, 12, 15, 13), (0, 12, 19, 19), (0, 12, 23, 24)] :: wG) (rmF (f + 1) (8 + (5 + 11) + q) mc ms) (wPc B D classes (tyL cI cZ cL cS cW) (Zs B) 95 [.ref (ad 0), .int a1, .int a2, .int a3, .ref (ad 94)] ad g) (QI B D classes 95 (fun v ad1 g1 => (v = iI 0 ∧ ∃ (r : Int32) (g0 : Nat → va_E), post r ad1 g0 ∧ g1 94 = loE cL (vp_updL lf 0 r.toInt64) ∧ ∀ r1, r1 ≠ 94 → g1 r1 = g0 r1) ∨ (v = iI 1 ∧ xp "java/lang/IllegalArgumentException" ∧ ad = ad1 ∧ g = g1) ∨ (v = iI 2 ∧ xp "java/lang/IndexOutOfBoundsException" ∧ ad = ad1 ∧ g = g1) ∨ (v = iI 3 ∧ xp "java/lang/IllegalStateException" ∧ ad = ad1 ∧ g = g1))) (QX B D classes 95 (fun _ => False) ad g) mc ms (aB B) := by
  refine ofH (own := R_L) (by decide) rfl (Nat.le_of_ble_eq_true rfl) ?_
  intro p e s m below meth c Q C htab hret
  change kV _ _ _ _ _ _ _ _ _ _ _ _ _ _ _ _ _ _ _ _ _ [(0, .ref (ad 0)), (1, .int a1), (2, .int a2), (3, .int a3), (4, .ref (ad 94))] _ _
  refine v_aload C d_L_ghost_0 4 rfl ?_
  refine v_iconst C d_L_ghost_2 ?_
  refine v_aload_n C d_L_ghost_3 rfl 0 rfl ?_
  refine v_iload_n C d_L_ghost_4 rfl 1 rfl ?_
  refine v_iload_n C d_L_ghost_5 rfl 2 rfl ?_
  refine v_iload_n C d_L_ghost_6 rfl 3 rfl ?_
  refine v_xcallVI (As := [.int a1, .int a2, .int a3]) (st := [.int (iI 0), .ref (ad 94)]) (by omega) h0 rfl rfl C hM (lk_L_61 C.1.2.2.2.2 rfl rfl ⟨Nat.le_refl _, Nat.le_refl _⟩) rfl rfl (Nat.le_of_ble_eq_true rfl) d_L_ghost_7 ⟨by show 0 + mc ≤ mc; omega, by show 0 + ms ≤ ms; omega⟩ (fun E hE => ?_) (fun r ad1 g1 hp => ?_)
  · rcases hxp E hE with rfl | rfl | rfl
    · refine v_catch C [] ⟨0, 12, 15, 13⟩ [⟨0, 12, 19, 19⟩, ⟨0, 12, 23, 24⟩] (htab.trans rfl) (fun z hz => nomatch hz) (by decide) (by decide) kl_L_13 (fW_w (C.2.2.2.1.2.2.1 _ ca_iae) ca_iae) (fun qx => ?_)
      refine v_astore (lv' := [(5, .ref (id qx)), (0, .ref (ad 0)), (1, .int a1), (2, .int a2), (3, .int a3), (4, .ref (ad 94))]) C d_L_ghost_15 (by decide) rfl ?_
      refine v_iconst C d_L_ghost_17 ?_
      exact hret _ _ _ _ _ _ _ (by omega) (by omega) d_L_ghost_18 (Or.inr (Or.inl ⟨rfl, hE, rfl, rfl⟩))
    · refine v_catch C [⟨0, 12, 15, 13⟩] ⟨0, 12, 19, 19⟩ [⟨0, 12, 23, 24⟩] (htab.trans rfl) (fun z hz => by cases hz with | head => exact Or.inr ⟨by decide, _, kl_L_13, C.2.2.2.1.2.2.2.2.2.2 ("java/lang/IndexOutOfBoundsException", "java/lang/IllegalArgumentException") (by decide)⟩ | tail _ hz => cases hz) (by decide) (by decide) kl_L_19 (fW_w (C.2.2.2.1.2.2.1 _ ca_ioo) ca_ioo) (fun qx => ?_)
      refine v_astore (lv' := [(5, .ref (id qx)), (0, .ref (ad 0)), (1, .int a1), (2, .int a2), (3, .int a3), (4, .ref (ad 94))]) C d_L_ghost_19 (by decide) rfl ?_
      refine v_iconst C d_L_ghost_21 ?_
      exact hret _ _ _ _ _ _ _ (by omega) (by omega) d_L_ghost_22 (Or.inr (Or.inr (Or.inl ⟨rfl, hE, rfl, rfl⟩)))
    · refine v_catch C [⟨0, 12, 15, 13⟩, ⟨0, 12, 19, 19⟩] ⟨0, 12, 23, 24⟩ [] (htab.trans rfl) (fun z hz => by cases hz with | head => exact Or.inr ⟨by decide, _, kl_L_13, C.2.2.2.1.2.2.2.2.2.2 ("java/lang/IllegalStateException", "java/lang/IllegalArgumentException") (by decide)⟩ | tail _ hz => cases hz with | head => exact Or.inr ⟨by decide, _, kl_L_19, C.2.2.2.1.2.2.2.2.2.2 ("java/lang/IllegalStateException", "java/lang/IndexOutOfBoundsException") (by decide)⟩ | tail _ hz => cases hz) (by decide) (by decide) kl_L_24 (fW_w (C.2.2.2.1.2.2.1 _ ca_ise) ca_ise) (fun qx => ?_)
      refine v_astore (lv' := [(5, .ref (id qx)), (0, .ref (ad 0)), (1, .int a1), (2, .int a2), (3, .int a3), (4, .ref (ad 94))]) C d_L_ghost_23 (by decide) rfl ?_
      refine v_iconst C d_L_ghost_25 ?_
      exact hret _ _ _ _ _ _ _ (by omega) (by omega) d_L_ghost_26 (Or.inr (Or.inr (Or.inr ⟨rfl, hE, rfl, rfl⟩)))
  obtain ⟨e94, h94⟩ := hpo _ _ _ hp
  refine v_stE (st' := [.int r, .int (iI 0), .ref (ad1 94)]) (by rw [e94]) ?_
  refine v_i2l C d_L_ghost_10 ?_
  refine v_last C 2 (by omega) h94 rfl 0 rfl (by decide) (by omega) d_L_ghost_11 (fun gs1 h94 fr2 => ?_)
  refine v_goto C d_L_ghost_12 ?_
  refine v_iconst C d_L_ghost_27 ?_
  exact hret _ _ _ _ _ _ _ (by omega) (by omega) d_L_ghost_28 (Or.inl ⟨rfl, r, g1, hp, h94, (fun r1 n0 => (fr2 r1 n0))⟩)
set_option maxRecDepth 100000 in
theorem hl_add (l : Launch) {B : Nat} {D : va_G} {cI cZ cL cS cW : ClassId} {ad : Nat → Nat} {g : Nat → va_E} {f q mc ms : Nat} {post : Int32 → (Nat → Nat) → (Nat → va_E) → Prop} {xp : String → Prop} (a1 : Int32) (fs : List Value) (h0 : g 0 = .inr (0, fs)) (lf : Nat → Int64) (h94 : g 94 = loE cL lf) (hpo : ∀ r ad1 g1, post r ad1 g1 → ad1 94 = ad 94 ∧ g1 94 = loE cL lf) (hxp : ∀ E, xp E → E = "java/lang/IllegalStateException") (hM : vx_Met l y_A_add (Cond.code y_A_add b_A_add 4 (some .int) :: wG) (rmF f q mc ms) (wPc B D classes (tyL cI cZ cL cS cW) (Zs B) 95 [.ref (ad 0), .int a1] ad g) (QI B D classes 95 post) (QX B D classes 95 xp ad g) mc ms (aB B)) : vx_Met l y_L_add (Cond.codeWith y_L_add b_L_add 4 (some .int) [(0, 9, 12, 24)] :: wG) (rmF (f + 1) (8 + (4 + 11) + q) mc ms) (wPc B D classes (tyL cI cZ cL cS cW) (Zs B) 95 [.ref (ad 0), .int a1, .ref (ad 94)] ad g) (QI B D classes 95 (fun v ad1 g1 => (v = iI 0 ∧ ∃ (r : Int32) (g0 : Nat → va_E), post r ad1 g0 ∧ g1 94 = loE cL (vp_updL lf 0 r.toInt64) ∧ ∀ r1, r1 ≠ 94 → g1 r1 = g0 r1) ∨ (v = iI 1 ∧ xp "java/lang/IllegalStateException" ∧ ad = ad1 ∧ g = g1))) (QX B D classes 95 (fun _ => False) ad g) mc ms (aB B) := by
  refine ofH (own := R_L) (by decide) rfl (Nat.le_of_ble_eq_true rfl) ?_
  intro p e s m below meth c Q C htab hret
  change kV _ _ _ _ _ _ _ _ _ _ _ _ _ _ _ _ _ _ _ _ _ [(0, .ref (ad 0)), (1, .int a1), (2, .ref (ad 94))] _ _
  refine v_aload_n C d_L_add_0 rfl 2 rfl ?_
  refine v_iconst C d_L_add_1 ?_
  refine v_aload_n C d_L_add_2 rfl 0 rfl ?_
  refine v_iload_n C d_L_add_3 rfl 1 rfl ?_
  refine v_xcallVI (As := [.int a1]) (st := [.int (iI 0), .ref (ad 94)]) (by omega) h0 rfl rfl C hM (lk_L_64 C.1.2.2.2.2 rfl rfl ⟨Nat.le_refl _, Nat.le_refl _⟩) rfl rfl (Nat.le_of_ble_eq_true rfl) d_L_add_4 ⟨by show 0 + mc ≤ mc; omega, by show 0 + ms ≤ ms; omega⟩ (fun E hE => ?_) (fun r ad1 g1 hp => ?_)
  · rcases hxp E hE with rfl
    · refine v_catch C [] ⟨0, 9, 12, 24⟩ [] (htab.trans rfl) (fun z hz => nomatch hz) (by decide) (by decide) kl_L_24 (fW_w (C.2.2.2.1.2.2.1 _ ca_ise) ca_ise) (fun qx => ?_)
      refine v_astore_n (lv' := [(3, .ref (id qx)), (0, .ref (ad 0)), (1, .int a1), (2, .ref (ad 94))]) C d_L_add_12 rfl (by decide) rfl ?_
      refine v_iconst C d_L_add_13 ?_
      exact hret _ _ _ _ _ _ _ (by omega) (by omega) d_L_add_14 (Or.inr ⟨rfl, hE, rfl, rfl⟩)
  obtain ⟨e94, h94⟩ := hpo _ _ _ hp
  refine v_stE (st' := [.int r, .int (iI 0), .ref (ad1 94)]) (by rw [e94]) ?_
  refine v_i2l C d_L_add_7 ?_
  refine v_last C 2 (by omega) h94 rfl 0 rfl (by decide) (by omega) d_L_add_8 (fun gs1 h94 fr2 => ?_)
  refine v_goto C d_L_add_9 ?_
  refine v_iconst C d_L_add_15 ?_
  exact hret _ _ _ _ _ _ _ (by omega) (by omega) d_L_add_16 (Or.inl ⟨rfl, r, g1, hp, h94, (fun r1 n0 => (fr2 r1 n0))⟩)
section LH
variable {R : Room} {s : State} {args : Array Value} {rm : Room} {mc ms : Nat}
theorem lkh_size (hts : ∀ w ∈ wG, w.before args s = true) (hrc : rm.cells = mc) (hrs : rm.slots = ms) (hR : rm.frames + 1 ≤ R.frames ∧ 8 + (4 + 11) + rm.locals ≤ R.locals) : vx_CSW R s args R_L 72 y_L_size b_L_size 4 (some .int) [(0, 6, 9, 13)] (Cond.codeWith y_L_size b_L_size 4 (some .int) [(0, 6, 9, 13)] :: wG) rm mc ms 3 := vx_cwSW 3 hts (wG_good (wG_cons ml_L_72 (wG_cons sm_L_size (wG_cons in_L (wG_cons cw_L_size wG_self))))) rfl hrc hrs (by decide +kernel) hR
theorem lkh_pixel (hts : ∀ w ∈ wG, w.before args s = true) (hrc : rm.cells = mc) (hrs : rm.slots = ms) (hR : rm.frames + 1 ≤ R.frames ∧ 8 + (6 + 11) + rm.locals ≤ R.locals) : vx_CSW R s args R_L 82 y_L_pixel b_L_pixel 6 (some .int) [(0, 12, 15, 19)] (Cond.codeWith y_L_pixel b_L_pixel 6 (some .int) [(0, 12, 15, 19)] :: wG) rm mc ms 5 := vx_cwSW 5 hts (wG_good (wG_cons ml_L_82 (wG_cons sm_L_pixel (wG_cons in_L (wG_cons cw_L_pixel wG_self))))) rfl hrc hrs (by decide +kernel) hR
theorem lkh_look (hts : ∀ w ∈ wG, w.before args s = true) (hrc : rm.cells = mc) (hrs : rm.slots = ms) (hR : rm.frames + 1 ≤ R.frames ∧ 8 + (6 + 11) + rm.locals ≤ R.locals) : vx_CSW R s args R_L 86 y_L_look b_L_look 6 (some .int) [(0, 12, 15, 19), (0, 12, 19, 24)] (Cond.codeWith y_L_look b_L_look 6 (some .int) [(0, 12, 15, 19), (0, 12, 19, 24)] :: wG) rm mc ms 5 := vx_cwSW 5 hts (wG_good (wG_cons ml_L_86 (wG_cons sm_L_look (wG_cons in_L (wG_cons cw_L_look wG_self))))) rfl hrc hrs (by decide +kernel) hR
theorem lkh_direction (hts : ∀ w ∈ wG, w.before args s = true) (hrc : rm.cells = mc) (hrs : rm.slots = ms) (hR : rm.frames + 1 ≤ R.frames ∧ 8 + (5 + 11) + rm.locals ≤ R.locals) : vx_CSW R s args R_L 89 y_L_direction b_L_direction 5 (some .int) [(0, 7, 10, 19), (0, 7, 14, 13)] (Cond.codeWith y_L_direction b_L_direction 5 (some .int) [(0, 7, 10, 19), (0, 7, 14, 13)] :: wG) rm mc ms 4 := vx_cwSW 4 hts (wG_good (wG_cons ml_L_89 (wG_cons sm_L_direction (wG_cons in_L (wG_cons cw_L_direction wG_self))))) rfl hrc hrs (by decide +kernel) hR
theorem lkh_shelf (hts : ∀ w ∈ wG, w.before args s = true) (hrc : rm.cells = mc) (hrs : rm.slots = ms) (hR : rm.frames + 1 ≤ R.frames ∧ 8 + (5 + 11) + rm.locals ≤ R.locals) : vx_CSW R s args R_L 93 y_L_shelf b_L_shelf 5 (some .int) [(0, 10, 13, 19), (0, 10, 17, 24)] (Cond.codeWith y_L_shelf b_L_shelf 5 (some .int) [(0, 10, 13, 19), (0, 10, 17, 24)] :: wG) rm mc ms 4 := vx_cwSW 4 hts (wG_good (wG_cons ml_L_93 (wG_cons sm_L_shelf (wG_cons in_L (wG_cons cw_L_shelf wG_self))))) rfl hrc hrs (by decide +kernel) hR
theorem lkh_project (hts : ∀ w ∈ wG, w.before args s = true) (hrc : rm.cells = mc) (hrs : rm.slots = ms) (hR : rm.frames + 1 ≤ R.frames ∧ 8 + (3 + 11) + rm.locals ≤ R.locals) : vx_CSW R s args R_L 97 y_L_project b_L_project 3 (some .int) [(0, 5, 8, 19), (0, 5, 11, 24)] (Cond.codeWith y_L_project b_L_project 3 (some .int) [(0, 5, 8, 19), (0, 5, 11, 24)] :: wG) rm mc ms 2 := vx_cwSW 2 hts (wG_good (wG_cons ml_L_97 (wG_cons sm_L_project (wG_cons in_L (wG_cons cw_L_project wG_self))))) rfl hrc hrs (by decide +kernel) hR
theorem lkh_drop (hts : ∀ w ∈ wG, w.before args s = true) (hrc : rm.cells = mc) (hrs : rm.slots = ms) (hR : rm.frames + 1 ≤ R.frames ∧ 8 + (4 + 11) + rm.locals ≤ R.locals) : vx_CSW R s args R_L 101 y_L_drop b_L_drop 4 (some .int) [(0, 16, 19, 19)] (Cond.codeWith y_L_drop b_L_drop 4 (some .int) [(0, 16, 19, 19)] :: wG) rm mc ms 3 := vx_cwSW 3 hts (wG_good (wG_cons ml_L_101 (wG_cons sm_L_drop (wG_cons in_L (wG_cons cw_L_drop wG_self))))) rfl hrc hrs (by decide +kernel) hR
theorem lkh_bin (hts : ∀ w ∈ wG, w.before args s = true) (hrc : rm.cells = mc) (hrs : rm.slots = ms) (hR : rm.frames + 1 ≤ R.frames ∧ 8 + (5 + 11) + rm.locals ≤ R.locals) : vx_CSW R s args R_L 105 y_L_bin b_L_bin 5 (some .int) [(0, 10, 13, 19), (0, 10, 17, 24)] (Cond.codeWith y_L_bin b_L_bin 5 (some .int) [(0, 10, 13, 19), (0, 10, 17, 24)] :: wG) rm mc ms 4 := vx_cwSW 4 hts (wG_good (wG_cons ml_L_105 (wG_cons sm_L_bin (wG_cons in_L (wG_cons cw_L_bin wG_self))))) rfl hrc hrs (by decide +kernel) hR
theorem lkh_put (hts : ∀ w ∈ wG, w.before args s = true) (hrc : rm.cells = mc) (hrs : rm.slots = ms) (hR : rm.frames + 1 ≤ R.frames ∧ 8 + (6 + 11) + rm.locals ≤ R.locals) : vx_CSW R s args R_L 108 y_L_put b_L_put 6 (some .int) [(0, 12, 15, 19), (0, 12, 19, 24)] (Cond.codeWith y_L_put b_L_put 6 (some .int) [(0, 12, 15, 19), (0, 12, 19, 24)] :: wG) rm mc ms 5 := vx_cwSW 5 hts (wG_good (wG_cons ml_L_108 (wG_cons sm_L_put (wG_cons in_L (wG_cons cw_L_put wG_self))))) rfl hrc hrs (by decide +kernel) hR
theorem lkh_enough (hts : ∀ w ∈ wG, w.before args s = true) (hrc : rm.cells = mc) (hrs : rm.slots = ms) (hR : rm.frames + 1 ≤ R.frames ∧ 8 + (4 + 11) + rm.locals ≤ R.locals) : vx_CSW R s args R_L 111 y_L_enough b_L_enough 4 (some .int) [(0, 16, 19, 13)] (Cond.codeWith y_L_enough b_L_enough 4 (some .int) [(0, 16, 19, 13)] :: wG) rm mc ms 3 := vx_cwSW 3 hts (wG_good (wG_cons ml_L_111 (wG_cons sm_L_enough (wG_cons in_L (wG_cons cw_L_enough wG_self))))) rfl hrc hrs (by decide +kernel) hR
theorem lkh_rebuild (hts : ∀ w ∈ wG, w.before args s = true) (hrc : rm.cells = mc) (hrs : rm.slots = ms) (hR : rm.frames + 1 ≤ R.frames ∧ 8 + (4 + 11) + rm.locals ≤ R.locals) : vx_CSW R s args R_L 114 y_L_rebuild b_L_rebuild 4 (some .int) [(0, 9, 12, 13), (0, 9, 15, 24)] (Cond.codeWith y_L_rebuild b_L_rebuild 4 (some .int) [(0, 9, 12, 13), (0, 9, 15, 24)] :: wG) rm mc ms 3 := vx_cwSW 3 hts (wG_good (wG_cons ml_L_114 (wG_cons sm_L_rebuild (wG_cons in_L (wG_cons cw_L_rebuild wG_self))))) rfl hrc hrs (by decide +kernel) hR
theorem lkh_about (hts : ∀ w ∈ wG, w.before args s = true) (hrc : rm.cells = mc) (hrs : rm.slots = ms) (hR : rm.frames + 1 ≤ R.frames ∧ 8 + (4 + 11) + rm.locals ≤ R.locals) : vx_CSW R s args R_L 117 y_L_about b_L_about 4 (some .int) [(0, 9, 12, 13)] (Cond.codeWith y_L_about b_L_about 4 (some .int) [(0, 9, 12, 13)] :: wG) rm mc ms 3 := vx_cwSW 3 hts (wG_good (wG_cons ml_L_117 (wG_cons sm_L_about (wG_cons in_L (wG_cons cw_L_about wG_self))))) rfl hrc hrs (by decide +kernel) hR
theorem lkh_regenerate (hts : ∀ w ∈ wG, w.before args s = true) (hrc : rm.cells = mc) (hrs : rm.slots = ms) (hR : rm.frames + 1 ≤ R.frames ∧ 8 + (4 + 11) + rm.locals ≤ R.locals) : vx_CSW R s args R_L 120 y_L_regenerate b_L_regenerate 4 (some .int) [(0, 16, 19, 19), (0, 16, 22, 24)] (Cond.codeWith y_L_regenerate b_L_regenerate 4 (some .int) [(0, 16, 19, 19), (0, 16, 22, 24)] :: wG) rm mc ms 3 := vx_cwSW 3 hts (wG_good (wG_cons ml_L_120 (wG_cons sm_L_regenerate (wG_cons in_L (wG_cons cw_L_regenerate wG_self))))) rfl hrc hrs (by decide +kernel) hR
theorem lkh_ghost (hts : ∀ w ∈ wG, w.before args s = true) (hrc : rm.cells = mc) (hrs : rm.slots = ms) (hR : rm.frames + 1 ≤ R.frames ∧ 8 + (6 + 11) + rm.locals ≤ R.locals) : vx_CSW R s args R_L 127 y_L_ghost b_L_ghost 6 (some .int) [(0, 12, 15, 13), (0, 12, 19, 19), (0, 12, 23, 24)] (Cond.codeWith y_L_ghost b_L_ghost 6 (some .int) [(0, 12, 15, 13), (0, 12, 19, 19), (0, 12, 23, 24)] :: wG) rm mc ms 5 := vx_cwSW 5 hts (wG_good (wG_cons ml_L_127 (wG_cons sm_L_ghost (wG_cons in_L (wG_cons cw_L_ghost wG_self))))) rfl hrc hrs (by decide +kernel) hR
theorem lkh_add (hts : ∀ w ∈ wG, w.before args s = true) (hrc : rm.cells = mc) (hrs : rm.slots = ms) (hR : rm.frames + 1 ≤ R.frames ∧ 8 + (4 + 11) + rm.locals ≤ R.locals) : vx_CSW R s args R_L 134 y_L_add b_L_add 4 (some .int) [(0, 9, 12, 24)] (Cond.codeWith y_L_add b_L_add 4 (some .int) [(0, 9, 12, 24)] :: wG) rm mc ms 3 := vx_cwSW 3 hts (wG_good (wG_cons ml_L_134 (wG_cons sm_L_add (wG_cons in_L (wG_cons cw_L_add wG_self))))) rfl hrc hrs (by decide +kernel) hR
end LH
