set_option maxHeartbeats 1000000 in
set_option maxRecDepth 100000 in
theorem law_loop (l : Launch) (hl : l.stackTraces = false) {p : Program} {e : Env} {s : State} {m : MethodId} {below : List Frame} {meth : Method} {c : Code} {Q : State → Prop} {B : Nat} {D : va_G} {cI cZ cL cS cW : ClassId} {b L : Nat} {xs : Nat → Int32} (C : Cx p m c s #[Value.ref b] b_L_law 7 R_L wG s.heap B D classes (tyL cI cZ cL cS cW) (Zs B)) (hX : va_X b L xs s s.heap) (hb : b < B) (hL : L ≤ 2048) (hend : ∀ (cells slots : Nat) (ad : Nat → Nat) (g : Nat → va_E) (lv : List (Nat × Value)), cells ≤ 601024 → slots ≤ 7293034 → kV p l e room_1 s m #[Value.ref b] below meth c Q s.heap B D classes 7 95 cells slots ad g lv [.int (iI 1)] 1124) : ∀ (d9 t : Nat) (ad : Nat → Nat) (g : Nat → va_E), L + 4 - 4 * t < d9 → 4 * t ≤ L + 3 → REL cI cZ cL cS cW ad g → kV p l e room_1 s m #[Value.ref b] below meth c Q s.heap B D classes 7 95 (95 + 26 * t) (19740 + 11556 * t) ad g [(0, .ref b), (1, .ref (ad 0)), (2, .ref (ad 73)), (3, .ref (ad 94)), (4, .int (iI ((4 * t : Nat) : Int)))] [] 23 := by
  intro d9
  induction d9 with
  | zero => intro t ad g hd9; exact absurd hd9 (Nat.not_lt_zero _)
  | succ d9 ih =>
    intro t ad g hd ht HX
    refine v_iload C d_L_law_23 4 rfl ?_
    refine v_aload_n C d_L_law_25 rfl 0 rfl ?_
    refine v_slen C hX hb d_L_law_26 ?_
    refine v_iconst C d_L_law_27 ?_
    refine v_isubI C d_L_law_28 ?_
    refine v_icmp_gtI C d_L_law_29 (by omega) (by omega) (by omega) (by omega) (fun hq => ?_) (fun hq => ?_)
    · refine v_iconst C d_L_law_1123 ?_
      exact hend _ _ _ _ _ (by omega) (by omega)
    · refine v_aload_n C d_L_law_32 rfl 0 rfl ?_
      refine v_iload C d_L_law_33 4 rfl ?_
      refine v_sldI C hX hb (4 * t) rfl (by omega) (by omega) d_L_law_35 ?_
      refine v_bipush C d_L_law_36 (by decide +kernel) ?_
      refine v_iand C d_L_law_38 ?_
      obtain ⟨a, ha, ea⟩ := and31 (iI (xs (4 * t)).toInt)
      refine v_stE (st' := [.int (iI (a : Int))]) (by rw [ea]) ?_
      have K : ∀ (ad1 : Nat → Nat) (g1 : Nat → va_E), REL cI cZ cL cS cW ad1 g1 → kV p l e room_1 s m #[Value.ref b] below meth c Q s.heap B D classes 7 95 (95 + 26 * t + 26) (19740 + 11556 * t + 11556) ad1 g1 [(0, .ref b), (1, .ref (ad1 0)), (2, .ref (ad1 73)), (3, .ref (ad1 94)), (4, .int (iI ((4 * t : Nat) : Int)))] [] 1117 := by
        intro ad1 g1 HX1
        refine v_iinc (lv' := [(4, .int (iI (((4 * t : Nat) : Int) + 4))), (0, .ref b), (1, .ref (ad1 0)), (2, .ref (ad1 73)), (3, .ref (ad1 94))]) C d_L_law_1117 4 rfl (by decide) rfl ?_
        refine v_goto C d_L_law_1120 ?_
        refine v_lv (lv' := [(0, .ref b), (1, .ref (ad1 0)), (2, .ref (ad1 73)), (3, .ref (ad1 94)), (4, .int (iI (((4 * t : Nat) : Int) + 4)))]) [1, 2, 3, 4, 0] rfl ?_
        refine v_lvE (lv' := [(0, .ref b), (1, .ref (ad1 0)), (2, .ref (ad1 73)), (3, .ref (ad1 94)), (4, .int (iI ((4 * (t + 1) : Nat) : Int)))]) (by rw [show (((4 * t : Nat) : Int) + 4) = ((4 * (t + 1) : Nat) : Int) by omega]) ?_
        refine v_wid (k := 95 + 26 * (t + 1)) (n := 19740 + 11556 * (t + 1)) (by omega) (by omega) ?_
        exact ih (t + 1) ad1 g1 (by omega) (by omega) HX1
      by_cases h0 : a = 0
      · subst h0
        refine v_tswIn (tgt := 120) C d_L_law_39 (by omega) (by omega) (by omega) (by omega) rfl (by decide) ?_
        exact st_size l hl (i := 4 * t) C hX hb (by omega) (by omega) (by omega) (by omega) HX K
      by_cases h1 : a = 1
      · subst h1
        refine v_tswIn (tgt := 168) C d_L_law_39 (by omega) (by omega) (by omega) (by omega) rfl (by decide) ?_
        exact st_pixel l hl (i := 4 * t) C hX hb (by omega) (by omega) (by omega) (by omega) HX K
      by_cases h2 : a = 2
      · subst h2
        refine v_tswIn (tgt := 248) C d_L_law_39 (by omega) (by omega) (by omega) (by omega) rfl (by decide) ?_
        exact st_look l hl (i := 4 * t) C hX hb (by omega) (by omega) (by omega) (by omega) HX K
      by_cases h3 : a = 3
      · subst h3
        refine v_tswIn (tgt := 328) C d_L_law_39 (by omega) (by omega) (by omega) (by omega) rfl (by decide) ?_
        exact st_direction l hl (i := 4 * t) C hX hb (by omega) (by omega) (by omega) (by omega) HX K
      by_cases h4 : a = 4
      · subst h4
        refine v_tswIn (tgt := 388) C d_L_law_39 (by omega) (by omega) (by omega) (by omega) rfl (by decide) ?_
        exact st_shelf l hl (i := 4 * t) C hX hb (by omega) (by omega) (by omega) (by omega) HX K
      by_cases h5 : a = 5
      · subst h5
        refine v_tswIn (tgt := 456) C d_L_law_39 (by omega) (by omega) (by omega) (by omega) rfl (by decide) ?_
        exact st_project l hl (i := 4 * t) C hX hb (by omega) (by omega) (by omega) (by omega) HX K
      by_cases h6 : a = 6
      · subst h6
        refine v_tswIn (tgt := 492) C d_L_law_39 (by omega) (by omega) (by omega) (by omega) rfl (by decide) ?_
        exact st_drop l hl (i := 4 * t) C hX hb (by omega) (by omega) (by omega) (by omega) HX K
      by_cases h7 : a = 7
      · subst h7
        refine v_tswIn (tgt := 555) C d_L_law_39 (by omega) (by omega) (by omega) (by omega) rfl (by decide) ?_
        exact st_bin l hl (i := 4 * t) C hX hb (by omega) (by omega) (by omega) (by omega) HX K
      by_cases h8 : a = 8
      · subst h8
        refine v_tswIn (tgt := 623) C d_L_law_39 (by omega) (by omega) (by omega) (by omega) rfl (by decide) ?_
        exact st_put l hl (i := 4 * t) C hX hb (by omega) (by omega) (by omega) (by omega) HX K
      by_cases h9 : a = 9
      · subst h9
        refine v_tswIn (tgt := 703) C d_L_law_39 (by omega) (by omega) (by omega) (by omega) rfl (by decide) ?_
        exact st_enough l hl (i := 4 * t) C hX hb (by omega) (by omega) (by omega) (by omega) HX K
      by_cases h10 : a = 10
      · subst h10
        refine v_tswIn (tgt := 766) C d_L_law_39 (by omega) (by omega) (by omega) (by omega) rfl (by decide) ?_
        exact st_rebuild l hl (i := 4 * t) C hX hb (by omega) (by omega) (by omega) (by omega) HX K
      by_cases h11 : a = 11
      · subst h11
        refine v_tswIn (tgt := 822) C d_L_law_39 (by omega) (by omega) (by omega) (by omega) rfl (by decide) ?_
        exact st_about l hl (i := 4 * t) C hX hb (by omega) (by omega) (by omega) (by omega) HX K
      by_cases h12 : a = 12
      · subst h12
        refine v_tswIn (tgt := 878) C d_L_law_39 (by omega) (by omega) (by omega) (by omega) rfl (by decide) ?_
        exact st_regenerate l hl (i := 4 * t) C hX hb (by omega) (by omega) (by omega) (by omega) HX K
      by_cases h13 : a = 13
      · subst h13
        refine v_tswIn (tgt := 941) C d_L_law_39 (by omega) (by omega) (by omega) (by omega) rfl (by decide) ?_
        exact st_audit l hl (i := 4 * t) C hX hb (by omega) (by omega) (by omega) (by omega) HX K
      by_cases h14 : a = 14
      · subst h14
        refine v_tswIn (tgt := 954) C d_L_law_39 (by omega) (by omega) (by omega) (by omega) rfl (by decide) ?_
        exact st_ghost l hl (i := 4 * t) C hX hb (by omega) (by omega) (by omega) (by omega) HX K
      by_cases h15 : a = 15
      · subst h15
        refine v_tswIn (tgt := 1034) C d_L_law_39 (by omega) (by omega) (by omega) (by omega) rfl (by decide) ?_
        exact st_keep l hl (i := 4 * t) C hX hb (by omega) (by omega) (by omega) (by omega) HX K
      by_cases h16 : a = 16
      · subst h16
        refine v_tswIn (tgt := 1045) C d_L_law_39 (by omega) (by omega) (by omega) (by omega) rfl (by decide) ?_
        exact st_add l hl (i := 4 * t) C hX hb (by omega) (by omega) (by omega) (by omega) HX K
      refine v_tswOut (tgt := 1117) C d_L_law_39 (by omega) (by omega) (by omega) (by decide) ?_
      refine v_wid (k := 95 + 26 * t + 26) (n := 19740 + 11556 * t + 11556) (by omega) (by omega) ?_
      exact K ad g HX
theorem d_A : ∀ j, j < 14 → defaultValue (t_A j) = vp_V [.int 0, .int 0, .null, .null, .int 0, .null, .null, .int 0, .null, .int 0, .int 0, .null, .null, .null] j := fun j hj => by
  rcases (show j = 0 ∨ j = 1 ∨ j = 2 ∨ j = 3 ∨ j = 4 ∨ j = 5 ∨ j = 6 ∨ j = 7 ∨ j = 8 ∨ j = 9 ∨ j = 10 ∨ j = 11 ∨ j = 12 ∨ j = 13 by omega) with rfl | rfl | rfl | rfl | rfl | rfl | rfl | rfl | rfl | rfl | rfl | rfl | rfl | rfl <;> rfl
theorem d_M : ∀ j, j < 28 → defaultValue (t_M j) = vp_V [.int 0, .int 0, .int 0, .null, .null, .null, .null, .null, .int 0, .int 0, .null, .null, .null, .null, .null, .null, .null, .null, .null, .null, .null, .null, .int 0, .null, .int 0, .int 0, .null, .null] j := fun j hj => by
  rcases (show j = 0 ∨ j = 1 ∨ j = 2 ∨ j = 3 ∨ j = 4 ∨ j = 5 ∨ j = 6 ∨ j = 7 ∨ j = 8 ∨ j = 9 ∨ j = 10 ∨ j = 11 ∨ j = 12 ∨ j = 13 ∨ j = 14 ∨ j = 15 ∨ j = 16 ∨ j = 17 ∨ j = 18 ∨ j = 19 ∨ j = 20 ∨ j = 21 ∨ j = 22 ∨ j = 23 ∨ j = 24 ∨ j = 25 ∨ j = 26 ∨ j = 27 by omega) with rfl | rfl | rfl | rfl | rfl | rfl | rfl | rfl | rfl | rfl | rfl | rfl | rfl | rfl | rfl | rfl | rfl | rfl | rfl | rfl | rfl | rfl | rfl | rfl | rfl | rfl | rfl | rfl <;> rfl
set_option maxHeartbeats 1000000 in
set_option maxRecDepth 100000 in
theorem law_run (l : Launch) (hl : l.stackTraces = false) {p : Program} {e : Env} {s : State} {m : MethodId} {below : List Frame} {meth : Method} {c : Code} {Q : State → Prop} {B : Nat} {D : va_G} {cI cZ cL cS cW : ClassId} {b L : Nat} {xs : Nat → Int32} (C : Cx p m c s #[Value.ref b] b_L_law 7 R_L wG s.heap B D classes (tyL cI cZ cL cS cW) (Zs B)) (hX : va_X b L xs s s.heap) (hb : b < B) (hL : L ≤ 2048) (hend : ∀ (cells slots : Nat) (ad : Nat → Nat) (g : Nat → va_E) (lv : List (Nat × Value)), cells ≤ 601024 → slots ≤ 7293034 → kV p l e room_1 s m #[Value.ref b] below meth c Q s.heap B D classes 7 95 cells slots ad g lv [.int (iI 1)] 1124) {ad : Nat → Nat} {g : Nat → va_E} : kV p l e room_1 s m #[Value.ref b] below meth c Q s.heap B D classes 7 0 0 0 ad g [(0, .ref b)] [] 0 := by
  refine v_newP (ci := 0) C ws_A t_A t_A_ok kl_L_8 ia_A in_A rfl d_A (by show 0 + 1 ≤ 601024; omega) (by show 0 + 14 ≤ 7293034; omega) d_L_law_0 (fun ad1 g1 hA1 n0 fr1 => ?_)
  refine v_dup C d_L_law_3 rfl ?_
  refine v_callIV (As := []) (st := [.ref (ad1 0)]) (r0 := 0) C (c_Ainit l n0) (lk_L_68 C.1.2.2.2.2 rfl rfl ⟨Nat.le_of_ble_eq_true rfl, Nat.le_of_ble_eq_true rfl⟩) rfl rfl (Nat.le_of_ble_eq_true rfl) d_L_law_4 ⟨by show 0 + 1 + 72 ≤ 601024; omega, by show 0 + 14 + 1456 ≤ 7293034; omega⟩ (fun ad2 g2 hp2 => ?_)
  obtain ⟨a0, h0, h1, h3, h5, h6, h8, h2, h4, h7, hf⟩ := hp2
  refine v_stE (st' := [.ref (ad2 0)]) (by rw [a0]) ?_
  refine v_astore_n (lv' := [(1, .ref (ad2 0)), (0, .ref b)]) C d_L_law_7 rfl (by decide) rfl ?_
  refine v_newP (ci := 3) C ws_M t_M t_M_ok kl_L_69 ia_M in_M rfl d_M (by show 0 + 1 + 72 + 1 ≤ 601024; omega) (by show 0 + 14 + 1456 + 28 ≤ 7293034; omega) d_L_law_8 (fun ad3 g3 hA3 n73 fr3 => ?_)
  refine v_dup C d_L_law_11 rfl ?_
  refine v_callIV (As := []) (st := [.ref (ad3 73)]) (r0 := 73) C (c_Minit l n73) (lk_L_71 C.1.2.2.2.2 rfl rfl ⟨Nat.le_of_ble_eq_true rfl, Nat.le_of_ble_eq_true rfl⟩) rfl rfl (Nat.le_of_ble_eq_true rfl) d_L_law_12 ⟨by show 0 + 1 + 72 + 1 + 20 ≤ 601024; omega, by show 0 + 14 + 1456 + 28 + 18241 ≤ 7293034; omega⟩ (fun ad4 g4 hp4 => ?_)
  obtain ⟨m73, mM, fr4, hA4⟩ := hp4
  refine v_stE (st' := [.ref (ad4 73)]) (by rw [hA4 73 (by omega)]) ?_
  refine v_astore_n (lv' := [(2, .ref (ad4 73)), (1, .ref (ad2 0)), (0, .ref b)]) C d_L_law_15 rfl (by decide) rfl ?_
  refine v_iconst C d_L_law_16 ?_
  refine v_newaP (atype := .long) (a0 := (1, .inr (.inl (fun _ => 0)))) C ac_long rfl 2 rfl (n := 1) rfl (by decide) (fun cA => rfl) (by decide) (by show 0 + 1 + 72 + 1 + 20 + 1 ≤ 601024; omega) (by show 0 + 14 + 1456 + 28 + 18241 + 1 ≤ 7293034; omega) d_L_law_17 (fun ad5 g5 hA5 n94 fr5 => ?_)
  refine v_astore_n (lv' := [(3, .ref (ad5 94)), (2, .ref (ad4 73)), (1, .ref (ad2 0)), (0, .ref b)]) C d_L_law_19 rfl (by decide) rfl ?_
  refine v_iconst C d_L_law_20 ?_
  refine v_istore (lv' := [(4, .int (iI 0)), (3, .ref (ad5 94)), (2, .ref (ad4 73)), (1, .ref (ad2 0)), (0, .ref b)]) C d_L_law_21 (by decide) rfl ?_
  have ha : ∀ r, r < 73 → ad5 r = ad2 r := fun r hr => ((hA5 r (by omega)).trans (hA4 r (by omega))).trans (hA3 r (by omega))
  have ha4 : ∀ r, r < 94 → ad5 r = ad4 r := fun r hr => hA5 r (by omega)
  have hg : ∀ r, r < 73 → g5 r = g2 r := fun r hr => ((fr5 r (by omega)).trans (fr4 r (by omega))).trans (fr3 r (by omega))
  have hg4 : ∀ r, r < 94 → g5 r = g4 r := fun r hr => fr5 r (by omega)
  refine v_lv (lv' := [(0, .ref b), (1, .ref (ad2 0)), (2, .ref (ad4 73)), (3, .ref (ad5 94)), (4, .int (iI 0))]) [4, 3, 2, 1, 0] rfl ?_
  refine v_lvE (lv' := [(0, .ref b), (1, .ref (ad5 0)), (2, .ref (ad5 73)), (3, .ref (ad5 94)), (4, .int (iI ((4 * 0 : Nat) : Int)))]) (by rw [ha 0 (by omega), ha4 73 (by omega)]; rfl) ?_
  refine v_extR (shs ad5 9) ((hg 2 (by omega)).trans h2) (fun k hk => (pfn_8 k hk).trans (by show some (ad2 (9 + 8 * k)) = some (ad5 (9 + 8 * k)); rw [ha _ (by omega)])) (fun g6 x2 fr6 => ?_)
  refine v_extR (shs ad5 11) ((fr6 4 (by omega)).trans ((hg 4 (by omega)).trans h4)) (fun k hk => (pfn_8 k hk).trans (by show some (ad2 (11 + 8 * k)) = some (ad5 (11 + 8 * k)); rw [ha _ (by omega)])) (fun g7 x4 fr7 => ?_)
  refine v_extR (shs ad5 13) ((fr7 7 (by omega)).trans ((fr6 7 (by omega)).trans ((hg 7 (by omega)).trans h7))) (fun k hk => (pfn_8 k hk).trans (by show some (ad2 (13 + 8 * k)) = some (ad5 (13 + 8 * k)); rw [ha _ (by omega)])) (fun g8 x7 fr8 => ?_)
  have hz : ∀ r, r ≠ 2 → r ≠ 4 → r ≠ 7 → g8 r = g5 r := fun r q2 q4 q7 => ((fr8 r q7).trans (fr7 r q4)).trans (fr6 r q2)
  have hz2 : ∀ r, r < 73 → r ≠ 2 → r ≠ 4 → r ≠ 7 → g8 r = g2 r := fun r hr q2 q4 q7 => (hz r q2 q4 q7).trans (hg r hr)
  have hz4 : ∀ r, 73 ≤ r → r < 94 → g8 r = g4 r := fun r hr hr2 => (hz r (by omega) (by omega) (by omega)).trans (hg4 r hr2)
  have HX : REL cI cZ cL cS cW ad5 g8 := by
    obtain ⟨r74, r75, r76, r77, r78, r79, r80, r81, r82, r83, r84, r85, r86, r87, r88, r89, r90, r91, r92, r93⟩ := mM
    refine rel0 ((hz2 0 (by omega) (by omega) (by omega) (by omega)).trans (h0.trans ?_)) ((hz2 1 (by omega) (by omega) (by omega) (by omega)).trans h1) ((hz2 3 (by omega) (by omega) (by omega) (by omega)).trans h3) ((hz2 5 (by omega) (by omega) (by omega) (by omega)).trans h5) ((hz2 6 (by omega) (by omega) (by omega) (by omega)).trans h6) ((hz2 8 (by omega) (by omega) (by omega) (by omega)).trans h8) ((fr8 2 (by omega)).trans ((fr7 2 (by omega)).trans x2)) ((fr8 4 (by omega)).trans x4) x7 (fun s9 hs9 => famI_mv (j := 8) hs9 (fun r hr => ha r (by omega)) (fun r h9 hr => hz2 r (by omega) (by omega) (by omega) (by omega)) (hf s9 hs9)) ((hz4 73 (by omega) (by omega)).trans (m73.trans ?_)) ⟨(hz4 74 (by omega) (by omega)).trans r74, (hz4 75 (by omega) (by omega)).trans r75, (hz4 76 (by omega) (by omega)).trans r76, (hz4 77 (by omega) (by omega)).trans r77, (hz4 78 (by omega) (by omega)).trans r78, (hz4 79 (by omega) (by omega)).trans r79, (hz4 80 (by omega) (by omega)).trans r80, (hz4 81 (by omega) (by omega)).trans r81, (hz4 82 (by omega) (by omega)).trans r82, (hz4 83 (by omega) (by omega)).trans r83, (hz4 84 (by omega) (by omega)).trans r84, (hz4 85 (by omega) (by omega)).trans r85, (hz4 86 (by omega) (by omega)).trans r86, (hz4 87 (by omega) (by omega)).trans r87, (hz4 88 (by omega) (by omega)).trans r88, (hz4 89 (by omega) (by omega)).trans r89, (hz4 90 (by omega) (by omega)).trans r90, (hz4 91 (by omega) (by omega)).trans r91, (hz4 92 (by omega) (by omega)).trans r92, (hz4 93 (by omega) (by omega)).trans r93⟩ ((hz 94 (by omega) (by omega) (by omega)).trans n94)
    · unfold xE
      rw [ha 1 (by omega), ha 2 (by omega), ha 3 (by omega), ha 4 (by omega), ha 5 (by omega), ha 6 (by omega), ha 7 (by omega), ha 8 (by omega)]
    · unfold mE
      rw [ha4 74 (by omega), ha4 75 (by omega), ha4 76 (by omega), ha4 77 (by omega), ha4 78 (by omega), ha4 79 (by omega), ha4 80 (by omega), ha4 81 (by omega), ha4 82 (by omega), ha4 83 (by omega), ha4 84 (by omega), ha4 85 (by omega), ha4 86 (by omega), ha4 87 (by omega), ha4 88 (by omega), ha4 89 (by omega), ha4 90 (by omega), ha4 91 (by omega), ha4 92 (by omega), ha4 93 (by omega)]
  refine v_wid (k := 95 + 26 * 0) (n := 19740 + 11556 * 0) (by omega) (by omega) ?_
  exact law_loop l hl C hX hb hL hend (L + 5) 0 ad5 g8 (by omega) (by omega) HX
