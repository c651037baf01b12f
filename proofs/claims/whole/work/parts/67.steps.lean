section LA
variable {p : Program} {l : Launch} {e : Env} {R : Room} {s : State} {m : MethodId} {args : Array Value} {below : List Frame} {meth : Method} {c : Code} {Q : State → Prop} {H0 : Heap} {B : Nat} {D : va_G} {cl : List vw_C} {tys : List (ClassId × FieldType)} {Z : ZT} {cc : ByteArray} {nL N : Nat} {own : String} {Ts : List Cond} {cells slots : Nat} {ad : Nat → Nat} {g : Nat → va_E} {lv : List (Nat × Value)} {st : List Value} {pc pc2 : Nat}
theorem v_sldI {b L : Nat} {xs : Nat → Int32} (C : Cx p m c s args cc nL own Ts H0 B D cl tys Z) (hX : va_X b L xs s H0) (hb : b < B) {z : Int} (i0 : Nat) (hz : z = (i0 : Int)) (hi0 : i0 < L) (hL : L < 2147483648) (hd : decode cc pc = .ok (.iaload, 1) ∧ pc + 1 = pc2) (k : kV p l e R s m args below meth c Q H0 B D cl nL N cells slots ad g lv (.int (iI (xs i0).toInt) :: st) pc2) : kV p l e R s m args below meth c Q H0 B D cl nL N cells slots ad g lv (.int (iI z) :: .ref b :: st) pc := by
  rw [iI_of] at k
  exact v_sld C hX hb i0 hz hi0 hL hd k
end LA
set_option maxHeartbeats 1000000 in
set_option maxRecDepth 100000 in
theorem st_size (l : Launch) (hl : l.stackTraces = false) {p : Program} {e : Env} {s : State} {m : MethodId} {below : List Frame} {meth : Method} {c : Code} {Q : State → Prop} {B : Nat} {D : va_G} {cI cZ cL cS cW : ClassId} {b L : Nat} {xs : Nat → Int32} {i cells slots : Nat} {ad : Nat → Nat} {g : Nat → va_E} (C : Cx p m c s #[Value.ref b] b_L_law 7 R_L wG s.heap B D classes (tyL cI cZ cL cS cW) (Zs B)) (hX : va_X b L xs s s.heap) (hb : b < B) (hL : L < 2147483648) (hi : i + 3 < L) (hc : cells + 26 ≤ 601024) (hs : slots + 11556 ≤ 7293034) (HX : REL cI cZ cL cS cW ad g) (k : ∀ (ad1 : Nat → Nat) (g1 : Nat → va_E), REL cI cZ cL cS cW ad1 g1 → kV p l e room_1 s m #[Value.ref b] below meth c Q s.heap B D classes 7 95 (cells + 26) (slots + 11556) ad1 g1 [(0, .ref b), (1, .ref (ad1 0)), (2, .ref (ad1 73)), (3, .ref (ad1 94)), (4, .int (iI (i : Int)))] [] 1117) : kV p l e room_1 s m #[Value.ref b] below meth c Q s.heap B D classes 7 95 cells slots ad g [(0, .ref b), (1, .ref (ad 0)), (2, .ref (ad 73)), (3, .ref (ad 94)), (4, .int (iI (i : Int)))] [] 120 := by
  have i1 : i + 1 < L := by omega
  have j1 : (i : Int) + 1 = ((i + 1 : Nat) : Int) := by omega
  have i2 : i + 2 < L := by omega
  have j2 : (i : Int) + 2 = ((i + 2 : Nat) : Int) := by omega
  have i3 : i + 3 < L := by omega
  have j3 : (i : Int) + 3 = ((i + 3 : Nat) : Int) := by omega
  have rcA : cells + 1 ≤ 601024 := by omega
  have rsA : slots + 6 ≤ 7293034 := by omega
  obtain ⟨th, lf, w, h, hk, hr, sp, wb, tr, T, KT, nb, kn, nw, ct0, lo, bf, kf, un, uc, re, f, fk, rb, dr, gc, pic, kep, reb, tri, kno, tol, fil, kt, kfl, rP, rQ, kP, kQ, bns, kb, unk, lef, sum, spd, spg, HC, HR, HO, HL, h94⟩ := HX
  have HC1 := HC
  have HO1 := HO
  have HL1 := HL
  obtain ⟨c0, c1, c2, c3, c4, c5, c6, c7, c8, c9, c10, c11, c12, c13, c14, c15, c16⟩ := HC1
  obtain ⟨hw, hh, bT, bK, nbO, knO, nwO, geo, filO, posO, kkO, PQ, KPQ⟩ := HO1
  obtain ⟨lp, lk, lr, lsh, lkk⟩ := HL1
  refine v_aload_n C d_L_law_120 rfl 1 rfl ?_
  refine v_aload_n C d_L_law_121 rfl 0 rfl ?_
  refine v_iload C d_L_law_122 4 rfl ?_
  refine v_iconst C d_L_law_124 ?_
  refine v_iaddI C d_L_law_125 ?_
  refine v_sldI C hX hb (i + 1) j1 i1 hL d_L_law_126 ?_
  refine v_aload_n C d_L_law_127 rfl 0 rfl ?_
  refine v_iload C d_L_law_128 4 rfl ?_
  refine v_iconst C d_L_law_130 ?_
  refine v_iaddI C d_L_law_131 ?_
  refine v_sldI C hX hb (i + 2) j2 i2 hL d_L_law_132 ?_
  refine v_xcallSH (As := [.ref (ad 0), .int (iI ((xs (i + 1)).toInt)), .int (iI ((xs (i + 2)).toInt))]) (st := []) C (hl_size (post := fun ad1 g1 => 1 ≤ (xs (i + 1)).toInt ∧ (xs (i + 1)).toInt ≤ 16 ∧ 1 ≤ (xs (i + 2)).toInt ∧ (xs (i + 2)).toInt ≤ 16 ∧ ad = ad1 ∧ g1 0 = xE ad (xs (i + 1)).toInt (xs (i + 2)).toInt false false sp wb ∧ g1 1 = inA cI 256 (fun _ => iI 0) ∧ (∀ j, j < 8 → g1 (9 + 8 * j) = shE (ad (9 + 8 * j + 1)) (false, false, (T j).2.2)) ∧ ∀ r1, r1 ≠ 0 → r1 ≠ 1 → (∀ j9, j9 < 8 → r1 ≠ 9 + 8 * j9) → g1 r1 = g r1) (xp := fun E => E = "java/lang/IllegalArgumentException" ∧ ¬ (1 ≤ (xs (i + 1)).toInt ∧ (xs (i + 1)).toInt ≤ 16 ∧ 1 ≤ (xs (i + 2)).toInt ∧ (xs (i + 2)).toInt ≤ 16)) l ((iI ((xs (i + 1)).toInt))) ((iI ((xs (i + 2)).toInt))) _ c0 (fun E h9 => h9.1) (c_size l hl w h hk hr sp wb (xs (i + 1)).toInt (xs (i + 2)).toInt f (iI_lo _) (iI_hi _) (iI_lo _) (iI_hi _) c0 c1 c2 T bT c9)) (lkh_size C.1.2.2.2.2 rfl rfl ⟨Nat.le_of_ble_eq_true rfl, Nat.le_of_ble_eq_true rfl⟩) rfl rfl (Nat.le_of_ble_eq_true rfl) d_L_law_133 ⟨rcA, rsA⟩ (fun k5 ad1 g1 hp => ?_)
  obtain ⟨m1, m2, m0⟩ := mid_size hp
  have HR1 := rfW_fr HR m1 (fun r9 a9 _ => m2 r9 a9)
  obtain ⟨r73, r74, r75, r76, r77, r78, r79, r80, r81, r82, r83, r84, r85, r86, r87, r88, r89, r90, r91, r92, r93⟩ := HR1
  refine v_lvE (lv' := [(0, .ref b), (1, .ref (ad1 0)), (2, .ref (ad1 73)), (3, .ref (ad1 94)), (4, .int (iI (i : Int)))]) (by rw [m0, m2 73 (by decide), m2 94 (by decide)]) ?_
  refine v_istore (lv' := [(5, .int k5), (0, .ref b), (1, .ref (ad1 0)), (2, .ref (ad1 73)), (3, .ref (ad1 94)), (4, .int (iI (i : Int)))]) C d_L_law_136 (by decide) rfl ?_
  refine v_aload_n C d_L_law_138 rfl 3 rfl ?_
  refine v_aload_n C d_L_law_139 rfl 1 rfl ?_
  refine v_iload C d_L_law_140 5 rfl ?_
  refine v_iconst C d_L_law_142 ?_
  refine v_iaddI C d_L_law_143 ?_
  refine v_sldI C hX hb (i + 1) j1 i1 hL d_L_law_144 ?_
  refine v_aload_n C d_L_law_145 rfl 1 rfl ?_
  refine v_iload C d_L_law_146 5 rfl ?_
  refine v_iconst C d_L_law_148 ?_
  refine v_iaddI C d_L_law_149 ?_
  refine v_sldI C hX hb (i + 2) j2 i2 hL d_L_law_150 ?_
  refine v_callVV (As := [.int (iI ((xs (i + 1)).toInt)), .int (iI ((xs (i + 2)).toInt))]) (st := []) (by decide) r73 rfl rfl C (c_Msize l th w h hk hr tr sp wb (xs (i + 1)).toInt (xs (i + 2)).toInt (iI_lo _) (iI_hi _) (iI_lo _) (iI_hi _) r73 pic r74 tol r79 fil r82) (lk_L_77 C.1.2.2.2.2 rfl rfl ⟨Nat.le_of_ble_eq_true rfl, Nat.le_of_ble_eq_true rfl⟩) rfl rfl (Nat.le_of_ble_eq_true rfl) d_L_law_151 ⟨rcA, rsA⟩ (fun ad2 g2 hq => ?_)
  have e2 := rq_size hq
  obtain ⟨kk, lf1, ⟨kk1, kk2⟩, ek, HX1⟩ := pu_size HC HR HO HL h94 hp hq
  subst ek
  obtain ⟨w1, h1, hk1, hr1, tr1, sp1, wb1, n73, n94⟩ := RELx_73 HX1
  subst e2
  clear hp hq
  refine v_aload_n C d_L_law_154 rfl 3 rfl ?_
  refine v_callVI (As := []) (st := []) (by decide) n73 rfl rfl C (c_Mthrown l kk w1 h1 hk1 hr1 tr1 sp1 wb1 n73) (lk_L_78 C.1.2.2.2.2 rfl rfl ⟨Nat.le_of_ble_eq_true rfl, Nat.le_of_ble_eq_true rfl⟩) rfl rfl (Nat.le_of_ble_eq_true rfl) d_L_law_155 ⟨rcA, rsA⟩ (fun w7 ad3 g3 hp3 => ?_)
  obtain ⟨rfl, rfl, rfl⟩ := hp3
  refine v_iload C d_L_law_158 0 rfl ?_
  refine v_icmp_eqI C d_L_law_160 (by omega) (by omega) (by omega) (by omega) (fun _ => ?_) (fun hz9 => absurd rfl hz9)
  refine v_goto C d_L_law_165 ?_
  refine v_lv (lv' := [(0, .ref b), (1, .ref (ad1 0)), (2, .ref (ad1 73)), (3, .ref (ad1 94)), (4, .int (iI (i : Int)))]) [1, 2, 3, 4, 5] rfl ?_
  refine v_wid (k := cells + 26) (n := slots + 11556) (by omega) (by omega) ?_
  exact k _ _ ⟨kk, lf1, HX1⟩
set_option maxHeartbeats 1000000 in
set_option maxRecDepth 100000 in
theorem st_pixel (l : Launch) (hl : l.stackTraces = false) {p : Program} {e : Env} {s : State} {m : MethodId} {below : List Frame} {meth : Method} {c : Code} {Q : State → Prop} {B : Nat} {D : va_G} {cI cZ cL cS cW : ClassId} {b L : Nat} {xs : Nat → Int32} {i cells slots : Nat} {ad : Nat → Nat} {g : Nat → va_E} (C : Cx p m c s #[Value.ref b] b_L_law 7 R_L wG s.heap B D classes (tyL cI cZ cL cS cW) (Zs B)) (hX : va_X b L xs s s.heap) (hb : b < B) (hL : L < 2147483648) (hi : i + 3 < L) (hc : cells + 26 ≤ 601024) (hs : slots + 11556 ≤ 7293034) (HX : REL cI cZ cL cS cW ad g) (k : ∀ (ad1 : Nat → Nat) (g1 : Nat → va_E), REL cI cZ cL cS cW ad1 g1 → kV p l e room_1 s m #[Value.ref b] below meth c Q s.heap B D classes 7 95 (cells + 26) (slots + 11556) ad1 g1 [(0, .ref b), (1, .ref (ad1 0)), (2, .ref (ad1 73)), (3, .ref (ad1 94)), (4, .int (iI (i : Int)))] [] 1117) : kV p l e room_1 s m #[Value.ref b] below meth c Q s.heap B D classes 7 95 cells slots ad g [(0, .ref b), (1, .ref (ad 0)), (2, .ref (ad 73)), (3, .ref (ad 94)), (4, .int (iI (i : Int)))] [] 168 := by
  have i1 : i + 1 < L := by omega
  have j1 : (i : Int) + 1 = ((i + 1 : Nat) : Int) := by omega
  have i2 : i + 2 < L := by omega
  have j2 : (i : Int) + 2 = ((i + 2 : Nat) : Int) := by omega
  have i3 : i + 3 < L := by omega
  have j3 : (i : Int) + 3 = ((i + 3 : Nat) : Int) := by omega
  have rcA : cells + 1 ≤ 601024 := by omega
  have rsA : slots + 6 ≤ 7293034 := by omega
  obtain ⟨th, lf, w, h, hk, hr, sp, wb, tr, T, KT, nb, kn, nw, ct0, lo, bf, kf, un, uc, re, f, fk, rb, dr, gc, pic, kep, reb, tri, kno, tol, fil, kt, kfl, rP, rQ, kP, kQ, bns, kb, unk, lef, sum, spd, spg, HC, HR, HO, HL, h94⟩ := HX
  have HC1 := HC
  have HO1 := HO
  have HL1 := HL
  obtain ⟨c0, c1, c2, c3, c4, c5, c6, c7, c8, c9, c10, c11, c12, c13, c14, c15, c16⟩ := HC1
  obtain ⟨hw, hh, bT, bK, nbO, knO, nwO, geo, filO, posO, kkO, PQ, KPQ⟩ := HO1
  obtain ⟨lp, lk, lr, lsh, lkk⟩ := HL1
  refine v_aload_n C d_L_law_168 rfl 1 rfl ?_
  refine v_aload_n C d_L_law_169 rfl 0 rfl ?_
  refine v_iload C d_L_law_170 4 rfl ?_
  refine v_iconst C d_L_law_172 ?_
  refine v_iaddI C d_L_law_173 ?_
  refine v_sldI C hX hb (i + 1) j1 i1 hL d_L_law_174 ?_
  refine v_aload_n C d_L_law_175 rfl 0 rfl ?_
  refine v_iload C d_L_law_176 4 rfl ?_
  refine v_iconst C d_L_law_178 ?_
  refine v_iaddI C d_L_law_179 ?_
  refine v_sldI C hX hb (i + 2) j2 i2 hL d_L_law_180 ?_
  refine v_aload_n C d_L_law_181 rfl 0 rfl ?_
  refine v_iload C d_L_law_182 4 rfl ?_
  refine v_iconst C d_L_law_184 ?_
  refine v_iaddI C d_L_law_185 ?_
  refine v_sldI C hX hb (i + 3) j3 i3 hL d_L_law_186 ?_
  refine v_aload_n C d_L_law_187 rfl 3 rfl ?_
  refine v_xcallSH (As := [.ref (ad 0), .int (iI ((xs (i + 1)).toInt)), .int (iI ((xs (i + 2)).toInt)), .int (iI ((xs (i + 3)).toInt)), .ref (ad 94)]) (st := []) C (hl_pixel (post := fun v ad1 g1 => (0 ≤ (xs (i + 1)).toInt ∧ (xs (i + 1)).toInt < w ∧ 0 ≤ (xs (i + 2)).toInt ∧ (xs (i + 2)).toInt < h) ∧ ∃ c0 : Nat, (c0 : Int) = (xs (i + 2)).toInt * 16 + (xs (i + 1)).toInt ∧ v = f c0 ∧ ad = ad1 ∧ g1 1 = inA cI 256 (upd f c0 (iI (xs (i + 3)).toInt)) ∧ ∀ r1, r1 ≠ 1 → g1 r1 = g r1) (xp := fun E => E = "java/lang/IndexOutOfBoundsException" ∧ ¬ (0 ≤ (xs (i + 1)).toInt ∧ (xs (i + 1)).toInt < w ∧ 0 ≤ (xs (i + 2)).toInt ∧ (xs (i + 2)).toInt < h)) l ((iI ((xs (i + 1)).toInt))) ((iI ((xs (i + 2)).toInt))) ((iI ((xs (i + 3)).toInt))) _ c0 lf h94 (fun r9 a9 g9 h9 => po_pixel h94 h9) (fun E h9 => h9.1) (c_pixel l hl w h hk hr sp wb (xs (i + 1)).toInt (xs (i + 2)).toInt (iI (xs (i + 3)).toInt) f (iI_lo _) (iI_hi _) (iI_lo _) (iI_hi _) hw hh c0 c1)) (lkh_pixel C.1.2.2.2.2 rfl rfl ⟨Nat.le_of_ble_eq_true rfl, Nat.le_of_ble_eq_true rfl⟩) rfl rfl (Nat.le_of_ble_eq_true rfl) d_L_law_188 ⟨rcA, rsA⟩ (fun k5 ad1 g1 hp => ?_)
  obtain ⟨m1, m2, m0⟩ := mid_pixel hp
  have HR1 := rfW_fr HR m1 (fun r9 a9 _ => m2 r9 a9)
  obtain ⟨r73, r74, r75, r76, r77, r78, r79, r80, r81, r82, r83, r84, r85, r86, r87, r88, r89, r90, r91, r92, r93⟩ := HR1
  refine v_lvE (lv' := [(0, .ref b), (1, .ref (ad1 0)), (2, .ref (ad1 73)), (3, .ref (ad1 94)), (4, .int (iI (i : Int)))]) (by rw [m0, m2 73 (by decide), m2 94 (by decide)]) ?_
  refine v_istore (lv' := [(5, .int k5), (0, .ref b), (1, .ref (ad1 0)), (2, .ref (ad1 73)), (3, .ref (ad1 94)), (4, .int (iI (i : Int)))]) C d_L_law_191 (by decide) rfl ?_
  refine v_aload_n C d_L_law_193 rfl 3 rfl ?_
  refine v_aload_n C d_L_law_194 rfl 1 rfl ?_
  refine v_iload C d_L_law_195 5 rfl ?_
  refine v_iconst C d_L_law_197 ?_
  refine v_iaddI C d_L_law_198 ?_
  refine v_sldI C hX hb (i + 1) j1 i1 hL d_L_law_199 ?_
  refine v_aload_n C d_L_law_200 rfl 1 rfl ?_
  refine v_iload C d_L_law_201 5 rfl ?_
  refine v_iconst C d_L_law_203 ?_
  refine v_iaddI C d_L_law_204 ?_
  refine v_sldI C hX hb (i + 2) j2 i2 hL d_L_law_205 ?_
  refine v_aload_n C d_L_law_206 rfl 1 rfl ?_
  refine v_iload C d_L_law_207 5 rfl ?_
  refine v_iconst C d_L_law_209 ?_
  refine v_iaddI C d_L_law_210 ?_
  refine v_sldI C hX hb (i + 3) j3 i3 hL d_L_law_211 ?_
  refine v_callVI (As := [.int (iI ((xs (i + 1)).toInt)), .int (iI ((xs (i + 2)).toInt)), .int (iI ((xs (i + 3)).toInt))]) (st := []) (by decide) r73 rfl rfl C (c_Mpixel l th w h hk hr tr sp wb (xs (i + 1)).toInt (xs (i + 2)).toInt (iI (xs (i + 3)).toInt) (iI_lo _) (iI_hi _) (iI_lo _) (iI_hi _) hw hh r73 pic r74) (lk_L_85 C.1.2.2.2.2 rfl rfl ⟨Nat.le_of_ble_eq_true rfl, Nat.le_of_ble_eq_true rfl⟩) rfl rfl (Nat.le_of_ble_eq_true rfl) d_L_law_212 ⟨rcA, rsA⟩ (fun b6 ad2 g2 hq => ?_)
  have e2 := rq_pixel hq
  obtain ⟨kk, lf1, ⟨kk1, kk2⟩, ek, HX1, hbv⟩ := pu_pixel HC HR HO HL h94 hp hq
  subst ek
  obtain ⟨w1, h1, hk1, hr1, tr1, sp1, wb1, n73, n94⟩ := RELx_73 HX1
  subst e2
  clear hp hq
  refine v_istore (lv' := [(6, .int b6), (5, .int (iI kk)), (0, .ref b), (1, .ref (ad1 0)), (2, .ref (ad1 73)), (3, .ref (ad1 94)), (4, .int (iI (i : Int)))]) C d_L_law_215 (by decide) rfl ?_
  refine v_aload_n C d_L_law_217 rfl 4 rfl ?_
  refine v_callVI (As := []) (st := []) (by decide) n73 rfl rfl C (c_Mthrown l kk w1 h1 hk1 hr1 tr1 sp1 wb1 n73) (lk_L_78 C.1.2.2.2.2 rfl rfl ⟨Nat.le_of_ble_eq_true rfl, Nat.le_of_ble_eq_true rfl⟩) rfl rfl (Nat.le_of_ble_eq_true rfl) d_L_law_218 ⟨rcA, rsA⟩ (fun w7 ad3 g3 hp3 => ?_)
  obtain ⟨rfl, rfl, rfl⟩ := hp3
  refine v_iload C d_L_law_221 1 rfl ?_
  refine v_icmp_eqI C d_L_law_223 (by omega) (by omega) (by omega) (by omega) (fun _ => ?_) (fun hz9 => absurd rfl hz9)
  refine v_iload C d_L_law_228 1 rfl ?_
  refine v_if_neI C d_L_law_230 (by omega) (by omega) (fun hb230 => ?_) (fun hb230 => ?_)
  · refine v_goto C d_L_law_245 ?_
    refine v_lv (lv' := [(0, .ref b), (1, .ref (ad1 0)), (2, .ref (ad1 73)), (3, .ref (ad1 94)), (4, .int (iI (i : Int)))]) [2, 3, 4, 5, 6] rfl ?_
    refine v_wid (k := cells + 26) (n := slots + 11556) (by omega) (by omega) ?_
    exact k _ _ ⟨kk, lf1, HX1⟩
  · refine v_aload_n C d_L_law_233 rfl 5 rfl ?_
    refine v_iconst C d_L_law_234 ?_
    refine v_lald C 2 (by decide) n94 rfl 0 rfl (by decide) (by decide) d_L_law_235 ?_
    refine v_iload C d_L_law_236 0 rfl ?_
    refine v_i2l C d_L_law_238 ?_
    refine v_lcmp C d_L_law_239 ?_
    refine v_if_eq C d_L_law_240 (fun _ => ?_) (fun hz9 => absurd (by rw [hbv (by omega)]; exact lcmp_self _) hz9)
    refine v_goto C d_L_law_245 ?_
    refine v_lv (lv' := [(0, .ref b), (1, .ref (ad1 0)), (2, .ref (ad1 73)), (3, .ref (ad1 94)), (4, .int (iI (i : Int)))]) [2, 3, 4, 5, 6] rfl ?_
    refine v_wid (k := cells + 26) (n := slots + 11556) (by omega) (by omega) ?_
    exact k _ _ ⟨kk, lf1, HX1⟩
set_option maxHeartbeats 1000000 in
set_option maxRecDepth 100000 in
theorem st_look (l : Launch) (hl : l.stackTraces = false) {p : Program} {e : Env} {s : State} {m : MethodId} {below : List Frame} {meth : Method} {c : Code} {Q : State → Prop} {B : Nat} {D : va_G} {cI cZ cL cS cW : ClassId} {b L : Nat} {xs : Nat → Int32} {i cells slots : Nat} {ad : Nat → Nat} {g : Nat → va_E} (C : Cx p m c s #[Value.ref b] b_L_law 7 R_L wG s.heap B D classes (tyL cI cZ cL cS cW) (Zs B)) (hX : va_X b L xs s s.heap) (hb : b < B) (hL : L < 2147483648) (hi : i + 3 < L) (hc : cells + 26 ≤ 601024) (hs : slots + 11556 ≤ 7293034) (HX : REL cI cZ cL cS cW ad g) (k : ∀ (ad1 : Nat → Nat) (g1 : Nat → va_E), REL cI cZ cL cS cW ad1 g1 → kV p l e room_1 s m #[Value.ref b] below meth c Q s.heap B D classes 7 95 (cells + 26) (slots + 11556) ad1 g1 [(0, .ref b), (1, .ref (ad1 0)), (2, .ref (ad1 73)), (3, .ref (ad1 94)), (4, .int (iI (i : Int)))] [] 1117) : kV p l e room_1 s m #[Value.ref b] below meth c Q s.heap B D classes 7 95 cells slots ad g [(0, .ref b), (1, .ref (ad 0)), (2, .ref (ad 73)), (3, .ref (ad 94)), (4, .int (iI (i : Int)))] [] 248 := by
  have i1 : i + 1 < L := by omega
  have j1 : (i : Int) + 1 = ((i + 1 : Nat) : Int) := by omega
  have i2 : i + 2 < L := by omega
  have j2 : (i : Int) + 2 = ((i + 2 : Nat) : Int) := by omega
  have i3 : i + 3 < L := by omega
  have j3 : (i : Int) + 3 = ((i + 3 : Nat) : Int) := by omega
  have rcA : cells + 3 ≤ 601024 := by omega
  have rsA : slots + 18 ≤ 7293034 := by omega
  obtain ⟨th, lf, w, h, hk, hr, sp, wb, tr, T, KT, nb, kn, nw, ct0, lo, bf, kf, un, uc, re, f, fk, rb, dr, gc, pic, kep, reb, tri, kno, tol, fil, kt, kfl, rP, rQ, kP, kQ, bns, kb, unk, lef, sum, spd, spg, HC, HR, HO, HL, h94⟩ := HX
  have HC1 := HC
  have HO1 := HO
  have HL1 := HL
  obtain ⟨c0, c1, c2, c3, c4, c5, c6, c7, c8, c9, c10, c11, c12, c13, c14, c15, c16⟩ := HC1
  obtain ⟨hw, hh, bT, bK, nbO, knO, nwO, geo, filO, posO, kkO, PQ, KPQ⟩ := HO1
  obtain ⟨lp, lk, lr, lsh, lkk⟩ := HL1
  refine v_aload_n C d_L_law_248 rfl 1 rfl ?_
  refine v_aload_n C d_L_law_249 rfl 0 rfl ?_
  refine v_iload C d_L_law_250 4 rfl ?_
  refine v_iconst C d_L_law_252 ?_
  refine v_iaddI C d_L_law_253 ?_
  refine v_sldI C hX hb (i + 1) j1 i1 hL d_L_law_254 ?_
  refine v_aload_n C d_L_law_255 rfl 0 rfl ?_
  refine v_iload C d_L_law_256 4 rfl ?_
  refine v_iconst C d_L_law_258 ?_
  refine v_iaddI C d_L_law_259 ?_
  refine v_sldI C hX hb (i + 2) j2 i2 hL d_L_law_260 ?_
  refine v_aload_n C d_L_law_261 rfl 0 rfl ?_
  refine v_iload C d_L_law_262 4 rfl ?_
  refine v_iconst C d_L_law_264 ?_
  refine v_iaddI C d_L_law_265 ?_
  refine v_sldI C hX hb (i + 3) j3 i3 hL d_L_law_266 ?_
  refine v_aload_n C d_L_law_267 rfl 3 rfl ?_
  refine v_xcallSH (As := [.ref (ad 0), .int (iI ((xs (i + 1)).toInt)), .int (iI ((xs (i + 2)).toInt)), .int (iI ((xs (i + 3)).toInt)), .ref (ad 94)]) (st := []) C (hl_look (post := fun v ad1 g1 => ((0 ≤ (xs (i + 2)).toInt ∧ (xs (i + 2)).toInt < w ∧ 0 ≤ (xs (i + 3)).toInt ∧ (xs (i + 3)).toInt < h) ∧ ∃ c0 : Nat, (c0 : Int) = (xs (i + 3)).toInt * 16 + (xs (i + 2)).toInt ∧ (((xs (i + 1)).toInt = 0 ∧ v = f c0) ∨ ((xs (i + 1)).toInt = 1 ∧ hk = true ∧ v = fk c0) ∨ ((xs (i + 1)).toInt = 2 ∧ hr = true ∧ v = rb c0))) ∧ ad = ad1 ∧ g = g1) (xp := fun E => (E = "java/lang/IndexOutOfBoundsException" ∧ ¬ ((0 ≤ (xs (i + 2)).toInt ∧ (xs (i + 2)).toInt < w ∧ 0 ≤ (xs (i + 3)).toInt ∧ (xs (i + 3)).toInt < h) ∧ 0 ≤ (xs (i + 1)).toInt ∧ (xs (i + 1)).toInt ≤ 2)) ∨ (E = "java/lang/IllegalStateException" ∧ (0 ≤ (xs (i + 2)).toInt ∧ (xs (i + 2)).toInt < w ∧ 0 ≤ (xs (i + 3)).toInt ∧ (xs (i + 3)).toInt < h) ∧ (((xs (i + 1)).toInt = 1 ∧ hk = false) ∨ ((xs (i + 1)).toInt = 2 ∧ hr = false)))) l ((iI ((xs (i + 1)).toInt))) ((iI ((xs (i + 2)).toInt))) ((iI ((xs (i + 3)).toInt))) _ c0 lf h94 (fun r9 a9 g9 h9 => po_look h94 h9) (fun E h9 => h9.elim (fun h8 => Or.inl h8.1) (fun h8 => Or.inr h8.1)) (c_look l hl w h hk hr sp wb (xs (i + 1)).toInt (xs (i + 2)).toInt (xs (i + 3)).toInt f fk rb (iI_lo _) (iI_hi _) (iI_lo _) (iI_hi _) (iI_lo _) (iI_hi _) hw hh c0 c1 c3 c5)) (lkh_look C.1.2.2.2.2 rfl rfl ⟨Nat.le_of_ble_eq_true rfl, Nat.le_of_ble_eq_true rfl⟩) rfl rfl (Nat.le_of_ble_eq_true rfl) d_L_law_268 ⟨rcA, rsA⟩ (fun k5 ad1 g1 hp => ?_)
  obtain ⟨m1, m2, m0⟩ := mid_look hp
  have HR1 := rfW_fr HR m1 (fun r9 a9 _ => m2 r9 a9)
  obtain ⟨r73, r74, r75, r76, r77, r78, r79, r80, r81, r82, r83, r84, r85, r86, r87, r88, r89, r90, r91, r92, r93⟩ := HR1
  refine v_lvE (lv' := [(0, .ref b), (1, .ref (ad1 0)), (2, .ref (ad1 73)), (3, .ref (ad1 94)), (4, .int (iI (i : Int)))]) (by rw [m0, m2 73 (by decide), m2 94 (by decide)]) ?_
  refine v_istore (lv' := [(5, .int k5), (0, .ref b), (1, .ref (ad1 0)), (2, .ref (ad1 73)), (3, .ref (ad1 94)), (4, .int (iI (i : Int)))]) C d_L_law_271 (by decide) rfl ?_
  refine v_aload_n C d_L_law_273 rfl 3 rfl ?_
  refine v_aload_n C d_L_law_274 rfl 1 rfl ?_
  refine v_iload C d_L_law_275 5 rfl ?_
  refine v_iconst C d_L_law_277 ?_
  refine v_iaddI C d_L_law_278 ?_
  refine v_sldI C hX hb (i + 1) j1 i1 hL d_L_law_279 ?_
  refine v_aload_n C d_L_law_280 rfl 1 rfl ?_
  refine v_iload C d_L_law_281 5 rfl ?_
  refine v_iconst C d_L_law_283 ?_
  refine v_iaddI C d_L_law_284 ?_
  refine v_sldI C hX hb (i + 2) j2 i2 hL d_L_law_285 ?_
  refine v_aload_n C d_L_law_286 rfl 1 rfl ?_
  refine v_iload C d_L_law_287 5 rfl ?_
  refine v_iconst C d_L_law_289 ?_
  refine v_iaddI C d_L_law_290 ?_
  refine v_sldI C hX hb (i + 3) j3 i3 hL d_L_law_291 ?_
  refine v_callVI (As := [.int (iI ((xs (i + 1)).toInt)), .int (iI ((xs (i + 2)).toInt)), .int (iI ((xs (i + 3)).toInt))]) (st := []) (by decide) r73 rfl rfl C (c_Mlook l th w h hk hr tr sp wb (xs (i + 1)).toInt (xs (i + 2)).toInt (xs (i + 3)).toInt (iI_lo _) (iI_hi _) (iI_lo _) (iI_hi _) (iI_lo _) (iI_hi _) hw hh r73 pic r74 kep r75 reb r76) (lk_L_88 C.1.2.2.2.2 rfl rfl ⟨Nat.le_of_ble_eq_true rfl, Nat.le_of_ble_eq_true rfl⟩) rfl rfl (Nat.le_of_ble_eq_true rfl) d_L_law_292 ⟨rcA, rsA⟩ (fun b6 ad2 g2 hq => ?_)
  have e2 := rq_look hq
  obtain ⟨kk, lf1, ⟨kk1, kk2⟩, ek, HX1, hbv⟩ := pu_look HC HR HO HL h94 hp hq
  subst ek
  obtain ⟨w1, h1, hk1, hr1, tr1, sp1, wb1, n73, n94⟩ := RELx_73 HX1
  subst e2
  clear hp hq
  refine v_istore (lv' := [(6, .int b6), (5, .int (iI kk)), (0, .ref b), (1, .ref (ad1 0)), (2, .ref (ad1 73)), (3, .ref (ad1 94)), (4, .int (iI (i : Int)))]) C d_L_law_295 (by decide) rfl ?_
  refine v_aload_n C d_L_law_297 rfl 4 rfl ?_
  refine v_callVI (As := []) (st := []) (by decide) n73 rfl rfl C (c_Mthrown l kk w1 h1 hk1 hr1 tr1 sp1 wb1 n73) (lk_L_78 C.1.2.2.2.2 rfl rfl ⟨Nat.le_of_ble_eq_true rfl, Nat.le_of_ble_eq_true rfl⟩) rfl rfl (Nat.le_of_ble_eq_true rfl) d_L_law_298 ⟨rcA, rsA⟩ (fun w7 ad3 g3 hp3 => ?_)
  obtain ⟨rfl, rfl, rfl⟩ := hp3
  refine v_iload C d_L_law_301 1 rfl ?_
  refine v_icmp_eqI C d_L_law_303 (by omega) (by omega) (by omega) (by omega) (fun _ => ?_) (fun hz9 => absurd rfl hz9)
  refine v_iload C d_L_law_308 1 rfl ?_
  refine v_if_neI C d_L_law_310 (by omega) (by omega) (fun hb310 => ?_) (fun hb310 => ?_)
  · refine v_goto C d_L_law_325 ?_
    refine v_lv (lv' := [(0, .ref b), (1, .ref (ad1 0)), (2, .ref (ad1 73)), (3, .ref (ad1 94)), (4, .int (iI (i : Int)))]) [2, 3, 4, 5, 6] rfl ?_
    refine v_wid (k := cells + 26) (n := slots + 11556) (by omega) (by omega) ?_
    exact k _ _ ⟨kk, lf1, HX1⟩
  · refine v_aload_n C d_L_law_313 rfl 5 rfl ?_
    refine v_iconst C d_L_law_314 ?_
    refine v_lald C 2 (by decide) n94 rfl 0 rfl (by decide) (by decide) d_L_law_315 ?_
    refine v_iload C d_L_law_316 0 rfl ?_
    refine v_i2l C d_L_law_318 ?_
    refine v_lcmp C d_L_law_319 ?_
    refine v_if_eq C d_L_law_320 (fun _ => ?_) (fun hz9 => absurd (by rw [hbv (by omega)]; exact lcmp_self _) hz9)
    refine v_goto C d_L_law_325 ?_
    refine v_lv (lv' := [(0, .ref b), (1, .ref (ad1 0)), (2, .ref (ad1 73)), (3, .ref (ad1 94)), (4, .int (iI (i : Int)))]) [2, 3, 4, 5, 6] rfl ?_
    refine v_wid (k := cells + 26) (n := slots + 11556) (by omega) (by omega) ?_
    exact k _ _ ⟨kk, lf1, HX1⟩
set_option maxHeartbeats 1000000 in
set_option maxRecDepth 100000 in
theorem st_direction (l : Launch) (hl : l.stackTraces = false) {p : Program} {e : Env} {s : State} {m : MethodId} {below : List Frame} {meth : Method} {c : Code} {Q : State → Prop} {B : Nat} {D : va_G} {cI cZ cL cS cW : ClassId} {b L : Nat} {xs : Nat → Int32} {i cells slots : Nat} {ad : Nat → Nat} {g : Nat → va_E} (C : Cx p m c s #[Value.ref b] b_L_law 7 R_L wG s.heap B D classes (tyL cI cZ cL cS cW) (Zs B)) (hX : va_X b L xs s s.heap) (hb : b < B) (hL : L < 2147483648) (hi : i + 3 < L) (hc : cells + 26 ≤ 601024) (hs : slots + 11556 ≤ 7293034) (HX : REL cI cZ cL cS cW ad g) (k : ∀ (ad1 : Nat → Nat) (g1 : Nat → va_E), REL cI cZ cL cS cW ad1 g1 → kV p l e room_1 s m #[Value.ref b] below meth c Q s.heap B D classes 7 95 (cells + 26) (slots + 11556) ad1 g1 [(0, .ref b), (1, .ref (ad1 0)), (2, .ref (ad1 73)), (3, .ref (ad1 94)), (4, .int (iI (i : Int)))] [] 1117) : kV p l e room_1 s m #[Value.ref b] below meth c Q s.heap B D classes 7 95 cells slots ad g [(0, .ref b), (1, .ref (ad 0)), (2, .ref (ad 73)), (3, .ref (ad 94)), (4, .int (iI (i : Int)))] [] 328 := by
  have i1 : i + 1 < L := by omega
  have j1 : (i : Int) + 1 = ((i + 1 : Nat) : Int) := by omega
  have i2 : i + 2 < L := by omega
  have j2 : (i : Int) + 2 = ((i + 2 : Nat) : Int) := by omega
  have i3 : i + 3 < L := by omega
  have j3 : (i : Int) + 3 = ((i + 3 : Nat) : Int) := by omega
  have rcA : cells + 3 ≤ 601024 := by omega
  have rsA : slots + 500 ≤ 7293034 := by omega
  obtain ⟨th, lf, w, h, hk, hr, sp, wb, tr, T, KT, nb, kn, nw, ct0, lo, bf, kf, un, uc, re, f, fk, rb, dr, gc, pic, kep, reb, tri, kno, tol, fil, kt, kfl, rP, rQ, kP, kQ, bns, kb, unk, lef, sum, spd, spg, HC, HR, HO, HL, h94⟩ := HX
  have HC1 := HC
  have HO1 := HO
  have HL1 := HL
  obtain ⟨c0, c1, c2, c3, c4, c5, c6, c7, c8, c9, c10, c11, c12, c13, c14, c15, c16⟩ := HC1
  obtain ⟨hw, hh, bT, bK, nbO, knO, nwO, geo, filO, posO, kkO, PQ, KPQ⟩ := HO1
  obtain ⟨lp, lk, lr, lsh, lkk⟩ := HL1
  refine v_aload_n C d_L_law_328 rfl 1 rfl ?_
  refine v_aload_n C d_L_law_329 rfl 0 rfl ?_
  refine v_iload C d_L_law_330 4 rfl ?_
  refine v_iconst C d_L_law_332 ?_
  refine v_iaddI C d_L_law_333 ?_
  refine v_sldI C hX hb (i + 1) j1 i1 hL d_L_law_334 ?_
  refine v_aload_n C d_L_law_335 rfl 0 rfl ?_
  refine v_iload C d_L_law_336 4 rfl ?_
  refine v_iconst C d_L_law_338 ?_
  refine v_iaddI C d_L_law_339 ?_
  refine v_sldI C hX hb (i + 2) j2 i2 hL d_L_law_340 ?_
  refine v_aload_n C d_L_law_341 rfl 0 rfl ?_
  refine v_iload C d_L_law_342 4 rfl ?_
  refine v_iconst C d_L_law_344 ?_
  refine v_iaddI C d_L_law_345 ?_
  refine v_sldI C hX hb (i + 3) j3 i3 hL d_L_law_346 ?_
  refine v_xcallSH (As := [.ref (ad 0), .int (iI ((xs (i + 1)).toInt)), .int (iI ((xs (i + 2)).toInt)), .int (iI ((xs (i + 3)).toInt))]) (st := []) C (hl_direction (post := fun ad1 g1 => isD (xs (i + 2)).toInt (xs (i + 3)).toInt ∧ ¬ (∃ j : Nat, j < 8 ∧ (j : Int) ≠ (xs (i + 1)).toInt ∧ (T j).1 = true ∧ (T j).2.2.1 = tP (xs (i + 2)).toInt (xs (i + 3)).toInt ∧ (T j).2.2.2.1 = tQ (xs (i + 2)).toInt (xs (i + 3)).toInt) ∧ ∃ (s0 : Nat) (f1 : Nat → Int32), (s0 : Int) = (xs (i + 1)).toInt ∧ s0 < 8 ∧ g1 (9 + 8 * s0 + 1) = inA cI 481 f1 ∧ g1 (9 + 8 * s0) = shE (ad1 (9 + 8 * s0 + 1)) (true, false, tP (xs (i + 2)).toInt (xs (i + 3)).toInt, tQ (xs (i + 2)).toInt (xs (i + 3)).toInt, lzI (tP (xs (i + 2)).toInt (xs (i + 3)).toInt) (tQ (xs (i + 2)).toInt (xs (i + 3)).toInt) w h, ctI (tP (xs (i + 2)).toInt (xs (i + 3)).toInt) (tQ (xs (i + 2)).toInt (xs (i + 3)).toInt) w h) ∧ (∀ r1, r1 ≠ 9 + 8 * s0 + 1 → r1 ≠ 9 + 8 * s0 → g1 r1 = g r1) ∧ ∀ r1, r1 ≠ 9 + 8 * s0 + 1 → ad1 r1 = ad r1) (xp := fun E => (E = "java/lang/IndexOutOfBoundsException" ∧ ¬ (0 ≤ (xs (i + 1)).toInt ∧ (xs (i + 1)).toInt < 8)) ∨ (E = "java/lang/IllegalArgumentException" ∧ (0 ≤ (xs (i + 1)).toInt ∧ (xs (i + 1)).toInt < 8) ∧ (¬ isD (xs (i + 2)).toInt (xs (i + 3)).toInt ∨ ∃ j : Nat, j < 8 ∧ (j : Int) ≠ (xs (i + 1)).toInt ∧ (T j).1 = true ∧ (T j).2.2.1 = tP (xs (i + 2)).toInt (xs (i + 3)).toInt ∧ (T j).2.2.2.1 = tQ (xs (i + 2)).toInt (xs (i + 3)).toInt))) l ((iI ((xs (i + 1)).toInt))) ((iI ((xs (i + 2)).toInt))) ((iI ((xs (i + 3)).toInt))) _ c0 (fun E h9 => h9.elim (fun h8 => Or.inl h8.1) (fun h8 => Or.inr h8.1)) (c_direction l hl w h hk hr sp wb (xs (i + 1)).toInt (xs (i + 2)).toInt (xs (i + 3)).toInt (iI_lo _) (iI_hi _) (iI_lo _) (iI_hi _) (iI_lo _) (iI_hi _) hw hh c0 c2 T bT c9 nb bf nbO c10)) (lkh_direction C.1.2.2.2.2 rfl rfl ⟨Nat.le_of_ble_eq_true rfl, Nat.le_of_ble_eq_true rfl⟩) rfl rfl (Nat.le_of_ble_eq_true rfl) d_L_law_347 ⟨rcA, rsA⟩ (fun k5 ad1 g1 hp => ?_)
  obtain ⟨m1, m2, m0⟩ := mid_direction hp
  have HR1 := rfW_fr HR m1 (fun r9 a9 _ => m2 r9 a9)
  obtain ⟨r73, r74, r75, r76, r77, r78, r79, r80, r81, r82, r83, r84, r85, r86, r87, r88, r89, r90, r91, r92, r93⟩ := HR1
  refine v_lvE (lv' := [(0, .ref b), (1, .ref (ad1 0)), (2, .ref (ad1 73)), (3, .ref (ad1 94)), (4, .int (iI (i : Int)))]) (by rw [m0, m2 73 (by decide), m2 94 (by decide)]) ?_
  refine v_istore (lv' := [(5, .int k5), (0, .ref b), (1, .ref (ad1 0)), (2, .ref (ad1 73)), (3, .ref (ad1 94)), (4, .int (iI (i : Int)))]) C d_L_law_350 (by decide) rfl ?_
  refine v_aload_n C d_L_law_352 rfl 3 rfl ?_
  refine v_aload_n C d_L_law_353 rfl 1 rfl ?_
  refine v_iload C d_L_law_354 5 rfl ?_
  refine v_iconst C d_L_law_356 ?_
  refine v_iaddI C d_L_law_357 ?_
  refine v_sldI C hX hb (i + 1) j1 i1 hL d_L_law_358 ?_
  refine v_aload_n C d_L_law_359 rfl 1 rfl ?_
  refine v_iload C d_L_law_360 5 rfl ?_
  refine v_iconst C d_L_law_362 ?_
  refine v_iaddI C d_L_law_363 ?_
  refine v_sldI C hX hb (i + 2) j2 i2 hL d_L_law_364 ?_
  refine v_aload_n C d_L_law_365 rfl 1 rfl ?_
  refine v_iload C d_L_law_366 5 rfl ?_
  refine v_iconst C d_L_law_368 ?_
  refine v_iaddI C d_L_law_369 ?_
  refine v_sldI C hX hb (i + 3) j3 i3 hL d_L_law_370 ?_
  refine v_callVV (As := [.int (iI ((xs (i + 1)).toInt)), .int (iI ((xs (i + 2)).toInt)), .int (iI ((xs (i + 3)).toInt))]) (st := []) (by decide) r73 rfl rfl C (c_Mdirection l th w h hk hr tr sp wb (xs (i + 1)).toInt (xs (i + 2)).toInt (xs (i + 3)).toInt (iI_lo _) (iI_hi _) (iI_lo _) (iI_hi _) (iI_lo _) (iI_hi _) r73 tol r79 rP r80 rQ r81 fil r82 PQ) (lk_L_92 C.1.2.2.2.2 rfl rfl ⟨Nat.le_of_ble_eq_true rfl, Nat.le_of_ble_eq_true rfl⟩) rfl rfl (Nat.le_of_ble_eq_true rfl) d_L_law_371 ⟨rcA, rsA⟩ (fun ad2 g2 hq => ?_)
  have e2 := rq_direction hq
  obtain ⟨kk, lf1, ⟨kk1, kk2⟩, ek, HX1⟩ := pu_direction HC HR HO HL h94 hp hq
  subst ek
  obtain ⟨w1, h1, hk1, hr1, tr1, sp1, wb1, n73, n94⟩ := RELx_73 HX1
  subst e2
  clear hp hq
  refine v_aload_n C d_L_law_374 rfl 3 rfl ?_
  refine v_callVI (As := []) (st := []) (by decide) n73 rfl rfl C (c_Mthrown l kk w1 h1 hk1 hr1 tr1 sp1 wb1 n73) (lk_L_78 C.1.2.2.2.2 rfl rfl ⟨Nat.le_of_ble_eq_true rfl, Nat.le_of_ble_eq_true rfl⟩) rfl rfl (Nat.le_of_ble_eq_true rfl) d_L_law_375 ⟨rcA, rsA⟩ (fun w7 ad3 g3 hp3 => ?_)
  obtain ⟨rfl, rfl, rfl⟩ := hp3
  refine v_iload C d_L_law_378 0 rfl ?_
  refine v_icmp_eqI C d_L_law_380 (by omega) (by omega) (by omega) (by omega) (fun _ => ?_) (fun hz9 => absurd rfl hz9)
  refine v_goto C d_L_law_385 ?_
  refine v_lv (lv' := [(0, .ref b), (1, .ref (ad1 0)), (2, .ref (ad1 73)), (3, .ref (ad1 94)), (4, .int (iI (i : Int)))]) [1, 2, 3, 4, 5] rfl ?_
  refine v_wid (k := cells + 26) (n := slots + 11556) (by omega) (by omega) ?_
  exact k _ _ ⟨kk, lf1, HX1⟩
set_option maxHeartbeats 1000000 in
set_option maxRecDepth 100000 in
theorem st_shelf (l : Launch) (hl : l.stackTraces = false) {p : Program} {e : Env} {s : State} {m : MethodId} {below : List Frame} {meth : Method} {c : Code} {Q : State → Prop} {B : Nat} {D : va_G} {cI cZ cL cS cW : ClassId} {b L : Nat} {xs : Nat → Int32} {i cells slots : Nat} {ad : Nat → Nat} {g : Nat → va_E} (C : Cx p m c s #[Value.ref b] b_L_law 7 R_L wG s.heap B D classes (tyL cI cZ cL cS cW) (Zs B)) (hX : va_X b L xs s s.heap) (hb : b < B) (hL : L < 2147483648) (hi : i + 3 < L) (hc : cells + 26 ≤ 601024) (hs : slots + 11556 ≤ 7293034) (HX : REL cI cZ cL cS cW ad g) (k : ∀ (ad1 : Nat → Nat) (g1 : Nat → va_E), REL cI cZ cL cS cW ad1 g1 → kV p l e room_1 s m #[Value.ref b] below meth c Q s.heap B D classes 7 95 (cells + 26) (slots + 11556) ad1 g1 [(0, .ref b), (1, .ref (ad1 0)), (2, .ref (ad1 73)), (3, .ref (ad1 94)), (4, .int (iI (i : Int)))] [] 1117) : kV p l e room_1 s m #[Value.ref b] below meth c Q s.heap B D classes 7 95 cells slots ad g [(0, .ref b), (1, .ref (ad 0)), (2, .ref (ad 73)), (3, .ref (ad 94)), (4, .int (iI (i : Int)))] [] 388 := by
  have i1 : i + 1 < L := by omega
  have j1 : (i : Int) + 1 = ((i + 1 : Nat) : Int) := by omega
  have i2 : i + 2 < L := by omega
  have j2 : (i : Int) + 2 = ((i + 2 : Nat) : Int) := by omega
  have i3 : i + 3 < L := by omega
  have j3 : (i : Int) + 3 = ((i + 3 : Nat) : Int) := by omega
  have rcA : cells + 3 ≤ 601024 := by omega
  have rsA : slots + 18 ≤ 7293034 := by omega
  obtain ⟨th, lf, w, h, hk, hr, sp, wb, tr, T, KT, nb, kn, nw, ct0, lo, bf, kf, un, uc, re, f, fk, rb, dr, gc, pic, kep, reb, tri, kno, tol, fil, kt, kfl, rP, rQ, kP, kQ, bns, kb, unk, lef, sum, spd, spg, HC, HR, HO, HL, h94⟩ := HX
  have HC1 := HC
  have HO1 := HO
  have HL1 := HL
  obtain ⟨c0, c1, c2, c3, c4, c5, c6, c7, c8, c9, c10, c11, c12, c13, c14, c15, c16⟩ := HC1
  obtain ⟨hw, hh, bT, bK, nbO, knO, nwO, geo, filO, posO, kkO, PQ, KPQ⟩ := HO1
  obtain ⟨lp, lk, lr, lsh, lkk⟩ := HL1
  refine v_aload_n C d_L_law_388 rfl 1 rfl ?_
  refine v_aload_n C d_L_law_389 rfl 0 rfl ?_
  refine v_iload C d_L_law_390 4 rfl ?_
  refine v_iconst C d_L_law_392 ?_
  refine v_iaddI C d_L_law_393 ?_
  refine v_sldI C hX hb (i + 1) j1 i1 hL d_L_law_394 ?_
  refine v_aload_n C d_L_law_395 rfl 0 rfl ?_
  refine v_iload C d_L_law_396 4 rfl ?_
  refine v_iconst C d_L_law_398 ?_
  refine v_iaddI C d_L_law_399 ?_
  refine v_sldI C hX hb (i + 2) j2 i2 hL d_L_law_400 ?_
  refine v_aload_n C d_L_law_401 rfl 3 rfl ?_
  refine v_xcallSH (As := [.ref (ad 0), .int (iI ((xs (i + 1)).toInt)), .int (iI ((xs (i + 2)).toInt)), .ref (ad 94)]) (st := []) C (hl_shelf (post := fun v ad1 g1 => (∃ s0 : Nat, (s0 : Int) = (xs (i + 1)).toInt ∧ s0 < 8 ∧ 0 ≤ (xs (i + 2)).toInt ∧ (xs (i + 2)).toInt ≤ 3 ∧ (T s0).1 = true ∧ (((xs (i + 2)).toInt = 0 ∧ v = iI (T s0).2.2.1) ∨ ((xs (i + 2)).toInt = 1 ∧ v = iI (T s0).2.2.2.1) ∨ ((xs (i + 2)).toInt = 2 ∧ v = iI (T s0).2.2.2.2.2) ∨ ((xs (i + 2)).toInt = 3 ∧ v = bI (T s0).2.1))) ∧ ad = ad1 ∧ g = g1) (xp := fun E => (E = "java/lang/IndexOutOfBoundsException" ∧ ¬ (0 ≤ (xs (i + 1)).toInt ∧ (xs (i + 1)).toInt < 8 ∧ 0 ≤ (xs (i + 2)).toInt ∧ (xs (i + 2)).toInt ≤ 3)) ∨ (E = "java/lang/IllegalStateException" ∧ ∃ s0 : Nat, (s0 : Int) = (xs (i + 1)).toInt ∧ s0 < 8 ∧ 0 ≤ (xs (i + 2)).toInt ∧ (xs (i + 2)).toInt ≤ 3 ∧ (T s0).1 = false)) l ((iI ((xs (i + 1)).toInt))) ((iI ((xs (i + 2)).toInt))) _ c0 lf h94 (fun r9 a9 g9 h9 => po_shelf h94 h9) (fun E h9 => h9.elim (fun h8 => Or.inl h8.1) (fun h8 => Or.inr h8.1)) (c_shelf l hl w h hk hr sp wb (xs (i + 1)).toInt (xs (i + 2)).toInt (iI_lo _) (iI_hi _) (iI_lo _) (iI_hi _) c0 c2 T bT c9)) (lkh_shelf C.1.2.2.2.2 rfl rfl ⟨Nat.le_of_ble_eq_true rfl, Nat.le_of_ble_eq_true rfl⟩) rfl rfl (Nat.le_of_ble_eq_true rfl) d_L_law_402 ⟨rcA, rsA⟩ (fun k5 ad1 g1 hp => ?_)
  obtain ⟨m1, m2, m0⟩ := mid_shelf hp
  have HR1 := rfW_fr HR m1 (fun r9 a9 _ => m2 r9 a9)
  obtain ⟨r73, r74, r75, r76, r77, r78, r79, r80, r81, r82, r83, r84, r85, r86, r87, r88, r89, r90, r91, r92, r93⟩ := HR1
  refine v_lvE (lv' := [(0, .ref b), (1, .ref (ad1 0)), (2, .ref (ad1 73)), (3, .ref (ad1 94)), (4, .int (iI (i : Int)))]) (by rw [m0, m2 73 (by decide), m2 94 (by decide)]) ?_
  refine v_istore (lv' := [(5, .int k5), (0, .ref b), (1, .ref (ad1 0)), (2, .ref (ad1 73)), (3, .ref (ad1 94)), (4, .int (iI (i : Int)))]) C d_L_law_405 (by decide) rfl ?_
  refine v_aload_n C d_L_law_407 rfl 3 rfl ?_
  refine v_aload_n C d_L_law_408 rfl 1 rfl ?_
  refine v_iload C d_L_law_409 5 rfl ?_
  refine v_iconst C d_L_law_411 ?_
  refine v_iaddI C d_L_law_412 ?_
  refine v_sldI C hX hb (i + 1) j1 i1 hL d_L_law_413 ?_
  refine v_aload_n C d_L_law_414 rfl 1 rfl ?_
  refine v_iload C d_L_law_415 5 rfl ?_
  refine v_iconst C d_L_law_417 ?_
  refine v_iaddI C d_L_law_418 ?_
  refine v_sldI C hX hb (i + 2) j2 i2 hL d_L_law_419 ?_
  refine v_callVI (As := [.int (iI ((xs (i + 1)).toInt)), .int (iI ((xs (i + 2)).toInt))]) (st := []) (by decide) r73 rfl rfl C (c_Mshelf l th w h hk hr tr sp wb (xs (i + 1)).toInt (xs (i + 2)).toInt (iI_lo _) (iI_hi _) (iI_lo _) (iI_hi _) hw hh r73 tol r79 rP r80 rQ r81 fil r82 PQ) (lk_L_96 C.1.2.2.2.2 rfl rfl ⟨Nat.le_of_ble_eq_true rfl, Nat.le_of_ble_eq_true rfl⟩) rfl rfl (Nat.le_of_ble_eq_true rfl) d_L_law_420 ⟨rcA, rsA⟩ (fun b6 ad2 g2 hq => ?_)
  have e2 := rq_shelf hq
  obtain ⟨kk, lf1, ⟨kk1, kk2⟩, ek, HX1, hbv⟩ := pu_shelf HC HR HO HL h94 hp hq
  subst ek
  obtain ⟨w1, h1, hk1, hr1, tr1, sp1, wb1, n73, n94⟩ := RELx_73 HX1
  subst e2
  clear hp hq
  refine v_istore (lv' := [(6, .int b6), (5, .int (iI kk)), (0, .ref b), (1, .ref (ad1 0)), (2, .ref (ad1 73)), (3, .ref (ad1 94)), (4, .int (iI (i : Int)))]) C d_L_law_423 (by decide) rfl ?_
  refine v_aload_n C d_L_law_425 rfl 4 rfl ?_
  refine v_callVI (As := []) (st := []) (by decide) n73 rfl rfl C (c_Mthrown l kk w1 h1 hk1 hr1 tr1 sp1 wb1 n73) (lk_L_78 C.1.2.2.2.2 rfl rfl ⟨Nat.le_of_ble_eq_true rfl, Nat.le_of_ble_eq_true rfl⟩) rfl rfl (Nat.le_of_ble_eq_true rfl) d_L_law_426 ⟨rcA, rsA⟩ (fun w7 ad3 g3 hp3 => ?_)
  obtain ⟨rfl, rfl, rfl⟩ := hp3
  refine v_iload C d_L_law_429 1 rfl ?_
  refine v_icmp_eqI C d_L_law_431 (by omega) (by omega) (by omega) (by omega) (fun _ => ?_) (fun hz9 => absurd rfl hz9)
  refine v_iload C d_L_law_436 1 rfl ?_
  refine v_if_neI C d_L_law_438 (by omega) (by omega) (fun hb438 => ?_) (fun hb438 => ?_)
  · refine v_goto C d_L_law_453 ?_
    refine v_lv (lv' := [(0, .ref b), (1, .ref (ad1 0)), (2, .ref (ad1 73)), (3, .ref (ad1 94)), (4, .int (iI (i : Int)))]) [2, 3, 4, 5, 6] rfl ?_
    refine v_wid (k := cells + 26) (n := slots + 11556) (by omega) (by omega) ?_
    exact k _ _ ⟨kk, lf1, HX1⟩
  · refine v_aload_n C d_L_law_441 rfl 5 rfl ?_
    refine v_iconst C d_L_law_442 ?_
    refine v_lald C 2 (by decide) n94 rfl 0 rfl (by decide) (by decide) d_L_law_443 ?_
    refine v_iload C d_L_law_444 0 rfl ?_
    refine v_i2l C d_L_law_446 ?_
    refine v_lcmp C d_L_law_447 ?_
    refine v_if_eq C d_L_law_448 (fun _ => ?_) (fun hz9 => absurd (by rw [hbv (by omega)]; exact lcmp_self _) hz9)
    refine v_goto C d_L_law_453 ?_
    refine v_lv (lv' := [(0, .ref b), (1, .ref (ad1 0)), (2, .ref (ad1 73)), (3, .ref (ad1 94)), (4, .int (iI (i : Int)))]) [2, 3, 4, 5, 6] rfl ?_
    refine v_wid (k := cells + 26) (n := slots + 11556) (by omega) (by omega) ?_
    exact k _ _ ⟨kk, lf1, HX1⟩
set_option maxHeartbeats 1000000 in
set_option maxRecDepth 100000 in
theorem st_project (l : Launch) (hl : l.stackTraces = false) {p : Program} {e : Env} {s : State} {m : MethodId} {below : List Frame} {meth : Method} {c : Code} {Q : State → Prop} {B : Nat} {D : va_G} {cI cZ cL cS cW : ClassId} {b L : Nat} {xs : Nat → Int32} {i cells slots : Nat} {ad : Nat → Nat} {g : Nat → va_E} (C : Cx p m c s #[Value.ref b] b_L_law 7 R_L wG s.heap B D classes (tyL cI cZ cL cS cW) (Zs B)) (hX : va_X b L xs s s.heap) (hb : b < B) (hL : L < 2147483648) (hi : i + 3 < L) (hc : cells + 26 ≤ 601024) (hs : slots + 11556 ≤ 7293034) (HX : REL cI cZ cL cS cW ad g) (k : ∀ (ad1 : Nat → Nat) (g1 : Nat → va_E), REL cI cZ cL cS cW ad1 g1 → kV p l e room_1 s m #[Value.ref b] below meth c Q s.heap B D classes 7 95 (cells + 26) (slots + 11556) ad1 g1 [(0, .ref b), (1, .ref (ad1 0)), (2, .ref (ad1 73)), (3, .ref (ad1 94)), (4, .int (iI (i : Int)))] [] 1117) : kV p l e room_1 s m #[Value.ref b] below meth c Q s.heap B D classes 7 95 cells slots ad g [(0, .ref b), (1, .ref (ad 0)), (2, .ref (ad 73)), (3, .ref (ad 94)), (4, .int (iI (i : Int)))] [] 456 := by
  have i1 : i + 1 < L := by omega
  have j1 : (i : Int) + 1 = ((i + 1 : Nat) : Int) := by omega
  have i2 : i + 2 < L := by omega
  have j2 : (i : Int) + 2 = ((i + 2 : Nat) : Int) := by omega
  have i3 : i + 3 < L := by omega
  have j3 : (i : Int) + 3 = ((i + 3 : Nat) : Int) := by omega
  have rcA : cells + 2 ≤ 601024 := by omega
  have rsA : slots + 12 ≤ 7293034 := by omega
  obtain ⟨th, lf, w, h, hk, hr, sp, wb, tr, T, KT, nb, kn, nw, ct0, lo, bf, kf, un, uc, re, f, fk, rb, dr, gc, pic, kep, reb, tri, kno, tol, fil, kt, kfl, rP, rQ, kP, kQ, bns, kb, unk, lef, sum, spd, spg, HC, HR, HO, HL, h94⟩ := HX
  have HC1 := HC
  have HO1 := HO
  have HL1 := HL
  obtain ⟨c0, c1, c2, c3, c4, c5, c6, c7, c8, c9, c10, c11, c12, c13, c14, c15, c16⟩ := HC1
  obtain ⟨hw, hh, bT, bK, nbO, knO, nwO, geo, filO, posO, kkO, PQ, KPQ⟩ := HO1
  obtain ⟨lp, lk, lr, lsh, lkk⟩ := HL1
  refine v_aload_n C d_L_law_456 rfl 1 rfl ?_
  refine v_aload_n C d_L_law_457 rfl 0 rfl ?_
  refine v_iload C d_L_law_458 4 rfl ?_
  refine v_iconst C d_L_law_460 ?_
  refine v_iaddI C d_L_law_461 ?_
  refine v_sldI C hX hb (i + 1) j1 i1 hL d_L_law_462 ?_
  refine v_xcallSH (As := [.ref (ad 0), .int (iI ((xs (i + 1)).toInt))]) (st := []) C (hl_project (post := fun ad1 g1 => ∃ s0 : Nat, (s0 : Int) = (xs (i + 1)).toInt ∧ s0 < 8 ∧ (T s0).1 = true ∧ ad = ad1 ∧ g1 (9 + 8 * s0 + 1) = inA cI 481 (accY (bnN (T s0).2.2.1 (T s0).2.2.2.1 w h) f w h (fun _ => 0)) ∧ g1 (9 + 8 * s0) = shE (ad (9 + 8 * s0 + 1)) ((T s0).1, true, (T s0).2.2) ∧ ∀ r1, r1 ≠ 9 + 8 * s0 + 1 → r1 ≠ 9 + 8 * s0 → g1 r1 = g r1) (xp := fun E => (E = "java/lang/IndexOutOfBoundsException" ∧ ¬ (0 ≤ (xs (i + 1)).toInt ∧ (xs (i + 1)).toInt < 8)) ∨ (E = "java/lang/IllegalStateException" ∧ ∃ s0 : Nat, (s0 : Int) = (xs (i + 1)).toInt ∧ s0 < 8 ∧ (T s0).1 = false)) l ((iI ((xs (i + 1)).toInt))) _ c0 (fun E h9 => h9.elim (fun h8 => Or.inl h8.1) (fun h8 => Or.inr h8.1)) (c_project l hl w h hk hr sp wb (xs (i + 1)).toInt f (fun j => bnN (T j).2.2.1 (T j).2.2.2.1 w h) (iI_lo _) (iI_hi _) hw hh c0 c1 c2 T bT c9 nb bf nbO c10 (fun j hj q => ⟨(geo j hj q).2.2.2, fun x y hx hy => by rw [(geo j hj q).2.1]; obtain ⟨q1, q2, q3, q4⟩ := bn_nat (geo j hj q).1 hw.2 hh.2 hx hy; exact ⟨q1, by omega⟩⟩))) (lkh_project C.1.2.2.2.2 rfl rfl ⟨Nat.le_of_ble_eq_true rfl, Nat.le_of_ble_eq_true rfl⟩) rfl rfl (Nat.le_of_ble_eq_true rfl) d_L_law_463 ⟨rcA, rsA⟩ (fun k5 ad1 g1 hp => ?_)
  obtain ⟨m1, m2, m0⟩ := mid_project hp
  have HR1 := rfW_fr HR m1 (fun r9 a9 _ => m2 r9 a9)
  obtain ⟨r73, r74, r75, r76, r77, r78, r79, r80, r81, r82, r83, r84, r85, r86, r87, r88, r89, r90, r91, r92, r93⟩ := HR1
  refine v_lvE (lv' := [(0, .ref b), (1, .ref (ad1 0)), (2, .ref (ad1 73)), (3, .ref (ad1 94)), (4, .int (iI (i : Int)))]) (by rw [m0, m2 73 (by decide), m2 94 (by decide)]) ?_
  refine v_istore (lv' := [(5, .int k5), (0, .ref b), (1, .ref (ad1 0)), (2, .ref (ad1 73)), (3, .ref (ad1 94)), (4, .int (iI (i : Int)))]) C d_L_law_466 (by decide) rfl ?_
  refine v_aload_n C d_L_law_468 rfl 3 rfl ?_
  refine v_aload_n C d_L_law_469 rfl 1 rfl ?_
  refine v_iload C d_L_law_470 5 rfl ?_
  refine v_iconst C d_L_law_472 ?_
  refine v_iaddI C d_L_law_473 ?_
  refine v_sldI C hX hb (i + 1) j1 i1 hL d_L_law_474 ?_
  refine v_callVV (As := [.int (iI ((xs (i + 1)).toInt))]) (st := []) (by decide) r73 rfl rfl C (c_Mproject l th w h hk hr tr sp wb (xs (i + 1)).toInt (iI_lo _) (iI_hi _) hw hh r73 pic r74 tol r79 rP r80 rQ r81 sum r91 fil r82 bns r83 PQ) (lk_L_100 C.1.2.2.2.2 rfl rfl ⟨Nat.le_of_ble_eq_true rfl, Nat.le_of_ble_eq_true rfl⟩) rfl rfl (Nat.le_of_ble_eq_true rfl) d_L_law_475 ⟨rcA, rsA⟩ (fun ad2 g2 hq => ?_)
  have e2 := rq_project hq
  obtain ⟨kk, lf1, ⟨kk1, kk2⟩, ek, HX1⟩ := pu_project HC HR HO HL h94 hp hq
  subst ek
  obtain ⟨w1, h1, hk1, hr1, tr1, sp1, wb1, n73, n94⟩ := RELx_73 HX1
  subst e2
  clear hp hq
  refine v_aload_n C d_L_law_478 rfl 3 rfl ?_
  refine v_callVI (As := []) (st := []) (by decide) n73 rfl rfl C (c_Mthrown l kk w1 h1 hk1 hr1 tr1 sp1 wb1 n73) (lk_L_78 C.1.2.2.2.2 rfl rfl ⟨Nat.le_of_ble_eq_true rfl, Nat.le_of_ble_eq_true rfl⟩) rfl rfl (Nat.le_of_ble_eq_true rfl) d_L_law_479 ⟨rcA, rsA⟩ (fun w7 ad3 g3 hp3 => ?_)
  obtain ⟨rfl, rfl, rfl⟩ := hp3
  refine v_iload C d_L_law_482 0 rfl ?_
  refine v_icmp_eqI C d_L_law_484 (by omega) (by omega) (by omega) (by omega) (fun _ => ?_) (fun hz9 => absurd rfl hz9)
  refine v_goto C d_L_law_489 ?_
  refine v_lv (lv' := [(0, .ref b), (1, .ref (ad1 0)), (2, .ref (ad1 73)), (3, .ref (ad1 94)), (4, .int (iI (i : Int)))]) [1, 2, 3, 4, 5] rfl ?_
  refine v_wid (k := cells + 26) (n := slots + 11556) (by omega) (by omega) ?_
  exact k _ _ ⟨kk, lf1, HX1⟩
set_option maxHeartbeats 1000000 in
set_option maxRecDepth 100000 in
theorem st_drop (l : Launch) (hl : l.stackTraces = false) {p : Program} {e : Env} {s : State} {m : MethodId} {below : List Frame} {meth : Method} {c : Code} {Q : State → Prop} {B : Nat} {D : va_G} {cI cZ cL cS cW : ClassId} {b L : Nat} {xs : Nat → Int32} {i cells slots : Nat} {ad : Nat → Nat} {g : Nat → va_E} (C : Cx p m c s #[Value.ref b] b_L_law 7 R_L wG s.heap B D classes (tyL cI cZ cL cS cW) (Zs B)) (hX : va_X b L xs s s.heap) (hb : b < B) (hL : L < 2147483648) (hi : i + 3 < L) (hc : cells + 26 ≤ 601024) (hs : slots + 11556 ≤ 7293034) (HX : REL cI cZ cL cS cW ad g) (k : ∀ (ad1 : Nat → Nat) (g1 : Nat → va_E), REL cI cZ cL cS cW ad1 g1 → kV p l e room_1 s m #[Value.ref b] below meth c Q s.heap B D classes 7 95 (cells + 26) (slots + 11556) ad1 g1 [(0, .ref b), (1, .ref (ad1 0)), (2, .ref (ad1 73)), (3, .ref (ad1 94)), (4, .int (iI (i : Int)))] [] 1117) : kV p l e room_1 s m #[Value.ref b] below meth c Q s.heap B D classes 7 95 cells slots ad g [(0, .ref b), (1, .ref (ad 0)), (2, .ref (ad 73)), (3, .ref (ad 94)), (4, .int (iI (i : Int)))] [] 492 := by
  have i1 : i + 1 < L := by omega
  have j1 : (i : Int) + 1 = ((i + 1 : Nat) : Int) := by omega
  have i2 : i + 2 < L := by omega
  have j2 : (i : Int) + 2 = ((i + 2 : Nat) : Int) := by omega
  have i3 : i + 3 < L := by omega
  have j3 : (i : Int) + 3 = ((i + 3 : Nat) : Int) := by omega
  have rcA : cells + 1 ≤ 601024 := by omega
  have rsA : slots + 6 ≤ 7293034 := by omega
  obtain ⟨th, lf, w, h, hk, hr, sp, wb, tr, T, KT, nb, kn, nw, ct0, lo, bf, kf, un, uc, re, f, fk, rb, dr, gc, pic, kep, reb, tri, kno, tol, fil, kt, kfl, rP, rQ, kP, kQ, bns, kb, unk, lef, sum, spd, spg, HC, HR, HO, HL, h94⟩ := HX
  have HC1 := HC
  have HO1 := HO
  have HL1 := HL
  obtain ⟨c0, c1, c2, c3, c4, c5, c6, c7, c8, c9, c10, c11, c12, c13, c14, c15, c16⟩ := HC1
  obtain ⟨hw, hh, bT, bK, nbO, knO, nwO, geo, filO, posO, kkO, PQ, KPQ⟩ := HO1
  obtain ⟨lp, lk, lr, lsh, lkk⟩ := HL1
  refine v_aload_n C d_L_law_492 rfl 1 rfl ?_
  refine v_aload_n C d_L_law_493 rfl 0 rfl ?_
  refine v_iload C d_L_law_494 4 rfl ?_
  refine v_iconst C d_L_law_496 ?_
  refine v_iaddI C d_L_law_497 ?_
  refine v_sldI C hX hb (i + 1) j1 i1 hL d_L_law_498 ?_
  refine v_aload_n C d_L_law_499 rfl 3 rfl ?_
  refine v_xcallSH (As := [.ref (ad 0), .int (iI ((xs (i + 1)).toInt)), .ref (ad 94)]) (st := []) C (hl_drop (post := fun v9 ad1 g1 => ∃ v, v9 = bI v ∧ (∃ s0 : Nat, (s0 : Int) = (xs (i + 1)).toInt ∧ s0 < 8 ∧ v = (T s0).2.1 ∧ ad = ad1 ∧ g1 (9 + 8 * s0) = shE (ad (9 + 8 * s0 + 1)) ((T s0).1, false, (T s0).2.2) ∧ ∀ r1, r1 ≠ 9 + 8 * s0 → g1 r1 = g r1)) (xp := fun E => E = "java/lang/IndexOutOfBoundsException" ∧ ¬ (0 ≤ (xs (i + 1)).toInt ∧ (xs (i + 1)).toInt < 8)) l ((iI ((xs (i + 1)).toInt))) _ c0 lf h94 (fun r9 a9 g9 h9 => po_drop h94 h9) (fun E h9 => h9.1) (c_drop l hl w h hk hr sp wb (xs (i + 1)).toInt (iI_lo _) (iI_hi _) c0 c2 T bT c9)) (lkh_drop C.1.2.2.2.2 rfl rfl ⟨Nat.le_of_ble_eq_true rfl, Nat.le_of_ble_eq_true rfl⟩) rfl rfl (Nat.le_of_ble_eq_true rfl) d_L_law_500 ⟨rcA, rsA⟩ (fun k5 ad1 g1 hp => ?_)
  obtain ⟨m1, m2, m0⟩ := mid_drop hp
  have HR1 := rfW_fr HR m1 (fun r9 a9 _ => m2 r9 a9)
  obtain ⟨r73, r74, r75, r76, r77, r78, r79, r80, r81, r82, r83, r84, r85, r86, r87, r88, r89, r90, r91, r92, r93⟩ := HR1
  refine v_lvE (lv' := [(0, .ref b), (1, .ref (ad1 0)), (2, .ref (ad1 73)), (3, .ref (ad1 94)), (4, .int (iI (i : Int)))]) (by rw [m0, m2 73 (by decide), m2 94 (by decide)]) ?_
  refine v_istore (lv' := [(5, .int k5), (0, .ref b), (1, .ref (ad1 0)), (2, .ref (ad1 73)), (3, .ref (ad1 94)), (4, .int (iI (i : Int)))]) C d_L_law_503 (by decide) rfl ?_
  refine v_aload_n C d_L_law_505 rfl 3 rfl ?_
  refine v_aload_n C d_L_law_506 rfl 1 rfl ?_
  refine v_iload C d_L_law_507 5 rfl ?_
  refine v_iconst C d_L_law_509 ?_
  refine v_iaddI C d_L_law_510 ?_
  refine v_sldI C hX hb (i + 1) j1 i1 hL d_L_law_511 ?_
  refine v_callVI (As := [.int (iI ((xs (i + 1)).toInt))]) (st := []) (by decide) r73 rfl rfl C (c_Mdrop l th w h hk hr tr sp wb (xs (i + 1)).toInt (iI_lo _) (iI_hi _) r73 fil r82) (lk_L_104 C.1.2.2.2.2 rfl rfl ⟨Nat.le_of_ble_eq_true rfl, Nat.le_of_ble_eq_true rfl⟩) rfl rfl (Nat.le_of_ble_eq_true rfl) d_L_law_512 ⟨rcA, rsA⟩ (fun b6 ad2 g2 hq => ?_)
  have e2 := rq_drop hq
  obtain ⟨kk, lf1, ⟨kk1, kk2⟩, ek, HX1, hbv⟩ := pu_drop HC HR HO HL h94 hp hq
  subst ek
  obtain ⟨w1, h1, hk1, hr1, tr1, sp1, wb1, n73, n94⟩ := RELx_73 HX1
  subst e2
  clear hp hq
  refine v_istore (lv' := [(6, .int b6), (5, .int (iI kk)), (0, .ref b), (1, .ref (ad1 0)), (2, .ref (ad1 73)), (3, .ref (ad1 94)), (4, .int (iI (i : Int)))]) C d_L_law_515 (by decide) rfl ?_
  refine v_aload_n C d_L_law_517 rfl 4 rfl ?_
  refine v_callVI (As := []) (st := []) (by decide) n73 rfl rfl C (c_Mthrown l kk w1 h1 hk1 hr1 tr1 sp1 wb1 n73) (lk_L_78 C.1.2.2.2.2 rfl rfl ⟨Nat.le_of_ble_eq_true rfl, Nat.le_of_ble_eq_true rfl⟩) rfl rfl (Nat.le_of_ble_eq_true rfl) d_L_law_518 ⟨rcA, rsA⟩ (fun w7 ad3 g3 hp3 => ?_)
  obtain ⟨rfl, rfl, rfl⟩ := hp3
  refine v_iload C d_L_law_521 1 rfl ?_
  refine v_icmp_eqI C d_L_law_523 (by omega) (by omega) (by omega) (by omega) (fun _ => ?_) (fun hz9 => absurd rfl hz9)
  refine v_iload C d_L_law_528 1 rfl ?_
  refine v_if_neI C d_L_law_530 (by omega) (by omega) (fun hb530 => ?_) (fun hb530 => ?_)
  · refine v_goto C d_L_law_552 ?_
    refine v_lv (lv' := [(0, .ref b), (1, .ref (ad1 0)), (2, .ref (ad1 73)), (3, .ref (ad1 94)), (4, .int (iI (i : Int)))]) [2, 3, 4, 5, 6] rfl ?_
    refine v_wid (k := cells + 26) (n := slots + 11556) (by omega) (by omega) ?_
    exact k _ _ ⟨kk, lf1, HX1⟩
  · refine v_aload_n C d_L_law_533 rfl 5 rfl ?_
    refine v_iconst C d_L_law_534 ?_
    refine v_lald C 2 (by decide) n94 rfl 0 rfl (by decide) (by decide) d_L_law_535 ?_
    refine v_iload C d_L_law_536 0 rfl ?_
    refine v_if_eq C d_L_law_538 (fun hb538 => ?_) (fun hb538 => ?_)
    · refine v_lconst C d_L_law_545 rfl ?_
      refine v_lcmp C d_L_law_546 ?_
      refine v_if_eq C d_L_law_547 (fun _ => ?_) (fun hz9 => absurd (by rw [hbv (by omega), if_pos hb538]; exact lcmp_self _) hz9)
      refine v_goto C d_L_law_552 ?_
      refine v_lv (lv' := [(0, .ref b), (1, .ref (ad1 0)), (2, .ref (ad1 73)), (3, .ref (ad1 94)), (4, .int (iI (i : Int)))]) [2, 3, 4, 5, 6] rfl ?_
      refine v_wid (k := cells + 26) (n := slots + 11556) (by omega) (by omega) ?_
      exact k _ _ ⟨kk, lf1, HX1⟩
    · refine v_lconst C d_L_law_541 rfl ?_
      refine v_goto C d_L_law_542 ?_
      refine v_lcmp C d_L_law_546 ?_
      refine v_if_eq C d_L_law_547 (fun _ => ?_) (fun hz9 => absurd (by rw [hbv (by omega), if_neg hb538]; exact lcmp_self _) hz9)
      refine v_goto C d_L_law_552 ?_
      refine v_lv (lv' := [(0, .ref b), (1, .ref (ad1 0)), (2, .ref (ad1 73)), (3, .ref (ad1 94)), (4, .int (iI (i : Int)))]) [2, 3, 4, 5, 6] rfl ?_
      refine v_wid (k := cells + 26) (n := slots + 11556) (by omega) (by omega) ?_
      exact k _ _ ⟨kk, lf1, HX1⟩
set_option maxHeartbeats 1000000 in
set_option maxRecDepth 100000 in
theorem st_bin (l : Launch) (hl : l.stackTraces = false) {p : Program} {e : Env} {s : State} {m : MethodId} {below : List Frame} {meth : Method} {c : Code} {Q : State → Prop} {B : Nat} {D : va_G} {cI cZ cL cS cW : ClassId} {b L : Nat} {xs : Nat → Int32} {i cells slots : Nat} {ad : Nat → Nat} {g : Nat → va_E} (C : Cx p m c s #[Value.ref b] b_L_law 7 R_L wG s.heap B D classes (tyL cI cZ cL cS cW) (Zs B)) (hX : va_X b L xs s s.heap) (hb : b < B) (hL : L < 2147483648) (hi : i + 3 < L) (hc : cells + 26 ≤ 601024) (hs : slots + 11556 ≤ 7293034) (HX : REL cI cZ cL cS cW ad g) (k : ∀ (ad1 : Nat → Nat) (g1 : Nat → va_E), REL cI cZ cL cS cW ad1 g1 → kV p l e room_1 s m #[Value.ref b] below meth c Q s.heap B D classes 7 95 (cells + 26) (slots + 11556) ad1 g1 [(0, .ref b), (1, .ref (ad1 0)), (2, .ref (ad1 73)), (3, .ref (ad1 94)), (4, .int (iI (i : Int)))] [] 1117) : kV p l e room_1 s m #[Value.ref b] below meth c Q s.heap B D classes 7 95 cells slots ad g [(0, .ref b), (1, .ref (ad 0)), (2, .ref (ad 73)), (3, .ref (ad 94)), (4, .int (iI (i : Int)))] [] 555 := by
  have i1 : i + 1 < L := by omega
  have j1 : (i : Int) + 1 = ((i + 1 : Nat) : Int) := by omega
  have i2 : i + 2 < L := by omega
  have j2 : (i : Int) + 2 = ((i + 2 : Nat) : Int) := by omega
  have i3 : i + 3 < L := by omega
  have j3 : (i : Int) + 3 = ((i + 3 : Nat) : Int) := by omega
  have rcA : cells + 3 ≤ 601024 := by omega
  have rsA : slots + 18 ≤ 7293034 := by omega
  obtain ⟨th, lf, w, h, hk, hr, sp, wb, tr, T, KT, nb, kn, nw, ct0, lo, bf, kf, un, uc, re, f, fk, rb, dr, gc, pic, kep, reb, tri, kno, tol, fil, kt, kfl, rP, rQ, kP, kQ, bns, kb, unk, lef, sum, spd, spg, HC, HR, HO, HL, h94⟩ := HX
  have HC1 := HC
  have HO1 := HO
  have HL1 := HL
  obtain ⟨c0, c1, c2, c3, c4, c5, c6, c7, c8, c9, c10, c11, c12, c13, c14, c15, c16⟩ := HC1
  obtain ⟨hw, hh, bT, bK, nbO, knO, nwO, geo, filO, posO, kkO, PQ, KPQ⟩ := HO1
  obtain ⟨lp, lk, lr, lsh, lkk⟩ := HL1
  refine v_aload_n C d_L_law_555 rfl 1 rfl ?_
  refine v_aload_n C d_L_law_556 rfl 0 rfl ?_
  refine v_iload C d_L_law_557 4 rfl ?_
  refine v_iconst C d_L_law_559 ?_
  refine v_iaddI C d_L_law_560 ?_
  refine v_sldI C hX hb (i + 1) j1 i1 hL d_L_law_561 ?_
  refine v_aload_n C d_L_law_562 rfl 0 rfl ?_
  refine v_iload C d_L_law_563 4 rfl ?_
  refine v_iconst C d_L_law_565 ?_
  refine v_iaddI C d_L_law_566 ?_
  refine v_sldI C hX hb (i + 2) j2 i2 hL d_L_law_567 ?_
  refine v_aload_n C d_L_law_568 rfl 3 rfl ?_
  refine v_xcallSH (As := [.ref (ad 0), .int (iI ((xs (i + 1)).toInt)), .int (iI ((xs (i + 2)).toInt)), .ref (ad 94)]) (st := []) C (hl_bin (post := fun v ad1 g1 => (∃ s0 : Nat, (s0 : Int) = (xs (i + 1)).toInt ∧ s0 < 8 ∧ (T s0).2.1 = true ∧ ∃ k0 : Nat, (k0 : Int) = (xs (i + 2)).toInt ∧ (xs (i + 2)).toInt < (T s0).2.2.2.2.2 ∧ v = bf s0 k0) ∧ ad = ad1 ∧ g = g1) (xp := fun E => (E = "java/lang/IndexOutOfBoundsException" ∧ (¬ (0 ≤ (xs (i + 1)).toInt ∧ (xs (i + 1)).toInt < 8) ∨ ∃ s0 : Nat, (s0 : Int) = (xs (i + 1)).toInt ∧ s0 < 8 ∧ (T s0).2.1 = true ∧ ¬ (0 ≤ (xs (i + 2)).toInt ∧ (xs (i + 2)).toInt < (T s0).2.2.2.2.2))) ∨ (E = "java/lang/IllegalStateException" ∧ ∃ s0 : Nat, (s0 : Int) = (xs (i + 1)).toInt ∧ s0 < 8 ∧ (T s0).2.1 = false)) l ((iI ((xs (i + 1)).toInt))) ((iI ((xs (i + 2)).toInt))) _ c0 lf h94 (fun r9 a9 g9 h9 => po_bin h94 h9) (fun E h9 => h9.elim (fun h8 => Or.inl h8.1) (fun h8 => Or.inr h8.1)) (c_bin l hl w h hk hr sp wb (xs (i + 1)).toInt (xs (i + 2)).toInt (iI_lo _) (iI_hi _) (iI_lo _) (iI_hi _) c0 c2 T bT c9 nb bf nbO c10 (fun j hj q => by have hq9 := okW_ct HO j hj (filO j hj q); omega) (fun j hj q => (geo j hj (filO j hj q)).2.2.2))) (lkh_bin C.1.2.2.2.2 rfl rfl ⟨Nat.le_of_ble_eq_true rfl, Nat.le_of_ble_eq_true rfl⟩) rfl rfl (Nat.le_of_ble_eq_true rfl) d_L_law_569 ⟨rcA, rsA⟩ (fun k5 ad1 g1 hp => ?_)
  obtain ⟨m1, m2, m0⟩ := mid_bin hp
  have HR1 := rfW_fr HR m1 (fun r9 a9 _ => m2 r9 a9)
  obtain ⟨r73, r74, r75, r76, r77, r78, r79, r80, r81, r82, r83, r84, r85, r86, r87, r88, r89, r90, r91, r92, r93⟩ := HR1
  refine v_lvE (lv' := [(0, .ref b), (1, .ref (ad1 0)), (2, .ref (ad1 73)), (3, .ref (ad1 94)), (4, .int (iI (i : Int)))]) (by rw [m0, m2 73 (by decide), m2 94 (by decide)]) ?_
  refine v_istore (lv' := [(5, .int k5), (0, .ref b), (1, .ref (ad1 0)), (2, .ref (ad1 73)), (3, .ref (ad1 94)), (4, .int (iI (i : Int)))]) C d_L_law_572 (by decide) rfl ?_
  refine v_aload_n C d_L_law_574 rfl 3 rfl ?_
  refine v_aload_n C d_L_law_575 rfl 1 rfl ?_
  refine v_iload C d_L_law_576 5 rfl ?_
  refine v_iconst C d_L_law_578 ?_
  refine v_iaddI C d_L_law_579 ?_
  refine v_sldI C hX hb (i + 1) j1 i1 hL d_L_law_580 ?_
  refine v_aload_n C d_L_law_581 rfl 1 rfl ?_
  refine v_iload C d_L_law_582 5 rfl ?_
  refine v_iconst C d_L_law_584 ?_
  refine v_iaddI C d_L_law_585 ?_
  refine v_sldI C hX hb (i + 2) j2 i2 hL d_L_law_586 ?_
  refine v_callVI (As := [.int (iI ((xs (i + 1)).toInt)), .int (iI ((xs (i + 2)).toInt))]) (st := []) (by decide) r73 rfl rfl C (c_Mbin l th w h hk hr tr sp wb (xs (i + 1)).toInt (xs (i + 2)).toInt (iI_lo _) (iI_hi _) (iI_lo _) (iI_hi _) hw hh r73 tol r79 rP r80 rQ r81 fil r82 bns r83 PQ) (lk_L_107 C.1.2.2.2.2 rfl rfl ⟨Nat.le_of_ble_eq_true rfl, Nat.le_of_ble_eq_true rfl⟩) rfl rfl (Nat.le_of_ble_eq_true rfl) d_L_law_587 ⟨rcA, rsA⟩ (fun b6 ad2 g2 hq => ?_)
  have e2 := rq_bin hq
  obtain ⟨kk, lf1, ⟨kk1, kk2⟩, ek, HX1, hbv⟩ := pu_bin HC HR HO HL h94 hp hq
  subst ek
  obtain ⟨w1, h1, hk1, hr1, tr1, sp1, wb1, n73, n94⟩ := RELx_73 HX1
  subst e2
  clear hp hq
  refine v_istore (lv' := [(6, .int b6), (5, .int (iI kk)), (0, .ref b), (1, .ref (ad1 0)), (2, .ref (ad1 73)), (3, .ref (ad1 94)), (4, .int (iI (i : Int)))]) C d_L_law_590 (by decide) rfl ?_
  refine v_aload_n C d_L_law_592 rfl 4 rfl ?_
  refine v_callVI (As := []) (st := []) (by decide) n73 rfl rfl C (c_Mthrown l kk w1 h1 hk1 hr1 tr1 sp1 wb1 n73) (lk_L_78 C.1.2.2.2.2 rfl rfl ⟨Nat.le_of_ble_eq_true rfl, Nat.le_of_ble_eq_true rfl⟩) rfl rfl (Nat.le_of_ble_eq_true rfl) d_L_law_593 ⟨rcA, rsA⟩ (fun w7 ad3 g3 hp3 => ?_)
  obtain ⟨rfl, rfl, rfl⟩ := hp3
  refine v_iload C d_L_law_596 1 rfl ?_
  refine v_icmp_eqI C d_L_law_598 (by omega) (by omega) (by omega) (by omega) (fun _ => ?_) (fun hz9 => absurd rfl hz9)
  refine v_iload C d_L_law_603 1 rfl ?_
  refine v_if_neI C d_L_law_605 (by omega) (by omega) (fun hb605 => ?_) (fun hb605 => ?_)
  · refine v_goto C d_L_law_620 ?_
    refine v_lv (lv' := [(0, .ref b), (1, .ref (ad1 0)), (2, .ref (ad1 73)), (3, .ref (ad1 94)), (4, .int (iI (i : Int)))]) [2, 3, 4, 5, 6] rfl ?_
    refine v_wid (k := cells + 26) (n := slots + 11556) (by omega) (by omega) ?_
    exact k _ _ ⟨kk, lf1, HX1⟩
  · refine v_aload_n C d_L_law_608 rfl 5 rfl ?_
    refine v_iconst C d_L_law_609 ?_
    refine v_lald C 2 (by decide) n94 rfl 0 rfl (by decide) (by decide) d_L_law_610 ?_
    refine v_iload C d_L_law_611 0 rfl ?_
    refine v_i2l C d_L_law_613 ?_
    refine v_lcmp C d_L_law_614 ?_
    refine v_if_eq C d_L_law_615 (fun _ => ?_) (fun hz9 => absurd (by rw [hbv (by omega)]; exact lcmp_self _) hz9)
    refine v_goto C d_L_law_620 ?_
    refine v_lv (lv' := [(0, .ref b), (1, .ref (ad1 0)), (2, .ref (ad1 73)), (3, .ref (ad1 94)), (4, .int (iI (i : Int)))]) [2, 3, 4, 5, 6] rfl ?_
    refine v_wid (k := cells + 26) (n := slots + 11556) (by omega) (by omega) ?_
    exact k _ _ ⟨kk, lf1, HX1⟩
set_option maxHeartbeats 1000000 in
set_option maxRecDepth 100000 in
theorem st_put (l : Launch) (hl : l.stackTraces = false) {p : Program} {e : Env} {s : State} {m : MethodId} {below : List Frame} {meth : Method} {c : Code} {Q : State → Prop} {B : Nat} {D : va_G} {cI cZ cL cS cW : ClassId} {b L : Nat} {xs : Nat → Int32} {i cells slots : Nat} {ad : Nat → Nat} {g : Nat → va_E} (C : Cx p m c s #[Value.ref b] b_L_law 7 R_L wG s.heap B D classes (tyL cI cZ cL cS cW) (Zs B)) (hX : va_X b L xs s s.heap) (hb : b < B) (hL : L < 2147483648) (hi : i + 3 < L) (hc : cells + 26 ≤ 601024) (hs : slots + 11556 ≤ 7293034) (HX : REL cI cZ cL cS cW ad g) (k : ∀ (ad1 : Nat → Nat) (g1 : Nat → va_E), REL cI cZ cL cS cW ad1 g1 → kV p l e room_1 s m #[Value.ref b] below meth c Q s.heap B D classes 7 95 (cells + 26) (slots + 11556) ad1 g1 [(0, .ref b), (1, .ref (ad1 0)), (2, .ref (ad1 73)), (3, .ref (ad1 94)), (4, .int (iI (i : Int)))] [] 1117) : kV p l e room_1 s m #[Value.ref b] below meth c Q s.heap B D classes 7 95 cells slots ad g [(0, .ref b), (1, .ref (ad 0)), (2, .ref (ad 73)), (3, .ref (ad 94)), (4, .int (iI (i : Int)))] [] 623 := by
  have i1 : i + 1 < L := by omega
  have j1 : (i : Int) + 1 = ((i + 1 : Nat) : Int) := by omega
  have i2 : i + 2 < L := by omega
  have j2 : (i : Int) + 2 = ((i + 2 : Nat) : Int) := by omega
  have i3 : i + 3 < L := by omega
  have j3 : (i : Int) + 3 = ((i + 3 : Nat) : Int) := by omega
  have rcA : cells + 3 ≤ 601024 := by omega
  have rsA : slots + 18 ≤ 7293034 := by omega
  obtain ⟨th, lf, w, h, hk, hr, sp, wb, tr, T, KT, nb, kn, nw, ct0, lo, bf, kf, un, uc, re, f, fk, rb, dr, gc, pic, kep, reb, tri, kno, tol, fil, kt, kfl, rP, rQ, kP, kQ, bns, kb, unk, lef, sum, spd, spg, HC, HR, HO, HL, h94⟩ := HX
  have HC1 := HC
  have HO1 := HO
  have HL1 := HL
  obtain ⟨c0, c1, c2, c3, c4, c5, c6, c7, c8, c9, c10, c11, c12, c13, c14, c15, c16⟩ := HC1
  obtain ⟨hw, hh, bT, bK, nbO, knO, nwO, geo, filO, posO, kkO, PQ, KPQ⟩ := HO1
  obtain ⟨lp, lk, lr, lsh, lkk⟩ := HL1
  refine v_aload_n C d_L_law_623 rfl 1 rfl ?_
  refine v_aload_n C d_L_law_624 rfl 0 rfl ?_
  refine v_iload C d_L_law_625 4 rfl ?_
  refine v_iconst C d_L_law_627 ?_
  refine v_iaddI C d_L_law_628 ?_
  refine v_sldI C hX hb (i + 1) j1 i1 hL d_L_law_629 ?_
  refine v_aload_n C d_L_law_630 rfl 0 rfl ?_
  refine v_iload C d_L_law_631 4 rfl ?_
  refine v_iconst C d_L_law_633 ?_
  refine v_iaddI C d_L_law_634 ?_
  refine v_sldI C hX hb (i + 2) j2 i2 hL d_L_law_635 ?_
  refine v_aload_n C d_L_law_636 rfl 0 rfl ?_
  refine v_iload C d_L_law_637 4 rfl ?_
  refine v_iconst C d_L_law_639 ?_
  refine v_iaddI C d_L_law_640 ?_
  refine v_sldI C hX hb (i + 3) j3 i3 hL d_L_law_641 ?_
  refine v_aload_n C d_L_law_642 rfl 3 rfl ?_
  refine v_xcallSH (As := [.ref (ad 0), .int (iI ((xs (i + 1)).toInt)), .int (iI ((xs (i + 2)).toInt)), .int (iI ((xs (i + 3)).toInt)), .ref (ad 94)]) (st := []) C (hl_put (post := fun v ad1 g1 => ∃ s0 : Nat, (s0 : Int) = (xs (i + 1)).toInt ∧ s0 < 8 ∧ (T s0).2.1 = true ∧ ∃ k0 : Nat, (k0 : Int) = (xs (i + 2)).toInt ∧ (xs (i + 2)).toInt < (T s0).2.2.2.2.2 ∧ v = bf s0 k0 ∧ ad = ad1 ∧ g1 (9 + 8 * s0 + 1) = inA cI 481 (upd (bf s0) k0 (iI (xs (i + 3)).toInt)) ∧ ∀ r1, r1 ≠ 9 + 8 * s0 + 1 → g1 r1 = g r1) (xp := fun E => (E = "java/lang/IndexOutOfBoundsException" ∧ (¬ (0 ≤ (xs (i + 1)).toInt ∧ (xs (i + 1)).toInt < 8) ∨ ∃ s0 : Nat, (s0 : Int) = (xs (i + 1)).toInt ∧ s0 < 8 ∧ (T s0).2.1 = true ∧ ¬ (0 ≤ (xs (i + 2)).toInt ∧ (xs (i + 2)).toInt < (T s0).2.2.2.2.2))) ∨ (E = "java/lang/IllegalStateException" ∧ ∃ s0 : Nat, (s0 : Int) = (xs (i + 1)).toInt ∧ s0 < 8 ∧ (T s0).2.1 = false)) l ((iI ((xs (i + 1)).toInt))) ((iI ((xs (i + 2)).toInt))) ((iI ((xs (i + 3)).toInt))) _ c0 lf h94 (fun r9 a9 g9 h9 => po_put h94 h9) (fun E h9 => h9.elim (fun h8 => Or.inl h8.1) (fun h8 => Or.inr h8.1)) (c_put l hl w h hk hr sp wb (xs (i + 1)).toInt (xs (i + 2)).toInt (iI (xs (i + 3)).toInt) (iI_lo _) (iI_hi _) (iI_lo _) (iI_hi _) c0 c2 T bT c9 nb bf nbO c10 (fun j hj q => by have hq9 := okW_ct HO j hj (filO j hj q); omega) (fun j hj q => (geo j hj (filO j hj q)).2.2.2))) (lkh_put C.1.2.2.2.2 rfl rfl ⟨Nat.le_of_ble_eq_true rfl, Nat.le_of_ble_eq_true rfl⟩) rfl rfl (Nat.le_of_ble_eq_true rfl) d_L_law_643 ⟨rcA, rsA⟩ (fun k5 ad1 g1 hp => ?_)
  obtain ⟨m1, m2, m0⟩ := mid_put hp
  have HR1 := rfW_fr HR m1 (fun r9 a9 _ => m2 r9 a9)
  obtain ⟨r73, r74, r75, r76, r77, r78, r79, r80, r81, r82, r83, r84, r85, r86, r87, r88, r89, r90, r91, r92, r93⟩ := HR1
  refine v_lvE (lv' := [(0, .ref b), (1, .ref (ad1 0)), (2, .ref (ad1 73)), (3, .ref (ad1 94)), (4, .int (iI (i : Int)))]) (by rw [m0, m2 73 (by decide), m2 94 (by decide)]) ?_
  refine v_istore (lv' := [(5, .int k5), (0, .ref b), (1, .ref (ad1 0)), (2, .ref (ad1 73)), (3, .ref (ad1 94)), (4, .int (iI (i : Int)))]) C d_L_law_646 (by decide) rfl ?_
  refine v_aload_n C d_L_law_648 rfl 3 rfl ?_
  refine v_aload_n C d_L_law_649 rfl 1 rfl ?_
  refine v_iload C d_L_law_650 5 rfl ?_
  refine v_iconst C d_L_law_652 ?_
  refine v_iaddI C d_L_law_653 ?_
  refine v_sldI C hX hb (i + 1) j1 i1 hL d_L_law_654 ?_
  refine v_aload_n C d_L_law_655 rfl 1 rfl ?_
  refine v_iload C d_L_law_656 5 rfl ?_
  refine v_iconst C d_L_law_658 ?_
  refine v_iaddI C d_L_law_659 ?_
  refine v_sldI C hX hb (i + 2) j2 i2 hL d_L_law_660 ?_
  refine v_aload_n C d_L_law_661 rfl 1 rfl ?_
  refine v_iload C d_L_law_662 5 rfl ?_
  refine v_iconst C d_L_law_664 ?_
  refine v_iaddI C d_L_law_665 ?_
  refine v_sldI C hX hb (i + 3) j3 i3 hL d_L_law_666 ?_
  refine v_callVI (As := [.int (iI ((xs (i + 1)).toInt)), .int (iI ((xs (i + 2)).toInt)), .int (iI ((xs (i + 3)).toInt))]) (st := []) (by decide) r73 rfl rfl C (c_Mput l th w h hk hr tr sp wb (xs (i + 1)).toInt (xs (i + 2)).toInt (iI (xs (i + 3)).toInt) (iI_lo _) (iI_hi _) (iI_lo _) (iI_hi _) hw hh r73 tol r79 rP r80 rQ r81 fil r82 bns r83 PQ) (lk_L_110 C.1.2.2.2.2 rfl rfl ⟨Nat.le_of_ble_eq_true rfl, Nat.le_of_ble_eq_true rfl⟩) rfl rfl (Nat.le_of_ble_eq_true rfl) d_L_law_667 ⟨rcA, rsA⟩ (fun b6 ad2 g2 hq => ?_)
  have e2 := rq_put hq
  obtain ⟨kk, lf1, ⟨kk1, kk2⟩, ek, HX1, hbv⟩ := pu_put HC HR HO HL h94 hp hq
  subst ek
  obtain ⟨w1, h1, hk1, hr1, tr1, sp1, wb1, n73, n94⟩ := RELx_73 HX1
  subst e2
  clear hp hq
  refine v_istore (lv' := [(6, .int b6), (5, .int (iI kk)), (0, .ref b), (1, .ref (ad1 0)), (2, .ref (ad1 73)), (3, .ref (ad1 94)), (4, .int (iI (i : Int)))]) C d_L_law_670 (by decide) rfl ?_
  refine v_aload_n C d_L_law_672 rfl 4 rfl ?_
  refine v_callVI (As := []) (st := []) (by decide) n73 rfl rfl C (c_Mthrown l kk w1 h1 hk1 hr1 tr1 sp1 wb1 n73) (lk_L_78 C.1.2.2.2.2 rfl rfl ⟨Nat.le_of_ble_eq_true rfl, Nat.le_of_ble_eq_true rfl⟩) rfl rfl (Nat.le_of_ble_eq_true rfl) d_L_law_673 ⟨rcA, rsA⟩ (fun w7 ad3 g3 hp3 => ?_)
  obtain ⟨rfl, rfl, rfl⟩ := hp3
  refine v_iload C d_L_law_676 1 rfl ?_
  refine v_icmp_eqI C d_L_law_678 (by omega) (by omega) (by omega) (by omega) (fun _ => ?_) (fun hz9 => absurd rfl hz9)
  refine v_iload C d_L_law_683 1 rfl ?_
  refine v_if_neI C d_L_law_685 (by omega) (by omega) (fun hb685 => ?_) (fun hb685 => ?_)
  · refine v_goto C d_L_law_700 ?_
    refine v_lv (lv' := [(0, .ref b), (1, .ref (ad1 0)), (2, .ref (ad1 73)), (3, .ref (ad1 94)), (4, .int (iI (i : Int)))]) [2, 3, 4, 5, 6] rfl ?_
    refine v_wid (k := cells + 26) (n := slots + 11556) (by omega) (by omega) ?_
    exact k _ _ ⟨kk, lf1, HX1⟩
  · refine v_aload_n C d_L_law_688 rfl 5 rfl ?_
    refine v_iconst C d_L_law_689 ?_
    refine v_lald C 2 (by decide) n94 rfl 0 rfl (by decide) (by decide) d_L_law_690 ?_
    refine v_iload C d_L_law_691 0 rfl ?_
    refine v_i2l C d_L_law_693 ?_
    refine v_lcmp C d_L_law_694 ?_
    refine v_if_eq C d_L_law_695 (fun _ => ?_) (fun hz9 => absurd (by rw [hbv (by omega)]; exact lcmp_self _) hz9)
    refine v_goto C d_L_law_700 ?_
    refine v_lv (lv' := [(0, .ref b), (1, .ref (ad1 0)), (2, .ref (ad1 73)), (3, .ref (ad1 94)), (4, .int (iI (i : Int)))]) [2, 3, 4, 5, 6] rfl ?_
    refine v_wid (k := cells + 26) (n := slots + 11556) (by omega) (by omega) ?_
    exact k _ _ ⟨kk, lf1, HX1⟩
set_option maxHeartbeats 1000000 in
set_option maxRecDepth 100000 in
theorem st_enough (l : Launch) (hl : l.stackTraces = false) {p : Program} {e : Env} {s : State} {m : MethodId} {below : List Frame} {meth : Method} {c : Code} {Q : State → Prop} {B : Nat} {D : va_G} {cI cZ cL cS cW : ClassId} {b L : Nat} {xs : Nat → Int32} {i cells slots : Nat} {ad : Nat → Nat} {g : Nat → va_E} (C : Cx p m c s #[Value.ref b] b_L_law 7 R_L wG s.heap B D classes (tyL cI cZ cL cS cW) (Zs B)) (hX : va_X b L xs s s.heap) (hb : b < B) (hL : L < 2147483648) (hi : i + 3 < L) (hc : cells + 26 ≤ 601024) (hs : slots + 11556 ≤ 7293034) (HX : REL cI cZ cL cS cW ad g) (k : ∀ (ad1 : Nat → Nat) (g1 : Nat → va_E), REL cI cZ cL cS cW ad1 g1 → kV p l e room_1 s m #[Value.ref b] below meth c Q s.heap B D classes 7 95 (cells + 26) (slots + 11556) ad1 g1 [(0, .ref b), (1, .ref (ad1 0)), (2, .ref (ad1 73)), (3, .ref (ad1 94)), (4, .int (iI (i : Int)))] [] 1117) : kV p l e room_1 s m #[Value.ref b] below meth c Q s.heap B D classes 7 95 cells slots ad g [(0, .ref b), (1, .ref (ad 0)), (2, .ref (ad 73)), (3, .ref (ad 94)), (4, .int (iI (i : Int)))] [] 703 := by
  have i1 : i + 1 < L := by omega
  have j1 : (i : Int) + 1 = ((i + 1 : Nat) : Int) := by omega
  have i2 : i + 2 < L := by omega
  have j2 : (i : Int) + 2 = ((i + 2 : Nat) : Int) := by omega
  have i3 : i + 3 < L := by omega
  have j3 : (i : Int) + 3 = ((i + 3 : Nat) : Int) := by omega
  have rcA : cells + 1 ≤ 601024 := by omega
  have rsA : slots + 6 ≤ 7293034 := by omega
  obtain ⟨th, lf, w, h, hk, hr, sp, wb, tr, T, KT, nb, kn, nw, ct0, lo, bf, kf, un, uc, re, f, fk, rb, dr, gc, pic, kep, reb, tri, kno, tol, fil, kt, kfl, rP, rQ, kP, kQ, bns, kb, unk, lef, sum, spd, spg, HC, HR, HO, HL, h94⟩ := HX
  have HC1 := HC
  have HO1 := HO
  have HL1 := HL
  obtain ⟨c0, c1, c2, c3, c4, c5, c6, c7, c8, c9, c10, c11, c12, c13, c14, c15, c16⟩ := HC1
  obtain ⟨hw, hh, bT, bK, nbO, knO, nwO, geo, filO, posO, kkO, PQ, KPQ⟩ := HO1
  obtain ⟨lp, lk, lr, lsh, lkk⟩ := HL1
  refine v_aload_n C d_L_law_703 rfl 1 rfl ?_
  refine v_aload_n C d_L_law_704 rfl 0 rfl ?_
  refine v_iload C d_L_law_705 4 rfl ?_
  refine v_iconst C d_L_law_707 ?_
  refine v_iaddI C d_L_law_708 ?_
  refine v_sldI C hX hb (i + 1) j1 i1 hL d_L_law_709 ?_
  refine v_aload_n C d_L_law_710 rfl 3 rfl ?_
  refine v_xcallSH (As := [.ref (ad 0), .int (iI ((xs (i + 1)).toInt)), .ref (ad 94)]) (st := []) C (hl_enough (post := fun v9 ad1 g1 => ∃ v, v9 = bI v ∧ ((0 ≤ (xs (i + 1)).toInt ∧ (xs (i + 1)).toInt < 256 ∧ v = decide ((w : Int) ≤ sI 8 (fun j => if Nat.testBit (mkM (fun j => Nat.testBit (xs (i + 1)).toInt.toNat j && (T j).1) 8) j = true then aI (T j).2.2.1 else 0) ∨ (h : Int) ≤ sI 8 (fun j => if Nat.testBit (mkM (fun j => Nat.testBit (xs (i + 1)).toInt.toNat j && (T j).1) 8) j = true then (T j).2.2.2.1 else 0))) ∧ ad = ad1 ∧ g = g1)) (xp := fun E => E = "java/lang/IllegalArgumentException" ∧ ¬ (0 ≤ (xs (i + 1)).toInt ∧ (xs (i + 1)).toInt < 256)) l ((iI ((xs (i + 1)).toInt))) _ c0 lf h94 (fun r9 a9 g9 h9 => po_enough h94 h9) (fun E h9 => h9.1) (c_enough l hl w h hk hr sp wb (xs (i + 1)).toInt (iI_lo _) (iI_hi _) hw hh c0 c2 T bT c9)) (lkh_enough C.1.2.2.2.2 rfl rfl ⟨Nat.le_of_ble_eq_true rfl, Nat.le_of_ble_eq_true rfl⟩) rfl rfl (Nat.le_of_ble_eq_true rfl) d_L_law_711 ⟨rcA, rsA⟩ (fun k5 ad1 g1 hp => ?_)
  obtain ⟨m1, m2, m0⟩ := mid_enough hp
  have HR1 := rfW_fr HR m1 (fun r9 a9 _ => m2 r9 a9)
  obtain ⟨r73, r74, r75, r76, r77, r78, r79, r80, r81, r82, r83, r84, r85, r86, r87, r88, r89, r90, r91, r92, r93⟩ := HR1
  refine v_lvE (lv' := [(0, .ref b), (1, .ref (ad1 0)), (2, .ref (ad1 73)), (3, .ref (ad1 94)), (4, .int (iI (i : Int)))]) (by rw [m0, m2 73 (by decide), m2 94 (by decide)]) ?_
  refine v_istore (lv' := [(5, .int k5), (0, .ref b), (1, .ref (ad1 0)), (2, .ref (ad1 73)), (3, .ref (ad1 94)), (4, .int (iI (i : Int)))]) C d_L_law_714 (by decide) rfl ?_
  refine v_aload_n C d_L_law_716 rfl 3 rfl ?_
  refine v_aload_n C d_L_law_717 rfl 1 rfl ?_
  refine v_iload C d_L_law_718 5 rfl ?_
  refine v_iconst C d_L_law_720 ?_
  refine v_iaddI C d_L_law_721 ?_
  refine v_sldI C hX hb (i + 1) j1 i1 hL d_L_law_722 ?_
  refine v_callVI (As := [.int (iI ((xs (i + 1)).toInt))]) (st := []) (by decide) r73 rfl rfl C (c_Menough l th w h hk hr tr sp wb (xs (i + 1)).toInt (iI_lo _) (iI_hi _) hw hh r73 tol r79 rP r80 rQ r81 PQ) (lk_L_113 C.1.2.2.2.2 rfl rfl ⟨Nat.le_of_ble_eq_true rfl, Nat.le_of_ble_eq_true rfl⟩) rfl rfl (Nat.le_of_ble_eq_true rfl) d_L_law_723 ⟨rcA, rsA⟩ (fun b6 ad2 g2 hq => ?_)
  have e2 := rq_enough hq
  obtain ⟨kk, lf1, ⟨kk1, kk2⟩, ek, HX1, hbv⟩ := pu_enough HC HR HO HL h94 hp hq
  subst ek
  obtain ⟨w1, h1, hk1, hr1, tr1, sp1, wb1, n73, n94⟩ := RELx_73 HX1
  subst e2
  clear hp hq
  refine v_istore (lv' := [(6, .int b6), (5, .int (iI kk)), (0, .ref b), (1, .ref (ad1 0)), (2, .ref (ad1 73)), (3, .ref (ad1 94)), (4, .int (iI (i : Int)))]) C d_L_law_726 (by decide) rfl ?_
  refine v_aload_n C d_L_law_728 rfl 4 rfl ?_
  refine v_callVI (As := []) (st := []) (by decide) n73 rfl rfl C (c_Mthrown l kk w1 h1 hk1 hr1 tr1 sp1 wb1 n73) (lk_L_78 C.1.2.2.2.2 rfl rfl ⟨Nat.le_of_ble_eq_true rfl, Nat.le_of_ble_eq_true rfl⟩) rfl rfl (Nat.le_of_ble_eq_true rfl) d_L_law_729 ⟨rcA, rsA⟩ (fun w7 ad3 g3 hp3 => ?_)
  obtain ⟨rfl, rfl, rfl⟩ := hp3
  refine v_iload C d_L_law_732 1 rfl ?_
  refine v_icmp_eqI C d_L_law_734 (by omega) (by omega) (by omega) (by omega) (fun _ => ?_) (fun hz9 => absurd rfl hz9)
  refine v_iload C d_L_law_739 1 rfl ?_
  refine v_if_neI C d_L_law_741 (by omega) (by omega) (fun hb741 => ?_) (fun hb741 => ?_)
  · refine v_goto C d_L_law_763 ?_
    refine v_lv (lv' := [(0, .ref b), (1, .ref (ad1 0)), (2, .ref (ad1 73)), (3, .ref (ad1 94)), (4, .int (iI (i : Int)))]) [2, 3, 4, 5, 6] rfl ?_
    refine v_wid (k := cells + 26) (n := slots + 11556) (by omega) (by omega) ?_
    exact k _ _ ⟨kk, lf1, HX1⟩
  · refine v_aload_n C d_L_law_744 rfl 5 rfl ?_
    refine v_iconst C d_L_law_745 ?_
    refine v_lald C 2 (by decide) n94 rfl 0 rfl (by decide) (by decide) d_L_law_746 ?_
    refine v_iload C d_L_law_747 0 rfl ?_
    refine v_if_eq C d_L_law_749 (fun hb749 => ?_) (fun hb749 => ?_)
    · refine v_lconst C d_L_law_756 rfl ?_
      refine v_lcmp C d_L_law_757 ?_
      refine v_if_eq C d_L_law_758 (fun _ => ?_) (fun hz9 => absurd (by rw [hbv (by omega), if_pos hb749]; exact lcmp_self _) hz9)
      refine v_goto C d_L_law_763 ?_
      refine v_lv (lv' := [(0, .ref b), (1, .ref (ad1 0)), (2, .ref (ad1 73)), (3, .ref (ad1 94)), (4, .int (iI (i : Int)))]) [2, 3, 4, 5, 6] rfl ?_
      refine v_wid (k := cells + 26) (n := slots + 11556) (by omega) (by omega) ?_
      exact k _ _ ⟨kk, lf1, HX1⟩
    · refine v_lconst C d_L_law_752 rfl ?_
      refine v_goto C d_L_law_753 ?_
      refine v_lcmp C d_L_law_757 ?_
      refine v_if_eq C d_L_law_758 (fun _ => ?_) (fun hz9 => absurd (by rw [hbv (by omega), if_neg hb749]; exact lcmp_self _) hz9)
      refine v_goto C d_L_law_763 ?_
      refine v_lv (lv' := [(0, .ref b), (1, .ref (ad1 0)), (2, .ref (ad1 73)), (3, .ref (ad1 94)), (4, .int (iI (i : Int)))]) [2, 3, 4, 5, 6] rfl ?_
      refine v_wid (k := cells + 26) (n := slots + 11556) (by omega) (by omega) ?_
      exact k _ _ ⟨kk, lf1, HX1⟩
set_option maxHeartbeats 1000000 in
set_option maxRecDepth 100000 in
theorem st_rebuild (l : Launch) (hl : l.stackTraces = false) {p : Program} {e : Env} {s : State} {m : MethodId} {below : List Frame} {meth : Method} {c : Code} {Q : State → Prop} {B : Nat} {D : va_G} {cI cZ cL cS cW : ClassId} {b L : Nat} {xs : Nat → Int32} {i cells slots : Nat} {ad : Nat → Nat} {g : Nat → va_E} (C : Cx p m c s #[Value.ref b] b_L_law 7 R_L wG s.heap B D classes (tyL cI cZ cL cS cW) (Zs B)) (hX : va_X b L xs s s.heap) (hb : b < B) (hL : L < 2147483648) (hi : i + 3 < L) (hc : cells + 26 ≤ 601024) (hs : slots + 11556 ≤ 7293034) (HX : REL cI cZ cL cS cW ad g) (k : ∀ (ad1 : Nat → Nat) (g1 : Nat → va_E), REL cI cZ cL cS cW ad1 g1 → kV p l e room_1 s m #[Value.ref b] below meth c Q s.heap B D classes 7 95 (cells + 26) (slots + 11556) ad1 g1 [(0, .ref b), (1, .ref (ad1 0)), (2, .ref (ad1 73)), (3, .ref (ad1 94)), (4, .int (iI (i : Int)))] [] 1117) : kV p l e room_1 s m #[Value.ref b] below meth c Q s.heap B D classes 7 95 cells slots ad g [(0, .ref b), (1, .ref (ad 0)), (2, .ref (ad 73)), (3, .ref (ad 94)), (4, .int (iI (i : Int)))] [] 766 := by
  have i1 : i + 1 < L := by omega
  have j1 : (i : Int) + 1 = ((i + 1 : Nat) : Int) := by omega
  have i2 : i + 2 < L := by omega
  have j2 : (i : Int) + 2 = ((i + 2 : Nat) : Int) := by omega
  have i3 : i + 3 < L := by omega
  have j3 : (i : Int) + 3 = ((i + 3 : Nat) : Int) := by omega
  have rcA : cells + 26 ≤ 601024 := by omega
  have rsA : slots + 11556 ≤ 7293034 := by omega
  obtain ⟨th, lf, w, h, hk, hr, sp, wb, tr, T, KT, nb, kn, nw, ct0, lo, bf, kf, un, uc, re, f, fk, rb, dr, gc, pic, kep, reb, tri, kno, tol, fil, kt, kfl, rP, rQ, kP, kQ, bns, kb, unk, lef, sum, spd, spg, HC, HR, HO, HL, h94⟩ := HX
  have HC1 := HC
  have HO1 := HO
  have HL1 := HL
  obtain ⟨c0, c1, c2, c3, c4, c5, c6, c7, c8, c9, c10, c11, c12, c13, c14, c15, c16⟩ := HC1
  obtain ⟨hw, hh, bT, bK, nbO, knO, nwO, geo, filO, posO, kkO, PQ, KPQ⟩ := HO1
  obtain ⟨lp, lk, lr, lsh, lkk⟩ := HL1
  refine v_aload_n C d_L_law_766 rfl 1 rfl ?_
  refine v_aload_n C d_L_law_767 rfl 0 rfl ?_
  refine v_iload C d_L_law_768 4 rfl ?_
  refine v_iconst C d_L_law_770 ?_
  refine v_iaddI C d_L_law_771 ?_
  refine v_sldI C hX hb (i + 1) j1 i1 hL d_L_law_772 ?_
  refine v_aload_n C d_L_law_773 rfl 3 rfl ?_
  refine v_xcallSH (As := [.ref (ad 0), .int (iI ((xs (i + 1)).toInt)), .ref (ad 94)]) (st := []) C (hl_rebuild (post := fun v ad1 g1 => 0 ≤ (xs (i + 1)).toInt ∧ (xs (i + 1)).toInt < 256 ∧ (∀ j, j < 8 → Nat.testBit (mkM (fun j => Nat.testBit (xs (i + 1)).toInt.toNat j && (T j).1) 8) j = true → (T j).2.1 = true) ∧ ∃ (n : Nat) (K9 : Nat → Bool) (val rb1 : Nat → Int32) (hr1 : Bool) (wb1 : Int), Dn w h (fun j => Nat.testBit (mkM (fun j => Nat.testBit (xs (i + 1)).toInt.toNat j && (T j).1) 8) j) (fun j c => bnN (T j).2.2.1 (T j).2.2.2.1 w h (c % 16) (c / 16)) (fun j => ctN (T j).2.2.1 (T j).2.2.2.1 w h) bf n K9 val ∧ ((n < w * h ∧ v = iI (-1) ∧ rb1 = rb ∧ hr1 = hr ∧ wb1 = -1) ∨ (n = w * h ∧ hr1 = true ∧ (∀ c, K9 c = true → rb1 c = val c) ∧ ((v = iI 99 ∧ wb1 = -1 ∧ ∀ j, j < 8 → Nat.testBit (mkM (fun j => Nat.testBit (xs (i + 1)).toInt.toNat j && (T j).1) 8) j = true → ∀ k, k < ctN (T j).2.2.1 (T j).2.2.2.1 w h → rst w h K9 (fun c => bnN (T j).2.2.1 (T j).2.2.2.1 w h (c % 16) (c / 16)) (bf j) val k = 0) ∨ (∃ s0 k0 : Nat, s0 < 8 ∧ Nat.testBit (mkM (fun j => Nat.testBit (xs (i + 1)).toInt.toNat j && (T j).1) 8) s0 = true ∧ k0 < ctN (T s0).2.2.1 (T s0).2.2.2.1 w h ∧ rst w h K9 (fun c => bnN (T s0).2.2.1 (T s0).2.2.2.1 w h (c % 16) (c / 16)) (bf s0) val k0 ≠ 0 ∧ (∀ k, k < k0 → rst w h K9 (fun c => bnN (T s0).2.2.1 (T s0).2.2.2.1 w h (c % 16) (c / 16)) (bf s0) val k = 0) ∧ (∀ j, j < s0 → Nat.testBit (mkM (fun j => Nat.testBit (xs (i + 1)).toInt.toNat j && (T j).1) 8) j = true → ∀ k, k < ctN (T j).2.2.1 (T j).2.2.2.1 w h → rst w h K9 (fun c => bnN (T j).2.2.1 (T j).2.2.2.1 w h (c % 16) (c / 16)) (bf j) val k = 0) ∧ v = iI (s0 : Int) ∧ wb1 = (k0 : Int))))) ∧ g1 0 = xE ad1 w h hk hr1 (n : Int) wb1 ∧ g1 5 = inA cI 256 rb1 ∧ ∃ (dr1 : Nat → Int32) (ct1 lo1 nw1 : Nat → Nat) (un1 uc1 re1 : Nat → Nat → Int32), (∀ j, j < 8 → nw1 j = 0 ∨ nw1 j = 481) ∧ (∀ j, j < 8 → nw j = 481 → nw1 j = 481) ∧ g1 6 = inA cI 256 dr1 ∧ (∀ j, j < 8 → g1 (13 + 8 * j) = wsE ((ct1 j : Nat) : Int) ((lo1 j : Nat) : Int) (ad1 (13 + 8 * j + 1)) (ad1 (13 + 8 * j + 2)) (ad1 (13 + 8 * j + 3))) ∧ (∀ j, j < 8 → g1 (13 + 8 * j + 1) = inA cI (nw1 j) (un1 j)) ∧ (∀ j, j < 8 → g1 (13 + 8 * j + 2) = inA cI (nw1 j) (uc1 j)) ∧ (∀ j, j < 8 → g1 (13 + 8 * j + 3) = inA cI (nw1 j) (re1 j)) ∧ (∀ r1, r1 ≠ 0 → r1 ≠ 5 → r1 ≠ 6 → (∀ j9, j9 < 8 → r1 ≠ 13 + 8 * j9) → (∀ j9, j9 < 8 → r1 ≠ 13 + 8 * j9 + 1) → (∀ j9, j9 < 8 → r1 ≠ 13 + 8 * j9 + 2) → (∀ j9, j9 < 8 → r1 ≠ 13 + 8 * j9 + 3) → g1 r1 = g r1) ∧ ∀ r1, (∀ j9, j9 < 8 → r1 ≠ 13 + 8 * j9 + 1) → (∀ j9, j9 < 8 → r1 ≠ 13 + 8 * j9 + 2) → (∀ j9, j9 < 8 → r1 ≠ 13 + 8 * j9 + 3) → ad1 r1 = ad r1) (xp := fun E => (E = "java/lang/IllegalArgumentException" ∧ ¬ (0 ≤ (xs (i + 1)).toInt ∧ (xs (i + 1)).toInt < 256)) ∨ (E = "java/lang/IllegalStateException" ∧ 0 ≤ (xs (i + 1)).toInt ∧ (xs (i + 1)).toInt < 256 ∧ ∃ j, j < 8 ∧ Nat.testBit (xs (i + 1)).toInt.toNat j = true ∧ (T j).1 = true ∧ (T j).2.1 = false)) l ((iI ((xs (i + 1)).toInt))) _ c0 lf h94 (fun r9 a9 g9 h9 => po_rebuild h94 h9) (fun E h9 => h9.elim (fun h8 => Or.inl h8.1) (fun h8 => Or.inr h8.1)) (c_rebuild l hl w h hk hr sp wb (xs (i + 1)).toInt dr rb (iI_lo _) (iI_hi _) hw hh c0 c2 T bT c9 nb bf nbO c10 c7 c6 ct0 lo c13 nw un uc re nwO c14 c15 c16 geo filO c5)) (lkh_rebuild C.1.2.2.2.2 rfl rfl ⟨Nat.le_of_ble_eq_true rfl, Nat.le_of_ble_eq_true rfl⟩) rfl rfl (Nat.le_of_ble_eq_true rfl) d_L_law_774 ⟨rcA, rsA⟩ (fun k5 ad1 g1 hp => ?_)
  obtain ⟨m1, m2, m0⟩ := mid_rebuild hp
  have HR1 := rfW_fr HR m1 (fun r9 a9 _ => m2 r9 a9)
  obtain ⟨r73, r74, r75, r76, r77, r78, r79, r80, r81, r82, r83, r84, r85, r86, r87, r88, r89, r90, r91, r92, r93⟩ := HR1
  refine v_lvE (lv' := [(0, .ref b), (1, .ref (ad1 0)), (2, .ref (ad1 73)), (3, .ref (ad1 94)), (4, .int (iI (i : Int)))]) (by rw [m0, m2 73 (by decide), m2 94 (by decide)]) ?_
  refine v_istore (lv' := [(5, .int k5), (0, .ref b), (1, .ref (ad1 0)), (2, .ref (ad1 73)), (3, .ref (ad1 94)), (4, .int (iI (i : Int)))]) C d_L_law_777 (by decide) rfl ?_
  refine v_aload_n C d_L_law_779 rfl 3 rfl ?_
  refine v_aload_n C d_L_law_780 rfl 1 rfl ?_
  refine v_iload C d_L_law_781 5 rfl ?_
  refine v_iconst C d_L_law_783 ?_
  refine v_iaddI C d_L_law_784 ?_
  refine v_sldI C hX hb (i + 1) j1 i1 hL d_L_law_785 ?_
  refine v_callVI (As := [.int (iI ((xs (i + 1)).toInt))]) (st := []) (by decide) r73 rfl rfl C (c_Mrebuild l th w h hk hr tr sp wb (xs (i + 1)).toInt (iI_lo _) (iI_hi _) hw hh r73 reb r76 tri r77 kno r78 tol r79 rP r80 rQ r81 fil r82 bns r83 unk r89 lef r90 sum r91 PQ) (lk_L_116 C.1.2.2.2.2 rfl rfl ⟨Nat.le_of_ble_eq_true rfl, Nat.le_of_ble_eq_true rfl⟩) rfl rfl (Nat.le_of_ble_eq_true rfl) d_L_law_786 ⟨rcA, rsA⟩ (fun b6 ad2 g2 hq => ?_)
  have e2 := rq_rebuild hq
  obtain ⟨kk, lf1, ⟨kk1, kk2⟩, ek, HX1, hbv⟩ := pu_rebuild HC HR HO HL h94 hp hq
  subst ek
  obtain ⟨w1, h1, hk1, hr1, tr1, sp1, wb1, n73, n94⟩ := RELx_73 HX1
  subst e2
  clear hp hq
  refine v_istore (lv' := [(6, .int b6), (5, .int (iI kk)), (0, .ref b), (1, .ref (ad1 0)), (2, .ref (ad1 73)), (3, .ref (ad1 94)), (4, .int (iI (i : Int)))]) C d_L_law_789 (by decide) rfl ?_
  refine v_aload_n C d_L_law_791 rfl 4 rfl ?_
  refine v_callVI (As := []) (st := []) (by decide) n73 rfl rfl C (c_Mthrown l kk w1 h1 hk1 hr1 tr1 sp1 wb1 n73) (lk_L_78 C.1.2.2.2.2 rfl rfl ⟨Nat.le_of_ble_eq_true rfl, Nat.le_of_ble_eq_true rfl⟩) rfl rfl (Nat.le_of_ble_eq_true rfl) d_L_law_792 ⟨rcA, rsA⟩ (fun w7 ad3 g3 hp3 => ?_)
  obtain ⟨rfl, rfl, rfl⟩ := hp3
  refine v_iload C d_L_law_795 1 rfl ?_
  refine v_icmp_eqI C d_L_law_797 (by omega) (by omega) (by omega) (by omega) (fun _ => ?_) (fun hz9 => absurd rfl hz9)
  refine v_iload C d_L_law_802 1 rfl ?_
  refine v_if_neI C d_L_law_804 (by omega) (by omega) (fun hb804 => ?_) (fun hb804 => ?_)
  · refine v_goto C d_L_law_819 ?_
    refine v_lv (lv' := [(0, .ref b), (1, .ref (ad1 0)), (2, .ref (ad1 73)), (3, .ref (ad1 94)), (4, .int (iI (i : Int)))]) [2, 3, 4, 5, 6] rfl ?_
    refine v_wid (k := cells + 26) (n := slots + 11556) (by omega) (by omega) ?_
    exact k _ _ ⟨kk, lf1, HX1⟩
  · refine v_aload_n C d_L_law_807 rfl 5 rfl ?_
    refine v_iconst C d_L_law_808 ?_
    refine v_lald C 2 (by decide) n94 rfl 0 rfl (by decide) (by decide) d_L_law_809 ?_
    refine v_iload C d_L_law_810 0 rfl ?_
    refine v_i2l C d_L_law_812 ?_
    refine v_lcmp C d_L_law_813 ?_
    refine v_if_eq C d_L_law_814 (fun _ => ?_) (fun hz9 => absurd (by rw [hbv (by omega)]; exact lcmp_self _) hz9)
    refine v_goto C d_L_law_819 ?_
    refine v_lv (lv' := [(0, .ref b), (1, .ref (ad1 0)), (2, .ref (ad1 73)), (3, .ref (ad1 94)), (4, .int (iI (i : Int)))]) [2, 3, 4, 5, 6] rfl ?_
    refine v_wid (k := cells + 26) (n := slots + 11556) (by omega) (by omega) ?_
    exact k _ _ ⟨kk, lf1, HX1⟩
set_option maxHeartbeats 1000000 in
set_option maxRecDepth 100000 in
theorem st_about (l : Launch) (hl : l.stackTraces = false) {p : Program} {e : Env} {s : State} {m : MethodId} {below : List Frame} {meth : Method} {c : Code} {Q : State → Prop} {B : Nat} {D : va_G} {cI cZ cL cS cW : ClassId} {b L : Nat} {xs : Nat → Int32} {i cells slots : Nat} {ad : Nat → Nat} {g : Nat → va_E} (C : Cx p m c s #[Value.ref b] b_L_law 7 R_L wG s.heap B D classes (tyL cI cZ cL cS cW) (Zs B)) (hX : va_X b L xs s s.heap) (hb : b < B) (hL : L < 2147483648) (hi : i + 3 < L) (hc : cells + 26 ≤ 601024) (hs : slots + 11556 ≤ 7293034) (HX : REL cI cZ cL cS cW ad g) (k : ∀ (ad1 : Nat → Nat) (g1 : Nat → va_E), REL cI cZ cL cS cW ad1 g1 → kV p l e room_1 s m #[Value.ref b] below meth c Q s.heap B D classes 7 95 (cells + 26) (slots + 11556) ad1 g1 [(0, .ref b), (1, .ref (ad1 0)), (2, .ref (ad1 73)), (3, .ref (ad1 94)), (4, .int (iI (i : Int)))] [] 1117) : kV p l e room_1 s m #[Value.ref b] below meth c Q s.heap B D classes 7 95 cells slots ad g [(0, .ref b), (1, .ref (ad 0)), (2, .ref (ad 73)), (3, .ref (ad 94)), (4, .int (iI (i : Int)))] [] 822 := by
  have i1 : i + 1 < L := by omega
  have j1 : (i : Int) + 1 = ((i + 1 : Nat) : Int) := by omega
  have i2 : i + 2 < L := by omega
  have j2 : (i : Int) + 2 = ((i + 2 : Nat) : Int) := by omega
  have i3 : i + 3 < L := by omega
  have j3 : (i : Int) + 3 = ((i + 3 : Nat) : Int) := by omega
  have rcA : cells + 1 ≤ 601024 := by omega
  have rsA : slots + 6 ≤ 7293034 := by omega
  obtain ⟨th, lf, w, h, hk, hr, sp, wb, tr, T, KT, nb, kn, nw, ct0, lo, bf, kf, un, uc, re, f, fk, rb, dr, gc, pic, kep, reb, tri, kno, tol, fil, kt, kfl, rP, rQ, kP, kQ, bns, kb, unk, lef, sum, spd, spg, HC, HR, HO, HL, h94⟩ := HX
  have HC1 := HC
  have HO1 := HO
  have HL1 := HL
  obtain ⟨c0, c1, c2, c3, c4, c5, c6, c7, c8, c9, c10, c11, c12, c13, c14, c15, c16⟩ := HC1
  obtain ⟨hw, hh, bT, bK, nbO, knO, nwO, geo, filO, posO, kkO, PQ, KPQ⟩ := HO1
  obtain ⟨lp, lk, lr, lsh, lkk⟩ := HL1
  refine v_aload_n C d_L_law_822 rfl 1 rfl ?_
  refine v_aload_n C d_L_law_823 rfl 0 rfl ?_
  refine v_iload C d_L_law_824 4 rfl ?_
  refine v_iconst C d_L_law_826 ?_
  refine v_iaddI C d_L_law_827 ?_
  refine v_sldI C hX hb (i + 1) j1 i1 hL d_L_law_828 ?_
  refine v_aload_n C d_L_law_829 rfl 3 rfl ?_
  refine v_xcallSH (As := [.ref (ad 0), .int (iI ((xs (i + 1)).toInt)), .ref (ad 94)]) (st := []) C (hl_about (post := fun v ad1 g1 => (((xs (i + 1)).toInt = 0 ∧ v = iI sp) ∨ ((xs (i + 1)).toInt = 1 ∧ v = iI wb)) ∧ ad = ad1 ∧ g = g1) (xp := fun E => E = "java/lang/IllegalArgumentException" ∧ ¬ ((xs (i + 1)).toInt = 0 ∨ (xs (i + 1)).toInt = 1)) l ((iI ((xs (i + 1)).toInt))) _ c0 lf h94 (fun r9 a9 g9 h9 => po_about h94 h9) (fun E h9 => h9.1) (c_about l hl w h hk hr sp wb (xs (i + 1)).toInt (iI_lo _) (iI_hi _) c0)) (lkh_about C.1.2.2.2.2 rfl rfl ⟨Nat.le_of_ble_eq_true rfl, Nat.le_of_ble_eq_true rfl⟩) rfl rfl (Nat.le_of_ble_eq_true rfl) d_L_law_830 ⟨rcA, rsA⟩ (fun k5 ad1 g1 hp => ?_)
  obtain ⟨m1, m2, m0⟩ := mid_about hp
  have HR1 := rfW_fr HR m1 (fun r9 a9 _ => m2 r9 a9)
  obtain ⟨r73, r74, r75, r76, r77, r78, r79, r80, r81, r82, r83, r84, r85, r86, r87, r88, r89, r90, r91, r92, r93⟩ := HR1
  refine v_lvE (lv' := [(0, .ref b), (1, .ref (ad1 0)), (2, .ref (ad1 73)), (3, .ref (ad1 94)), (4, .int (iI (i : Int)))]) (by rw [m0, m2 73 (by decide), m2 94 (by decide)]) ?_
  refine v_istore (lv' := [(5, .int k5), (0, .ref b), (1, .ref (ad1 0)), (2, .ref (ad1 73)), (3, .ref (ad1 94)), (4, .int (iI (i : Int)))]) C d_L_law_833 (by decide) rfl ?_
  refine v_aload_n C d_L_law_835 rfl 3 rfl ?_
  refine v_aload_n C d_L_law_836 rfl 1 rfl ?_
  refine v_iload C d_L_law_837 5 rfl ?_
  refine v_iconst C d_L_law_839 ?_
  refine v_iaddI C d_L_law_840 ?_
  refine v_sldI C hX hb (i + 1) j1 i1 hL d_L_law_841 ?_
  refine v_callVI (As := [.int (iI ((xs (i + 1)).toInt))]) (st := []) (by decide) r73 rfl rfl C (c_Mabout l th w h hk hr tr sp wb (xs (i + 1)).toInt (iI_lo _) (iI_hi _) r73) (lk_L_119 C.1.2.2.2.2 rfl rfl ⟨Nat.le_of_ble_eq_true rfl, Nat.le_of_ble_eq_true rfl⟩) rfl rfl (Nat.le_of_ble_eq_true rfl) d_L_law_842 ⟨rcA, rsA⟩ (fun b6 ad2 g2 hq => ?_)
  have e2 := rq_about hq
  obtain ⟨kk, lf1, ⟨kk1, kk2⟩, ek, HX1, hbv⟩ := pu_about HC HR HO HL h94 hp hq
  subst ek
  obtain ⟨w1, h1, hk1, hr1, tr1, sp1, wb1, n73, n94⟩ := RELx_73 HX1
  subst e2
  clear hp hq
  refine v_istore (lv' := [(6, .int b6), (5, .int (iI kk)), (0, .ref b), (1, .ref (ad1 0)), (2, .ref (ad1 73)), (3, .ref (ad1 94)), (4, .int (iI (i : Int)))]) C d_L_law_845 (by decide) rfl ?_
  refine v_aload_n C d_L_law_847 rfl 4 rfl ?_
  refine v_callVI (As := []) (st := []) (by decide) n73 rfl rfl C (c_Mthrown l kk w1 h1 hk1 hr1 tr1 sp1 wb1 n73) (lk_L_78 C.1.2.2.2.2 rfl rfl ⟨Nat.le_of_ble_eq_true rfl, Nat.le_of_ble_eq_true rfl⟩) rfl rfl (Nat.le_of_ble_eq_true rfl) d_L_law_848 ⟨rcA, rsA⟩ (fun w7 ad3 g3 hp3 => ?_)
  obtain ⟨rfl, rfl, rfl⟩ := hp3
  refine v_iload C d_L_law_851 1 rfl ?_
  refine v_icmp_eqI C d_L_law_853 (by omega) (by omega) (by omega) (by omega) (fun _ => ?_) (fun hz9 => absurd rfl hz9)
  refine v_iload C d_L_law_858 1 rfl ?_
  refine v_if_neI C d_L_law_860 (by omega) (by omega) (fun hb860 => ?_) (fun hb860 => ?_)
  · refine v_goto C d_L_law_875 ?_
    refine v_lv (lv' := [(0, .ref b), (1, .ref (ad1 0)), (2, .ref (ad1 73)), (3, .ref (ad1 94)), (4, .int (iI (i : Int)))]) [2, 3, 4, 5, 6] rfl ?_
    refine v_wid (k := cells + 26) (n := slots + 11556) (by omega) (by omega) ?_
    exact k _ _ ⟨kk, lf1, HX1⟩
  · refine v_aload_n C d_L_law_863 rfl 5 rfl ?_
    refine v_iconst C d_L_law_864 ?_
    refine v_lald C 2 (by decide) n94 rfl 0 rfl (by decide) (by decide) d_L_law_865 ?_
    refine v_iload C d_L_law_866 0 rfl ?_
    refine v_i2l C d_L_law_868 ?_
    refine v_lcmp C d_L_law_869 ?_
    refine v_if_eq C d_L_law_870 (fun _ => ?_) (fun hz9 => absurd (by rw [hbv (by omega)]; exact lcmp_self _) hz9)
    refine v_goto C d_L_law_875 ?_
    refine v_lv (lv' := [(0, .ref b), (1, .ref (ad1 0)), (2, .ref (ad1 73)), (3, .ref (ad1 94)), (4, .int (iI (i : Int)))]) [2, 3, 4, 5, 6] rfl ?_
    refine v_wid (k := cells + 26) (n := slots + 11556) (by omega) (by omega) ?_
    exact k _ _ ⟨kk, lf1, HX1⟩
set_option maxHeartbeats 1000000 in
set_option maxRecDepth 100000 in
theorem st_regenerate (l : Launch) (hl : l.stackTraces = false) {p : Program} {e : Env} {s : State} {m : MethodId} {below : List Frame} {meth : Method} {c : Code} {Q : State → Prop} {B : Nat} {D : va_G} {cI cZ cL cS cW : ClassId} {b L : Nat} {xs : Nat → Int32} {i cells slots : Nat} {ad : Nat → Nat} {g : Nat → va_E} (C : Cx p m c s #[Value.ref b] b_L_law 7 R_L wG s.heap B D classes (tyL cI cZ cL cS cW) (Zs B)) (hX : va_X b L xs s s.heap) (hb : b < B) (hL : L < 2147483648) (hi : i + 3 < L) (hc : cells + 26 ≤ 601024) (hs : slots + 11556 ≤ 7293034) (HX : REL cI cZ cL cS cW ad g) (k : ∀ (ad1 : Nat → Nat) (g1 : Nat → va_E), REL cI cZ cL cS cW ad1 g1 → kV p l e room_1 s m #[Value.ref b] below meth c Q s.heap B D classes 7 95 (cells + 26) (slots + 11556) ad1 g1 [(0, .ref b), (1, .ref (ad1 0)), (2, .ref (ad1 73)), (3, .ref (ad1 94)), (4, .int (iI (i : Int)))] [] 1117) : kV p l e room_1 s m #[Value.ref b] below meth c Q s.heap B D classes 7 95 cells slots ad g [(0, .ref b), (1, .ref (ad 0)), (2, .ref (ad 73)), (3, .ref (ad 94)), (4, .int (iI (i : Int)))] [] 878 := by
  have i1 : i + 1 < L := by omega
  have j1 : (i : Int) + 1 = ((i + 1 : Nat) : Int) := by omega
  have i2 : i + 2 < L := by omega
  have j2 : (i : Int) + 2 = ((i + 2 : Nat) : Int) := by omega
  have i3 : i + 3 < L := by omega
  have j3 : (i : Int) + 3 = ((i + 3 : Nat) : Int) := by omega
  have rcA : cells + 26 ≤ 601024 := by omega
  have rsA : slots + 11556 ≤ 7293034 := by omega
  obtain ⟨th, lf, w, h, hk, hr, sp, wb, tr, T, KT, nb, kn, nw, ct0, lo, bf, kf, un, uc, re, f, fk, rb, dr, gc, pic, kep, reb, tri, kno, tol, fil, kt, kfl, rP, rQ, kP, kQ, bns, kb, unk, lef, sum, spd, spg, HC, HR, HO, HL, h94⟩ := HX
  have HC1 := HC
  have HO1 := HO
  have HL1 := HL
  obtain ⟨c0, c1, c2, c3, c4, c5, c6, c7, c8, c9, c10, c11, c12, c13, c14, c15, c16⟩ := HC1
  obtain ⟨hw, hh, bT, bK, nbO, knO, nwO, geo, filO, posO, kkO, PQ, KPQ⟩ := HO1
  obtain ⟨lp, lk, lr, lsh, lkk⟩ := HL1
  refine v_aload_n C d_L_law_878 rfl 1 rfl ?_
  refine v_aload_n C d_L_law_879 rfl 0 rfl ?_
  refine v_iload C d_L_law_880 4 rfl ?_
  refine v_iconst C d_L_law_882 ?_
  refine v_iaddI C d_L_law_883 ?_
  refine v_sldI C hX hb (i + 1) j1 i1 hL d_L_law_884 ?_
  refine v_aload_n C d_L_law_885 rfl 3 rfl ?_
  refine v_xcallSH (As := [.ref (ad 0), .int (iI ((xs (i + 1)).toInt)), .ref (ad 94)]) (st := []) C (hl_regenerate (post := fun v9 ad1 g1 => ∃ v, v9 = bI v ∧ (∃ s0 : Nat, (s0 : Int) = (xs (i + 1)).toInt ∧ s0 < 8 ∧ (T s0).1 = true ∧ (T s0).2.1 = false ∧ ∃ (n : Nat) (K9 : Nat → Bool) (val : Nat → Int32) (fb : Nat → Int32) (t1 : ShT), Dn w h (fun j => Nat.testBit (mkM (fun j => (T j).2.1) 8) j) (fun j c => bnN (T j).2.2.1 (T j).2.2.2.1 w h (c % 16) (c / 16)) (fun j => ctN (T j).2.2.1 (T j).2.2.2.1 w h) bf n K9 val ∧ g1 (9 + 8 * s0 + 1) = inA cI 481 fb ∧ g1 (9 + 8 * s0) = shE (ad1 (9 + 8 * s0 + 1)) t1 ∧ ((n < w * h ∧ v = false ∧ fb = bf s0 ∧ t1 = T s0) ∨ (n = w * h ∧ v = true ∧ t1 = ((T s0).1, true, (T s0).2.2) ∧ ∃ d9, (∀ c, K9 c = true → d9 c = val c) ∧ fb = accY (bnN (T s0).2.2.1 (T s0).2.2.2.1 w h) d9 w h (fun _ => 0))) ∧ ∃ (dr1 : Nat → Int32) (ct1 lo1 nw1 : Nat → Nat) (un1 uc1 re1 : Nat → Nat → Int32), (∀ j, j < 8 → nw1 j = 0 ∨ nw1 j = 481) ∧ (∀ j, j < 8 → nw j = 481 → nw1 j = 481) ∧ g1 6 = inA cI 256 dr1 ∧ (∀ j, j < 8 → g1 (13 + 8 * j) = wsE ((ct1 j : Nat) : Int) ((lo1 j : Nat) : Int) (ad1 (13 + 8 * j + 1)) (ad1 (13 + 8 * j + 2)) (ad1 (13 + 8 * j + 3))) ∧ (∀ j, j < 8 → g1 (13 + 8 * j + 1) = inA cI (nw1 j) (un1 j)) ∧ (∀ j, j < 8 → g1 (13 + 8 * j + 2) = inA cI (nw1 j) (uc1 j)) ∧ (∀ j, j < 8 → g1 (13 + 8 * j + 3) = inA cI (nw1 j) (re1 j)) ∧ (∀ r1, r1 ≠ 9 + 8 * s0 + 1 → r1 ≠ 9 + 8 * s0 → r1 ≠ 6 → (∀ j9, j9 < 8 → r1 ≠ 13 + 8 * j9) → (∀ j9, j9 < 8 → r1 ≠ 13 + 8 * j9 + 1) → (∀ j9, j9 < 8 → r1 ≠ 13 + 8 * j9 + 2) → (∀ j9, j9 < 8 → r1 ≠ 13 + 8 * j9 + 3) → g1 r1 = g r1) ∧ ∀ r1, (∀ j9, j9 < 8 → r1 ≠ 13 + 8 * j9 + 1) → (∀ j9, j9 < 8 → r1 ≠ 13 + 8 * j9 + 2) → (∀ j9, j9 < 8 → r1 ≠ 13 + 8 * j9 + 3) → ad1 r1 = ad r1)) (xp := fun E => (E = "java/lang/IndexOutOfBoundsException" ∧ ¬ (0 ≤ (xs (i + 1)).toInt ∧ (xs (i + 1)).toInt < 8)) ∨ (E = "java/lang/IllegalStateException" ∧ ∃ s0 : Nat, (s0 : Int) = (xs (i + 1)).toInt ∧ s0 < 8 ∧ ¬ ((T s0).1 = true ∧ (T s0).2.1 = false))) l ((iI ((xs (i + 1)).toInt))) _ c0 lf h94 (fun r9 a9 g9 h9 => po_regenerate h94 h9) (fun E h9 => h9.elim (fun h8 => Or.inl h8.1) (fun h8 => Or.inr h8.1)) (c_regenerate l hl w h hk hr sp wb (xs (i + 1)).toInt dr (iI_lo _) (iI_hi _) hw hh c0 c2 T bT c9 nb bf nbO c10 c7 c6 ct0 lo c13 nw un uc re nwO c14 c15 c16 geo filO)) (lkh_regenerate C.1.2.2.2.2 rfl rfl ⟨Nat.le_of_ble_eq_true rfl, Nat.le_of_ble_eq_true rfl⟩) rfl rfl (Nat.le_of_ble_eq_true rfl) d_L_law_886 ⟨rcA, rsA⟩ (fun k5 ad1 g1 hp => ?_)
  obtain ⟨m1, m2, m0⟩ := mid_regenerate hp
  have HR1 := rfW_fr HR m1 (fun r9 a9 _ => m2 r9 a9)
  obtain ⟨r73, r74, r75, r76, r77, r78, r79, r80, r81, r82, r83, r84, r85, r86, r87, r88, r89, r90, r91, r92, r93⟩ := HR1
  refine v_lvE (lv' := [(0, .ref b), (1, .ref (ad1 0)), (2, .ref (ad1 73)), (3, .ref (ad1 94)), (4, .int (iI (i : Int)))]) (by rw [m0, m2 73 (by decide), m2 94 (by decide)]) ?_
  refine v_istore (lv' := [(5, .int k5), (0, .ref b), (1, .ref (ad1 0)), (2, .ref (ad1 73)), (3, .ref (ad1 94)), (4, .int (iI (i : Int)))]) C d_L_law_889 (by decide) rfl ?_
  refine v_aload_n C d_L_law_891 rfl 3 rfl ?_
  refine v_aload_n C d_L_law_892 rfl 1 rfl ?_
  refine v_iload C d_L_law_893 5 rfl ?_
  refine v_iconst C d_L_law_895 ?_
  refine v_iaddI C d_L_law_896 ?_
  refine v_sldI C hX hb (i + 1) j1 i1 hL d_L_law_897 ?_
  refine v_callVI (As := [.int (iI ((xs (i + 1)).toInt))]) (st := []) (by decide) r73 rfl rfl C (c_Mregenerate l th w h hk hr tr sp wb (xs (i + 1)).toInt (iI_lo _) (iI_hi _) hw hh r73 tri r77 kno r78 tol r79 rP r80 rQ r81 fil r82 bns r83 unk r89 lef r90 sum r91 PQ) (lk_L_122 C.1.2.2.2.2 rfl rfl ⟨Nat.le_of_ble_eq_true rfl, Nat.le_of_ble_eq_true rfl⟩) rfl rfl (Nat.le_of_ble_eq_true rfl) d_L_law_898 ⟨rcA, rsA⟩ (fun b6 ad2 g2 hq => ?_)
  have e2 := rq_regenerate hq
  obtain ⟨kk, lf1, ⟨kk1, kk2⟩, ek, HX1, hbv⟩ := pu_regenerate HC HR HO HL h94 hp hq
  subst ek
  obtain ⟨w1, h1, hk1, hr1, tr1, sp1, wb1, n73, n94⟩ := RELx_73 HX1
  subst e2
  clear hp hq
  refine v_istore (lv' := [(6, .int b6), (5, .int (iI kk)), (0, .ref b), (1, .ref (ad1 0)), (2, .ref (ad1 73)), (3, .ref (ad1 94)), (4, .int (iI (i : Int)))]) C d_L_law_901 (by decide) rfl ?_
  refine v_aload_n C d_L_law_903 rfl 4 rfl ?_
  refine v_callVI (As := []) (st := []) (by decide) n73 rfl rfl C (c_Mthrown l kk w1 h1 hk1 hr1 tr1 sp1 wb1 n73) (lk_L_78 C.1.2.2.2.2 rfl rfl ⟨Nat.le_of_ble_eq_true rfl, Nat.le_of_ble_eq_true rfl⟩) rfl rfl (Nat.le_of_ble_eq_true rfl) d_L_law_904 ⟨rcA, rsA⟩ (fun w7 ad3 g3 hp3 => ?_)
  obtain ⟨rfl, rfl, rfl⟩ := hp3
  refine v_iload C d_L_law_907 1 rfl ?_
  refine v_icmp_eqI C d_L_law_909 (by omega) (by omega) (by omega) (by omega) (fun _ => ?_) (fun hz9 => absurd rfl hz9)
  refine v_iload C d_L_law_914 1 rfl ?_
  refine v_if_neI C d_L_law_916 (by omega) (by omega) (fun hb916 => ?_) (fun hb916 => ?_)
  · refine v_goto C d_L_law_938 ?_
    refine v_lv (lv' := [(0, .ref b), (1, .ref (ad1 0)), (2, .ref (ad1 73)), (3, .ref (ad1 94)), (4, .int (iI (i : Int)))]) [2, 3, 4, 5, 6] rfl ?_
    refine v_wid (k := cells + 26) (n := slots + 11556) (by omega) (by omega) ?_
    exact k _ _ ⟨kk, lf1, HX1⟩
  · refine v_aload_n C d_L_law_919 rfl 5 rfl ?_
    refine v_iconst C d_L_law_920 ?_
    refine v_lald C 2 (by decide) n94 rfl 0 rfl (by decide) (by decide) d_L_law_921 ?_
    refine v_iload C d_L_law_922 0 rfl ?_
    refine v_if_eq C d_L_law_924 (fun hb924 => ?_) (fun hb924 => ?_)
    · refine v_lconst C d_L_law_931 rfl ?_
      refine v_lcmp C d_L_law_932 ?_
      refine v_if_eq C d_L_law_933 (fun _ => ?_) (fun hz9 => absurd (by rw [hbv (by omega), if_pos hb924]; exact lcmp_self _) hz9)
      refine v_goto C d_L_law_938 ?_
      refine v_lv (lv' := [(0, .ref b), (1, .ref (ad1 0)), (2, .ref (ad1 73)), (3, .ref (ad1 94)), (4, .int (iI (i : Int)))]) [2, 3, 4, 5, 6] rfl ?_
      refine v_wid (k := cells + 26) (n := slots + 11556) (by omega) (by omega) ?_
      exact k _ _ ⟨kk, lf1, HX1⟩
    · refine v_lconst C d_L_law_927 rfl ?_
      refine v_goto C d_L_law_928 ?_
      refine v_lcmp C d_L_law_932 ?_
      refine v_if_eq C d_L_law_933 (fun _ => ?_) (fun hz9 => absurd (by rw [hbv (by omega), if_neg hb924]; exact lcmp_self _) hz9)
      refine v_goto C d_L_law_938 ?_
      refine v_lv (lv' := [(0, .ref b), (1, .ref (ad1 0)), (2, .ref (ad1 73)), (3, .ref (ad1 94)), (4, .int (iI (i : Int)))]) [2, 3, 4, 5, 6] rfl ?_
      refine v_wid (k := cells + 26) (n := slots + 11556) (by omega) (by omega) ?_
      exact k _ _ ⟨kk, lf1, HX1⟩
set_option maxHeartbeats 1000000 in
set_option maxRecDepth 100000 in
theorem st_audit (l : Launch) (hl : l.stackTraces = false) {p : Program} {e : Env} {s : State} {m : MethodId} {below : List Frame} {meth : Method} {c : Code} {Q : State → Prop} {B : Nat} {D : va_G} {cI cZ cL cS cW : ClassId} {b L : Nat} {xs : Nat → Int32} {i cells slots : Nat} {ad : Nat → Nat} {g : Nat → va_E} (C : Cx p m c s #[Value.ref b] b_L_law 7 R_L wG s.heap B D classes (tyL cI cZ cL cS cW) (Zs B)) (hX : va_X b L xs s s.heap) (hb : b < B) (hL : L < 2147483648) (hi : i + 3 < L) (hc : cells + 26 ≤ 601024) (hs : slots + 11556 ≤ 7293034) (HX : REL cI cZ cL cS cW ad g) (k : ∀ (ad1 : Nat → Nat) (g1 : Nat → va_E), REL cI cZ cL cS cW ad1 g1 → kV p l e room_1 s m #[Value.ref b] below meth c Q s.heap B D classes 7 95 (cells + 26) (slots + 11556) ad1 g1 [(0, .ref b), (1, .ref (ad1 0)), (2, .ref (ad1 73)), (3, .ref (ad1 94)), (4, .int (iI (i : Int)))] [] 1117) : kV p l e room_1 s m #[Value.ref b] below meth c Q s.heap B D classes 7 95 cells slots ad g [(0, .ref b), (1, .ref (ad 0)), (2, .ref (ad 73)), (3, .ref (ad 94)), (4, .int (iI (i : Int)))] [] 941 := by
  have i1 : i + 1 < L := by omega
  have j1 : (i : Int) + 1 = ((i + 1 : Nat) : Int) := by omega
  have i2 : i + 2 < L := by omega
  have j2 : (i : Int) + 2 = ((i + 2 : Nat) : Int) := by omega
  have i3 : i + 3 < L := by omega
  have j3 : (i : Int) + 3 = ((i + 3 : Nat) : Int) := by omega
  have rcA : cells + 24 ≤ 601024 := by omega
  have rsA : slots + 11544 ≤ 7293034 := by omega
  obtain ⟨th, lf, w, h, hk, hr, sp, wb, tr, T, KT, nb, kn, nw, ct0, lo, bf, kf, un, uc, re, f, fk, rb, dr, gc, pic, kep, reb, tri, kno, tol, fil, kt, kfl, rP, rQ, kP, kQ, bns, kb, unk, lef, sum, spd, spg, HC, HR, HO, HL, h94⟩ := HX
  have HC1 := HC
  have HO1 := HO
  have HL1 := HL
  obtain ⟨c0, c1, c2, c3, c4, c5, c6, c7, c8, c9, c10, c11, c12, c13, c14, c15, c16⟩ := HC1
  obtain ⟨hw, hh, bT, bK, nbO, knO, nwO, geo, filO, posO, kkO, PQ, KPQ⟩ := HO1
  obtain ⟨lp, lk, lr, lsh, lkk⟩ := HL1
  refine v_aload_n C d_L_law_941 rfl 1 rfl ?_
  refine v_callVI (As := []) (st := []) (by decide) c0 rfl rfl C (c_audit l w h hk hr sp wb dr hw hh c0 c2 T bT c9 nb bf nbO c10 c7 c6 ct0 lo c13 nw un uc re nwO c14 c15 c16 geo filO) (lk_L_123 C.1.2.2.2.2 rfl rfl ⟨Nat.le_of_ble_eq_true rfl, Nat.le_of_ble_eq_true rfl⟩) rfl rfl (Nat.le_of_ble_eq_true rfl) d_L_law_942 ⟨rcA, rsA⟩ (fun k5 ad1 g1 hp => ?_)
  obtain ⟨m1, m2, m0⟩ := mid_audit hp
  have HR1 := rfW_fr HR m1 (fun r9 a9 _ => m2 r9 a9)
  obtain ⟨r73, r74, r75, r76, r77, r78, r79, r80, r81, r82, r83, r84, r85, r86, r87, r88, r89, r90, r91, r92, r93⟩ := HR1
  refine v_lvE (lv' := [(0, .ref b), (1, .ref (ad1 0)), (2, .ref (ad1 73)), (3, .ref (ad1 94)), (4, .int (iI (i : Int)))]) (by rw [m0, m2 73 (by decide), m2 94 (by decide)]) ?_
  refine v_aload_n C d_L_law_945 rfl 2 rfl ?_
  refine v_callVI (As := []) (st := [.int k5]) (by decide) r73 rfl rfl C (c_Maudit l th w h hk hr tr sp wb hw hh r73 fil r82 tri r77 kno r78 tol r79 rP r80 rQ r81 bns r83 unk r89 lef r90 sum r91 PQ (fun j hj q => (lsh j hj).1.trans ((lsh j hj).2.2.2 ((lsh j hj).2.1.symm.trans q)).1)) (lk_L_126 C.1.2.2.2.2 rfl rfl ⟨Nat.le_of_ble_eq_true rfl, Nat.le_of_ble_eq_true rfl⟩) rfl rfl (Nat.le_of_ble_eq_true rfl) d_L_law_946 ⟨rcA, rsA⟩ (fun b6 ad2 g2 hq => ?_)
  have e2 := rq_audit hq
  obtain ⟨ek, lf1, HX1⟩ := pu_audit HC HR HO HL h94 hp hq
  subst ek
  subst e2
  clear hp hq
  refine v_icmp_eq C d_L_law_949 (fun _ => ?_) (fun hz9 => absurd rfl hz9)
  refine v_wid (k := cells + 26) (n := slots + 11556) (by omega) (by omega) ?_
  exact k _ _ ⟨0, lf1, HX1⟩
set_option maxHeartbeats 1000000 in
set_option maxRecDepth 100000 in
theorem st_ghost (l : Launch) (hl : l.stackTraces = false) {p : Program} {e : Env} {s : State} {m : MethodId} {below : List Frame} {meth : Method} {c : Code} {Q : State → Prop} {B : Nat} {D : va_G} {cI cZ cL cS cW : ClassId} {b L : Nat} {xs : Nat → Int32} {i cells slots : Nat} {ad : Nat → Nat} {g : Nat → va_E} (C : Cx p m c s #[Value.ref b] b_L_law 7 R_L wG s.heap B D classes (tyL cI cZ cL cS cW) (Zs B)) (hX : va_X b L xs s s.heap) (hb : b < B) (hL : L < 2147483648) (hi : i + 3 < L) (hc : cells + 26 ≤ 601024) (hs : slots + 11556 ≤ 7293034) (HX : REL cI cZ cL cS cW ad g) (k : ∀ (ad1 : Nat → Nat) (g1 : Nat → va_E), REL cI cZ cL cS cW ad1 g1 → kV p l e room_1 s m #[Value.ref b] below meth c Q s.heap B D classes 7 95 (cells + 26) (slots + 11556) ad1 g1 [(0, .ref b), (1, .ref (ad1 0)), (2, .ref (ad1 73)), (3, .ref (ad1 94)), (4, .int (iI (i : Int)))] [] 1117) : kV p l e room_1 s m #[Value.ref b] below meth c Q s.heap B D classes 7 95 cells slots ad g [(0, .ref b), (1, .ref (ad 0)), (2, .ref (ad 73)), (3, .ref (ad 94)), (4, .int (iI (i : Int)))] [] 954 := by
  have i1 : i + 1 < L := by omega
  have j1 : (i : Int) + 1 = ((i + 1 : Nat) : Int) := by omega
  have i2 : i + 2 < L := by omega
  have j2 : (i : Int) + 2 = ((i + 2 : Nat) : Int) := by omega
  have i3 : i + 3 < L := by omega
  have j3 : (i : Int) + 3 = ((i + 3 : Nat) : Int) := by omega
  have rcA : cells + 3 ≤ 601024 := by omega
  have rsA : slots + 18 ≤ 7293034 := by omega
  obtain ⟨th, lf, w, h, hk, hr, sp, wb, tr, T, KT, nb, kn, nw, ct0, lo, bf, kf, un, uc, re, f, fk, rb, dr, gc, pic, kep, reb, tri, kno, tol, fil, kt, kfl, rP, rQ, kP, kQ, bns, kb, unk, lef, sum, spd, spg, HC, HR, HO, HL, h94⟩ := HX
  have HC1 := HC
  have HO1 := HO
  have HL1 := HL
  obtain ⟨c0, c1, c2, c3, c4, c5, c6, c7, c8, c9, c10, c11, c12, c13, c14, c15, c16⟩ := HC1
  obtain ⟨hw, hh, bT, bK, nbO, knO, nwO, geo, filO, posO, kkO, PQ, KPQ⟩ := HO1
  obtain ⟨lp, lk, lr, lsh, lkk⟩ := HL1
  refine v_aload_n C d_L_law_954 rfl 1 rfl ?_
  refine v_aload_n C d_L_law_955 rfl 0 rfl ?_
  refine v_iload C d_L_law_956 4 rfl ?_
  refine v_iconst C d_L_law_958 ?_
  refine v_iaddI C d_L_law_959 ?_
  refine v_sldI C hX hb (i + 1) j1 i1 hL d_L_law_960 ?_
  refine v_aload_n C d_L_law_961 rfl 0 rfl ?_
  refine v_iload C d_L_law_962 4 rfl ?_
  refine v_iconst C d_L_law_964 ?_
  refine v_iaddI C d_L_law_965 ?_
  refine v_sldI C hX hb (i + 2) j2 i2 hL d_L_law_966 ?_
  refine v_aload_n C d_L_law_967 rfl 0 rfl ?_
  refine v_iload C d_L_law_968 4 rfl ?_
  refine v_iconst C d_L_law_970 ?_
  refine v_iaddI C d_L_law_971 ?_
  refine v_sldI C hX hb (i + 3) j3 i3 hL d_L_law_972 ?_
  refine v_aload_n C d_L_law_973 rfl 3 rfl ?_
  refine v_xcallSH (As := [.ref (ad 0), .int (iI ((xs (i + 1)).toInt)), .int (iI ((xs (i + 2)).toInt)), .int (iI ((xs (i + 3)).toInt)), .ref (ad 94)]) (st := []) C (hl_ghost (post := fun v ad1 g1 => ((0 ≤ (xs (i + 1)).toInt ∧ (xs (i + 1)).toInt < 256) ∧ (0 ≤ (xs (i + 2)).toInt ∧ (xs (i + 2)).toInt < (w : Int) ∧ 0 ≤ (xs (i + 3)).toInt ∧ (xs (i + 3)).toInt < (h : Int)) ∧ ¬ ((w : Int) ≤ sI 8 (fun j => if Nat.testBit (mkM (fun j => Nat.testBit (xs (i + 1)).toInt.toNat j && (T j).1) 8) j = true then aI (T j).2.2.1 else 0) ∨ (h : Int) ≤ sI 8 (fun j => if Nat.testBit (mkM (fun j => Nat.testBit (xs (i + 1)).toInt.toNat j && (T j).1) 8) j = true then (T j).2.2.2.1 else 0)) ∧ v = gh w (sI 8 (fun j => if Nat.testBit (mkM (fun j => Nat.testBit (xs (i + 1)).toInt.toNat j && (T j).1) 8) j = true then negI (T j).2.2.1 else 0)).toNat (mkM (fun j => Nat.testBit (xs (i + 1)).toInt.toNat j && (T j).1) 8) T 8 (xs (i + 2)).toInt.toNat (xs (i + 3)).toInt.toNat) ∧ ∃ f1, ad = ad1 ∧ g1 8 = inA cI 256 f1 ∧ ∀ r1, r1 ≠ 8 → g1 r1 = g r1) (xp := fun E => (E = "java/lang/IllegalArgumentException" ∧ ¬ (0 ≤ (xs (i + 1)).toInt ∧ (xs (i + 1)).toInt < 256)) ∨ (E = "java/lang/IndexOutOfBoundsException" ∧ (0 ≤ (xs (i + 1)).toInt ∧ (xs (i + 1)).toInt < 256) ∧ ¬ (0 ≤ (xs (i + 2)).toInt ∧ (xs (i + 2)).toInt < (w : Int) ∧ 0 ≤ (xs (i + 3)).toInt ∧ (xs (i + 3)).toInt < (h : Int))) ∨ (E = "java/lang/IllegalStateException" ∧ (0 ≤ (xs (i + 1)).toInt ∧ (xs (i + 1)).toInt < 256) ∧ (0 ≤ (xs (i + 2)).toInt ∧ (xs (i + 2)).toInt < (w : Int) ∧ 0 ≤ (xs (i + 3)).toInt ∧ (xs (i + 3)).toInt < (h : Int)) ∧ ((w : Int) ≤ sI 8 (fun j => if Nat.testBit (mkM (fun j => Nat.testBit (xs (i + 1)).toInt.toNat j && (T j).1) 8) j = true then aI (T j).2.2.1 else 0) ∨ (h : Int) ≤ sI 8 (fun j => if Nat.testBit (mkM (fun j => Nat.testBit (xs (i + 1)).toInt.toNat j && (T j).1) 8) j = true then (T j).2.2.2.1 else 0)))) l ((iI ((xs (i + 1)).toInt))) ((iI ((xs (i + 2)).toInt))) ((iI ((xs (i + 3)).toInt))) _ c0 lf h94 (fun r9 a9 g9 h9 => po_ghost h94 h9) (fun E h9 => h9.elim (fun h8 => Or.inl h8.1) (fun h7 => Or.inr (h7.elim (fun h8 => Or.inl h8.1) (fun h8 => Or.inr h8.1)))) (c_ghost l hl w h hk hr sp wb (xs (i + 1)).toInt (xs (i + 2)).toInt (xs (i + 3)).toInt gc (iI_lo _) (iI_hi _) (iI_lo _) (iI_hi _) (iI_lo _) (iI_hi _) hw hh c0 c2 T bT c9 c8 posO)) (lkh_ghost C.1.2.2.2.2 rfl rfl ⟨Nat.le_of_ble_eq_true rfl, Nat.le_of_ble_eq_true rfl⟩) rfl rfl (Nat.le_of_ble_eq_true rfl) d_L_law_974 ⟨rcA, rsA⟩ (fun k5 ad1 g1 hp => ?_)
  obtain ⟨m1, m2, m0⟩ := mid_ghost hp
  have HR1 := rfW_fr HR m1 (fun r9 a9 _ => m2 r9 a9)
  obtain ⟨r73, r74, r75, r76, r77, r78, r79, r80, r81, r82, r83, r84, r85, r86, r87, r88, r89, r90, r91, r92, r93⟩ := HR1
  refine v_lvE (lv' := [(0, .ref b), (1, .ref (ad1 0)), (2, .ref (ad1 73)), (3, .ref (ad1 94)), (4, .int (iI (i : Int)))]) (by rw [m0, m2 73 (by decide), m2 94 (by decide)]) ?_
  refine v_istore (lv' := [(5, .int k5), (0, .ref b), (1, .ref (ad1 0)), (2, .ref (ad1 73)), (3, .ref (ad1 94)), (4, .int (iI (i : Int)))]) C d_L_law_977 (by decide) rfl ?_
  refine v_aload_n C d_L_law_979 rfl 3 rfl ?_
  refine v_aload_n C d_L_law_980 rfl 1 rfl ?_
  refine v_iload C d_L_law_981 5 rfl ?_
  refine v_iconst C d_L_law_983 ?_
  refine v_iaddI C d_L_law_984 ?_
  refine v_sldI C hX hb (i + 1) j1 i1 hL d_L_law_985 ?_
  refine v_aload_n C d_L_law_986 rfl 1 rfl ?_
  refine v_iload C d_L_law_987 5 rfl ?_
  refine v_iconst C d_L_law_989 ?_
  refine v_iaddI C d_L_law_990 ?_
  refine v_sldI C hX hb (i + 2) j2 i2 hL d_L_law_991 ?_
  refine v_aload_n C d_L_law_992 rfl 1 rfl ?_
  refine v_iload C d_L_law_993 5 rfl ?_
  refine v_iconst C d_L_law_995 ?_
  refine v_iaddI C d_L_law_996 ?_
  refine v_sldI C hX hb (i + 3) j3 i3 hL d_L_law_997 ?_
  refine v_callVI (As := [.int (iI ((xs (i + 1)).toInt)), .int (iI ((xs (i + 2)).toInt)), .int (iI ((xs (i + 3)).toInt))]) (st := []) (by decide) r73 rfl rfl C (c_Mghost l th w h hk hr tr sp wb (xs (i + 1)).toInt (xs (i + 2)).toInt (xs (i + 3)).toInt (iI_lo _) (iI_hi _) (iI_lo _) (iI_hi _) (iI_lo _) (iI_hi _) hw hh r73 tol r79 rP r80 rQ r81 spd r92 spg r93 PQ (fun j hj q1 q2 => by obtain ⟨t1, t2, t3, t4⟩ := lsh j hj; have q3 := t1.symm.trans q1; rw [(t3 q3).1]; exact posO j hj q3 ((t3 q3).2.symm.trans q2))) (lk_L_129 C.1.2.2.2.2 rfl rfl ⟨Nat.le_of_ble_eq_true rfl, Nat.le_of_ble_eq_true rfl⟩) rfl rfl (Nat.le_of_ble_eq_true rfl) d_L_law_998 ⟨rcA, rsA⟩ (fun b6 ad2 g2 hq => ?_)
  have e2 := rq_ghost hq
  obtain ⟨kk, lf1, ⟨kk1, kk2⟩, ek, HX1, hbv⟩ := pu_ghost HC HR HO HL h94 hp hq
  subst ek
  obtain ⟨w1, h1, hk1, hr1, tr1, sp1, wb1, n73, n94⟩ := RELx_73 HX1
  subst e2
  clear hp hq
  refine v_istore (lv' := [(6, .int b6), (5, .int (iI kk)), (0, .ref b), (1, .ref (ad1 0)), (2, .ref (ad1 73)), (3, .ref (ad1 94)), (4, .int (iI (i : Int)))]) C d_L_law_1001 (by decide) rfl ?_
  refine v_aload_n C d_L_law_1003 rfl 4 rfl ?_
  refine v_callVI (As := []) (st := []) (by decide) n73 rfl rfl C (c_Mthrown l kk w1 h1 hk1 hr1 tr1 sp1 wb1 n73) (lk_L_78 C.1.2.2.2.2 rfl rfl ⟨Nat.le_of_ble_eq_true rfl, Nat.le_of_ble_eq_true rfl⟩) rfl rfl (Nat.le_of_ble_eq_true rfl) d_L_law_1004 ⟨rcA, rsA⟩ (fun w7 ad3 g3 hp3 => ?_)
  obtain ⟨rfl, rfl, rfl⟩ := hp3
  refine v_iload C d_L_law_1007 1 rfl ?_
  refine v_icmp_eqI C d_L_law_1009 (by omega) (by omega) (by omega) (by omega) (fun _ => ?_) (fun hz9 => absurd rfl hz9)
  refine v_iload C d_L_law_1014 1 rfl ?_
  refine v_if_neI C d_L_law_1016 (by omega) (by omega) (fun hb1016 => ?_) (fun hb1016 => ?_)
  · refine v_goto C d_L_law_1031 ?_
    refine v_lv (lv' := [(0, .ref b), (1, .ref (ad1 0)), (2, .ref (ad1 73)), (3, .ref (ad1 94)), (4, .int (iI (i : Int)))]) [2, 3, 4, 5, 6] rfl ?_
    refine v_wid (k := cells + 26) (n := slots + 11556) (by omega) (by omega) ?_
    exact k _ _ ⟨kk, lf1, HX1⟩
  · refine v_aload_n C d_L_law_1019 rfl 5 rfl ?_
    refine v_iconst C d_L_law_1020 ?_
    refine v_lald C 2 (by decide) n94 rfl 0 rfl (by decide) (by decide) d_L_law_1021 ?_
    refine v_iload C d_L_law_1022 0 rfl ?_
    refine v_i2l C d_L_law_1024 ?_
    refine v_lcmp C d_L_law_1025 ?_
    refine v_if_eq C d_L_law_1026 (fun _ => ?_) (fun hz9 => absurd (by rw [hbv (by omega)]; exact lcmp_self _) hz9)
    refine v_goto C d_L_law_1031 ?_
    refine v_lv (lv' := [(0, .ref b), (1, .ref (ad1 0)), (2, .ref (ad1 73)), (3, .ref (ad1 94)), (4, .int (iI (i : Int)))]) [2, 3, 4, 5, 6] rfl ?_
    refine v_wid (k := cells + 26) (n := slots + 11556) (by omega) (by omega) ?_
    exact k _ _ ⟨kk, lf1, HX1⟩
set_option maxHeartbeats 1000000 in
set_option maxRecDepth 100000 in
theorem st_keep (l : Launch) (hl : l.stackTraces = false) {p : Program} {e : Env} {s : State} {m : MethodId} {below : List Frame} {meth : Method} {c : Code} {Q : State → Prop} {B : Nat} {D : va_G} {cI cZ cL cS cW : ClassId} {b L : Nat} {xs : Nat → Int32} {i cells slots : Nat} {ad : Nat → Nat} {g : Nat → va_E} (C : Cx p m c s #[Value.ref b] b_L_law 7 R_L wG s.heap B D classes (tyL cI cZ cL cS cW) (Zs B)) (hX : va_X b L xs s s.heap) (hb : b < B) (hL : L < 2147483648) (hi : i + 3 < L) (hc : cells + 26 ≤ 601024) (hs : slots + 11556 ≤ 7293034) (HX : REL cI cZ cL cS cW ad g) (k : ∀ (ad1 : Nat → Nat) (g1 : Nat → va_E), REL cI cZ cL cS cW ad1 g1 → kV p l e room_1 s m #[Value.ref b] below meth c Q s.heap B D classes 7 95 (cells + 26) (slots + 11556) ad1 g1 [(0, .ref b), (1, .ref (ad1 0)), (2, .ref (ad1 73)), (3, .ref (ad1 94)), (4, .int (iI (i : Int)))] [] 1117) : kV p l e room_1 s m #[Value.ref b] below meth c Q s.heap B D classes 7 95 cells slots ad g [(0, .ref b), (1, .ref (ad 0)), (2, .ref (ad 73)), (3, .ref (ad 94)), (4, .int (iI (i : Int)))] [] 1034 := by
  have i1 : i + 1 < L := by omega
  have j1 : (i : Int) + 1 = ((i + 1 : Nat) : Int) := by omega
  have i2 : i + 2 < L := by omega
  have j2 : (i : Int) + 2 = ((i + 2 : Nat) : Int) := by omega
  have i3 : i + 3 < L := by omega
  have j3 : (i : Int) + 3 = ((i + 3 : Nat) : Int) := by omega
  have rcA : cells + 8 ≤ 601024 := by omega
  have rsA : slots + 3848 ≤ 7293034 := by omega
  obtain ⟨th, lf, w, h, hk, hr, sp, wb, tr, T, KT, nb, kn, nw, ct0, lo, bf, kf, un, uc, re, f, fk, rb, dr, gc, pic, kep, reb, tri, kno, tol, fil, kt, kfl, rP, rQ, kP, kQ, bns, kb, unk, lef, sum, spd, spg, HC, HR, HO, HL, h94⟩ := HX
  have HC1 := HC
  have HO1 := HO
  have HL1 := HL
  obtain ⟨c0, c1, c2, c3, c4, c5, c6, c7, c8, c9, c10, c11, c12, c13, c14, c15, c16⟩ := HC1
  obtain ⟨hw, hh, bT, bK, nbO, knO, nwO, geo, filO, posO, kkO, PQ, KPQ⟩ := HO1
  obtain ⟨lp, lk, lr, lsh, lkk⟩ := HL1
  refine v_aload_n C d_L_law_1034 rfl 1 rfl ?_
  refine v_callVV (As := []) (st := []) (by decide) c0 rfl rfl C (c_keep l w h hk hr sp wb hw hh c0 f fk c1 c3 c2 c4 T bT c9 nb bf nbO c10 KT c11 kn kf knO c12 geo filO) (lk_L_130 C.1.2.2.2.2 rfl rfl ⟨Nat.le_of_ble_eq_true rfl, Nat.le_of_ble_eq_true rfl⟩) rfl rfl (Nat.le_of_ble_eq_true rfl) d_L_law_1035 ⟨rcA, rsA⟩ (fun ad1 g1 hp => ?_)
  obtain ⟨m1, m2, m0⟩ := mid_keep hp
  have HR1 := rfW_fr HR m1 (fun r9 a9 _ => m2 r9 a9)
  obtain ⟨r73, r74, r75, r76, r77, r78, r79, r80, r81, r82, r83, r84, r85, r86, r87, r88, r89, r90, r91, r92, r93⟩ := HR1
  refine v_lvE (lv' := [(0, .ref b), (1, .ref (ad1 0)), (2, .ref (ad1 73)), (3, .ref (ad1 94)), (4, .int (iI (i : Int)))]) (by rw [m0, m2 73 (by decide), m2 94 (by decide)]) ?_
  refine v_aload_n C d_L_law_1038 rfl 2 rfl ?_
  refine v_callVV (As := []) (st := []) (by decide) r73 rfl rfl C (c_Mkeep l th w h hk hr tr sp wb r73 pic r74 kep r75 tol r79 rP r80 rQ r81 fil r82 bns r83 kt r84 kP r85 kQ r86 kfl r87 kb r88) (lk_L_133 C.1.2.2.2.2 rfl rfl ⟨Nat.le_of_ble_eq_true rfl, Nat.le_of_ble_eq_true rfl⟩) rfl rfl (Nat.le_of_ble_eq_true rfl) d_L_law_1039 ⟨rcA, rsA⟩ (fun ad2 g2 hq => ?_)
  have e2 := rq_keep hq
  obtain ⟨lf1, HX1⟩ := pu_keep HC HR HO HL h94 hp hq
  subst e2
  clear hp hq
  refine v_goto C d_L_law_1042 ?_
  refine v_wid (k := cells + 26) (n := slots + 11556) (by omega) (by omega) ?_
  exact k _ _ ⟨0, lf1, HX1⟩
set_option maxHeartbeats 1000000 in
set_option maxRecDepth 100000 in
theorem st_add (l : Launch) (hl : l.stackTraces = false) {p : Program} {e : Env} {s : State} {m : MethodId} {below : List Frame} {meth : Method} {c : Code} {Q : State → Prop} {B : Nat} {D : va_G} {cI cZ cL cS cW : ClassId} {b L : Nat} {xs : Nat → Int32} {i cells slots : Nat} {ad : Nat → Nat} {g : Nat → va_E} (C : Cx p m c s #[Value.ref b] b_L_law 7 R_L wG s.heap B D classes (tyL cI cZ cL cS cW) (Zs B)) (hX : va_X b L xs s s.heap) (hb : b < B) (hL : L < 2147483648) (hi : i + 3 < L) (hc : cells + 26 ≤ 601024) (hs : slots + 11556 ≤ 7293034) (HX : REL cI cZ cL cS cW ad g) (k : ∀ (ad1 : Nat → Nat) (g1 : Nat → va_E), REL cI cZ cL cS cW ad1 g1 → kV p l e room_1 s m #[Value.ref b] below meth c Q s.heap B D classes 7 95 (cells + 26) (slots + 11556) ad1 g1 [(0, .ref b), (1, .ref (ad1 0)), (2, .ref (ad1 73)), (3, .ref (ad1 94)), (4, .int (iI (i : Int)))] [] 1117) : kV p l e room_1 s m #[Value.ref b] below meth c Q s.heap B D classes 7 95 cells slots ad g [(0, .ref b), (1, .ref (ad 0)), (2, .ref (ad 73)), (3, .ref (ad 94)), (4, .int (iI (i : Int)))] [] 1045 := by
  have i1 : i + 1 < L := by omega
  have j1 : (i : Int) + 1 = ((i + 1 : Nat) : Int) := by omega
  have i2 : i + 2 < L := by omega
  have j2 : (i : Int) + 2 = ((i + 2 : Nat) : Int) := by omega
  have i3 : i + 3 < L := by omega
  have j3 : (i : Int) + 3 = ((i + 3 : Nat) : Int) := by omega
  have rcA : cells + 1 ≤ 601024 := by omega
  have rsA : slots + 6 ≤ 7293034 := by omega
  obtain ⟨th, lf, w, h, hk, hr, sp, wb, tr, T, KT, nb, kn, nw, ct0, lo, bf, kf, un, uc, re, f, fk, rb, dr, gc, pic, kep, reb, tri, kno, tol, fil, kt, kfl, rP, rQ, kP, kQ, bns, kb, unk, lef, sum, spd, spg, HC, HR, HO, HL, h94⟩ := HX
  have HC1 := HC
  have HO1 := HO
  have HL1 := HL
  obtain ⟨c0, c1, c2, c3, c4, c5, c6, c7, c8, c9, c10, c11, c12, c13, c14, c15, c16⟩ := HC1
  obtain ⟨hw, hh, bT, bK, nbO, knO, nwO, geo, filO, posO, kkO, PQ, KPQ⟩ := HO1
  obtain ⟨lp, lk, lr, lsh, lkk⟩ := HL1
  refine v_aload_n C d_L_law_1045 rfl 1 rfl ?_
  have J1060 : ∀ b1 : Bool, (b1 = !decide ((xs (i + 1)).toInt = 0)) → kV p l e room_1 s m #[Value.ref b] below meth c Q s.heap B D classes 7 95 cells slots ad g [(0, .ref b), (1, .ref (ad 0)), (2, .ref (ad 73)), (3, .ref (ad 94)), (4, .int (iI (i : Int)))] [.int (bI b1), .ref (ad 0)] 1060 := by
    intro b1 hb1
    refine v_aload_n C d_L_law_1060 rfl 3 rfl ?_
    refine v_xcallSH (As := [.ref (ad 0), .int (bI b1), .ref (ad 94)]) (st := []) C (hl_add (post := fun v ad1 g1 => hk = true ∧ v = iI ((cN 8 (fun i => if ((T i).2.1 && (KT i).2.1 && decide ((KT i).2.2.1 = (T i).2.2.1 ∧ (KT i).2.2.2.1 = (T i).2.2.2.1)) = true then 1 else 0) : Nat) : Int) ∧ ad = ad1 ∧ g1 1 = inA cI 256 (addF b1 f fk 256) ∧ (∀ j, j < 8 → g1 (9 + 8 * j) = shE (ad (9 + 8 * j + 1)) ((T j).1, ((T j).2.1 && (KT j).2.1 && decide ((KT j).2.2.1 = (T j).2.2.1 ∧ (KT j).2.2.2.1 = (T j).2.2.2.1)), (T j).2.2)) ∧ (∀ j, j < 8 → g1 (9 + 8 * j + 1) = inA cI (nb j) (if ((T j).2.1 && (KT j).2.1 && decide ((KT j).2.2.1 = (T j).2.2.1 ∧ (KT j).2.2.2.1 = (T j).2.2.2.1)) = true then addF b1 (bf j) (kf j) (ctN (T j).2.2.1 (T j).2.2.2.1 w h) else bf j)) ∧ ∀ r1, r1 ≠ 1 → (∀ j9, j9 < 8 → r1 ≠ 9 + 8 * j9) → (∀ j9, j9 < 8 → r1 ≠ 9 + 8 * j9 + 1) → g1 r1 = g r1) (xp := fun E => E = "java/lang/IllegalStateException" ∧ hk = false) l ((bI b1)) _ c0 lf h94 (fun r9 a9 g9 h9 => po_add h94 h9) (fun E h9 => h9.1) (c_add l hl w h hk hr sp wb b1 hw hh c0 f fk c1 c3 c2 c4 T bT c9 nb bf nbO c10 KT c11 kn kf knO c12 geo filO bK kkO)) (lkh_add C.1.2.2.2.2 rfl rfl ⟨Nat.le_of_ble_eq_true rfl, Nat.le_of_ble_eq_true rfl⟩) rfl rfl (Nat.le_of_ble_eq_true rfl) d_L_law_1061 ⟨rcA, rsA⟩ (fun k5 ad1 g1 hp => ?_)
    obtain ⟨m1, m2, m0⟩ := mid_add hp
    have HR1 := rfW_fr HR m1 (fun r9 a9 _ => m2 r9 a9)
    obtain ⟨r73, r74, r75, r76, r77, r78, r79, r80, r81, r82, r83, r84, r85, r86, r87, r88, r89, r90, r91, r92, r93⟩ := HR1
    refine v_lvE (lv' := [(0, .ref b), (1, .ref (ad1 0)), (2, .ref (ad1 73)), (3, .ref (ad1 94)), (4, .int (iI (i : Int)))]) (by rw [m0, m2 73 (by decide), m2 94 (by decide)]) ?_
    refine v_istore (lv' := [(5, .int k5), (0, .ref b), (1, .ref (ad1 0)), (2, .ref (ad1 73)), (3, .ref (ad1 94)), (4, .int (iI (i : Int)))]) C d_L_law_1064 (by decide) rfl ?_
    refine v_aload_n C d_L_law_1066 rfl 3 rfl ?_
    have J1081 : ∀ b2 : Bool, (b2 = !decide ((xs (i + 1)).toInt = 0)) → kV p l e room_1 s m #[Value.ref b] below meth c Q s.heap B D classes 7 95 (cells + 1) (slots + 6) ad1 g1 [(5, .int k5), (0, .ref b), (1, .ref (ad1 0)), (2, .ref (ad1 73)), (3, .ref (ad1 94)), (4, .int (iI (i : Int)))] [.int (bI b2), .ref (ad1 73)] 1081 := by
      intro b2 hb2
      have eb : b1 = b2 := by rw [hb1, hb2]
      subst eb
      refine v_callVI (As := [.int (bI b1)]) (st := []) (by decide) r73 rfl rfl C (c_Madd l th w h hk hr tr sp wb b1 r73 pic r74 kep r75 tol r79 rP r80 rQ r81 fil r82 bns r83 kt r84 kP r85 kQ r86 kfl r87 kb r88 PQ KPQ) (lk_L_137 C.1.2.2.2.2 rfl rfl ⟨Nat.le_of_ble_eq_true rfl, Nat.le_of_ble_eq_true rfl⟩) rfl rfl (Nat.le_of_ble_eq_true rfl) d_L_law_1081 ⟨rcA, rsA⟩ (fun b6 ad2 g2 hq => ?_)
      have e2 := rq_add hq
      obtain ⟨kk, lf1, ⟨kk1, kk2⟩, ek, HX1, hbv⟩ := pu_add HC HR HO HL h94 hp hq
      subst ek
      obtain ⟨w1, h1, hk1, hr1, tr1, sp1, wb1, n73, n94⟩ := RELx_73 HX1
      subst e2
      clear hp hq
      refine v_istore (lv' := [(6, .int b6), (5, .int (iI kk)), (0, .ref b), (1, .ref (ad1 0)), (2, .ref (ad1 73)), (3, .ref (ad1 94)), (4, .int (iI (i : Int)))]) C d_L_law_1084 (by decide) rfl ?_
      refine v_aload_n C d_L_law_1086 rfl 4 rfl ?_
      refine v_callVI (As := []) (st := []) (by decide) n73 rfl rfl C (c_Mthrown l kk w1 h1 hk1 hr1 tr1 sp1 wb1 n73) (lk_L_78 C.1.2.2.2.2 rfl rfl ⟨Nat.le_of_ble_eq_true rfl, Nat.le_of_ble_eq_true rfl⟩) rfl rfl (Nat.le_of_ble_eq_true rfl) d_L_law_1087 ⟨rcA, rsA⟩ (fun w7 ad3 g3 hp3 => ?_)
      obtain ⟨rfl, rfl, rfl⟩ := hp3
      refine v_iload C d_L_law_1090 1 rfl ?_
      refine v_icmp_eqI C d_L_law_1092 (by omega) (by omega) (by omega) (by omega) (fun _ => ?_) (fun hz9 => absurd rfl hz9)
      refine v_iload C d_L_law_1097 1 rfl ?_
      refine v_if_neI C d_L_law_1099 (by omega) (by omega) (fun hb1099 => ?_) (fun hb1099 => ?_)
      · refine v_goto C d_L_law_1114 ?_
        refine v_lv (lv' := [(0, .ref b), (1, .ref (ad1 0)), (2, .ref (ad1 73)), (3, .ref (ad1 94)), (4, .int (iI (i : Int)))]) [2, 3, 4, 5, 6] rfl ?_
        refine v_wid (k := cells + 26) (n := slots + 11556) (by omega) (by omega) ?_
        exact k _ _ ⟨kk, lf1, HX1⟩
      · refine v_aload_n C d_L_law_1102 rfl 5 rfl ?_
        refine v_iconst C d_L_law_1103 ?_
        refine v_lald C 2 (by decide) n94 rfl 0 rfl (by decide) (by decide) d_L_law_1104 ?_
        refine v_iload C d_L_law_1105 0 rfl ?_
        refine v_i2l C d_L_law_1107 ?_
        refine v_lcmp C d_L_law_1108 ?_
        refine v_if_eq C d_L_law_1109 (fun _ => ?_) (fun hz9 => absurd (by rw [hbv (by omega)]; exact lcmp_self _) hz9)
        refine v_goto C d_L_law_1114 ?_
        refine v_lv (lv' := [(0, .ref b), (1, .ref (ad1 0)), (2, .ref (ad1 73)), (3, .ref (ad1 94)), (4, .int (iI (i : Int)))]) [2, 3, 4, 5, 6] rfl ?_
        refine v_wid (k := cells + 26) (n := slots + 11556) (by omega) (by omega) ?_
        exact k _ _ ⟨kk, lf1, HX1⟩
    refine v_aload_n C d_L_law_1067 rfl 1 rfl ?_
    refine v_iload C d_L_law_1068 5 rfl ?_
    refine v_iconst C d_L_law_1070 ?_
    refine v_iaddI C d_L_law_1071 ?_
    refine v_sldI C hX hb (i + 1) j1 i1 hL d_L_law_1072 ?_
    refine v_if_eqI C d_L_law_1073 (iI_lo _) (iI_hi _) (fun hb1073 => ?_) (fun hb1073 => ?_)
    · refine v_iconst C d_L_law_1080 ?_
      exact J1081 false (by simp [hb1073])
    · refine v_iconst C d_L_law_1076 ?_
      refine v_goto C d_L_law_1077 ?_
      exact J1081 true (by simp [hb1073])
  refine v_aload_n C d_L_law_1046 rfl 0 rfl ?_
  refine v_iload C d_L_law_1047 4 rfl ?_
  refine v_iconst C d_L_law_1049 ?_
  refine v_iaddI C d_L_law_1050 ?_
  refine v_sldI C hX hb (i + 1) j1 i1 hL d_L_law_1051 ?_
  refine v_if_eqI C d_L_law_1052 (iI_lo _) (iI_hi _) (fun hb1052 => ?_) (fun hb1052 => ?_)
  · refine v_iconst C d_L_law_1059 ?_
    exact J1060 false (by simp [hb1052])
  · refine v_iconst C d_L_law_1055 ?_
    refine v_goto C d_L_law_1056 ?_
    exact J1060 true (by simp [hb1052])
