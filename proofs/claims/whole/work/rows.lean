section
-- ===== PART A: goes FIRST, ahead of the names: the tables' words, and 'selects' of the private methods out of them =====
/-- a private method of a class that the tables say can be made, by its rows of tables_1 -/
def lw_okq (q : MethodName × Nat) : Prop := (q.1.cls ≠ "java/lang/invoke/MethodHandle" ∧ q.1.cls ≠ "java/lang/invoke/VarHandle") ∧ Cond.instantiable q.1.cls q.2 ∈ tables_1 ∧ Cond.privateMethod q.1 ∈ tables_1 ∧ Cond.instanceMethod q.1 ∈ tables_1
theorem lw_p0 : lw_okq (⟨"ShadowArchive", "filledShelves", "()I"⟩, 14) := ⟨⟨by decide +kernel, by decide +kernel⟩, List.mem_of_getElem? (i := 15) (by decide +kernel), List.mem_of_getElem? (i := 131) (by decide +kernel), List.mem_of_getElem? (i := 132) (by decide +kernel)⟩
theorem lw_p1 : lw_okq (⟨"ShadowArchive", "areOfOnePicture", "(I)Z"⟩, 14) := ⟨⟨by decide +kernel, by decide +kernel⟩, List.mem_of_getElem? (i := 15) (by decide +kernel), List.mem_of_getElem? (i := 135) (by decide +kernel), List.mem_of_getElem? (i := 136) (by decide +kernel)⟩
theorem lw_p2 : lw_okq (⟨"ShadowArchive", "solve", "(I)I"⟩, 14) := ⟨⟨by decide +kernel, by decide +kernel⟩, List.mem_of_getElem? (i := 15) (by decide +kernel), List.mem_of_getElem? (i := 139) (by decide +kernel), List.mem_of_getElem? (i := 140) (by decide +kernel)⟩
theorem lw_p3 : lw_okq (⟨"ShadowArchive$Worksheet", "makeRows", "()V"⟩, 5) := ⟨⟨by decide +kernel, by decide +kernel⟩, List.mem_of_getElem? (i := 62) (by decide +kernel), List.mem_of_getElem? (i := 150) (by decide +kernel), List.mem_of_getElem? (i := 151) (by decide +kernel)⟩
theorem lw_p4 : lw_okq (⟨"ShadowArchive", "lowestReadyShelf", "(I)I"⟩, 14) := ⟨⟨by decide +kernel, by decide +kernel⟩, List.mem_of_getElem? (i := 15) (by decide +kernel), List.mem_of_getElem? (i := 167) (by decide +kernel), List.mem_of_getElem? (i := 168) (by decide +kernel)⟩
theorem lw_p5 : lw_okq (⟨"ShadowArchive", "makeKnown", "(III)V"⟩, 14) := ⟨⟨by decide +kernel, by decide +kernel⟩, List.mem_of_getElem? (i := 15) (by decide +kernel), List.mem_of_getElem? (i := 183) (by decide +kernel), List.mem_of_getElem? (i := 184) (by decide +kernel)⟩
theorem lw_p6 : lw_okq (⟨"ShadowArchive", "lowestWrongShelf", "(I)I"⟩, 14) := ⟨⟨by decide +kernel, by decide +kernel⟩, List.mem_of_getElem? (i := 15) (by decide +kernel), List.mem_of_getElem? (i := 192) (by decide +kernel), List.mem_of_getElem? (i := 193) (by decide +kernel)⟩
theorem lw_p7 : lw_okq (⟨"ShadowArchive$Shelf", "makeBins", "()V"⟩, 7) := ⟨⟨by decide +kernel, by decide +kernel⟩, List.mem_of_getElem? (i := 26) (by decide +kernel), List.mem_of_getElem? (i := 209) (by decide +kernel), List.mem_of_getElem? (i := 210) (by decide +kernel)⟩
theorem lw_p8 : lw_okq (⟨"java/lang/Throwable", "fillInStackTrace", "(I)Ljava/lang/Throwable;"⟩, 6) := ⟨⟨by decide +kernel, by decide +kernel⟩, List.mem_of_getElem? (i := 260) (by decide +kernel), List.mem_of_getElem? (i := 258) (by decide +kernel), List.mem_of_getElem? (i := 259) (by decide +kernel)⟩
theorem lw_p9 : lw_okq (⟨"ShadowArchive", "requirePixel", "(II)V"⟩, 14) := ⟨⟨by decide +kernel, by decide +kernel⟩, List.mem_of_getElem? (i := 15) (by decide +kernel), List.mem_of_getElem? (i := 303) (by decide +kernel), List.mem_of_getElem? (i := 304) (by decide +kernel)⟩
theorem lw_p10 : lw_okq (⟨"ShadowArchive", "anotherHas", "(III)Z"⟩, 14) := ⟨⟨by decide +kernel, by decide +kernel⟩, List.mem_of_getElem? (i := 15) (by decide +kernel), List.mem_of_getElem? (i := 367) (by decide +kernel), List.mem_of_getElem? (i := 368) (by decide +kernel)⟩
theorem lw_p11 : lw_okq (⟨"ShadowArchive", "requireBin", "(II)V"⟩, 14) := ⟨⟨by decide +kernel, by decide +kernel⟩, List.mem_of_getElem? (i := 15) (by decide +kernel), List.mem_of_getElem? (i := 422) (by decide +kernel), List.mem_of_getElem? (i := 423) (by decide +kernel)⟩
theorem lw_p12 : lw_okq (⟨"ShadowArchive", "aimedOf", "(I)I"⟩, 14) := ⟨⟨by decide +kernel, by decide +kernel⟩, List.mem_of_getElem? (i := 15) (by decide +kernel), List.mem_of_getElem? (i := 445) (by decide +kernel), List.mem_of_getElem? (i := 446) (by decide +kernel)⟩
theorem lw_p13 : lw_okq (⟨"ShadowArchive", "areEnough", "(I)Z"⟩, 14) := ⟨⟨by decide +kernel, by decide +kernel⟩, List.mem_of_getElem? (i := 15) (by decide +kernel), List.mem_of_getElem? (i := 449) (by decide +kernel), List.mem_of_getElem? (i := 450) (by decide +kernel)⟩
theorem lw_p14 : lw_okq (⟨"ShadowArchive", "drawGhost", "(I)V"⟩, 14) := ⟨⟨by decide +kernel, by decide +kernel⟩, List.mem_of_getElem? (i := 15) (by decide +kernel), List.mem_of_getElem? (i := 483) (by decide +kernel), List.mem_of_getElem? (i := 484) (by decide +kernel)⟩
theorem lw_p15 : lw_okq (⟨"ShadowArchive", "takeGhostMoved", "(II)V"⟩, 14) := ⟨⟨by decide +kernel, by decide +kernel⟩, List.mem_of_getElem? (i := 15) (by decide +kernel), List.mem_of_getElem? (i := 490) (by decide +kernel), List.mem_of_getElem? (i := 491) (by decide +kernel)⟩
def lw_privs_1 : List (MethodName × Nat) := [(⟨"ShadowArchive", "filledShelves", "()I"⟩, 14), (⟨"ShadowArchive", "areOfOnePicture", "(I)Z"⟩, 14), (⟨"ShadowArchive", "solve", "(I)I"⟩, 14), (⟨"ShadowArchive$Worksheet", "makeRows", "()V"⟩, 5), (⟨"ShadowArchive", "lowestReadyShelf", "(I)I"⟩, 14), (⟨"ShadowArchive", "makeKnown", "(III)V"⟩, 14), (⟨"ShadowArchive", "lowestWrongShelf", "(I)I"⟩, 14), (⟨"ShadowArchive$Shelf", "makeBins", "()V"⟩, 7), (⟨"java/lang/Throwable", "fillInStackTrace", "(I)Ljava/lang/Throwable;"⟩, 6), (⟨"ShadowArchive", "requirePixel", "(II)V"⟩, 14), (⟨"ShadowArchive", "anotherHas", "(III)Z"⟩, 14), (⟨"ShadowArchive", "requireBin", "(II)V"⟩, 14), (⟨"ShadowArchive", "aimedOf", "(I)I"⟩, 14), (⟨"ShadowArchive", "areEnough", "(I)Z"⟩, 14), (⟨"ShadowArchive", "drawGhost", "(I)V"⟩, 14), (⟨"ShadowArchive", "takeGhostMoved", "(II)V"⟩, 14)]
theorem lw_r1 : ∀ q ∈ lw_privs_1, lw_okq q := List.forall_mem_cons.mpr ⟨lw_p0, List.forall_mem_cons.mpr ⟨lw_p1, List.forall_mem_cons.mpr ⟨lw_p2, List.forall_mem_cons.mpr ⟨lw_p3, List.forall_mem_cons.mpr ⟨lw_p4, List.forall_mem_cons.mpr ⟨lw_p5, List.forall_mem_cons.mpr ⟨lw_p6, List.forall_mem_cons.mpr ⟨lw_p7, List.forall_mem_cons.mpr ⟨lw_p8, List.forall_mem_cons.mpr ⟨lw_p9, List.forall_mem_cons.mpr ⟨lw_p10, List.forall_mem_cons.mpr ⟨lw_p11, List.forall_mem_cons.mpr ⟨lw_p12, List.forall_mem_cons.mpr ⟨lw_p13, List.forall_mem_cons.mpr ⟨lw_p14, List.forall_mem_cons.mpr ⟨lw_p15, fun _ h => absurd h List.not_mem_nil⟩⟩⟩⟩⟩⟩⟩⟩⟩⟩⟩⟩⟩⟩⟩⟩
theorem lw_p16 : lw_okq (⟨"ShadowArchiveModel", "throwing", "(ZZ)Z"⟩, 28) := ⟨⟨by decide +kernel, by decide +kernel⟩, List.mem_of_getElem? (i := 510) (by decide +kernel), List.mem_of_getElem? (i := 610) (by decide +kernel), List.mem_of_getElem? (i := 611) (by decide +kernel)⟩
theorem lw_p17 : lw_okq (⟨"ShadowArchiveModel", "isPixel", "(II)Z"⟩, 28) := ⟨⟨by decide +kernel, by decide +kernel⟩, List.mem_of_getElem? (i := 510) (by decide +kernel), List.mem_of_getElem? (i := 618) (by decide +kernel), List.mem_of_getElem? (i := 619) (by decide +kernel)⟩
theorem lw_p18 : lw_okq (⟨"ShadowArchiveModel", "isTaken", "(III)Z"⟩, 28) := ⟨⟨by decide +kernel, by decide +kernel⟩, List.mem_of_getElem? (i := 510) (by decide +kernel), List.mem_of_getElem? (i := 636) (by decide +kernel), List.mem_of_getElem? (i := 637) (by decide +kernel)⟩
theorem lw_p19 : lw_okq (⟨"ShadowArchiveModel", "hasDirection", "(I)Z"⟩, 28) := ⟨⟨by decide +kernel, by decide +kernel⟩, List.mem_of_getElem? (i := 510) (by decide +kernel), List.mem_of_getElem? (i := 644) (by decide +kernel), List.mem_of_getElem? (i := 645) (by decide +kernel)⟩
theorem lw_p20 : lw_okq (⟨"ShadowArchiveModel", "binsOf", "(I)I"⟩, 28) := ⟨⟨by decide +kernel, by decide +kernel⟩, List.mem_of_getElem? (i := 510) (by decide +kernel), List.mem_of_getElem? (i := 648) (by decide +kernel), List.mem_of_getElem? (i := 649) (by decide +kernel)⟩
theorem lw_p21 : lw_okq (⟨"ShadowArchiveModel", "fill", "(I[I)V"⟩, 28) := ⟨⟨by decide +kernel, by decide +kernel⟩, List.mem_of_getElem? (i := 510) (by decide +kernel), List.mem_of_getElem? (i := 659) (by decide +kernel), List.mem_of_getElem? (i := 660) (by decide +kernel)⟩
theorem lw_p22 : lw_okq (⟨"ShadowArchiveModel", "sumUp", "(I[I)V"⟩, 28) := ⟨⟨by decide +kernel, by decide +kernel⟩, List.mem_of_getElem? (i := 510) (by decide +kernel), List.mem_of_getElem? (i := 663) (by decide +kernel), List.mem_of_getElem? (i := 664) (by decide +kernel)⟩
theorem lw_p23 : lw_okq (⟨"ShadowArchiveModel", "binAt", "(III)I"⟩, 28) := ⟨⟨by decide +kernel, by decide +kernel⟩, List.mem_of_getElem? (i := 510) (by decide +kernel), List.mem_of_getElem? (i := 667) (by decide +kernel), List.mem_of_getElem? (i := 668) (by decide +kernel)⟩
theorem lw_p24 : lw_okq (⟨"ShadowArchiveModel", "hasNoBin", "(II)Z"⟩, 28) := ⟨⟨by decide +kernel, by decide +kernel⟩, List.mem_of_getElem? (i := 510) (by decide +kernel), List.mem_of_getElem? (i := 679) (by decide +kernel), List.mem_of_getElem? (i := 680) (by decide +kernel)⟩
theorem lw_p25 : lw_okq (⟨"ShadowArchiveModel", "areEnough", "(I)Z"⟩, 28) := ⟨⟨by decide +kernel, by decide +kernel⟩, List.mem_of_getElem? (i := 510) (by decide +kernel), List.mem_of_getElem? (i := 694) (by decide +kernel), List.mem_of_getElem? (i := 695) (by decide +kernel)⟩
theorem lw_p26 : lw_okq (⟨"ShadowArchiveModel", "isOf", "(II)Z"⟩, 28) := ⟨⟨by decide +kernel, by decide +kernel⟩, List.mem_of_getElem? (i := 510) (by decide +kernel), List.mem_of_getElem? (i := 698) (by decide +kernel), List.mem_of_getElem? (i := 699) (by decide +kernel)⟩
theorem lw_p27 : lw_okq (⟨"ShadowArchiveModel", "comes", "(I)Z"⟩, 28) := ⟨⟨by decide +kernel, by decide +kernel⟩, List.mem_of_getElem? (i := 510) (by decide +kernel), List.mem_of_getElem? (i := 706) (by decide +kernel), List.mem_of_getElem? (i := 707) (by decide +kernel)⟩
theorem lw_p28 : lw_okq (⟨"ShadowArchiveModel", "beginTry", "(I)V"⟩, 28) := ⟨⟨by decide +kernel, by decide +kernel⟩, List.mem_of_getElem? (i := 510) (by decide +kernel), List.mem_of_getElem? (i := 710) (by decide +kernel), List.mem_of_getElem? (i := 711) (by decide +kernel)⟩
theorem lw_p29 : lw_okq (⟨"ShadowArchiveModel", "single", "(I)I"⟩, 28) := ⟨⟨by decide +kernel, by decide +kernel⟩, List.mem_of_getElem? (i := 510) (by decide +kernel), List.mem_of_getElem? (i := 714) (by decide +kernel), List.mem_of_getElem? (i := 715) (by decide +kernel)⟩
theorem lw_p30 : lw_okq (⟨"ShadowArchiveModel", "learnOf", "(II)V"⟩, 28) := ⟨⟨by decide +kernel, by decide +kernel⟩, List.mem_of_getElem? (i := 510) (by decide +kernel), List.mem_of_getElem? (i := 718) (by decide +kernel), List.mem_of_getElem? (i := 719) (by decide +kernel)⟩
theorem lw_p31 : lw_okq (⟨"ShadowArchiveModel", "learn", "(IIII)V"⟩, 28) := ⟨⟨by decide +kernel, by decide +kernel⟩, List.mem_of_getElem? (i := 510) (by decide +kernel), List.mem_of_getElem? (i := 722) (by decide +kernel), List.mem_of_getElem? (i := 723) (by decide +kernel)⟩
def lw_privs_2 : List (MethodName × Nat) := [(⟨"ShadowArchiveModel", "throwing", "(ZZ)Z"⟩, 28), (⟨"ShadowArchiveModel", "isPixel", "(II)Z"⟩, 28), (⟨"ShadowArchiveModel", "isTaken", "(III)Z"⟩, 28), (⟨"ShadowArchiveModel", "hasDirection", "(I)Z"⟩, 28), (⟨"ShadowArchiveModel", "binsOf", "(I)I"⟩, 28), (⟨"ShadowArchiveModel", "fill", "(I[I)V"⟩, 28), (⟨"ShadowArchiveModel", "sumUp", "(I[I)V"⟩, 28), (⟨"ShadowArchiveModel", "binAt", "(III)I"⟩, 28), (⟨"ShadowArchiveModel", "hasNoBin", "(II)Z"⟩, 28), (⟨"ShadowArchiveModel", "areEnough", "(I)Z"⟩, 28), (⟨"ShadowArchiveModel", "isOf", "(II)Z"⟩, 28), (⟨"ShadowArchiveModel", "comes", "(I)Z"⟩, 28), (⟨"ShadowArchiveModel", "beginTry", "(I)V"⟩, 28), (⟨"ShadowArchiveModel", "single", "(I)I"⟩, 28), (⟨"ShadowArchiveModel", "learnOf", "(II)V"⟩, 28), (⟨"ShadowArchiveModel", "learn", "(IIII)V"⟩, 28)]
theorem lw_r2 : ∀ q ∈ lw_privs_2, lw_okq q := List.forall_mem_cons.mpr ⟨lw_p16, List.forall_mem_cons.mpr ⟨lw_p17, List.forall_mem_cons.mpr ⟨lw_p18, List.forall_mem_cons.mpr ⟨lw_p19, List.forall_mem_cons.mpr ⟨lw_p20, List.forall_mem_cons.mpr ⟨lw_p21, List.forall_mem_cons.mpr ⟨lw_p22, List.forall_mem_cons.mpr ⟨lw_p23, List.forall_mem_cons.mpr ⟨lw_p24, List.forall_mem_cons.mpr ⟨lw_p25, List.forall_mem_cons.mpr ⟨lw_p26, List.forall_mem_cons.mpr ⟨lw_p27, List.forall_mem_cons.mpr ⟨lw_p28, List.forall_mem_cons.mpr ⟨lw_p29, List.forall_mem_cons.mpr ⟨lw_p30, List.forall_mem_cons.mpr ⟨lw_p31, fun _ h => absurd h List.not_mem_nil⟩⟩⟩⟩⟩⟩⟩⟩⟩⟩⟩⟩⟩⟩⟩⟩
theorem lw_p32 : lw_okq (⟨"ShadowArchiveModel", "disagrees", "(I)I"⟩, 28) := ⟨⟨by decide +kernel, by decide +kernel⟩, List.mem_of_getElem? (i := 510) (by decide +kernel), List.mem_of_getElem? (i := 726) (by decide +kernel), List.mem_of_getElem? (i := 727) (by decide +kernel)⟩
theorem lw_p33 : lw_okq (⟨"ShadowArchiveModel", "parts", "(I)I"⟩, 28) := ⟨⟨by decide +kernel, by decide +kernel⟩, List.mem_of_getElem? (i := 510) (by decide +kernel), List.mem_of_getElem? (i := 730) (by decide +kernel), List.mem_of_getElem? (i := 731) (by decide +kernel)⟩
theorem lw_p34 : lw_okq (⟨"ShadowArchiveModel", "filledOnes", "()I"⟩, 28) := ⟨⟨by decide +kernel, by decide +kernel⟩, List.mem_of_getElem? (i := 510) (by decide +kernel), List.mem_of_getElem? (i := 742) (by decide +kernel), List.mem_of_getElem? (i := 743) (by decide +kernel)⟩
theorem lw_p35 : lw_okq (⟨"ShadowArchiveModel", "areOfOne", "(I)Z"⟩, 28) := ⟨⟨by decide +kernel, by decide +kernel⟩, List.mem_of_getElem? (i := 510) (by decide +kernel), List.mem_of_getElem? (i := 750) (by decide +kernel), List.mem_of_getElem? (i := 751) (by decide +kernel)⟩
theorem lw_p36 : lw_okq (⟨"ShadowArchiveModel", "moveAway", "(II)V"⟩, 28) := ⟨⟨by decide +kernel, by decide +kernel⟩, List.mem_of_getElem? (i := 510) (by decide +kernel), List.mem_of_getElem? (i := 758) (by decide +kernel), List.mem_of_getElem? (i := 759) (by decide +kernel)⟩
theorem lw_p37 : lw_okq (⟨"ShadowArchiveModel", "lowestColumn", "()I"⟩, 28) := ⟨⟨by decide +kernel, by decide +kernel⟩, List.mem_of_getElem? (i := 510) (by decide +kernel), List.mem_of_getElem? (i := 762) (by decide +kernel), List.mem_of_getElem? (i := 763) (by decide +kernel)⟩
def lw_privs_3 : List (MethodName × Nat) := [(⟨"ShadowArchiveModel", "disagrees", "(I)I"⟩, 28), (⟨"ShadowArchiveModel", "parts", "(I)I"⟩, 28), (⟨"ShadowArchiveModel", "filledOnes", "()I"⟩, 28), (⟨"ShadowArchiveModel", "areOfOne", "(I)Z"⟩, 28), (⟨"ShadowArchiveModel", "moveAway", "(II)V"⟩, 28), (⟨"ShadowArchiveModel", "lowestColumn", "()I"⟩, 28)]
theorem lw_r3 : ∀ q ∈ lw_privs_3, lw_okq q := List.forall_mem_cons.mpr ⟨lw_p32, List.forall_mem_cons.mpr ⟨lw_p33, List.forall_mem_cons.mpr ⟨lw_p34, List.forall_mem_cons.mpr ⟨lw_p35, List.forall_mem_cons.mpr ⟨lw_p36, List.forall_mem_cons.mpr ⟨lw_p37, fun _ h => absurd h List.not_mem_nil⟩⟩⟩⟩⟩⟩
def lw_privs : List (MethodName × Nat) := lw_privs_1 ++ (lw_privs_2 ++ (lw_privs_3))
def lw_tbl : List Cond := k2_sels lw_privs ++ tables_1
theorem lw_privs_ok : ∀ q ∈ lw_privs, lw_okq q := by
  show ∀ q ∈ lw_privs_1 ++ (lw_privs_2 ++ (lw_privs_3)), lw_okq q
  exact List.forall_mem_append.mpr ⟨lw_r1, List.forall_mem_append.mpr ⟨lw_r2, lw_r3⟩⟩
end
section
/-! ===== BEGIN words of one list among another's, by their places ===== -/
theorem goodIn_r {big : List Cond} (ws : List Cond) (ps : List Nat) (hp : ws = ps.filterMap (fun i => big[i]?)) (h : ws.all goodWord = true) : GoodIn big ws := by
  intro w hw
  have h1 := List.all_eq_true.mp h w hw
  rw [hp] at hw
  obtain ⟨i, -, hi⟩ := List.mem_filterMap.mp hw
  have hm : w ∈ big := by first | exact List.mem_of_getElem? hi | exact List.getElem?_mem hi
  exact ⟨hm, good_of_word h1⟩
theorem goodIn_app {big a b : List Cond} (ha : GoodIn big a) (hb : GoodIn big b) : GoodIn big (a ++ b) := fun w h => (List.mem_append.mp h).elim (ha w) (hb w)
theorem goodIn_ca {big a b : List Cond} {c : Cond} (ha : GoodIn big (c :: a)) (hb : GoodIn big b) : GoodIn big (c :: (a ++ b)) := fun w h => (List.mem_cons.mp h).elim (fun e => ha w (List.mem_cons.mpr (Or.inl e))) (fun h => (List.mem_append.mp h).elim (fun h => ha w (List.mem_cons.mpr (Or.inr h))) (hb w))
theorem goodIn_sub {big ws : List Cond} (hm : ∀ w ∈ ws, w ∈ big) (h : ws.all goodWord = true) : GoodIn big ws := fun w hw => ⟨hm w hw, good_of_word (List.all_eq_true.mp h w hw)⟩
/-! ===== END ===== -/

/-! ===== BEGIN exceptions that leave a method, and their catching by the caller (launches without stack traces) ===== -/
section VXA
/-! The laws vx_back, vx_callV, vx_callS, vx_callSW, vx_throw0, vx_throwS follow proofs of the library, with one case more: JvmDerived/Free/Laws.lean (Back.of_free), Shelf42/LK1.lean (callV, callS), Shelf/KitTraced.lean (throwNew0V, throwNewS). -/
/-- where a method has thrown q: the class by its name, the cell, what was written, the world -/
def vx_T (XC : String → State → State → Prop) (st : State) (q : Addr) (t : State) (mc ms : Nat) (free : Addr → Prop) : Prop :=
  ∃ (E : String) (ce : Cell) (L : List Loc), XC E st t ∧ t.heap[q]? = some ce ∧ ce.vm = .none ∧ st.vm.findClass E = some ce.cls ∧ st.WarmedH t.vm ∧ st.sameButNew ({ t with vm := st.vm } : State) L mc ms ∧ ∀ z ∈ L, free z.base
def vx_Q (Qc : Array Value → State → Outcome → State → Prop) (XC : String → State → State → Prop) (mc ms : Nat) (free : Addr → Prop) : Array Value → State → Outcome → State → Prop := fun a st o t =>
  (Qc a st o t ∧ ∃ L, FrameEnd st o t L mc ms ∧ ∀ q ∈ L, free q.base) ∨ ∃ q, o = .threw q ∧ vx_T XC st q t mc ms free
/-- a callee that returns or throws -/
def vx_Met (l : Launch) (y : MethodName) (ws : List Cond) (rm : Room) (Pc : Array Value → State → Prop) (Qc : Array Value → State → Outcome → State → Prop) (XC : String → State → State → Prop) (mc ms : Nat) (free : Addr → Prop) : Prop :=
  MetFree l y (headSpec ws rm) Pc (fun _ _ _ _ _ => True) (vx_Q Qc XC mc ms free)
def vx_Post (XC : String → State → State → Prop) (mc ms : Nat) (free : Addr → Prop) : Pt → Array Value → Addr → Pt → Prop := fun A a q B =>
  ∃ (g : JFrame) (mk : MethodId) (t : State) (L : List Loc) (E : String) (ce : Cell), B.U.heap = t.heap ∧ B.U.vm = t.vm ∧ XC E (A.U.calling g mk a) t ∧ t.heap[q]? = some ce ∧ ce.vm = .none ∧ A.U.vm.findClass E = some ce.cls ∧ B.locs = A.locs ++ L ∧ (∀ z ∈ L, free z.base) ∧ B.cells = A.cells + mc ∧ B.slots = A.slots + ms
def vx_Back (l : Launch) (R : Room) (p : Program) (e : Env) (below : List Frame) (s : State) (sargs : Array Value) (y : MethodName) (len W9 : Nat)
    (Pre : Pt → Array Value → Prop) (Post : Pt → Array Value → Option Value → Pt → Prop) (PostX : Pt → Array Value → Addr → Pt → Prop) : Prop :=
  ∀ (m : MethodId) (meth : Method) (c : Code) (A : Pt) (g : JFrame) (ig : Instr) (mk : MethodId) (a : Array Value),
    Stand p l e R s m sargs below meth c A.U A.locs A.cells A.slots → g.method = m → g.locals.size = c.maxLocals → decode c.code g.pc = .ok (ig, len) →
    2 * g.monitorRoom + (g.stack.map fun v => v.category).sum ≤ W9 → A.U.methodNamed? y = some mk → Pre A a →
    (∃ (v : Option Value) (B : Pt), Stand p l e R s m sargs below meth c B.U B.locs B.cells B.slots ∧ Post A a v B ∧
      Steps p.tables e below (doInvoke e (A.U.setTop g) [] mk a).1 (B.U.setTop { g with pc := g.pc + len, stack := v.toList ++ g.stack })) ∨
    (∃ (q : Addr) (B : Pt), Stand p l e R s m sargs below meth c B.U B.locs B.cells B.slots ∧ PostX A a q B ∧
      Steps p.tables e below (doInvoke e (A.U.setTop g) [] mk a).1 ((B.U.setTop g).pushFrame (.throwing q)))
section Payer
variable {l : Launch} {R : Room} {p : Program} {e : Env} {below : List Frame} {s : State} {sargs : Array Value} {y : MethodName} {len W9 : Nat}
theorem vx_back {ws : List Cond} {rm : Room} {Pc : Array Value → State → Prop} {Qc : Array Value → State → Outcome → State → Prop} {XC : String → State → State → Prop} {mc ms : Nat} {free : Addr → Prop} {bytes : ByteArray} {maxL : Nat} {ret : Option FieldType}
    (hM : vx_Met l y ws rm Pc Qc XC mc ms free) (hblind : FrameBlind Pc) (hrc : rm.cells = mc) (hrs : rm.slots = ms)
    (hframes : rm.frames + 1 ≤ R.frames) (hlocals : W9 + (maxL + 11) + rm.locals ≤ R.locals)
    (hws : ∀ w ∈ ws, ∀ a' U, s.WarmedH U.vm → w.before a' U = true) (hcode : Cond.code y bytes maxL ret ∈ ws) (hinit : ∀ a' U, s.WarmedH U.vm → (Cond.initialized y.cls).before a' U = true) :
    vx_Back l R p e below s sargs y len W9 (PreOf R mc ms Pc) (PostOf Qc mc ms free) (vx_Post XC mc ms free) := by
  intro m meth c A g ig mk a X hg hsize hdg hW hn hp
  have h1 : (headSpec ws rm).pre.before a A.U = true := atoms_intro fun w hw => hws w hw _ _ X.warmed
  have h2 : (Cond.code y bytes maxL ret).before a A.U = true := hws _ hcode _ _ X.warmed
  have h3 : (Cond.initialized y.cls).before a A.U = true := hinit _ _ X.warmed
  have h4 : A.cells + (headSpec ws rm).room.cells ≤ R.cells := by rw [show (headSpec ws rm).room.cells = mc from hrc]; exact hp.1
  have h5 : A.slots + (headSpec ws rm).room.slots ≤ R.slots := by rw [show (headSpec ws rm).room.slots = ms from hrs]; exact hp.2.1
  have hPc : Pc a (A.U.calling g mk a) := hblind _ _ _ _ hp.2.2
  obtain ⟨U, Ls, c0, s0⟩ := A
  dsimp only [Pt.U, Pt.locs, Pt.cells, Pt.slots] at h1 h2 h3 h4 h5 X hn hPc ⊢
  obtain ⟨methY, cY, hmY, hcY, -, hlY, -, -, -, -⟩ := Cond.code_spec hn h2
  obtain ⟨kY, hkY, -⟩ := className_of_methodNamed hn
  have hinitY : kY.init = .initialized := Cond.initialized_spec (findClass_of_methodNamed hn) hkY h3
  have h : At U g.method c below := by rw [hg]; exact X.here
  have hlocals9 : W9 + (maxL + 11) + (headSpec ws rm).room.locals ≤ R.locals := hlocals
  have happ : (headSpec ws rm).appliesLoose y e.platform (U.calling g mk a) = true :=
    Spec.appliesLoose_calling (g := g) h hdg hn hkY hinitY
      (X.room_calling (g := g) (R' := (headSpec ws rm).room) hsize hmY hcY hframes (by rw [hlY]; omega) h4 h5) h1
  obtain ⟨mid, hmid⟩ := h.above
  have hfr : (U.setTop g).frames = (.java g :: mid) ++ below := by rw [State.frames_setTop' g h.top, hmid]; rfl
  obtain ⟨o, s₂, hsteps, -, hend, hq⟩ := Steps.callFree hM p X.admits X.cas X.clock (acts := []) hfr happ hPc trivial
  have hq' : vx_Q Qc XC mc ms free a (U.calling g mk a) o s₂ := hq
  rw [State.frames_setTop' g h.top] at hend
  obtain ⟨g₀, hg0⟩ := Option.isSome_iff_exists.mp h.top
  obtain ⟨r, hr⟩ := State.topJava?_eq_some.mp hg0
  have hr' : (({ U with heap := s₂.heap, slotsUsed := s₂.slotsUsed } : State).setVm s₂.vm).frames = .java g₀ :: r := hr
  rcases hq' with ⟨hqc, L, hfe, hL⟩ | ⟨q, rfl, E, ce, L, hx, hce, hcv, hcl, hW₂, hsm, hL⟩
  · obtain ⟨⟨v, rfl⟩, hW₂, e2, q2, q3, q4, q5, q6⟩ := id hfe
    have e3 : s₂ = ({ (U.calling g mk a).setFrames s₂.frames with heap := s₂.heap, slotsUsed := s₂.slotsUsed } : State).setVm s₂.vm := by
      have : s₂ = ({ s₂ with vm := (U.calling g mk a).vm } : State).setVm s₂.vm := rfl
      rw [e2] at this
      exact this
    obtain ⟨c₂, i₂, len₂, hc₂, hd₂, hf₂⟩ := hend
    have hW' : U.WarmedH s₂.vm := hW₂
    have hcc : c₂ = c := by
      have h1 : s₂.code? g.method = U.code? g.method := by
        rw [State.code?_eq, State.code?_eq, hW'.alike.method?]
      exact Option.some.inj (hc₂.symm.trans (h1.trans h.code))
    subst hcc
    have hlen : len₂ = len := by rw [hdg] at hd₂; cases hd₂; rfl
    subst hlen
    have hs₂ : s₂ = (({ U with heap := s₂.heap, slotsUsed := s₂.slotsUsed } : State).setVm s₂.vm).setTop { g with pc := g.pc + len₂, stack := v.toList ++ g.stack } := by
      refine e3.trans ?_
      rw [hf₂, State.calling_eq h.top, State.setFrames_setFrames, State.setTop_of_frames _ hr', hr]
      rfl
    have hsame : U.sameButNew ({ U with heap := s₂.heap, slotsUsed := s₂.slotsUsed } : State) L mc ms := by
      refine ⟨?_, q2, q3, q4, q5, q6⟩
      obtain ⟨t, ht, -⟩ := State.frames_cons hr
      show ({ U with heap := s₂.heap, slotsUsed := s₂.slotsUsed } : State) = { U.setFrames U.frames with heap := s₂.heap, slotsUsed := s₂.slotsUsed }
      rw [State.setFrames_self ht]
    subst hg
    refine Or.inl ⟨v, ⟨(({ U with heap := s₂.heap, slotsUsed := s₂.slotsUsed } : State).setVm s₂.vm), Ls ++ L, c0 + mc, s0 + ms⟩,
      ⟨X.admits, X.cas, X.clock, X.frames, X.room, X.hears, X.method, X.code, (X.here.setHeapUsed s₂.heap s₂.slotsUsed).setVm hW'.alike, X.tail, State.WarmedH.trans X.warmed hW', X.limits, X.bytes, X.same.trans (hsame.setVm s.vm)⟩,
      ⟨g, mk, s₂, L, rfl, rfl, hqc, rfl, hL, rfl, rfl⟩, ?_⟩
    show Steps p.tables e below _ ((({ U with heap := s₂.heap, slotsUsed := s₂.slotsUsed } : State).setVm s₂.vm).setTop { g with pc := g.pc + len₂, stack := v.toList ++ g.stack })
    rw [← hs₂]
    exact hsteps
  · obtain ⟨e2, q2, q3, q4, q5, q6⟩ := id hsm
    have e3 : s₂ = ({ (U.calling g mk a).setFrames s₂.frames with heap := s₂.heap, slotsUsed := s₂.slotsUsed } : State).setVm s₂.vm := by
      have : s₂ = ({ s₂ with vm := (U.calling g mk a).vm } : State).setVm s₂.vm := rfl
      rw [e2] at this
      exact this
    have hf₂ : s₂.frames = .throwing q :: .java g :: U.frames.tail := hend
    have hW' : U.WarmedH s₂.vm := hW₂
    have hs₂ : s₂ = ((({ U with heap := s₂.heap, slotsUsed := s₂.slotsUsed } : State).setVm s₂.vm).setTop g).pushFrame (.throwing q) := by
      refine e3.trans ?_
      rw [hf₂, State.calling_eq h.top, State.setFrames_setFrames, State.pushFrame, State.frames_setTop _ hr', State.setTop_of_frames _ hr', State.setFrames_setFrames, hr]
      rfl
    have hsame : U.sameButNew ({ U with heap := s₂.heap, slotsUsed := s₂.slotsUsed } : State) L mc ms := by
      refine ⟨?_, q2, q3, q4, q5, q6⟩
      obtain ⟨t, ht, -⟩ := State.frames_cons hr
      show ({ U with heap := s₂.heap, slotsUsed := s₂.slotsUsed } : State) = { U.setFrames U.frames with heap := s₂.heap, slotsUsed := s₂.slotsUsed }
      rw [State.setFrames_self ht]
    subst hg
    refine Or.inr ⟨q, ⟨(({ U with heap := s₂.heap, slotsUsed := s₂.slotsUsed } : State).setVm s₂.vm), Ls ++ L, c0 + mc, s0 + ms⟩,
      ⟨X.admits, X.cas, X.clock, X.frames, X.room, X.hears, X.method, X.code, (X.here.setHeapUsed s₂.heap s₂.slotsUsed).setVm hW'.alike, X.tail, State.WarmedH.trans X.warmed hW', X.limits, X.bytes, X.same.trans (hsame.setVm s.vm)⟩,
      ⟨g, mk, s₂, L, E, ce, rfl, rfl, hx, hce, hcv, hcl, rfl, hL, rfl, rfl⟩, ?_⟩
    show Steps p.tables e below _ (((({ U with heap := s₂.heap, slotsUsed := s₂.slotsUsed } : State).setVm s₂.vm).setTop g).pushFrame (.throwing q))
    rw [← hs₂]
    exact hsteps
end Payer
section Calls
variable {p : Program} {l : Launch} {e : Env} {R : Room} {s : State} {m : MethodId} {args : Array Value} {below : List Frame} {meth : Method} {c : Code} {T : State} {locs : List Loc} {cells slots : Nat}
theorem vx_callV (X : Stand p l e R s m args below meth c T locs cells slots) (hexec : p.tables.exec = Jvm.exec) {own C : String} {index : Nat} {y : MethodName} {bytes : ByteArray} {maxL : Nat} {ret : Option FieldType}
    (hown : s.vm.findClass own = some m.cls) (hlink : (Cond.methodLink own index y).before args s = true) (hinst : (Cond.instanceMethod y).before args s = true) (hsel : (Cond.selects C y y).before args s = true)
    (hcode : (Cond.code y bytes maxL ret).before args s = true) (hy : y.cls ≠ "java/lang/invoke/MethodHandle" ∧ y.cls ≠ "java/lang/invoke/VarHandle")
    {W9 : Nat} {Pre : Pt → Array Value → Prop} {Post : Pt → Array Value → Option Value → Pt → Prop} {PostX : Pt → Array Value → Addr → Pt → Prop} (hK : vx_Back l R p e below s args y 3 W9 Pre Post PostX)
    {b : Addr} {cellB : Cell} (hcell : T.heap[b]? = some cellB) (hobj : cellB.vm.isStatics = false) (hcls : s.vm.findClass C = some cellB.cls)
    {g : JFrame} (hg : g.method = m) (hsize : g.locals.size = c.maxLocals) {argsL rest : List Value} (hlen : ∀ sig, parseMethodDescriptor y.desc = some sig → argsL.length = sig.parameters.length)
    (hstack : g.stack = argsL.reverse ++ .ref b :: rest) (hW : 2 * g.monitorRoom + (rest.map fun v => v.category).sum ≤ W9) (hdg : decode c.code g.pc = .ok (.invokevirtual index, 3))
    (hpre : ∀ vm₁, s.WarmedH vm₁ → Pre ⟨T.setVm vm₁, locs, cells, slots⟩ (Value.ref b :: argsL).toArray) :
    (∃ (v : Option Value) (vm₁ : Vm) (B : Pt), s.WarmedH vm₁ ∧ Stand p l e R s m args below meth c B.U B.locs B.cells B.slots ∧ Post ⟨T.setVm vm₁, locs, cells, slots⟩ (Value.ref b :: argsL).toArray v B ∧
      ∀ target, Steps p.tables e below (B.U.setTop { g with pc := g.pc + 3, stack := v.toList ++ rest }) target → Steps p.tables e below (T.setTop g) target) ∨
    (∃ (q : Addr) (vm₁ : Vm) (B : Pt), s.WarmedH vm₁ ∧ Stand p l e R s m args below meth c B.U B.locs B.cells B.slots ∧ PostX ⟨T.setVm vm₁, locs, cells, slots⟩ (Value.ref b :: argsL).toArray q B ∧
      Steps p.tables e below (T.setTop g) ((B.U.setTop { g with stack := rest }).pushFrame (.throwing q))) := by
  obtain ⟨mk, methM, hnamed, hmethM, hstM, habM⟩ := Cond.instanceMethod_spec hinst
  obtain ⟨methM', cM, hmethM', -, -, -, -, -, -, hsigM⟩ := Cond.code_spec hnamed hcode
  cases hmethM.symm.trans hmethM'
  obtain ⟨c2, r2, m2, q1, q2, q3, q4, kP, hkP, hkPi⟩ := Cond.selects_spec hsel
  cases hcls.symm.trans q1
  cases (State.methodFound?_of_named hnamed hy).symm.trans q2
  cases hnamed.symm.trans q3
  have hselP : selectMethod e.platform s.vm cellB.cls mk = .method mk := by rw [Launch.admits_selectMethod X.admits]; exact q4
  obtain ⟨vm₁, X₁, hstep₁⟩ := X.invokevirtual hexec hown hlink hnamed hmethM hstM hkP hkPi hy (a := b) (cell := cellB) hcell
    (fun z h => by rw [h] at hobj; cases hobj) hselP hmethM habM hkP hkPi (g := g) hg (argsL := argsL) (rest := rest) (hlen _ hsigM) hstack hdg
  rcases hK m meth c ⟨T.setVm vm₁, locs, cells, slots⟩ { g with stack := rest } (.invokevirtual index) mk (Value.ref b :: argsL).toArray X₁ hg hsize hdg hW (X₁.named hnamed) (hpre vm₁ X₁.warmed) with ⟨v, B, X', hpost, hsteps⟩ | ⟨q, B, X', hpost, hsteps⟩
  · exact Or.inl ⟨v, vm₁, B, X₁.warmed, X', hpost, fun target h => hstep₁ _ fun acts => by rw [doInvoke_state]; exact hsteps.trans h⟩
  · exact Or.inr ⟨q, vm₁, B, X₁.warmed, X', hpost, hstep₁ _ fun acts => by rw [doInvoke_state]; exact hsteps⟩
theorem vx_callS (X : Stand p l e R s m args below meth c T locs cells slots) (hexec : p.tables.exec = Jvm.exec) {own : String} {index : Nat} {y : MethodName} {bytes : ByteArray} {maxL : Nat} {ret : Option FieldType}
    (hown : s.vm.findClass own = some m.cls) (hlink : (Cond.methodLink own index y).before args s = true) (hstat : (Cond.static y).before args s = true) (hinit : (Cond.initialized y.cls).before args s = true)
    (hcode : (Cond.code y bytes maxL ret).before args s = true) (hy : y.cls ≠ "java/lang/invoke/MethodHandle" ∧ y.cls ≠ "java/lang/invoke/VarHandle")
    {W9 : Nat} {Pre : Pt → Array Value → Prop} {Post : Pt → Array Value → Option Value → Pt → Prop} {PostX : Pt → Array Value → Addr → Pt → Prop} (hK : vx_Back l R p e below s args y 3 W9 Pre Post PostX)
    {g : JFrame} (hg : g.method = m) (hsize : g.locals.size = c.maxLocals) {argsL rest : List Value} (hlen : ∀ sig, parseMethodDescriptor y.desc = some sig → argsL.length = sig.parameters.length)
    (hstack : g.stack = argsL.reverse ++ rest) (hW : 2 * g.monitorRoom + (rest.map fun v => v.category).sum ≤ W9) (hdg : decode c.code g.pc = .ok (.invokestatic index, 3))
    (hpre : ∀ vm₁, s.WarmedH vm₁ → Pre ⟨T.setVm vm₁, locs, cells, slots⟩ argsL.toArray) :
    (∃ (v : Option Value) (vm₁ : Vm) (B : Pt), s.WarmedH vm₁ ∧ Stand p l e R s m args below meth c B.U B.locs B.cells B.slots ∧ Post ⟨T.setVm vm₁, locs, cells, slots⟩ argsL.toArray v B ∧
      ∀ target, Steps p.tables e below (B.U.setTop { g with pc := g.pc + 3, stack := v.toList ++ rest }) target → Steps p.tables e below (T.setTop g) target) ∨
    (∃ (q : Addr) (vm₁ : Vm) (B : Pt), s.WarmedH vm₁ ∧ Stand p l e R s m args below meth c B.U B.locs B.cells B.slots ∧ PostX ⟨T.setVm vm₁, locs, cells, slots⟩ argsL.toArray q B ∧
      Steps p.tables e below (T.setTop g) ((B.U.setTop { g with stack := rest }).pushFrame (.throwing q))) := by
  obtain ⟨mk, hnamed⟩ := Cond.code_named hcode
  obtain ⟨methM, cM, hmethM, -, -, -, -, -, -, hsigM⟩ := Cond.code_spec hnamed hcode
  have hstatic : methM.isStatic = true := Cond.static_spec hnamed hmethM hstat
  obtain ⟨kP, hkP, -⟩ := className_of_methodNamed hnamed
  have hinitP : kP.init = .initialized := Cond.initialized_spec (findClass_of_methodNamed hnamed) hkP hinit
  obtain ⟨vm₁, X₁, hstep₁⟩ := X.invokestatic hexec hown hlink hnamed hmethM hstatic hkP hinitP hy (g := g) hg (argsL := argsL) (rest := rest) (hlen _ hsigM) hstack hdg
  rcases hK m meth c ⟨T.setVm vm₁, locs, cells, slots⟩ { g with stack := rest } (.invokestatic index) mk argsL.toArray X₁ hg hsize hdg hW (X₁.named hnamed) (hpre vm₁ X₁.warmed) with ⟨v, B, X', hpost, hsteps⟩ | ⟨q, B, X', hpost, hsteps⟩
  · exact Or.inl ⟨v, vm₁, B, X₁.warmed, X', hpost, fun target h => hstep₁ _ fun acts => by rw [doInvoke_state]; exact hsteps.trans h⟩
  · exact Or.inr ⟨q, vm₁, B, X₁.warmed, X', hpost, hstep₁ _ fun acts => by rw [doInvoke_state]; exact hsteps⟩
end Calls
theorem vx_cls {s : State} {T : State} {vm₁ : Vm} {E : String} {k : ClassId} (hW : s.WarmedH vm₁) (h : (T.setVm vm₁).vm.findClass E = some k) : s.vm.findClass E = some k := by
  have h1 : vm₁.findClass E = some k := h
  rw [hW.alike.findClass] at h1
  exact h1
/-- the method's frame g, with q thrown over it -/
def vx_W (p : Program) (l : Launch) (e : Env) (R : Room) (s : State) (m : MethodId) (args : Array Value) (below : List Frame) (meth : Method) (c : Code) (H : Heap) (locs : List Loc) (cells slots : Nat) (Q : State → Prop) (g : JFrame) (q : Addr) : Prop :=
  ∀ T : State, T.heap = H → Stand p l e R s m args below meth c T locs cells slots → ∃ t, Steps p.tables e below ((T.setTop g).pushFrame (.throwing q)) t ∧ Q t
def vx_Run (p : Program) (l : Launch) (e : Env) (R : Room) (s : State) (m : MethodId) (args : Array Value) (below : List Frame) (meth : Method) (c : Code) (H : Heap) (locs : List Loc) (cells slots mc ms : Nat) (g : JFrame) (rest : List Value) (Qa : State → Outcome → State → Prop) (XC : String → State → State → Prop) (free : Addr → Prop) : Prop :=
  ∀ T : State, T.heap = H → Stand p l e R s m args below meth c T locs cells slots →
    (∃ (v : Option Value) (st₀ t T' : State) (L : List Loc), st₀.heap = H ∧ Stand p l e R s m args below meth c T' (locs ++ L) (cells + mc) (slots + ms) ∧ (∀ q ∈ L, free q.base) ∧ T'.heap = t.heap ∧ T'.vm = t.vm ∧ Qa st₀ (.returned v) t ∧
      Goes p e below T g T' { g with pc := g.pc + 3, stack := v.toList ++ rest }) ∨
    (∃ (q : Addr) (st₀ t T' : State) (L : List Loc) (E : String) (ce : Cell), st₀.heap = H ∧ Stand p l e R s m args below meth c T' (locs ++ L) (cells + mc) (slots + ms) ∧ (∀ z ∈ L, free z.base) ∧ T'.heap = t.heap ∧ T'.vm = t.vm ∧ XC E st₀ t ∧ t.heap[q]? = some ce ∧ ce.vm = .none ∧ s.vm.findClass E = some ce.cls ∧
      Steps p.tables e below (T.setTop g) ((T'.setTop { g with stack := rest }).pushFrame (.throwing q)))
def vx_X {S : Type} (px : S → Prop) (B : String → S → State → Prop) (A : Nat → Prop) : String → State → State → Prop := fun E st t => ∃ u : S, px u ∧ B E u t ∧ va_F A st t
section Runs
variable {p : Program} {l : Launch} {e : Env} {R : Room} {s : State} {m : MethodId} {args : Array Value} {below : List Frame} {meth : Method} {c : Code} {H : Heap} {locs : List Loc} {cells slots : Nat}
variable {y : MethodName} {bytes cc : ByteArray} {maxL nL mc ms n index : Nat} {ret : Option FieldType} {ws : List Cond} {rm : Room} {Pc : Array Value → State → Prop} {Qc : Array Value → State → Outcome → State → Prop} {XC : String → State → State → Prop} {free : Addr → Prop} {Ts : List Cond} {own C : String} {b : Addr} {As rest : List Value} {g : JFrame}
theorem vx_callBack (cb : CallB R s args own index y bytes maxL ret ws rm mc ms n) (hM : vx_Met l y ws rm Pc Qc XC mc ms free) (hbl : FrameBlind Pc) : vx_Back l R p e below s args y 3 8 (PreOf R mc ms Pc) (PostOf Qc mc ms free) (vx_Post XC mc ms free) := by
  obtain ⟨hrc, hrs, hfr, hlo, hws, hcw, -, hini, -⟩ := cb
  exact vx_back (bytes := bytes) (maxL := maxL) (ret := ret) hM hbl hrc hrs hfr hlo hws hcw (fun a' U hW => word_at hW (Or.inl (by first | rfl | simp [Cond.onTables, Cond.keeps, Cond.steady])) hini)
theorem vx_runV (S : CallFix p m c cc nL s args Ts own) (hM : vx_Met l y ws rm Pc Qc XC mc ms free) (cw : CallW R s args own C index y bytes maxL ret ws rm mc ms n) (hp : PreV s H C b Pc As)
    (hg : g.method = m) (hn : As.length = n) (hsize : g.locals.size = nL) (hstack : g.stack = As.reverse ++ .ref b :: rest) (hW : 2 * g.monitorRoom + (rest.map fun v => v.category).sum ≤ 8) (hdg : decode cc g.pc = .ok (.invokevirtual index, 3)) (hf : cells + mc ≤ R.cells ∧ slots + ms ≤ R.slots) :
    vx_Run p l e R s m args below meth c H locs cells slots mc ms g rest (Qc (Value.ref b :: As).toArray) XC free := by
  have hK : vx_Back l R p e below s args y 3 8 (PreOf R mc ms Pc) (PostOf Qc mc ms free) (vx_Post XC mc ms free) := vx_callBack cw.1 hM hp.1
  obtain ⟨⟨-, -, -, -, -, -, hcode, -, hy, hlen, hl⟩, hin, hse⟩ := cw
  obtain ⟨hx, hb, hml, ho, -⟩ := S
  obtain ⟨-, ⟨cellB, hcB, hoB, hclB⟩, hPc⟩ := hp
  intro T hT X
  rcases vx_callV X hx (C := C) (bytes := bytes) (maxL := maxL) (ret := ret) ho hl hin hse hcode hy hK (by rw [hT]; exact hcB) hoB hclB hg (hsize.trans hml.symm) (argsL := As) (rest := rest) (fun sig h => hn.trans (hlen sig h)) hstack hW (by rw [hb]; exact hdg)
    (fun vm₁ hW₁ => ⟨hf.1, hf.2, hPc (T.setVm vm₁) hT hW₁⟩) with ⟨v, vm₁, ⟨U', l2, c2, s2⟩, hW₁, X', ⟨g', mk, t, L, e1, e2, hq, h1, hL, h2, h3⟩, st⟩ | ⟨q, vm₁, ⟨U', l2, c2, s2⟩, hW₁, X', ⟨g', mk, t, L, E, ce, e1, e2, hq, hce, hcv, hcl, h1, hL, h2, h3⟩, st⟩
  · dsimp only [Pt.U, Pt.locs, Pt.cells, Pt.slots] at X' e1 e2 h1 h2 h3 st
    subst h1; subst h2; subst h3
    exact Or.inl ⟨v, (T.setVm vm₁).calling g' mk (Value.ref b :: As).toArray, t, U', L, hT, X', hL, e1, e2, hq, st⟩
  · dsimp only [Pt.U, Pt.locs, Pt.cells, Pt.slots] at X' e1 e2 h1 h2 h3 st hcl
    subst h1; subst h2; subst h3
    exact Or.inr ⟨q, (T.setVm vm₁).calling g' mk (Value.ref b :: As).toArray, t, U', L, E, ce, hT, X', hL, e1, e2, hq, hce, hcv, vx_cls hW₁ hcl, st⟩
theorem vx_runS (S : CallFix p m c cc nL s args Ts own) (hM : vx_Met l y ws rm Pc Qc XC mc ms free) (cw : CallB R s args own index y bytes maxL ret ws rm mc ms n ∧ (Cond.static y).before args s = true) (hp : PreS s H Pc As)
    (hg : g.method = m) (hn : As.length = n) (hsize : g.locals.size = nL) (hstack : g.stack = As.reverse ++ rest) (hW : 2 * g.monitorRoom + (rest.map fun v => v.category).sum ≤ 8) (hdg : decode cc g.pc = .ok (.invokestatic index, 3)) (hf : cells + mc ≤ R.cells ∧ slots + ms ≤ R.slots) :
    vx_Run p l e R s m args below meth c H locs cells slots mc ms g rest (Qc As.toArray) XC free := by
  have hK : vx_Back l R p e below s args y 3 8 (PreOf R mc ms Pc) (PostOf Qc mc ms free) (vx_Post XC mc ms free) := vx_callBack cw.1 hM hp.1
  obtain ⟨⟨-, -, -, -, -, -, hcode, hini, hy, hlen, hl⟩, hstt⟩ := cw
  obtain ⟨hx, hb, hml, ho, -⟩ := S
  intro T hT X
  rcases vx_callS X hx (bytes := bytes) (maxL := maxL) (ret := ret) ho hl hstt hini hcode hy hK hg (hsize.trans hml.symm) (argsL := As) (rest := rest) (fun sig h => hn.trans (hlen sig h)) hstack hW (by rw [hb]; exact hdg)
    (fun vm₁ hW₁ => ⟨hf.1, hf.2, hp.2 (T.setVm vm₁) hT hW₁⟩) with ⟨v, vm₁, ⟨U', l2, c2, s2⟩, hW₁, X', ⟨g', mk, t, L, e1, e2, hq, h1, hL, h2, h3⟩, st⟩ | ⟨q, vm₁, ⟨U', l2, c2, s2⟩, hW₁, X', ⟨g', mk, t, L, E, ce, e1, e2, hq, hce, hcv, hcl, h1, hL, h2, h3⟩, st⟩
  · dsimp only [Pt.U, Pt.locs, Pt.cells, Pt.slots] at X' e1 e2 h1 h2 h3 st
    subst h1; subst h2; subst h3
    exact Or.inl ⟨v, (T.setVm vm₁).calling g' mk As.toArray, t, U', L, hT, X', hL, e1, e2, hq, st⟩
  · dsimp only [Pt.U, Pt.locs, Pt.cells, Pt.slots] at X' e1 e2 h1 h2 h3 st hcl
    subst h1; subst h2; subst h3
    exact Or.inr ⟨q, (T.setVm vm₁).calling g' mk As.toArray, t, U', L, E, ce, hT, X', hL, e1, e2, hq, hce, hcv, vx_cls hW₁ hcl, st⟩
end Runs
section Rows
variable {p : Program} {l : Launch} {e : Env} {R : Room} {s : State} {m : MethodId} {args : Array Value} {below : List Frame} {meth : Method} {c : Code} {H : Heap} {locs : List Loc} {cells slots : Nat} {Q : State → Prop}
variable {mc ms : Nat} {free : Addr → Prop} {A0 A1 : Nat → Prop} {H0 : Heap} {a : Array Value} {pc : Nat} {ls : Array Slot} {st0 rest : List Value}
theorem vx_keep {st₀ t T' : State} {L : List Loc} (h0 : st₀.heap = H) (e1 : T'.heap = t.heap) (hS : va_S A0 H0 H locs) (hA : ∀ q, q < H.size → A1 q → A0 q) (hf : ∀ q, free q → A0 q) (hL : ∀ q ∈ L, free q.base) (hF : va_F A1 st₀ t) :
    H.size ≤ T'.heap.size ∧ (∀ q : Nat, q < H.size → ¬ A1 q → T'.heap[q]? = H[q]?) ∧ va_S A0 H0 T'.heap (locs ++ L) := by
  obtain ⟨hz, hk⟩ := hF
  rw [h0] at hz hk
  exact ⟨by rw [e1]; exact hz, fun q h1 h2 => by rw [e1]; exact hk q h1 h2,
    ⟨Nat.le_trans hS.1 (by rw [e1]; exact hz), fun q h1 h2 => by rw [e1, hk q (Nat.lt_of_lt_of_le h1 hS.1) (fun z => h2 (hA q (Nat.lt_of_lt_of_le h1 hS.1) z))]; exact hS.2.1 q h1 h2, fun q hq => by
      rcases List.mem_append.mp hq with h | h
      · exact hS.2.2 q h
      · exact hf _ (hL q h)⟩⟩
theorem vx_calli {S SX : Type} {post : Int32 → S → Prop} {px : SX → Prop} {B : S → State → Prop} {BX : String → SX → State → Prop} {AX : Nat → Prop} (hr : vx_Run p l e R s m args below meth c H locs cells slots mc ms (F0 m pc ls st0) rest (va_Qi post B A1 a) (vx_X px BX AX) free) (hS : va_S A0 H0 H locs) (hA : ∀ q, q < H.size → A1 q → A0 q) (hf : ∀ q, free q → A0 q) (hAX : ∀ q, q < H.size → AX q → A0 q)
    (kx : ∀ (E : String) (ce : Cell) (q9 : Addr) (u : SX) (t : State) (H1 : Heap) (locs1 : List Loc), t.heap = H1 → s.vm.Alike t.vm → px u → BX E u t → H.size ≤ H1.size → (∀ q : Nat, q < H.size → ¬ AX q → H1[q]? = H[q]?) → va_S A0 H0 H1 locs1 → H1[q9]? = some ce → ce.vm = .none → s.vm.findClass E = some ce.cls → vx_W p l e R s m args below meth c H1 locs1 (cells + mc) (slots + ms) Q (F0 m pc ls rest) q9)
    (kk : ∀ (r : Int32) (u : S) (t : State) (H1 : Heap) (locs1 : List Loc), t.heap = H1 → s.vm.Alike t.vm → post r u → B u t → H.size ≤ H1.size → (∀ q : Nat, q < H.size → ¬ A1 q → H1[q]? = H[q]?) → va_S A0 H0 H1 locs1 → W p l e R s m args below meth c H1 locs1 (cells + mc) (slots + ms) Q (F0 m (pc + 3) ls (.int r :: rest))) : W p l e R s m args below meth c H locs cells slots Q (F0 m pc ls st0) := by
  intro T hT X
  rcases hr T hT X with ⟨v, st₀, t, T', L, h0, X', hL, e1, e2, ⟨⟨r, u, hv, hp, hb⟩, hF⟩, st⟩ | ⟨q, st₀, t, T', L, E, ce, h0, X', hL, e1, e2, ⟨u, hp, hb, hF⟩, hce, hcv, hcl, st⟩
  · cases hv
    obtain ⟨k1, k2, k3⟩ := vx_keep h0 e1 hS hA hf hL hF
    obtain ⟨t2, a1, b1⟩ := kk r u t T'.heap (locs ++ L) e1.symm (by rw [← e2]; exact X'.warmed.alike) hp hb k1 k2 k3 T' rfl X'
    exact ⟨t2, st t2 a1, b1⟩
  · obtain ⟨k1, k2, k3⟩ := vx_keep h0 e1 hS hAX hf hL hF
    obtain ⟨t2, a1, b1⟩ := kx E ce q u t T'.heap (locs ++ L) e1.symm (by rw [← e2]; exact X'.warmed.alike) hp hb k1 k2 k3 (by rw [e1]; exact hce) hcv hcl T' rfl X'
    exact ⟨t2, st.trans a1, b1⟩
theorem vx_calll {S SX : Type} {post : Int64 → S → Prop} {px : SX → Prop} {B : S → State → Prop} {BX : String → SX → State → Prop} {AX : Nat → Prop} (hr : vx_Run p l e R s m args below meth c H locs cells slots mc ms (F0 m pc ls st0) rest (va_Ql post B A1 a) (vx_X px BX AX) free) (hS : va_S A0 H0 H locs) (hA : ∀ q, q < H.size → A1 q → A0 q) (hf : ∀ q, free q → A0 q) (hAX : ∀ q, q < H.size → AX q → A0 q)
    (kx : ∀ (E : String) (ce : Cell) (q9 : Addr) (u : SX) (t : State) (H1 : Heap) (locs1 : List Loc), t.heap = H1 → s.vm.Alike t.vm → px u → BX E u t → H.size ≤ H1.size → (∀ q : Nat, q < H.size → ¬ AX q → H1[q]? = H[q]?) → va_S A0 H0 H1 locs1 → H1[q9]? = some ce → ce.vm = .none → s.vm.findClass E = some ce.cls → vx_W p l e R s m args below meth c H1 locs1 (cells + mc) (slots + ms) Q (F0 m pc ls rest) q9)
    (kk : ∀ (r : Int64) (u : S) (t : State) (H1 : Heap) (locs1 : List Loc), t.heap = H1 → s.vm.Alike t.vm → post r u → B u t → H.size ≤ H1.size → (∀ q : Nat, q < H.size → ¬ A1 q → H1[q]? = H[q]?) → va_S A0 H0 H1 locs1 → W p l e R s m args below meth c H1 locs1 (cells + mc) (slots + ms) Q (F0 m (pc + 3) ls (.long r :: rest))) : W p l e R s m args below meth c H locs cells slots Q (F0 m pc ls st0) := by
  intro T hT X
  rcases hr T hT X with ⟨v, st₀, t, T', L, h0, X', hL, e1, e2, ⟨⟨r, u, hv, hp, hb⟩, hF⟩, st⟩ | ⟨q, st₀, t, T', L, E, ce, h0, X', hL, e1, e2, ⟨u, hp, hb, hF⟩, hce, hcv, hcl, st⟩
  · cases hv
    obtain ⟨k1, k2, k3⟩ := vx_keep h0 e1 hS hA hf hL hF
    obtain ⟨t2, a1, b1⟩ := kk r u t T'.heap (locs ++ L) e1.symm (by rw [← e2]; exact X'.warmed.alike) hp hb k1 k2 k3 T' rfl X'
    exact ⟨t2, st t2 a1, b1⟩
  · obtain ⟨k1, k2, k3⟩ := vx_keep h0 e1 hS hAX hf hL hF
    obtain ⟨t2, a1, b1⟩ := kx E ce q u t T'.heap (locs ++ L) e1.symm (by rw [← e2]; exact X'.warmed.alike) hp hb k1 k2 k3 (by rw [e1]; exact hce) hcv hcl T' rfl X'
    exact ⟨t2, st.trans a1, b1⟩
theorem vx_callf {S SX : Type} {post : UInt32 → S → Prop} {px : SX → Prop} {B : S → State → Prop} {BX : String → SX → State → Prop} {AX : Nat → Prop} (hr : vx_Run p l e R s m args below meth c H locs cells slots mc ms (F0 m pc ls st0) rest (va_Qf post B A1 a) (vx_X px BX AX) free) (hS : va_S A0 H0 H locs) (hA : ∀ q, q < H.size → A1 q → A0 q) (hf : ∀ q, free q → A0 q) (hAX : ∀ q, q < H.size → AX q → A0 q)
    (kx : ∀ (E : String) (ce : Cell) (q9 : Addr) (u : SX) (t : State) (H1 : Heap) (locs1 : List Loc), t.heap = H1 → s.vm.Alike t.vm → px u → BX E u t → H.size ≤ H1.size → (∀ q : Nat, q < H.size → ¬ AX q → H1[q]? = H[q]?) → va_S A0 H0 H1 locs1 → H1[q9]? = some ce → ce.vm = .none → s.vm.findClass E = some ce.cls → vx_W p l e R s m args below meth c H1 locs1 (cells + mc) (slots + ms) Q (F0 m pc ls rest) q9)
    (kk : ∀ (r : UInt32) (u : S) (t : State) (H1 : Heap) (locs1 : List Loc), t.heap = H1 → s.vm.Alike t.vm → post r u → B u t → H.size ≤ H1.size → (∀ q : Nat, q < H.size → ¬ A1 q → H1[q]? = H[q]?) → va_S A0 H0 H1 locs1 → W p l e R s m args below meth c H1 locs1 (cells + mc) (slots + ms) Q (F0 m (pc + 3) ls (.float r :: rest))) : W p l e R s m args below meth c H locs cells slots Q (F0 m pc ls st0) := by
  intro T hT X
  rcases hr T hT X with ⟨v, st₀, t, T', L, h0, X', hL, e1, e2, ⟨⟨r, u, hv, hp, hb⟩, hF⟩, st⟩ | ⟨q, st₀, t, T', L, E, ce, h0, X', hL, e1, e2, ⟨u, hp, hb, hF⟩, hce, hcv, hcl, st⟩
  · cases hv
    obtain ⟨k1, k2, k3⟩ := vx_keep h0 e1 hS hA hf hL hF
    obtain ⟨t2, a1, b1⟩ := kk r u t T'.heap (locs ++ L) e1.symm (by rw [← e2]; exact X'.warmed.alike) hp hb k1 k2 k3 T' rfl X'
    exact ⟨t2, st t2 a1, b1⟩
  · obtain ⟨k1, k2, k3⟩ := vx_keep h0 e1 hS hAX hf hL hF
    obtain ⟨t2, a1, b1⟩ := kx E ce q u t T'.heap (locs ++ L) e1.symm (by rw [← e2]; exact X'.warmed.alike) hp hb k1 k2 k3 (by rw [e1]; exact hce) hcv hcl T' rfl X'
    exact ⟨t2, st.trans a1, b1⟩
theorem vx_calld {S SX : Type} {post : UInt64 → S → Prop} {px : SX → Prop} {B : S → State → Prop} {BX : String → SX → State → Prop} {AX : Nat → Prop} (hr : vx_Run p l e R s m args below meth c H locs cells slots mc ms (F0 m pc ls st0) rest (va_Qd post B A1 a) (vx_X px BX AX) free) (hS : va_S A0 H0 H locs) (hA : ∀ q, q < H.size → A1 q → A0 q) (hf : ∀ q, free q → A0 q) (hAX : ∀ q, q < H.size → AX q → A0 q)
    (kx : ∀ (E : String) (ce : Cell) (q9 : Addr) (u : SX) (t : State) (H1 : Heap) (locs1 : List Loc), t.heap = H1 → s.vm.Alike t.vm → px u → BX E u t → H.size ≤ H1.size → (∀ q : Nat, q < H.size → ¬ AX q → H1[q]? = H[q]?) → va_S A0 H0 H1 locs1 → H1[q9]? = some ce → ce.vm = .none → s.vm.findClass E = some ce.cls → vx_W p l e R s m args below meth c H1 locs1 (cells + mc) (slots + ms) Q (F0 m pc ls rest) q9)
    (kk : ∀ (r : UInt64) (u : S) (t : State) (H1 : Heap) (locs1 : List Loc), t.heap = H1 → s.vm.Alike t.vm → post r u → B u t → H.size ≤ H1.size → (∀ q : Nat, q < H.size → ¬ A1 q → H1[q]? = H[q]?) → va_S A0 H0 H1 locs1 → W p l e R s m args below meth c H1 locs1 (cells + mc) (slots + ms) Q (F0 m (pc + 3) ls (.double r :: rest))) : W p l e R s m args below meth c H locs cells slots Q (F0 m pc ls st0) := by
  intro T hT X
  rcases hr T hT X with ⟨v, st₀, t, T', L, h0, X', hL, e1, e2, ⟨⟨r, u, hv, hp, hb⟩, hF⟩, st⟩ | ⟨q, st₀, t, T', L, E, ce, h0, X', hL, e1, e2, ⟨u, hp, hb, hF⟩, hce, hcv, hcl, st⟩
  · cases hv
    obtain ⟨k1, k2, k3⟩ := vx_keep h0 e1 hS hA hf hL hF
    obtain ⟨t2, a1, b1⟩ := kk r u t T'.heap (locs ++ L) e1.symm (by rw [← e2]; exact X'.warmed.alike) hp hb k1 k2 k3 T' rfl X'
    exact ⟨t2, st t2 a1, b1⟩
  · obtain ⟨k1, k2, k3⟩ := vx_keep h0 e1 hS hAX hf hL hF
    obtain ⟨t2, a1, b1⟩ := kx E ce q u t T'.heap (locs ++ L) e1.symm (by rw [← e2]; exact X'.warmed.alike) hp hb k1 k2 k3 (by rw [e1]; exact hce) hcv hcl T' rfl X'
    exact ⟨t2, st.trans a1, b1⟩
theorem vx_callv {S SX : Type} {post : S → Prop} {px : SX → Prop} {B : S → State → Prop} {BX : String → SX → State → Prop} {AX : Nat → Prop} (hr : vx_Run p l e R s m args below meth c H locs cells slots mc ms (F0 m pc ls st0) rest (va_Qv post B A1 a) (vx_X px BX AX) free) (hS : va_S A0 H0 H locs) (hA : ∀ q, q < H.size → A1 q → A0 q) (hf : ∀ q, free q → A0 q) (hAX : ∀ q, q < H.size → AX q → A0 q)
    (kx : ∀ (E : String) (ce : Cell) (q9 : Addr) (u : SX) (t : State) (H1 : Heap) (locs1 : List Loc), t.heap = H1 → s.vm.Alike t.vm → px u → BX E u t → H.size ≤ H1.size → (∀ q : Nat, q < H.size → ¬ AX q → H1[q]? = H[q]?) → va_S A0 H0 H1 locs1 → H1[q9]? = some ce → ce.vm = .none → s.vm.findClass E = some ce.cls → vx_W p l e R s m args below meth c H1 locs1 (cells + mc) (slots + ms) Q (F0 m pc ls rest) q9)
    (kk : ∀ (u : S) (t : State) (H1 : Heap) (locs1 : List Loc), t.heap = H1 → s.vm.Alike t.vm → post u → B u t → H.size ≤ H1.size → (∀ q : Nat, q < H.size → ¬ A1 q → H1[q]? = H[q]?) → va_S A0 H0 H1 locs1 → W p l e R s m args below meth c H1 locs1 (cells + mc) (slots + ms) Q (F0 m (pc + 3) ls (rest))) : W p l e R s m args below meth c H locs cells slots Q (F0 m pc ls st0) := by
  intro T hT X
  rcases hr T hT X with ⟨v, st₀, t, T', L, h0, X', hL, e1, e2, ⟨⟨u, hv, hp, hb⟩, hF⟩, st⟩ | ⟨q, st₀, t, T', L, E, ce, h0, X', hL, e1, e2, ⟨u, hp, hb, hF⟩, hce, hcv, hcl, st⟩
  · cases hv
    obtain ⟨k1, k2, k3⟩ := vx_keep h0 e1 hS hA hf hL hF
    obtain ⟨t2, a1, b1⟩ := kk u t T'.heap (locs ++ L) e1.symm (by rw [← e2]; exact X'.warmed.alike) hp hb k1 k2 k3 T' rfl X'
    exact ⟨t2, st t2 a1, b1⟩
  · obtain ⟨k1, k2, k3⟩ := vx_keep h0 e1 hS hAX hf hL hF
    obtain ⟨t2, a1, b1⟩ := kx E ce q u t T'.heap (locs ++ L) e1.symm (by rw [← e2]; exact X'.warmed.alike) hp hb k1 k2 k3 (by rw [e1]; exact hce) hcv hcl T' rfl X'
    exact ⟨t2, st.trans a1, b1⟩
/-- caught by the row x of this method's table; the rows ahead don't take it -/
theorem vx_catch {own name : String} {E : String} {ce : Cell} {q : Addr} (hown : s.vm.findClass own = some m.cls) (pre : List ExceptionTableEntry) (x : ExceptionTableEntry) (suf : List ExceptionTableEntry) (hsplit : c.exceptionTable.toList = pre ++ x :: suf)
    (hpass : ∀ z ∈ pre, covers z pc = false ∨ (z.catchType ≠ 0 ∧ ∃ nm : String, (Cond.classLink own z.catchType nm).before args s = true ∧ va_Nc E nm s)) (hx : covers x pc = true) (h0 : x.catchType ≠ 0)
    (hlink : (Cond.classLink own x.catchType name).before args s = true) (hcast : (Cond.castable E name).before args s = true) (hcell : H[q]? = some ce) (hv : ce.vm = .none) (hcl : s.vm.findClass E = some ce.cls)
    (kk : W p l e R s m args below meth c H locs cells slots Q (F0 m x.handlerPc ls [.ref q])) : vx_W p l e R s m args below meth c H locs cells slots Q (F0 m pc ls rest) q := by
  intro T hT X
  have hpl : e.platform.magicAccessors = ({} : Platform).magicAccessors := by rw [X.admits.platform]
  obtain ⟨c3, c4, hc3, hc4, hasg⟩ := Cond.castable_spec hcast
  cases Option.some.inj (hc3.symm.trans hcl)
  obtain ⟨c5, hc5, hcl5⟩ := Cond.classLink_spec hown hlink e.platform hpl
  cases Option.some.inj (hc4.symm.trans hc5)
  obtain ⟨vm', X', st⟩ := X.thenCaughtThrough q (g := F0 m pc ls rest) rfl (Steps.refl _) (by rw [hT]; exact hcell) (by rw [hv]; rfl) (by obtain ⟨k9, h9, -⟩ := Vm.findClass_spec hcl; exact ⟨k9, h9⟩) pre x suf hsplit
    (fun z hz => by
      rcases hpass z hz with h | ⟨hz0, nm, hl1, hn1⟩
      · exact Or.inl h
      · obtain ⟨c6, hc6, hcl6⟩ := Cond.classLink_spec hown hl1 e.platform hpl
        obtain ⟨a8, b8, h1, h2, h3⟩ := hn1
        cases Option.some.inj (h1.symm.trans hcl)
        cases Option.some.inj (h2.symm.trans hc6)
        exact Or.inr ⟨hz0, _, hcl6, h3⟩) hx (Or.inr ⟨h0, c4, hcl5, hasg⟩)
  obtain ⟨t, a1, b1⟩ := kk (T.setVm vm') hT X'
  exact ⟨t, st.trans a1, b1⟩
end Rows
section Ends
variable {p : Program} {l : Launch} {e : Env} {R : Room} {s : State} {m : MethodId} {args : Array Value} {below : List Frame} {meth : Method} {c : Code} {H : Heap} {locs : List Loc} {cells slots : Nat} {Q : State → Prop}
variable {mc ms : Nat} {free : Addr → Prop} {A0 A1 : Nat → Prop} {H0 : Heap} {a : Array Value} {ls : Array Slot} {st0 rest : List Value}
variable {Qc : Array Value → State → Outcome → State → Prop} {XC : String → State → State → Prop}
/-- what a body that may throw owes at its end -/
def vx_MQ (below : List Frame) (Qc : Array Value → State → Outcome → State → Prop) (XC : String → State → State → Prop) (a : Array Value) (s : State) (mc ms : Nat) (free : Addr → Prop) : State → Prop := fun t =>
  ∃ o, t.status = .running ∧ Ended t below o ∧ vx_Q Qc XC mc ms free a s o t
theorem vx_ret {g : JFrame} {mc ms : Nat} (k : W p l e R s m args below meth c H locs cells slots (MQ below Qc args s mc ms free) g) : W p l e R s m args below meth c H locs cells slots (vx_MQ below Qc XC args s mc ms free) g := by
  intro T hT X
  obtain ⟨t, a1, o, b1, b2, b3, b4⟩ := k T hT X
  exact ⟨t, a1, o, b1, b2, Or.inl ⟨b3, b4⟩⟩
/-- not caught here: it goes on to the caller -/
theorem vx_widen {g : JFrame} {q : Addr} {k n : Nat} (h1 : cells ≤ k) (h2 : slots ≤ n) (kk : vx_W p l e R s m args below meth c H locs k n Q g q) : vx_W p l e R s m args below meth c H locs cells slots Q g q := fun T hT X => kk T hT (stand_widen X h1 h2)
theorem vx_out {pc : Nat} {E : String} {ce : Cell} {q : Addr} {mc ms : Nat} (hout : ∀ x ∈ c.exceptionTable.toList, covers x pc = false) (hlocks : meth.locks = false) (hcell : H[q]? = some ce) (hv : ce.vm = .none) (hcl : s.vm.findClass E = some ce.cls)
    (hx : ∀ t : State, t.heap = H → s.vm.Alike t.vm → XC E s t) (hf : ∀ z ∈ locs, free z.base) (hc : cells ≤ mc) (hs : slots ≤ ms) :
    vx_W p l e R s m args below meth c H locs cells slots (vx_MQ below Qc XC args s mc ms free) (F0 m pc ls rest) q := by
  intro T hT X
  obtain ⟨st1, hrun, hend, hW, hsm⟩ := X.leaveThrown q (g := F0 m pc ls rest) rfl rfl rfl hout hlocks
  have hcell9 : (T.setFrames (.throwing q :: below)).heap[q]? = some ce := by
    show T.heap[q]? = some ce
    rw [hT]; exact hcell
  exact ⟨_, st1, .threw q, hrun, hend, Or.inr ⟨q, rfl, E, ce, locs, hx _ hT hW.alike, hcell9, hv, hcl, hW, hsm.mono hc hs, hf⟩⟩
theorem vx_frame {U : State} {k n : Nat} (h : s.sameButNew ({ U with vm := s.vm } : State) locs k n) : s.heap.size ≤ U.heap.size ∧ ∀ q : Nat, q < s.heap.size → (∀ z ∈ locs, z.base ≠ q) → U.heap[q]? = s.heap[q]? := by
  obtain ⟨-, h2, -, -, -, h6⟩ := h
  refine ⟨h2, fun q hq hz => ?_⟩
  obtain ⟨c9, e1, e2, e3, e4⟩ := h6 q _ (Array.getElem?_eq_getElem hq)
  have hs : c9.slots = (s.heap[q]).slots := Array.ext_getElem? fun i => e4 i fun hm => hz _ hm rfl
  have h9 : c9 = s.heap[q] := by
    rw [hs] at e2
    exact e2
  have e5 : U.heap[q]? = some c9 := e1
  rw [e5, h9, Array.getElem?_eq_getElem hq]
/-- the words of a throw but the four that speak of the heap -/
def vx_no (w : Cond) : Bool := decide (w ≠ .isRef (.static Bundle.tN "UNASSIGNED_STACK" Bundle.steD)) && decide (w ≠ .isRef (.static Bundle.tN "SUPPRESSED_SENTINEL" Bundle.listD)) && decide (w ≠ .laysStatic Bundle.tN "UNASSIGNED_STACK" Bundle.steD) && decide (w ≠ .laysStatic Bundle.tN "SUPPRESSED_SENTINEL" Bundle.listD)
def vx_at0 (own : String) (ic : Nat) (X : String) (names : List String) : List Cond := (Bundle.ownAtoms0 own ic X names).filter vx_no
def vx_atS (own : String) (ic : Nat) (X : String) (names : List String) : List Cond := (Bundle.ownAtoms own ic X names).filter vx_no
/-- a word that the tables alone decide, or a good one -/
def vx_ot (w : Cond) : Bool := w.onTables || goodWord w
theorem vx_ot_at {args a' : Array Value} {s U : State} {w : Cond} (hW : s.WarmedH U.vm) (hvm : s.vm = U.vm) (hg : vx_ot w = true) (h : w.before args s = true) : w.before a' U = true := by
  simp only [vx_ot, Bool.or_eq_true] at hg
  rcases hg with hg | hg
  · exact va_tabs hg hvm h
  · exact word_at hW (good_of_word hg) h
/-- a list's words: the good ones out of the method's own list, the others by premises of their own -/
theorem vx_hat {args : Array Value} {s : State} {L B : List Cond} (h1 : ∀ w ∈ L.filter goodWord, w.before args s = true) (h2 : ∀ w ∈ L.filter (fun w => !goodWord w), w ∈ B) (h3 : ∀ w ∈ B, w.before args s = true) : ∀ w ∈ L, w.before args s = true := by
  intro w hw
  by_cases g : goodWord w = true
  · exact h1 w (List.mem_filter.mpr ⟨hw, g⟩)
  · refine h3 w (h2 w (List.mem_filter.mpr ⟨hw, ?_⟩))
    show (!goodWord w) = true
    cases hgw : goodWord w
    · rfl
    · exact absurd hgw g
theorem vx_c {args : Array Value} {s : State} {w : Cond} {B : List Cond} (h : w.before args s = true) (t : ∀ w ∈ B, w.before args s = true) : ∀ w' ∈ w :: B, w'.before args s = true := fun w' h' => (List.mem_cons.mp h').elim (fun e => by rw [e]; exact h) (t w')
theorem vx_n {args : Array Value} {s : State} : ∀ w ∈ ([] : List Cond), w.before args s = true := fun _ h => nomatch h
theorem vx_own {args : Array Value} {s : State} {L : List Cond} (h1 : ∀ w ∈ L.filter vx_no, w.before args s = true)
    (hU : (Cond.isRef (.static Bundle.tN "UNASSIGNED_STACK" Bundle.steD)).before args s = true) (hN : (Cond.isRef (.static Bundle.tN "SUPPRESSED_SENTINEL" Bundle.listD)).before args s = true)
    (lU : (Cond.laysStatic Bundle.tN "UNASSIGNED_STACK" Bundle.steD).before args s = true) (lN : (Cond.laysStatic Bundle.tN "SUPPRESSED_SENTINEL" Bundle.listD).before args s = true) : ∀ w ∈ L, w.before args s = true := by
  intro w hw
  by_cases e1 : w = .isRef (.static Bundle.tN "UNASSIGNED_STACK" Bundle.steD)
  · rw [e1]; exact hU
  · by_cases e2 : w = .isRef (.static Bundle.tN "SUPPRESSED_SENTINEL" Bundle.listD)
    · rw [e2]; exact hN
    · by_cases e3 : w = .laysStatic Bundle.tN "UNASSIGNED_STACK" Bundle.steD
      · rw [e3]; exact lU
      · by_cases e4 : w = .laysStatic Bundle.tN "SUPPRESSED_SENTINEL" Bundle.listD
        · rw [e4]; exact lN
        · exact h1 w (List.mem_filter.mpr ⟨hw, by unfold vx_no; rw [decide_eq_true e1, decide_eq_true e2, decide_eq_true e3, decide_eq_true e4]; rfl⟩)
/-- where a static field lies, its class's statics cell in H -/
def vx_L (C n d : String) (A : Nat → Prop) (U : State) (H : Heap) : Prop := ∃ (c : ClassId) (k : Class) (i : Nat) (f : Field) (a : Nat) (cell : Cell), U.vm.findClass C = some c ∧ U.fieldFound? C n d = some (c, k, i, f) ∧ f.isStatic = true ∧ k.statics = some a ∧ H[a]? = some cell ∧ cell.vm.isStatics = true ∧ cell.cls = c ∧ f.slot < cell.slots.size ∧ k.staticTypes[f.slot]? = some f.type ∧ ¬ A a
theorem vx_L.moved {C n d : String} {A : Nat → Prop} {u U : State} {H : Heap} (hvm : u.vm.Alike U.vm) (h : vx_L C n d A u H) : vx_L C n d A U H := by
  obtain ⟨c, k, i, f, a, cell, h1, h2, h3, h4, h5, h6, h7, h8, h9, h10⟩ := h
  obtain ⟨k', hi', he⟩ := State.fieldFound?_setVm hvm h2
  exact ⟨c, k', i, f, a, cell, by rw [hvm.findClass]; exact h1, hi', h3, by rw [he]; exact h4, h5, h6, h7, h8, by rw [he]; exact h9, h10⟩
theorem vx_L.kept {C n d : String} {A : Nat → Prop} {U : State} {H H1 : Heap} (h : vx_L C n d A U H) (hq : ∀ a : Nat, a < H.size → ¬ A a → H1[a]? = H[a]?) : vx_L C n d A U H1 := by
  obtain ⟨c, k, i, f, a, cell, h1, h2, h3, h4, h5, h6, h7, h8, h9, h10⟩ := h
  exact ⟨c, k, i, f, a, cell, h1, h2, h3, h4, by rw [hq a (Array.getElem?_eq_some_iff.mp h5).1 h10]; exact h5, h6, h7, h8, h9, h10⟩
theorem vx_L.narrow {C n d : String} {A B : Nat → Prop} {U : State} {H : Heap} (h : vx_L C n d A U H) (hAB : ∀ q, B q → A q) : vx_L C n d B U H := by
  obtain ⟨c, k, i, f, a, cell, h1, h2, h3, h4, h5, h6, h7, h8, h9, h10⟩ := h
  exact ⟨c, k, i, f, a, cell, h1, h2, h3, h4, h5, h6, h7, h8, h9, fun z => h10 (hAB _ z)⟩
theorem vx_L.word {C n d : String} {A : Nat → Prop} {s : State} {args : Array Value} (h : vx_L C n d A s s.heap) : (Cond.laysStatic C n d).before args s = true := by
  obtain ⟨c, k, i, f, a, cell, h1, h2, h3, h4, h5, h6, h7, h8, h9, -⟩ := h
  show (Cond.laysStatic C n d).holds args s none s [] = true
  exact Cond.laysStatic_of h1 h2 h3 h4 h5 h6 h7 h8 h9
/-- .. and what it holds: null or some reference -/
def vx_Zq (C n d : String) (A : Nat → Prop) (U : State) (H : Heap) : Prop := va_Zq C n d A U H ∧ vx_L C n d A U H
theorem vx_Zq.moved {C n d : String} {A : Nat → Prop} {u U : State} {H : Heap} (hvm : u.vm.Alike U.vm) (h : vx_Zq C n d A u H) : vx_Zq C n d A U H := ⟨va_Zq.moved hvm h.1, vx_L.moved hvm h.2⟩
theorem vx_Zq.kept {C n d : String} {A : Nat → Prop} {U : State} {H H1 : Heap} (h : vx_Zq C n d A U H) (hq : ∀ a : Nat, a < H.size → ¬ A a → H1[a]? = H[a]?) : vx_Zq C n d A U H1 := ⟨va_Zq.kept h.1 hq, vx_L.kept h.2 hq⟩
theorem vx_Zq.narrow {C n d : String} {A B : Nat → Prop} {U : State} {H : Heap} (h : vx_Zq C n d A U H) (hAB : ∀ q, B q → A q) : vx_Zq C n d B U H := ⟨va_Zq.narrow h.1 hAB, vx_L.narrow h.2 hAB⟩
theorem vx_Zqof {args : Array Value} {s : State} {C n d : String} {A : Nat → Prop} (hl : (Cond.laysStatic C n d).before args s = true) (hini : (Cond.initialized C).before args s = true) (h : (Cond.isRef (.static C n d)).before args s = true) (hA : ∀ a : Nat, a < s.heap.size → ¬ A a) : vx_Zq C n d A s s.heap := by
  refine ⟨va_Zqof hl hini h hA, ?_⟩
  obtain ⟨c, k, i, f, a, cell, h1, h2, h3, h4, h5, h6, h7, h8, h9⟩ := Cond.laysStatic_spec hl
  exact ⟨c, k, i, f, a, cell, h1, h2, h3, h4, h5, h6, h7, h8, h9, hA a (Array.getElem?_eq_some_iff.mp h5).1⟩
theorem vx_isRef {C n d : String} {v : Value} {A : Nat → Prop} {s : State} {args : Array Value} (h : va_Z C n d v A s s.heap) (hv : v.isRef = true) : (Cond.isRef (.static C n d)).before args s = true := by
  obtain ⟨cf, kf, fi, f, a, cell, h1, h2, h3, h4, h5, h6, h7, -⟩ := h
  have he : (Term.static C n d).eval args s none [] s = some v := by
    simp [Term.eval, State.fieldNamed?, h1, h2, h4, h5, h6, h7]
  simp only [Cond.before, Cond.holds, Cond.value, he]
  cases v <;> simp_all [Value.isRef]
theorem vx_isRefq {C n d : String} {A : Nat → Prop} {s : State} {args : Array Value} (h : va_Zq C n d A s s.heap) : (Cond.isRef (.static C n d)).before args s = true := by
  rcases h with h | ⟨t, h⟩
  · exact vx_isRef h rfl
  · exact vx_isRef h rfl
/-- the same frame, seen from here: as if the method were called anew in this heap -/
theorem vx_rebase {T : State} (X : Stand p l e R s m args below meth c T locs cells slots) {R' : Room} (hf : R'.frames ≤ R.frames) (hl : R'.locals ≤ R.locals) (hc : cells + R'.cells ≤ R.cells) (hs : slots + R'.slots ≤ R.slots) :
    Stand p l e R' ((T.setVm s.vm).setFrames (.invoking m args :: below)) m args below meth c T [] 0 0 := by
  have htop : (T.setVm s.vm).topJava?.isSome := X.here.top
  have hF : ((T.setVm s.vm).setFrames (.invoking m args :: below)).frames = .invoking m args :: below := State.frames_setFrames _ (State.cur_lt_of_top htop)
  obtain ⟨g₀, hg0⟩ := Option.isSome_iff_exists.mp htop
  obtain ⟨r, hr⟩ := State.topJava?_eq_some.mp hg0
  have hl9 : e.platform.stackLimits (T.setVm s.vm).me = e.platform.stackLimits s.me := X.limits
  have hb9 : (T.setVm s.vm).me.stackBytes = s.me.stackBytes := X.bytes
  refine ⟨X.admits, X.cas, X.clock, hF, ?_, X.hears, X.method, X.code, X.here, X.tail, X.warmed, ?_, ?_, ?_⟩
  · have h := X.room
    have hU : ((T.setVm s.vm).setFrames (.invoking m args :: below)).localsInUse = s.localsInUse := by
      rw [State.localsInUse_invoking hF (meth := meth) (c := c) X.method X.code, State.localsInUse_invoking X.frames X.method X.code]
    simp only [State.hasRoom, Bool.and_eq_true, decide_eq_true_eq] at h ⊢
    obtain ⟨⟨⟨⟨h1, h2, h3, h4, h5, h6⟩, h7⟩, h8⟩, h9⟩ := h
    rw [X.frames, List.length_cons] at h2 h3
    have q1 := X.heapSize
    have q2 := X.used
    simp only [hF, hU, List.length_cons, State.stackLimits_setFrames, State.stackBytes_setFrames, hl9, hb9]
    refine ⟨⟨⟨⟨by omega, by omega, by omega, by omega, by omega, h6⟩, ?_⟩, ?_⟩, X.book⟩
    · show T.heap.size + R'.cells ≤ e.platform.maxCells
      omega
    · show T.slotsUsed + R'.slots ≤ e.platform.maxSlots
      omega
  · rw [State.stackLimits_setFrames]; rfl
  · rw [State.stackBytes_setFrames]; rfl
  · refine ⟨?_, Nat.le_refl _, Nat.le_refl _, ?_, ?_, fun a c9 h9 => ⟨c9, h9, rfl, rfl, fun _ _ => rfl⟩⟩
    · obtain ⟨t, ht, -⟩ := State.frames_cons hr
      show T.setVm s.vm = { ((T.setVm s.vm).setFrames (.invoking m args :: below)).setFrames (T.setVm s.vm).frames with heap := T.heap, slotsUsed := T.slotsUsed }
      rw [State.setFrames_setFrames, State.setFrames_self ht]
      rfl
    · show T.slotsUsed = T.slotsUsed + ((T.heap.toList.drop T.heap.size).map (·.slots.size)).sum
      rw [List.drop_eq_nil_of_le (Nat.le_of_eq Array.length_toList)]
      rfl
    · show ((T.heap.toList.drop T.heap.size).map (·.slots.size)).sum ≤ 0
      rw [List.drop_eq_nil_of_le (Nat.le_of_eq Array.length_toList)]
      exact Nat.le_refl _
/-- 'throw new E()': new; dup; invokespecial; athrow -/
theorem vx_throw0 {cc : ByteArray} {pc : Nat} (hexec : p.tables.exec = Jvm.exec) (hb : c.code = cc) (hl : l.stackTraces = false) {own cls : String} {names : List String} {ik ic mc ms : Nat} {A : Nat → Prop}
    (hown : s.vm.findClass own = some m.cls) (hcls : Bundle.fit cls = true) (hnames : ∀ n ∈ names, Bundle.fit n = true)
    (hk : (Cond.classLink own ik cls).before args s = true) (hini : (Cond.initialized cls).before args s = true) (hat : ∀ w ∈ vx_at0 own ic cls names, w.before args s = true)
    (hgood : ∀ w ∈ Cond.classLink own ik cls :: Cond.initialized cls :: vx_at0 own ic cls names, vx_ot w = true)
    (hU : vx_Zq Bundle.tN "UNASSIGNED_STACK" Bundle.steD A s s.heap) (hN : vx_Zq Bundle.tN "SUPPRESSED_SENTINEL" Bundle.listD A s s.heap) (hS : va_S A s.heap H locs) (hsize : ls.size = c.maxLocals)
    (d0 : decode cc pc = .ok (.new ik, 3)) (d3 : decode cc (pc + 3) = .ok (.dup, 1)) (d4 : decode cc (pc + 4) = .ok (.invokespecial ic, 3)) (d7 : decode cc (pc + 7) = .ok (.athrow, 1))
    (hout : ∀ x ∈ c.exceptionTable.toList, covers x (pc + 7) = false)
    (hRframes : names.length + 3 < R.frames) (hRlocals : (rest.map fun v => v.category).sum + (13 * (names.length + 1) + 42) ≤ R.locals) (hRcells : cells + 1 ≤ R.cells) (hRslots : slots + 6 ≤ R.slots) (hlocks : meth.locks = false)
    (hx : ∀ t : State, s.vm.Alike t.vm → H.size ≤ t.heap.size → (∀ q : Nat, q < H.size → t.heap[q]? = H[q]?) → XC cls s t)
    (hf : ∀ z ∈ locs, free z.base) (hc : cells + 1 ≤ mc) (hs : slots + 6 ≤ ms) :
    W p l e R s m args below meth c H locs cells slots (vx_MQ below Qc XC args s mc ms free) (F0 m pc ls rest) := by
  intro T hT X
  have htr : e.platform.stackTraces = false := (show e.platform.stackTraces = l.stackTraces by rw [X.admits.platform]).trans hl
  have Y := vx_rebase X (R' := { frames := R.frames, locals := R.locals, cells := 1, slots := 6 }) (Nat.le_refl _) (Nat.le_refl _) hRcells hRslots
  obtain ⟨s', hA⟩ : ∃ z, z = (T.setVm s.vm).setFrames (.invoking m args :: below) := ⟨_, rfl⟩
  rw [← hA] at Y
  have hvm : s'.vm = s.vm := by rw [hA]; rfl
  have hhp : s'.heap = H := by rw [hA]; exact hT
  have hW0 : s.WarmedH s'.vm := by rw [hvm]; exact State.WarmedH.refl s
  have hat' : ∀ w ∈ vx_at0 own ic cls names, w.before args s' = true := fun w hw => vx_ot_at hW0 hvm.symm (hgood w (List.mem_cons_of_mem _ (List.mem_cons_of_mem _ hw))) (hat w hw)
  have hk' : (Cond.classLink own ik cls).before args s' = true := vx_ot_at hW0 hvm.symm (hgood _ List.mem_cons_self) hk
  have hini' : (Cond.initialized cls).before args s' = true := vx_ot_at hW0 hvm.symm (hgood _ (List.mem_cons_of_mem _ List.mem_cons_self)) hini
  have hU' : vx_Zq Bundle.tN "UNASSIGNED_STACK" Bundle.steD A s' s'.heap := by rw [hhp]; exact vx_Zq.moved hW0.alike (hU.kept hS.2.1)
  have hN' : vx_Zq Bundle.tN "SUPPRESSED_SENTINEL" Bundle.listD A s' s'.heap := by rw [hhp]; exact vx_Zq.moved hW0.alike (hN.kept hS.2.1)
  have h : ∀ w ∈ Bundle.ownAtoms0 own ic cls names, w.before args s' = true := vx_own hat' (vx_isRefq hU'.1) (vx_isRefq hN'.1) hU'.2.word hN'.2.word
  have hown' : s'.vm.findClass own = some m.cls := by rw [hvm]; exact hown
  have hins : (Cond.instantiable cls 6).before args s' = true := h _ (by simp [Bundle.ownAtoms0])
  obtain ⟨vm₁, cX, kX, hfX, hkX, -, -, X₁, st1⟩ := Y.newCold hexec (own := own) (C := cls) (index := ik) (n := 6) hown' hk' hins hini'
    (g := F0 m pc ls rest) rfl (by rw [hb]; exact d0) (Nat.le_refl _) (Nat.le_refl _)
  generalize hT1 : (T.setVm vm₁).pushCell { cls := cX, slots := kX.instanceTypes.map defaultValue, vm := .none } = T1 at X₁ st1
  have hcat : (Value.ref T.heap.size).category = 1 := rfl
  have hcellA : T1.heap[T.heap.size]? = some (freshCell cX kX) := by rw [← hT1]; exact State.heap_pushCell_size _ _
  have d3' : decode c.code (pc + 3) = .ok (.dup, 1) := by rw [hb]; exact d3
  obtain ⟨U, hsteps, hrun, hend, hW, hsame, ce, hce, hO⟩ := X₁.ctorThrow0 hexec htr (own := own) (cls := cls) (names := names) (ic := ic) hown' hcls hnames h (fun x hx => nomatch hx) hfX hkX hcellA (by rw [hhp, hT]; exact Nat.le_refl _)
    (g := { method := m, pc := pc + 4, locals := ls, stack := .ref T.heap.size :: .ref T.heap.size :: rest, locked := none }) rfl hsize rfl rfl (rest := rest) rfl
    (by rw [hb]; exact d4) (by rw [hb]; exact d7) hout hRframes (by simp only [List.map_cons, List.sum_cons, hcat]; omega) hlocks
  obtain ⟨f1, f2⟩ := vx_frame hsame
  rw [hhp] at f1 f2
  have hWs : s.WarmedH U.vm := State.WarmedH.trans hW0 hW
  have hcl : s.vm.findClass cls = some ce.cls := by
    have h9 := hO.cls
    rw [hvm] at h9
    exact h9
  have hall : s.sameButNew ({ U with vm := s.vm } : State) locs mc ms := by
    subst hA
    obtain ⟨e1, e2⟩ := hsame
    rw [State.setFrames_setFrames] at e1
    have h2 : (T.setVm s.vm).sameButNew ({ U with vm := s.vm } : State) [] (0 + 1) (0 + 6) := ⟨e1, e2⟩
    have h3 := X.same.trans h2
    rw [List.append_nil] at h3
    exact h3.mono hc hs
  refine ⟨U, ?_, .threw T.heap.size, hrun, hend, Or.inr ⟨T.heap.size, rfl, cls, ce, locs, hx U hWs.alike f1 (fun q hq => f2 q hq (fun z hz => nomatch hz)), hce, hO.vm, hcl, hWs, hall, hf⟩⟩
  refine st1 _ ?_
  show Steps p.tables e below (T1.setTop { method := m, pc := pc + 3, locals := ls, stack := .ref T.heap.size :: rest, locked := none }) _
  jvm_step X₁.here [X₁.here.top, hexec, d3', Value.category]
  exact hsteps
/-- 'throw new E("text")': new; dup; ldc; invokespecial; athrow -/
theorem vx_throwS {cc : ByteArray} {pc : Nat} (hexec : p.tables.exec = Jvm.exec) (hb : c.code = cc) (hl : l.stackTraces = false) {own cls text : String} {names : List String} {ik is ic mc ms sa : Nat} {A : Nat → Prop}
    (hown : s.vm.findClass own = some m.cls) (hcls : Bundle.fit cls = true) (hnames : ∀ n ∈ names, Bundle.fit n = true)
    (hk : (Cond.classLink own ik cls).before args s = true) (hini : (Cond.initialized cls).before args s = true) (hstr : vk_R own is text sa s) (hat : ∀ w ∈ vx_atS own ic cls names, w.before args s = true)
    (hgood : ∀ w ∈ Cond.classLink own ik cls :: Cond.initialized cls :: vx_atS own ic cls names, vx_ot w = true)
    (hU : vx_Zq Bundle.tN "UNASSIGNED_STACK" Bundle.steD A s s.heap) (hN : vx_Zq Bundle.tN "SUPPRESSED_SENTINEL" Bundle.listD A s s.heap) (hS : va_S A s.heap H locs) (hsize : ls.size = c.maxLocals)
    (d0 : decode cc pc = .ok (.new ik, 3)) (d3 : decode cc (pc + 3) = .ok (.dup, 1)) (d4 : decode cc (pc + 4) = .ok (.ldc is, 2)) (d6 : decode cc (pc + 6) = .ok (.invokespecial ic, 3)) (d9 : decode cc (pc + 9) = .ok (.athrow, 1))
    (hout : ∀ x ∈ c.exceptionTable.toList, covers x (pc + 9) = false)
    (hRframes : names.length + 3 < R.frames) (hRlocals : (rest.map fun v => v.category).sum + (13 * (names.length + 1) + 43) ≤ R.locals) (hRcells : cells + 1 ≤ R.cells) (hRslots : slots + 6 ≤ R.slots) (hlocks : meth.locks = false)
    (hx : ∀ t : State, s.vm.Alike t.vm → H.size ≤ t.heap.size → (∀ q : Nat, q < H.size → t.heap[q]? = H[q]?) → XC cls s t)
    (hf : ∀ z ∈ locs, free z.base) (hc : cells + 1 ≤ mc) (hs : slots + 6 ≤ ms) :
    W p l e R s m args below meth c H locs cells slots (vx_MQ below Qc XC args s mc ms free) (F0 m pc ls rest) := by
  intro T hT X
  have htr : e.platform.stackTraces = false := (show e.platform.stackTraces = l.stackTraces by rw [X.admits.platform]).trans hl
  have Y := vx_rebase X (R' := { frames := R.frames, locals := R.locals, cells := 1, slots := 6 }) (Nat.le_refl _) (Nat.le_refl _) hRcells hRslots
  obtain ⟨s', hA⟩ : ∃ z, z = (T.setVm s.vm).setFrames (.invoking m args :: below) := ⟨_, rfl⟩
  rw [← hA] at Y
  have hvm : s'.vm = s.vm := by rw [hA]; rfl
  have hhp : s'.heap = H := by rw [hA]; exact hT
  have hW0 : s.WarmedH s'.vm := by rw [hvm]; exact State.WarmedH.refl s
  have hat' : ∀ w ∈ vx_atS own ic cls names, w.before args s' = true := fun w hw => vx_ot_at hW0 hvm.symm (hgood w (List.mem_cons_of_mem _ (List.mem_cons_of_mem _ hw))) (hat w hw)
  have hk' : (Cond.classLink own ik cls).before args s' = true := vx_ot_at hW0 hvm.symm (hgood _ List.mem_cons_self) hk
  have hini' : (Cond.initialized cls).before args s' = true := vx_ot_at hW0 hvm.symm (hgood _ (List.mem_cons_of_mem _ List.mem_cons_self)) hini
  have hU' : vx_Zq Bundle.tN "UNASSIGNED_STACK" Bundle.steD A s' s'.heap := by rw [hhp]; exact vx_Zq.moved hW0.alike (hU.kept hS.2.1)
  have hN' : vx_Zq Bundle.tN "SUPPRESSED_SENTINEL" Bundle.listD A s' s'.heap := by rw [hhp]; exact vx_Zq.moved hW0.alike (hN.kept hS.2.1)
  have h : ∀ w ∈ Bundle.ownAtoms own ic cls names, w.before args s' = true := vx_own hat' (vx_isRefq hU'.1) (vx_isRefq hN'.1) hU'.2.word hN'.2.word
  have hown' : s'.vm.findClass own = some m.cls := by rw [hvm]; exact hown
  have hins : (Cond.instantiable cls 6).before args s' = true := h _ (by simp [Bundle.ownAtoms])
  obtain ⟨vm₁, cX, kX, hfX, hkX, -, -, X₁, st1⟩ := Y.newCold hexec (own := own) (C := cls) (index := ik) (n := 6) hown' hk' hins hini'
    (g := F0 m pc ls rest) rfl (by rw [hb]; exact d0) (Nat.le_refl _) (Nat.le_refl _)
  generalize hT1 : (T.setVm vm₁).pushCell { cls := cX, slots := kX.instanceTypes.map defaultValue, vm := .none } = T1 at X₁ st1
  have hcat : (Value.ref T.heap.size).category = 1 := rfl
  have hcellA : T1.heap[T.heap.size]? = some (freshCell cX kX) := by rw [← hT1]; exact State.heap_pushCell_size _ _
  have d3' : decode c.code (pc + 3) = .ok (.dup, 1) := by rw [hb]; exact d3
  have d4' : decode c.code (pc + 4) = .ok (.ldc is, 2) := by rw [hb]; exact d4
  have hstr' : vk_R own is text sa s' := vk_R.warm hW0 hstr
  obtain ⟨U, hsteps, hrun, hend, hW, hsame, ce, hce, hO⟩ := X₁.ctorThrowS hexec htr (own := own) (cls := cls) (names := names) (ic := ic) hown' hcls hnames h (fun x hx => nomatch hx) hfX hkX hcellA (by rw [hhp, hT]; exact Nat.le_refl _) (msg := .ref sa) rfl
    (g := { method := m, pc := pc + 6, locals := ls, stack := .ref sa :: .ref T.heap.size :: .ref T.heap.size :: rest, locked := none }) rfl hsize rfl rfl (rest := rest) rfl
    (by rw [hb]; exact d6) (by rw [hb]; exact d9) hout hRframes (by simp only [List.map_cons, List.sum_cons, hcat]; omega) hlocks
  obtain ⟨f1, f2⟩ := vx_frame hsame
  rw [hhp] at f1 f2
  have hWs : s.WarmedH U.vm := State.WarmedH.trans hW0 hW
  have hcl : s.vm.findClass cls = some ce.cls := by
    have h9 := hO.cls
    rw [hvm] at h9
    exact h9
  have hall : s.sameButNew ({ U with vm := s.vm } : State) locs mc ms := by
    subst hA
    obtain ⟨e1, e2⟩ := hsame
    rw [State.setFrames_setFrames] at e1
    have h2 : (T.setVm s.vm).sameButNew ({ U with vm := s.vm } : State) [] (0 + 1) (0 + 6) := ⟨e1, e2⟩
    have h3 := X.same.trans h2
    rw [List.append_nil] at h3
    exact h3.mono hc hs
  refine ⟨U, ?_, .threw T.heap.size, hrun, hend, Or.inr ⟨T.heap.size, rfl, cls, ce, locs, hx U hWs.alike f1 (fun q hq => f2 q hq (fun z hz => nomatch hz)), hce, hO.vm, hcl, hWs, hall, hf⟩⟩
  refine st1 _ ?_
  show Steps p.tables e below (T1.setTop { method := m, pc := pc + 3, locals := ls, stack := .ref T.heap.size :: rest, locked := none }) _
  jvm_step X₁.here [X₁.here.top, hexec, d3', Value.category]
  exact X₁.ldcString hexec (own := own) (text := text) (index := is) (a := sa) hown' hstr'.1 hstr'.2
    (g := { method := m, pc := pc + 4, locals := ls, stack := .ref T.heap.size :: .ref T.heap.size :: rest, locked := none }) rfl d4' _ hsteps
/-- 'throw new E("text")', the text by a wide index -/
theorem vx_throwSW {cc : ByteArray} {pc : Nat} (hexec : p.tables.exec = Jvm.exec) (hb : c.code = cc) (hl : l.stackTraces = false) {own cls text : String} {names : List String} {ik is ic mc ms sa : Nat} {A : Nat → Prop}
    (hown : s.vm.findClass own = some m.cls) (hcls : Bundle.fit cls = true) (hnames : ∀ n ∈ names, Bundle.fit n = true)
    (hk : (Cond.classLink own ik cls).before args s = true) (hini : (Cond.initialized cls).before args s = true) (hstr : vk_R own is text sa s) (hat : ∀ w ∈ vx_atS own ic cls names, w.before args s = true)
    (hgood : ∀ w ∈ Cond.classLink own ik cls :: Cond.initialized cls :: vx_atS own ic cls names, vx_ot w = true)
    (hU : vx_Zq Bundle.tN "UNASSIGNED_STACK" Bundle.steD A s s.heap) (hN : vx_Zq Bundle.tN "SUPPRESSED_SENTINEL" Bundle.listD A s s.heap) (hS : va_S A s.heap H locs) (hsize : ls.size = c.maxLocals)
    (d0 : decode cc pc = .ok (.new ik, 3)) (d3 : decode cc (pc + 3) = .ok (.dup, 1)) (d4 : decode cc (pc + 4) = .ok (.ldc_w is, 3)) (d7 : decode cc (pc + 7) = .ok (.invokespecial ic, 3)) (d10 : decode cc (pc + 10) = .ok (.athrow, 1))
    (hout : ∀ x ∈ c.exceptionTable.toList, covers x (pc + 10) = false)
    (hRframes : names.length + 3 < R.frames) (hRlocals : (rest.map fun v => v.category).sum + (13 * (names.length + 1) + 43) ≤ R.locals) (hRcells : cells + 1 ≤ R.cells) (hRslots : slots + 6 ≤ R.slots) (hlocks : meth.locks = false)
    (hx : ∀ t : State, s.vm.Alike t.vm → H.size ≤ t.heap.size → (∀ q : Nat, q < H.size → t.heap[q]? = H[q]?) → XC cls s t)
    (hf : ∀ z ∈ locs, free z.base) (hc : cells + 1 ≤ mc) (hs : slots + 6 ≤ ms) :
    W p l e R s m args below meth c H locs cells slots (vx_MQ below Qc XC args s mc ms free) (F0 m pc ls rest) := by
  intro T hT X
  have htr : e.platform.stackTraces = false := (show e.platform.stackTraces = l.stackTraces by rw [X.admits.platform]).trans hl
  have Y := vx_rebase X (R' := { frames := R.frames, locals := R.locals, cells := 1, slots := 6 }) (Nat.le_refl _) (Nat.le_refl _) hRcells hRslots
  obtain ⟨s', hA⟩ : ∃ z, z = (T.setVm s.vm).setFrames (.invoking m args :: below) := ⟨_, rfl⟩
  rw [← hA] at Y
  have hvm : s'.vm = s.vm := by rw [hA]; rfl
  have hhp : s'.heap = H := by rw [hA]; exact hT
  have hW0 : s.WarmedH s'.vm := by rw [hvm]; exact State.WarmedH.refl s
  have hat' : ∀ w ∈ vx_atS own ic cls names, w.before args s' = true := fun w hw => vx_ot_at hW0 hvm.symm (hgood w (List.mem_cons_of_mem _ (List.mem_cons_of_mem _ hw))) (hat w hw)
  have hk' : (Cond.classLink own ik cls).before args s' = true := vx_ot_at hW0 hvm.symm (hgood _ List.mem_cons_self) hk
  have hini' : (Cond.initialized cls).before args s' = true := vx_ot_at hW0 hvm.symm (hgood _ (List.mem_cons_of_mem _ List.mem_cons_self)) hini
  have hU' : vx_Zq Bundle.tN "UNASSIGNED_STACK" Bundle.steD A s' s'.heap := by rw [hhp]; exact vx_Zq.moved hW0.alike (hU.kept hS.2.1)
  have hN' : vx_Zq Bundle.tN "SUPPRESSED_SENTINEL" Bundle.listD A s' s'.heap := by rw [hhp]; exact vx_Zq.moved hW0.alike (hN.kept hS.2.1)
  have h : ∀ w ∈ Bundle.ownAtoms own ic cls names, w.before args s' = true := vx_own hat' (vx_isRefq hU'.1) (vx_isRefq hN'.1) hU'.2.word hN'.2.word
  have hown' : s'.vm.findClass own = some m.cls := by rw [hvm]; exact hown
  have hins : (Cond.instantiable cls 6).before args s' = true := h _ (by simp [Bundle.ownAtoms])
  obtain ⟨vm₁, cX, kX, hfX, hkX, -, -, X₁, st1⟩ := Y.newCold hexec (own := own) (C := cls) (index := ik) (n := 6) hown' hk' hins hini'
    (g := F0 m pc ls rest) rfl (by rw [hb]; exact d0) (Nat.le_refl _) (Nat.le_refl _)
  generalize hT1 : (T.setVm vm₁).pushCell { cls := cX, slots := kX.instanceTypes.map defaultValue, vm := .none } = T1 at X₁ st1
  have hcat : (Value.ref T.heap.size).category = 1 := rfl
  have hcellA : T1.heap[T.heap.size]? = some (freshCell cX kX) := by rw [← hT1]; exact State.heap_pushCell_size _ _
  have d3' : decode c.code (pc + 3) = .ok (.dup, 1) := by rw [hb]; exact d3
  have d4' : decode c.code (pc + 4) = .ok (.ldc_w is, 3) := by rw [hb]; exact d4
  have hstr' : vk_R own is text sa s' := vk_R.warm hW0 hstr
  obtain ⟨U, hsteps, hrun, hend, hW, hsame, ce, hce, hO⟩ := X₁.ctorThrowS hexec htr (own := own) (cls := cls) (names := names) (ic := ic) hown' hcls hnames h (fun x hx => nomatch hx) hfX hkX hcellA (by rw [hhp, hT]; exact Nat.le_refl _) (msg := .ref sa) rfl
    (g := { method := m, pc := pc + 7, locals := ls, stack := .ref sa :: .ref T.heap.size :: .ref T.heap.size :: rest, locked := none }) rfl hsize rfl rfl (rest := rest) rfl
    (by rw [hb]; exact d7) (by rw [hb]; exact d10) hout hRframes (by simp only [List.map_cons, List.sum_cons, hcat]; omega) hlocks
  obtain ⟨f1, f2⟩ := vx_frame hsame
  rw [hhp] at f1 f2
  have hWs : s.WarmedH U.vm := State.WarmedH.trans hW0 hW
  have hcl : s.vm.findClass cls = some ce.cls := by
    have h9 := hO.cls
    rw [hvm] at h9
    exact h9
  have hall : s.sameButNew ({ U with vm := s.vm } : State) locs mc ms := by
    subst hA
    obtain ⟨e1, e2⟩ := hsame
    rw [State.setFrames_setFrames] at e1
    have h2 : (T.setVm s.vm).sameButNew ({ U with vm := s.vm } : State) [] (0 + 1) (0 + 6) := ⟨e1, e2⟩
    have h3 := X.same.trans h2
    rw [List.append_nil] at h3
    exact h3.mono hc hs
  refine ⟨U, ?_, .threw T.heap.size, hrun, hend, Or.inr ⟨T.heap.size, rfl, cls, ce, locs, hx U hWs.alike f1 (fun q hq => f2 q hq (fun z hz => nomatch hz)), hce, hO.vm, hcl, hWs, hall, hf⟩⟩
  refine st1 _ ?_
  show Steps p.tables e below (T1.setTop { method := m, pc := pc + 3, locals := ls, stack := .ref T.heap.size :: rest, locked := none }) _
  jvm_step X₁.here [X₁.here.top, hexec, d3', Value.category]
  exact X₁.ldcStringW hexec (own := own) (text := text) (index := is) (a := sa) hown' hstr'.1 hstr'.2
    (g := { method := m, pc := pc + 4, locals := ls, stack := .ref T.heap.size :: .ref T.heap.size :: rest, locked := none }) rfl d4' _ hsteps
end Ends
section Bodies
variable {l : Launch}
theorem vx_ofW {y : MethodName} {ws ws' : List Cond} {rm : Room} {Pc : Array Value → State → Prop} {Qc : Array Value → State → Outcome → State → Prop} {XC : String → State → State → Prop} {mc ms : Nat} {free : Addr → Prop} {cc : ByteArray} {maxL : Nat} {ret : Option FieldType}
    (hy : plainName y.cls = true) (hw : ws = Cond.code y cc maxL ret :: ws')
    (body : ∀ p e s m args below meth c s₁, BodyLoose p l y (headSpec ws rm) cc maxL ret e s m args below meth c s₁ → c.maxLocals = maxL → (∀ x ∈ c.exceptionTable.toList, False) → Pc args s →
      W p l e (headSpec ws rm).room s m args below meth c s.heap [] 0 0 (vx_MQ below Qc XC args s mc ms free) (entryFrame m args maxL)) : vx_Met l y ws rm Pc Qc XC mc ms free := by
  refine MetFree.of_bodyS (code := cc) (maxLocals := maxL) (ret := ret) hy ?_ ?_
  · intro args s m h hn
    obtain ⟨meth, c, h1, h2, h3, h4, h5, h6, -, -⟩ := Cond.code_spec hn (atoms_spec (ws := ws) h _ (by rw [hw]; exact List.mem_cons_self))
    exact ⟨meth, c, h1, h2, h3, h4, h5, h6⟩
  · intro p e s m args below meth c s₁ B hml hP _
    have hh0 : s₁.heap = s.heap := by rw [B.state]; rfl
    have ht : ∀ x ∈ c.exceptionTable.toList, False := by
      obtain ⟨meth9, c9, h1, h2, -, -, -, -, h7, -⟩ := Cond.code_spec B.named (atoms_spec (ws := ws) B.pre _ (by rw [hw]; exact List.mem_cons_self))
      cases Option.some.inj (h1.symm.trans B.method)
      cases Option.some.inj (h2.symm.trans (Stand.of_body B).code)
      intro x hx
      rw [Array.isEmpty_iff.mp h7] at hx
      cases hx
    obtain ⟨t, a1, o, b1, b2, b3⟩ := body p e s m args below meth c s₁ B hml ht hP s₁ hh0 (Stand.of_body B)
    exact ⟨t, o, a1, b1, b2, b3⟩
/-- the table of a body with handlers -/
theorem vx_table {p : Program} {x y : MethodName} {S : Spec} {cc bytes : ByteArray} {maxL maxL' : Nat} {ret ret' : Option FieldType} {e : Env} {s s₁ : State} {m : MethodId} {args : Array Value} {below : List Frame} {meth : Method} {c : Code} {hh : List (Nat × Nat × Nat × Nat)}
    (B : BodyLoose p l y S cc maxL ret e s m args below meth c s₁) (h : (Cond.codeWith y bytes maxL' ret' hh).before args s = true) : c.exceptionTable.toList = tableOf hh := by
  obtain ⟨m9, meth9, c9, hn9, h1, h2, -, -, h6, -⟩ := Cond.codeWith_spec h
  cases Option.some.inj (hn9.symm.trans B.named)
  cases Option.some.inj (h1.symm.trans B.method)
  cases Option.some.inj (h2.symm.trans (Stand.of_body B).code)
  rw [← h6, table_eq]
end Bodies
end VXA
/-! ===== END ===== -/
/-! ===== BEGIN a static call of a method with an exception table ===== -/
section VXS
variable {p : Program} {l : Launch} {e : Env} {R : Room} {s : State} {m : MethodId} {args : Array Value} {below : List Frame} {meth : Method} {c : Code} {T : State} {H : Heap} {locs : List Loc} {cells slots : Nat}
abbrev vx_CSW (R : Room) (s : State) (args : Array Value) (own : String) (index : Nat) (y : MethodName) (bytes : ByteArray) (maxL : Nat) (ret : Option FieldType) (hh : List (Nat × Nat × Nat × Nat)) (ws : List Cond) (rm : Room) (mc ms n : Nat) : Prop :=
  (rm.cells = mc ∧ rm.slots = ms ∧ rm.frames + 1 ≤ R.frames ∧ 8 + (maxL + 11) + rm.locals ≤ R.locals ∧ (∀ w ∈ ws, ∀ (a' : Array Value) (U : State), s.WarmedH U.vm → w.before a' U = true) ∧ Cond.codeWith y bytes maxL ret hh ∈ ws) ∧
  (Cond.codeWith y bytes maxL ret hh).before args s = true ∧ (Cond.initialized y.cls).before args s = true ∧ (y.cls ≠ "java/lang/invoke/MethodHandle" ∧ y.cls ≠ "java/lang/invoke/VarHandle") ∧
  (∀ sig, parseMethodDescriptor y.desc = some sig → n = sig.parameters.length) ∧ (Cond.methodLink own index y).before args s = true ∧ (Cond.static y).before args s = true
theorem vx_cwSW {own : String} {index maxL mc ms : Nat} {y : MethodName} {bytes : ByteArray} {ret : Option FieldType} {hh : List (Nat × Nat × Nat × Nat)} {Ts ws ws' : List Cond} {rm : Room} (n : Nat) (ht : ∀ w ∈ Ts, w.before args s = true) (hT : GoodIn Ts (va_wsS own index y ws)) (hw : ws = Cond.codeWith y bytes maxL ret hh :: ws') (hrc : rm.cells = mc) (hrs : rm.slots = ms)
    (hd : y.cls ≠ "java/lang/invoke/MethodHandle" ∧ y.cls ≠ "java/lang/invoke/VarHandle" ∧ (parseMethodDescriptor y.desc).map (fun d => d.parameters.length) = some n) (hR : rm.frames + 1 ≤ R.frames ∧ 8 + (maxL + 11) + rm.locals ≤ R.locals) :
    vx_CSW R s args own index y bytes maxL ret hh ws rm mc ms n := by
  have ok : ∀ w ∈ va_wsS own index y ws, w.before args s = true := fun w h => ht w (hT w h).1
  have hG : GoodIn Ts ws := fun w h => hT w (by unfold va_wsS; exact List.mem_append_right _ h)
  have hc : Cond.codeWith y bytes maxL ret hh ∈ ws := by rw [hw]; exact List.mem_cons_self
  refine ⟨⟨hrc, hrs, hR.1, hR.2, pay_in ht hG, hc⟩, ht _ (hG _ hc).1, ok _ (by simp [va_wsS]), ⟨hd.1, hd.2.1⟩, fun sig h => ?_, ok _ (by simp [va_wsS]), ok _ (by simp [va_wsS])⟩
  have h2 := hd.2.2
  rw [h] at h2
  exact (Option.some.inj h2).symm
theorem vx_callSW (X : Stand p l e R s m args below meth c T locs cells slots) (hexec : p.tables.exec = Jvm.exec) {own : String} {index : Nat} {y : MethodName} {bytes : ByteArray} {maxL : Nat} {ret : Option FieldType} {hh : List (Nat × Nat × Nat × Nat)}
    (hown : s.vm.findClass own = some m.cls) (hlink : (Cond.methodLink own index y).before args s = true) (hstat : (Cond.static y).before args s = true) (hinit : (Cond.initialized y.cls).before args s = true)
    (hcode : (Cond.codeWith y bytes maxL ret hh).before args s = true) (hy : y.cls ≠ "java/lang/invoke/MethodHandle" ∧ y.cls ≠ "java/lang/invoke/VarHandle")
    {W9 : Nat} {Pre : Pt → Array Value → Prop} {Post : Pt → Array Value → Option Value → Pt → Prop} (hK : Back l R p e below s args y 3 W9 Pre Post)
    {g : JFrame} (hg : g.method = m) (hsize : g.locals.size = c.maxLocals) {argsL rest : List Value} (hlen : ∀ sig, parseMethodDescriptor y.desc = some sig → argsL.length = sig.parameters.length)
    (hstack : g.stack = argsL.reverse ++ rest) (hW : 2 * g.monitorRoom + (rest.map fun v => v.category).sum ≤ W9) (hdg : decode c.code g.pc = .ok (.invokestatic index, 3))
    (hpre : ∀ vm₁, s.WarmedH vm₁ → Pre ⟨T.setVm vm₁, locs, cells, slots⟩ argsL.toArray) :
    ∃ (v : Option Value) (vm₁ : Vm) (B : Pt), s.WarmedH vm₁ ∧ Stand p l e R s m args below meth c B.U B.locs B.cells B.slots ∧ Post ⟨T.setVm vm₁, locs, cells, slots⟩ argsL.toArray v B ∧
      ∀ target, Steps p.tables e below (B.U.setTop { g with pc := g.pc + 3, stack := v.toList ++ rest }) target → Steps p.tables e below (T.setTop g) target := by
  obtain ⟨mk, methM, cM, hnamed, hmethM, -, -, -, -, -, -, hsigM⟩ := Cond.codeWith_spec hcode
  have hstatic : methM.isStatic = true := Cond.static_spec hnamed hmethM hstat
  obtain ⟨kP, hkP, -⟩ := className_of_methodNamed hnamed
  have hinitP : kP.init = .initialized := Cond.initialized_spec (findClass_of_methodNamed hnamed) hkP hinit
  obtain ⟨vm₁, X₁, hstep₁⟩ := X.invokestatic hexec hown hlink hnamed hmethM hstatic hkP hinitP hy (g := g) hg (argsL := argsL) (rest := rest) (hlen _ hsigM) hstack hdg
  obtain ⟨v, B, X', hpost, hsteps⟩ := hK m meth c ⟨T.setVm vm₁, locs, cells, slots⟩ { g with stack := rest } (.invokestatic index) mk argsL.toArray X₁ hg hsize hdg hW (X₁.named hnamed) (hpre vm₁ X₁.warmed)
  exact ⟨v, vm₁, B, X₁.warmed, X', hpost, fun target h => hstep₁ _ fun acts => by rw [doInvoke_state]; exact hsteps.trans h⟩
theorem vx_runSW {y : MethodName} {bytes cc : ByteArray} {maxL nL mc ms n index : Nat} {ret : Option FieldType} {hh : List (Nat × Nat × Nat × Nat)} {ws : List Cond} {rm : Room} {Pc : Array Value → State → Prop} {Qc : Array Value → State → Outcome → State → Prop} {free : Addr → Prop} {Ts : List Cond} {own : String} {As rest : List Value} {g : JFrame}
    (S : CallFix p m c cc nL s args Ts own) (hM : Met l y ws rm Pc Qc mc ms free) (cw : vx_CSW R s args own index y bytes maxL ret hh ws rm mc ms n) (hp : PreS s H Pc As)
    (hg : g.method = m) (hn : As.length = n) (hsize : g.locals.size = nL) (hstack : g.stack = As.reverse ++ rest) (hW : 2 * g.monitorRoom + (rest.map fun v => v.category).sum ≤ 8) (hdg : decode cc g.pc = .ok (.invokestatic index, 3)) (hf : cells + mc ≤ R.cells ∧ slots + ms ≤ R.slots) :
    va_Run p l e R s m args below meth c H locs cells slots mc ms g rest (Qc As.toArray) (free) := by
  obtain ⟨⟨hrc, hrs, hfr, hlo, hws, hcw⟩, hcode, hini, hy, hlen, hl, hstt⟩ := cw
  have hK : Back l R p e below s args y 3 8 (PreOf R mc ms Pc) (PostOf Qc mc ms free) := va_backW (hh := hh) (bytes := bytes) (maxL := maxL) (ret := ret) hM hp.1 hrc hrs hfr hlo hws hcw (fun a' U hW => word_at hW (Or.inl (by first | rfl | simp [Cond.onTables, Cond.keeps, Cond.steady])) hini)
  obtain ⟨hx, hb, hml, ho, -⟩ := S
  intro T hT X
  obtain ⟨v, vm₁, ⟨U', l2, c2, s2⟩, hW₁, X', ⟨g', mk, t, L, e1, e2, hq, h1, hL, h2, h3⟩, st⟩ := vx_callSW X hx (hh := hh) (bytes := bytes) (maxL := maxL) (ret := ret) ho hl hstt hini hcode hy hK hg (hsize.trans hml.symm) (argsL := As) (rest := rest) (fun sig h => hn.trans (hlen sig h)) hstack hW (by rw [hb]; exact hdg)
    (fun vm₁ hW₁ => ⟨hf.1, hf.2, hp.2 (T.setVm vm₁) hT hW₁⟩)
  dsimp only [Pt.U, Pt.locs, Pt.cells, Pt.slots] at X' e1 e2 h1 h2 h3 st
  subst h1; subst h2; subst h3
  exact ⟨v, (T.setVm vm₁).calling g' mk As.toArray, t, U', L, hT, X', hL, e1, e2, hq, st⟩
/-- not caught here, past rows that name other classes: it goes on to the caller -/
theorem vx_outP {p : Program} {l : Launch} {e : Env} {R : Room} {s : State} {m : MethodId} {args : Array Value} {below : List Frame} {meth : Method} {c : Code} {H : Heap} {locs : List Loc} {cells slots : Nat} {free : Addr → Prop} {ls : Array Slot} {rest : List Value} {Qc : Array Value → State → Outcome → State → Prop} {XC : String → State → State → Prop}
    {pc : Nat} {own E : String} {ce : Cell} {q : Addr} {mc ms : Nat} (hown : s.vm.findClass own = some m.cls) (hlocks : meth.locks = false)
    (hpass : ∀ z ∈ c.exceptionTable.toList, covers z pc = false ∨ (z.catchType ≠ 0 ∧ ∃ nm : String, (Cond.classLink own z.catchType nm).before args s = true ∧ va_Nc E nm s)) (hcell : H[q]? = some ce) (hv : ce.vm = .none) (hcl : s.vm.findClass E = some ce.cls)
    (hx : ∀ t : State, t.heap = H → s.vm.Alike t.vm → XC E s t) (hf : ∀ z ∈ locs, free z.base) (hc : cells ≤ mc) (hs : slots ≤ ms) :
    vx_W p l e R s m args below meth c H locs cells slots (vx_MQ below Qc XC args s mc ms free) (F0 m pc ls rest) q := by
  intro T hT X
  have hpl : e.platform.magicAccessors = ({} : Platform).magicAccessors := by rw [X.admits.platform]
  obtain ⟨vm', hW', X', st⟩ := X.outThrough hlocks q (g := F0 m pc ls rest) rfl rfl rfl (cell := ce) (by rw [hT]; exact hcell) (by rw [hv]; rfl)
    (by obtain ⟨k9, h9, -⟩ := Vm.findClass_spec hcl; exact ⟨k9, h9⟩) (fun z hz => by
      rcases hpass z hz with h | ⟨hz0, nm, hl1, hn1⟩
      · exact Or.inl h
      · obtain ⟨c6, hc6, hcl6⟩ := Cond.classLink_spec hown hl1 e.platform hpl
        obtain ⟨a8, b8, h1, h2, h3⟩ := hn1
        cases Option.some.inj (h1.symm.trans hcl)
        cases Option.some.inj (h2.symm.trans hc6)
        exact Or.inr ⟨hz0, _, hcl6, h3⟩)
  obtain ⟨g₀, hfr⟩ := X'.frames_eq
  have hcell9 : ((T.setVm vm').setFrames (.throwing q :: below)).heap[q]? = some ce := by
    show T.heap[q]? = some ce
    rw [hT]; exact hcell
  have hend : Ended ((T.setVm vm').setFrames (.throwing q :: below)) below (.threw q) := State.frames_setFrames _ (State.cur_lt_of_frames hfr)
  refine ⟨(T.setVm vm').setFrames (.throwing q :: below), ?_, .threw q, X'.here.running, hend, Or.inr ⟨q, rfl, E, ce, locs, hx _ hT (X'.ends _).1.alike, hcell9, hv, hcl, (X'.ends _).1, (X'.ends _).2.mono hc hs, hf⟩⟩
  rw [X.pushThrowing_eq]
  exact st
/-- a thing of a world lies in the heap -/
theorem vx_lt {D : va_G} {cl : List vw_C} {ws : va_W} {H1 : Heap} (h : va_P D cl ws H1) {k : Nat} {q : Nat × va_E} (hk : ws[k]? = some q) : q.1 < H1.size := (h k q hk).lt
end VXS
/-! ===== END ===== -/
/-! ===== BEGIN methods with a table of their own: called by a name, returning or throwing ===== -/
section VXH
/-! vx_backW, vx_callVX, vx_callSX, vx_callVW, vx_runVW, vx_runVX, vx_runSX, vx_ofWH follow the same proofs as their sisters above (Free/Laws.lean, Shelf42/LK1.lean); vx_outP calls Shelf42/NT130.lean (outThrough). -/
section
variable {l : Launch} {R : Room} {p : Program} {e : Env} {below : List Frame} {s : State} {sargs : Array Value} {y : MethodName} {len W9 : Nat}
theorem vx_backW {ws : List Cond} {rm : Room} {Pc : Array Value → State → Prop} {Qc : Array Value → State → Outcome → State → Prop} {XC : String → State → State → Prop} {mc ms : Nat} {free : Addr → Prop} {bytes : ByteArray} {maxL : Nat} {ret : Option FieldType} {hh : List (Nat × Nat × Nat × Nat)}
    (hM : vx_Met l y ws rm Pc Qc XC mc ms free) (hblind : FrameBlind Pc) (hrc : rm.cells = mc) (hrs : rm.slots = ms)
    (hframes : rm.frames + 1 ≤ R.frames) (hlocals : W9 + (maxL + 11) + rm.locals ≤ R.locals)
    (hws : ∀ w ∈ ws, ∀ a' U, s.WarmedH U.vm → w.before a' U = true) (hcode : Cond.codeWith y bytes maxL ret hh ∈ ws) (hinit : ∀ a' U, s.WarmedH U.vm → (Cond.initialized y.cls).before a' U = true) :
    vx_Back l R p e below s sargs y len W9 (PreOf R mc ms Pc) (PostOf Qc mc ms free) (vx_Post XC mc ms free) := by
  intro m meth c A g ig mk a X hg hsize hdg hW hn hp
  have h1 : (headSpec ws rm).pre.before a A.U = true := atoms_intro fun w hw => hws w hw _ _ X.warmed
  have h2 : (Cond.codeWith y bytes maxL ret hh).before a A.U = true := hws _ hcode _ _ X.warmed
  have h3 : (Cond.initialized y.cls).before a A.U = true := hinit _ _ X.warmed
  have h4 : A.cells + (headSpec ws rm).room.cells ≤ R.cells := by rw [show (headSpec ws rm).room.cells = mc from hrc]; exact hp.1
  have h5 : A.slots + (headSpec ws rm).room.slots ≤ R.slots := by rw [show (headSpec ws rm).room.slots = ms from hrs]; exact hp.2.1
  have hPc : Pc a (A.U.calling g mk a) := hblind _ _ _ _ hp.2.2
  obtain ⟨U, Ls, c0, s0⟩ := A
  dsimp only [Pt.U, Pt.locs, Pt.cells, Pt.slots] at h1 h2 h3 h4 h5 X hn hPc ⊢
  obtain ⟨m9, methY, cY, hn9, hmY, hcY, -, hlY, -⟩ := Cond.codeWith_spec h2
  cases Option.some.inj (hn9.symm.trans hn)
  obtain ⟨kY, hkY, -⟩ := className_of_methodNamed hn
  have hinitY : kY.init = .initialized := Cond.initialized_spec (findClass_of_methodNamed hn) hkY h3
  have h : At U g.method c below := by rw [hg]; exact X.here
  have hlocals9 : W9 + (maxL + 11) + (headSpec ws rm).room.locals ≤ R.locals := hlocals
  have happ : (headSpec ws rm).appliesLoose y e.platform (U.calling g mk a) = true :=
    Spec.appliesLoose_calling (g := g) h hdg hn hkY hinitY
      (X.room_calling (g := g) (R' := (headSpec ws rm).room) hsize hmY hcY hframes (by rw [hlY]; omega) h4 h5) h1
  obtain ⟨mid, hmid⟩ := h.above
  have hfr : (U.setTop g).frames = (.java g :: mid) ++ below := by rw [State.frames_setTop' g h.top, hmid]; rfl
  obtain ⟨o, s₂, hsteps, -, hend, hq⟩ := Steps.callFree hM p X.admits X.cas X.clock (acts := []) hfr happ hPc trivial
  have hq' : vx_Q Qc XC mc ms free a (U.calling g mk a) o s₂ := hq
  rw [State.frames_setTop' g h.top] at hend
  obtain ⟨g₀, hg0⟩ := Option.isSome_iff_exists.mp h.top
  obtain ⟨r, hr⟩ := State.topJava?_eq_some.mp hg0
  have hr' : (({ U with heap := s₂.heap, slotsUsed := s₂.slotsUsed } : State).setVm s₂.vm).frames = .java g₀ :: r := hr
  rcases hq' with ⟨hqc, L, hfe, hL⟩ | ⟨q, rfl, E, ce, L, hx, hce, hcv, hcl, hW₂, hsm, hL⟩
  · obtain ⟨⟨v, rfl⟩, hW₂, e2, q2, q3, q4, q5, q6⟩ := id hfe
    have e3 : s₂ = ({ (U.calling g mk a).setFrames s₂.frames with heap := s₂.heap, slotsUsed := s₂.slotsUsed } : State).setVm s₂.vm := by
      have : s₂ = ({ s₂ with vm := (U.calling g mk a).vm } : State).setVm s₂.vm := rfl
      rw [e2] at this
      exact this
    obtain ⟨c₂, i₂, len₂, hc₂, hd₂, hf₂⟩ := hend
    have hW' : U.WarmedH s₂.vm := hW₂
    have hcc : c₂ = c := by
      have h1 : s₂.code? g.method = U.code? g.method := by
        rw [State.code?_eq, State.code?_eq, hW'.alike.method?]
      exact Option.some.inj (hc₂.symm.trans (h1.trans h.code))
    subst hcc
    have hlen : len₂ = len := by rw [hdg] at hd₂; cases hd₂; rfl
    subst hlen
    have hs₂ : s₂ = (({ U with heap := s₂.heap, slotsUsed := s₂.slotsUsed } : State).setVm s₂.vm).setTop { g with pc := g.pc + len₂, stack := v.toList ++ g.stack } := by
      refine e3.trans ?_
      rw [hf₂, State.calling_eq h.top, State.setFrames_setFrames, State.setTop_of_frames _ hr', hr]
      rfl
    have hsame : U.sameButNew ({ U with heap := s₂.heap, slotsUsed := s₂.slotsUsed } : State) L mc ms := by
      refine ⟨?_, q2, q3, q4, q5, q6⟩
      obtain ⟨t, ht, -⟩ := State.frames_cons hr
      show ({ U with heap := s₂.heap, slotsUsed := s₂.slotsUsed } : State) = { U.setFrames U.frames with heap := s₂.heap, slotsUsed := s₂.slotsUsed }
      rw [State.setFrames_self ht]
    subst hg
    refine Or.inl ⟨v, ⟨(({ U with heap := s₂.heap, slotsUsed := s₂.slotsUsed } : State).setVm s₂.vm), Ls ++ L, c0 + mc, s0 + ms⟩,
      ⟨X.admits, X.cas, X.clock, X.frames, X.room, X.hears, X.method, X.code, (X.here.setHeapUsed s₂.heap s₂.slotsUsed).setVm hW'.alike, X.tail, State.WarmedH.trans X.warmed hW', X.limits, X.bytes, X.same.trans (hsame.setVm s.vm)⟩,
      ⟨g, mk, s₂, L, rfl, rfl, hqc, rfl, hL, rfl, rfl⟩, ?_⟩
    show Steps p.tables e below _ ((({ U with heap := s₂.heap, slotsUsed := s₂.slotsUsed } : State).setVm s₂.vm).setTop { g with pc := g.pc + len₂, stack := v.toList ++ g.stack })
    rw [← hs₂]
    exact hsteps
  · obtain ⟨e2, q2, q3, q4, q5, q6⟩ := id hsm
    have e3 : s₂ = ({ (U.calling g mk a).setFrames s₂.frames with heap := s₂.heap, slotsUsed := s₂.slotsUsed } : State).setVm s₂.vm := by
      have : s₂ = ({ s₂ with vm := (U.calling g mk a).vm } : State).setVm s₂.vm := rfl
      rw [e2] at this
      exact this
    have hf₂ : s₂.frames = .throwing q :: .java g :: U.frames.tail := hend
    have hW' : U.WarmedH s₂.vm := hW₂
    have hs₂ : s₂ = ((({ U with heap := s₂.heap, slotsUsed := s₂.slotsUsed } : State).setVm s₂.vm).setTop g).pushFrame (.throwing q) := by
      refine e3.trans ?_
      rw [hf₂, State.calling_eq h.top, State.setFrames_setFrames, State.pushFrame, State.frames_setTop _ hr', State.setTop_of_frames _ hr', State.setFrames_setFrames, hr]
      rfl
    have hsame : U.sameButNew ({ U with heap := s₂.heap, slotsUsed := s₂.slotsUsed } : State) L mc ms := by
      refine ⟨?_, q2, q3, q4, q5, q6⟩
      obtain ⟨t, ht, -⟩ := State.frames_cons hr
      show ({ U with heap := s₂.heap, slotsUsed := s₂.slotsUsed } : State) = { U.setFrames U.frames with heap := s₂.heap, slotsUsed := s₂.slotsUsed }
      rw [State.setFrames_self ht]
    subst hg
    refine Or.inr ⟨q, ⟨(({ U with heap := s₂.heap, slotsUsed := s₂.slotsUsed } : State).setVm s₂.vm), Ls ++ L, c0 + mc, s0 + ms⟩,
      ⟨X.admits, X.cas, X.clock, X.frames, X.room, X.hears, X.method, X.code, (X.here.setHeapUsed s₂.heap s₂.slotsUsed).setVm hW'.alike, X.tail, State.WarmedH.trans X.warmed hW', X.limits, X.bytes, X.same.trans (hsame.setVm s.vm)⟩,
      ⟨g, mk, s₂, L, E, ce, rfl, rfl, hx, hce, hcv, hcl, rfl, hL, rfl, rfl⟩, ?_⟩
    show Steps p.tables e below _ (((({ U with heap := s₂.heap, slotsUsed := s₂.slotsUsed } : State).setVm s₂.vm).setTop g).pushFrame (.throwing q))
    rw [← hs₂]
    exact hsteps
end
variable {p : Program} {l : Launch} {e : Env} {R : Room} {s : State} {m : MethodId} {args : Array Value} {below : List Frame} {meth : Method} {c : Code} {T : State} {H : Heap} {locs : List Loc} {cells slots : Nat}
theorem vx_callVX (X : Stand p l e R s m args below meth c T locs cells slots) (hexec : p.tables.exec = Jvm.exec) {own C : String} {index : Nat} {y : MethodName} {bytes : ByteArray} {maxL : Nat} {ret : Option FieldType} {hh : List (Nat × Nat × Nat × Nat)}
    (hown : s.vm.findClass own = some m.cls) (hlink : (Cond.methodLink own index y).before args s = true) (hinst : (Cond.instanceMethod y).before args s = true) (hsel : (Cond.selects C y y).before args s = true)
    (hcode : (Cond.codeWith y bytes maxL ret hh).before args s = true) (hy : y.cls ≠ "java/lang/invoke/MethodHandle" ∧ y.cls ≠ "java/lang/invoke/VarHandle")
    {W9 : Nat} {Pre : Pt → Array Value → Prop} {Post : Pt → Array Value → Option Value → Pt → Prop} {PostX : Pt → Array Value → Addr → Pt → Prop} (hK : vx_Back l R p e below s args y 3 W9 Pre Post PostX)
    {b : Addr} {cellB : Cell} (hcell : T.heap[b]? = some cellB) (hobj : cellB.vm.isStatics = false) (hcls : s.vm.findClass C = some cellB.cls)
    {g : JFrame} (hg : g.method = m) (hsize : g.locals.size = c.maxLocals) {argsL rest : List Value} (hlen : ∀ sig, parseMethodDescriptor y.desc = some sig → argsL.length = sig.parameters.length)
    (hstack : g.stack = argsL.reverse ++ .ref b :: rest) (hW : 2 * g.monitorRoom + (rest.map fun v => v.category).sum ≤ W9) (hdg : decode c.code g.pc = .ok (.invokevirtual index, 3))
    (hpre : ∀ vm₁, s.WarmedH vm₁ → Pre ⟨T.setVm vm₁, locs, cells, slots⟩ (Value.ref b :: argsL).toArray) :
    (∃ (v : Option Value) (vm₁ : Vm) (B : Pt), s.WarmedH vm₁ ∧ Stand p l e R s m args below meth c B.U B.locs B.cells B.slots ∧ Post ⟨T.setVm vm₁, locs, cells, slots⟩ (Value.ref b :: argsL).toArray v B ∧
      ∀ target, Steps p.tables e below (B.U.setTop { g with pc := g.pc + 3, stack := v.toList ++ rest }) target → Steps p.tables e below (T.setTop g) target) ∨
    (∃ (q : Addr) (vm₁ : Vm) (B : Pt), s.WarmedH vm₁ ∧ Stand p l e R s m args below meth c B.U B.locs B.cells B.slots ∧ PostX ⟨T.setVm vm₁, locs, cells, slots⟩ (Value.ref b :: argsL).toArray q B ∧
      Steps p.tables e below (T.setTop g) ((B.U.setTop { g with stack := rest }).pushFrame (.throwing q))) := by
  obtain ⟨mk, methM, hnamed, hmethM, hstM, habM⟩ := Cond.instanceMethod_spec hinst
  obtain ⟨m8, methM', cM, hn8, hmethM', -, -, -, -, -, -, hsigM⟩ := Cond.codeWith_spec hcode
  cases Option.some.inj (hn8.symm.trans hnamed)
  cases hmethM.symm.trans hmethM'
  obtain ⟨c2, r2, m2, q1, q2, q3, q4, kP, hkP, hkPi⟩ := Cond.selects_spec hsel
  cases hcls.symm.trans q1
  cases (State.methodFound?_of_named hnamed hy).symm.trans q2
  cases hnamed.symm.trans q3
  have hselP : selectMethod e.platform s.vm cellB.cls mk = .method mk := by rw [Launch.admits_selectMethod X.admits]; exact q4
  obtain ⟨vm₁, X₁, hstep₁⟩ := X.invokevirtual hexec hown hlink hnamed hmethM hstM hkP hkPi hy (a := b) (cell := cellB) hcell
    (fun z h => by rw [h] at hobj; cases hobj) hselP hmethM habM hkP hkPi (g := g) hg (argsL := argsL) (rest := rest) (hlen _ hsigM) hstack hdg
  rcases hK m meth c ⟨T.setVm vm₁, locs, cells, slots⟩ { g with stack := rest } (.invokevirtual index) mk (Value.ref b :: argsL).toArray X₁ hg hsize hdg hW (X₁.named hnamed) (hpre vm₁ X₁.warmed) with ⟨v, B, X', hpost, hsteps⟩ | ⟨q, B, X', hpost, hsteps⟩
  · exact Or.inl ⟨v, vm₁, B, X₁.warmed, X', hpost, fun target h => hstep₁ _ fun acts => by rw [doInvoke_state]; exact hsteps.trans h⟩
  · exact Or.inr ⟨q, vm₁, B, X₁.warmed, X', hpost, hstep₁ _ fun acts => by rw [doInvoke_state]; exact hsteps⟩
theorem vx_callSX (X : Stand p l e R s m args below meth c T locs cells slots) (hexec : p.tables.exec = Jvm.exec) {own : String} {index : Nat} {y : MethodName} {bytes : ByteArray} {maxL : Nat} {ret : Option FieldType} {hh : List (Nat × Nat × Nat × Nat)}
    (hown : s.vm.findClass own = some m.cls) (hlink : (Cond.methodLink own index y).before args s = true) (hstat : (Cond.static y).before args s = true) (hinit : (Cond.initialized y.cls).before args s = true)
    (hcode : (Cond.codeWith y bytes maxL ret hh).before args s = true) (hy : y.cls ≠ "java/lang/invoke/MethodHandle" ∧ y.cls ≠ "java/lang/invoke/VarHandle")
    {W9 : Nat} {Pre : Pt → Array Value → Prop} {Post : Pt → Array Value → Option Value → Pt → Prop} {PostX : Pt → Array Value → Addr → Pt → Prop} (hK : vx_Back l R p e below s args y 3 W9 Pre Post PostX)
    {g : JFrame} (hg : g.method = m) (hsize : g.locals.size = c.maxLocals) {argsL rest : List Value} (hlen : ∀ sig, parseMethodDescriptor y.desc = some sig → argsL.length = sig.parameters.length)
    (hstack : g.stack = argsL.reverse ++ rest) (hW : 2 * g.monitorRoom + (rest.map fun v => v.category).sum ≤ W9) (hdg : decode c.code g.pc = .ok (.invokestatic index, 3))
    (hpre : ∀ vm₁, s.WarmedH vm₁ → Pre ⟨T.setVm vm₁, locs, cells, slots⟩ argsL.toArray) :
    (∃ (v : Option Value) (vm₁ : Vm) (B : Pt), s.WarmedH vm₁ ∧ Stand p l e R s m args below meth c B.U B.locs B.cells B.slots ∧ Post ⟨T.setVm vm₁, locs, cells, slots⟩ argsL.toArray v B ∧
      ∀ target, Steps p.tables e below (B.U.setTop { g with pc := g.pc + 3, stack := v.toList ++ rest }) target → Steps p.tables e below (T.setTop g) target) ∨
    (∃ (q : Addr) (vm₁ : Vm) (B : Pt), s.WarmedH vm₁ ∧ Stand p l e R s m args below meth c B.U B.locs B.cells B.slots ∧ PostX ⟨T.setVm vm₁, locs, cells, slots⟩ argsL.toArray q B ∧
      Steps p.tables e below (T.setTop g) ((B.U.setTop { g with stack := rest }).pushFrame (.throwing q))) := by
  obtain ⟨mk, methM, cM, hnamed, hmethM, -, -, -, -, -, -, hsigM⟩ := Cond.codeWith_spec hcode
  have hstatic : methM.isStatic = true := Cond.static_spec hnamed hmethM hstat
  obtain ⟨kP, hkP, -⟩ := className_of_methodNamed hnamed
  have hinitP : kP.init = .initialized := Cond.initialized_spec (findClass_of_methodNamed hnamed) hkP hinit
  obtain ⟨vm₁, X₁, hstep₁⟩ := X.invokestatic hexec hown hlink hnamed hmethM hstatic hkP hinitP hy (g := g) hg (argsL := argsL) (rest := rest) (hlen _ hsigM) hstack hdg
  rcases hK m meth c ⟨T.setVm vm₁, locs, cells, slots⟩ { g with stack := rest } (.invokestatic index) mk argsL.toArray X₁ hg hsize hdg hW (X₁.named hnamed) (hpre vm₁ X₁.warmed) with ⟨v, B, X', hpost, hsteps⟩ | ⟨q, B, X', hpost, hsteps⟩
  · exact Or.inl ⟨v, vm₁, B, X₁.warmed, X', hpost, fun target h => hstep₁ _ fun acts => by rw [doInvoke_state]; exact hsteps.trans h⟩
  · exact Or.inr ⟨q, vm₁, B, X₁.warmed, X', hpost, hstep₁ _ fun acts => by rw [doInvoke_state]; exact hsteps⟩
theorem vx_callVW (X : Stand p l e R s m args below meth c T locs cells slots) (hexec : p.tables.exec = Jvm.exec) {own C : String} {index : Nat} {y : MethodName} {bytes : ByteArray} {maxL : Nat} {ret : Option FieldType} {hh : List (Nat × Nat × Nat × Nat)}
    (hown : s.vm.findClass own = some m.cls) (hlink : (Cond.methodLink own index y).before args s = true) (hinst : (Cond.instanceMethod y).before args s = true) (hsel : (Cond.selects C y y).before args s = true)
    (hcode : (Cond.codeWith y bytes maxL ret hh).before args s = true) (hy : y.cls ≠ "java/lang/invoke/MethodHandle" ∧ y.cls ≠ "java/lang/invoke/VarHandle")
    {W9 : Nat} {Pre : Pt → Array Value → Prop} {Post : Pt → Array Value → Option Value → Pt → Prop} (hK : Back l R p e below s args y 3 W9 Pre Post)
    {b : Addr} {cellB : Cell} (hcell : T.heap[b]? = some cellB) (hobj : cellB.vm.isStatics = false) (hcls : s.vm.findClass C = some cellB.cls)
    {g : JFrame} (hg : g.method = m) (hsize : g.locals.size = c.maxLocals) {argsL rest : List Value} (hlen : ∀ sig, parseMethodDescriptor y.desc = some sig → argsL.length = sig.parameters.length)
    (hstack : g.stack = argsL.reverse ++ .ref b :: rest) (hW : 2 * g.monitorRoom + (rest.map fun v => v.category).sum ≤ W9) (hdg : decode c.code g.pc = .ok (.invokevirtual index, 3))
    (hpre : ∀ vm₁, s.WarmedH vm₁ → Pre ⟨T.setVm vm₁, locs, cells, slots⟩ (Value.ref b :: argsL).toArray) :
    ∃ (v : Option Value) (vm₁ : Vm) (B : Pt), s.WarmedH vm₁ ∧ Stand p l e R s m args below meth c B.U B.locs B.cells B.slots ∧ Post ⟨T.setVm vm₁, locs, cells, slots⟩ (Value.ref b :: argsL).toArray v B ∧
      ∀ target, Steps p.tables e below (B.U.setTop { g with pc := g.pc + 3, stack := v.toList ++ rest }) target → Steps p.tables e below (T.setTop g) target := by
  obtain ⟨mk, methM, hnamed, hmethM, hstM, habM⟩ := Cond.instanceMethod_spec hinst
  obtain ⟨m8, methM', cM, hn8, hmethM', -, -, -, -, -, -, hsigM⟩ := Cond.codeWith_spec hcode
  cases Option.some.inj (hn8.symm.trans hnamed)
  cases hmethM.symm.trans hmethM'
  obtain ⟨c2, r2, m2, q1, q2, q3, q4, kP, hkP, hkPi⟩ := Cond.selects_spec hsel
  cases hcls.symm.trans q1
  cases (State.methodFound?_of_named hnamed hy).symm.trans q2
  cases hnamed.symm.trans q3
  have hselP : selectMethod e.platform s.vm cellB.cls mk = .method mk := by rw [Launch.admits_selectMethod X.admits]; exact q4
  obtain ⟨vm₁, X₁, hstep₁⟩ := X.invokevirtual hexec hown hlink hnamed hmethM hstM hkP hkPi hy (a := b) (cell := cellB) hcell
    (fun z h => by rw [h] at hobj; cases hobj) hselP hmethM habM hkP hkPi (g := g) hg (argsL := argsL) (rest := rest) (hlen _ hsigM) hstack hdg
  obtain ⟨v, B, X', hpost, hsteps⟩ := hK m meth c ⟨T.setVm vm₁, locs, cells, slots⟩ { g with stack := rest } (.invokevirtual index) mk (Value.ref b :: argsL).toArray X₁ hg hsize hdg hW (X₁.named hnamed) (hpre vm₁ X₁.warmed)
  exact ⟨v, vm₁, B, X₁.warmed, X', hpost, fun target h => hstep₁ _ fun acts => by rw [doInvoke_state]; exact hsteps.trans h⟩
abbrev vx_CVW (R : Room) (s : State) (args : Array Value) (own C : String) (index : Nat) (y : MethodName) (bytes : ByteArray) (maxL : Nat) (ret : Option FieldType) (hh : List (Nat × Nat × Nat × Nat)) (ws : List Cond) (rm : Room) (mc ms n : Nat) : Prop :=
  (rm.cells = mc ∧ rm.slots = ms ∧ rm.frames + 1 ≤ R.frames ∧ 8 + (maxL + 11) + rm.locals ≤ R.locals ∧ (∀ w ∈ ws, ∀ (a' : Array Value) (U : State), s.WarmedH U.vm → w.before a' U = true) ∧ Cond.codeWith y bytes maxL ret hh ∈ ws) ∧
  (Cond.codeWith y bytes maxL ret hh).before args s = true ∧ (Cond.initialized y.cls).before args s = true ∧ (y.cls ≠ "java/lang/invoke/MethodHandle" ∧ y.cls ≠ "java/lang/invoke/VarHandle") ∧
  (∀ sig, parseMethodDescriptor y.desc = some sig → n = sig.parameters.length) ∧ (Cond.methodLink own index y).before args s = true ∧ (Cond.instanceMethod y).before args s = true ∧ (Cond.selects C y y).before args s = true
theorem vx_cwVW {own C : String} {index maxL mc ms : Nat} {y : MethodName} {bytes : ByteArray} {ret : Option FieldType} {hh : List (Nat × Nat × Nat × Nat)} {Ts ws ws' : List Cond} {rm : Room} (n : Nat) (ht : ∀ w ∈ Ts, w.before args s = true) (hT : GoodIn Ts (wsV own index C y ws)) (hw : ws = Cond.codeWith y bytes maxL ret hh :: ws') (hrc : rm.cells = mc) (hrs : rm.slots = ms)
    (hd : y.cls = C ∧ y.cls ≠ "java/lang/invoke/MethodHandle" ∧ y.cls ≠ "java/lang/invoke/VarHandle" ∧ (parseMethodDescriptor y.desc).map (fun d => d.parameters.length) = some n) (hR : rm.frames + 1 ≤ R.frames ∧ 8 + (maxL + 11) + rm.locals ≤ R.locals) :
    vx_CVW R s args own C index y bytes maxL ret hh ws rm mc ms n := by
  obtain ⟨hC, hd⟩ := hd
  subst hC
  have ok : ∀ w ∈ wsV own index y.cls y ws, w.before args s = true := fun w h => ht w (hT w h).1
  have hG : GoodIn Ts ws := fun w h => hT w (by unfold wsV; exact List.mem_append_right _ h)
  have hc : Cond.codeWith y bytes maxL ret hh ∈ ws := by rw [hw]; exact List.mem_cons_self
  refine ⟨⟨hrc, hrs, hR.1, hR.2, pay_in ht hG, hc⟩, ht _ (hG _ hc).1, ok _ (by simp [wsV]), ⟨hd.1, hd.2.1⟩, fun sig h => ?_, ok _ (by simp [wsV]), ok _ (by simp [wsV]), ok _ (by simp [wsV])⟩
  have h2 := hd.2.2
  rw [h] at h2
  exact (Option.some.inj h2).symm
theorem vx_runVW {y : MethodName} {bytes cc : ByteArray} {maxL nL mc ms n index : Nat} {ret : Option FieldType} {hh : List (Nat × Nat × Nat × Nat)} {ws : List Cond} {rm : Room} {Pc : Array Value → State → Prop} {Qc : Array Value → State → Outcome → State → Prop} {free : Addr → Prop} {Ts : List Cond} {own C : String} {b : Addr} {As rest : List Value} {g : JFrame}
    (S : CallFix p m c cc nL s args Ts own) (hM : Met l y ws rm Pc Qc mc ms free) (cw : vx_CVW R s args own C index y bytes maxL ret hh ws rm mc ms n) (hp : PreV s H C b Pc As)
    (hg : g.method = m) (hn : As.length = n) (hsize : g.locals.size = nL) (hstack : g.stack = As.reverse ++ .ref b :: rest) (hW : 2 * g.monitorRoom + (rest.map fun v => v.category).sum ≤ 8) (hdg : decode cc g.pc = .ok (.invokevirtual index, 3)) (hf : cells + mc ≤ R.cells ∧ slots + ms ≤ R.slots) :
    va_Run p l e R s m args below meth c H locs cells slots mc ms g rest (Qc (Value.ref b :: As).toArray) free := by
  obtain ⟨⟨hrc, hrs, hfr, hlo, hws, hcw⟩, hcode, hini, hy, hlen, hl, hin, hse⟩ := cw
  have hK : Back l R p e below s args y 3 8 (PreOf R mc ms Pc) (PostOf Qc mc ms free) := va_backW (hh := hh) (bytes := bytes) (maxL := maxL) (ret := ret) hM hp.1 hrc hrs hfr hlo hws hcw (fun a' U hW => word_at hW (Or.inl (by first | rfl | simp [Cond.onTables, Cond.keeps, Cond.steady])) hini)
  obtain ⟨hx, hb, hml, ho, -⟩ := S
  obtain ⟨-, ⟨cellB, hcB, hoB, hclB⟩, hPc⟩ := hp
  intro T hT X
  obtain ⟨v, vm₁, ⟨U', l2, c2, s2⟩, hW₁, X', ⟨g', mk, t, L, e1, e2, hq, h1, hL, h2, h3⟩, st⟩ := vx_callVW X hx (C := C) (hh := hh) (bytes := bytes) (maxL := maxL) (ret := ret) ho hl hin hse hcode hy hK (by rw [hT]; exact hcB) hoB hclB hg (hsize.trans hml.symm) (argsL := As) (rest := rest) (fun sig h => hn.trans (hlen sig h)) hstack hW (by rw [hb]; exact hdg)
    (fun vm₁ hW₁ => ⟨hf.1, hf.2, hPc (T.setVm vm₁) hT hW₁⟩)
  dsimp only [Pt.U, Pt.locs, Pt.cells, Pt.slots] at X' e1 e2 h1 h2 h3 st
  subst h1; subst h2; subst h3
  exact ⟨v, (T.setVm vm₁).calling g' mk (Value.ref b :: As).toArray, t, U', L, hT, X', hL, e1, e2, hq, st⟩
section
variable {y : MethodName} {bytes cc : ByteArray} {maxL nL mc ms n index : Nat} {ret : Option FieldType} {ws : List Cond} {rm : Room} {Pc : Array Value → State → Prop} {Qc : Array Value → State → Outcome → State → Prop} {XC : String → State → State → Prop} {free : Addr → Prop} {Ts : List Cond} {own C : String} {b : Addr} {As rest : List Value} {g : JFrame}
theorem vx_runVX {hh : List (Nat × Nat × Nat × Nat)} (S : CallFix p m c cc nL s args Ts own) (hM : vx_Met l y ws rm Pc Qc XC mc ms free) (cw : vx_CVW R s args own C index y bytes maxL ret hh ws rm mc ms n) (hp : PreV s H C b Pc As)
    (hg : g.method = m) (hn : As.length = n) (hsize : g.locals.size = nL) (hstack : g.stack = As.reverse ++ .ref b :: rest) (hW : 2 * g.monitorRoom + (rest.map fun v => v.category).sum ≤ 8) (hdg : decode cc g.pc = .ok (.invokevirtual index, 3)) (hf : cells + mc ≤ R.cells ∧ slots + ms ≤ R.slots) :
    vx_Run p l e R s m args below meth c H locs cells slots mc ms g rest (Qc (Value.ref b :: As).toArray) XC free := by
  obtain ⟨⟨hrc, hrs, hfr, hlo, hws, hcw⟩, hcode, hini, hy, hlen, hl, hin, hse⟩ := cw
  have hK : vx_Back l R p e below s args y 3 8 (PreOf R mc ms Pc) (PostOf Qc mc ms free) (vx_Post XC mc ms free) := vx_backW (hh := hh) (bytes := bytes) (maxL := maxL) (ret := ret) hM hp.1 hrc hrs hfr hlo hws hcw (fun a' U hW => word_at hW (Or.inl (by first | rfl | simp [Cond.onTables, Cond.keeps, Cond.steady])) hini)
  obtain ⟨hx, hb, hml, ho, -⟩ := S
  obtain ⟨-, ⟨cellB, hcB, hoB, hclB⟩, hPc⟩ := hp
  intro T hT X
  rcases vx_callVX X hx (C := C) (hh := hh) (bytes := bytes) (maxL := maxL) (ret := ret) ho hl hin hse hcode hy hK (by rw [hT]; exact hcB) hoB hclB hg (hsize.trans hml.symm) (argsL := As) (rest := rest) (fun sig h => hn.trans (hlen sig h)) hstack hW (by rw [hb]; exact hdg)
    (fun vm₁ hW₁ => ⟨hf.1, hf.2, hPc (T.setVm vm₁) hT hW₁⟩) with ⟨v, vm₁, ⟨U', l2, c2, s2⟩, hW₁, X', ⟨g', mk, t, L, e1, e2, hq, h1, hL, h2, h3⟩, st⟩ | ⟨q, vm₁, ⟨U', l2, c2, s2⟩, hW₁, X', ⟨g', mk, t, L, E, ce, e1, e2, hq, hce, hcv, hcl, h1, hL, h2, h3⟩, st⟩
  · dsimp only [Pt.U, Pt.locs, Pt.cells, Pt.slots] at X' e1 e2 h1 h2 h3 st
    subst h1; subst h2; subst h3
    exact Or.inl ⟨v, (T.setVm vm₁).calling g' mk (Value.ref b :: As).toArray, t, U', L, hT, X', hL, e1, e2, hq, st⟩
  · dsimp only [Pt.U, Pt.locs, Pt.cells, Pt.slots] at X' e1 e2 h1 h2 h3 st hcl
    subst h1; subst h2; subst h3
    exact Or.inr ⟨q, (T.setVm vm₁).calling g' mk (Value.ref b :: As).toArray, t, U', L, E, ce, hT, X', hL, e1, e2, hq, hce, hcv, vx_cls hW₁ hcl, st⟩
theorem vx_runSX {hh : List (Nat × Nat × Nat × Nat)} (S : CallFix p m c cc nL s args Ts own) (hM : vx_Met l y ws rm Pc Qc XC mc ms free) (cw : vx_CSW R s args own index y bytes maxL ret hh ws rm mc ms n) (hp : PreS s H Pc As)
    (hg : g.method = m) (hn : As.length = n) (hsize : g.locals.size = nL) (hstack : g.stack = As.reverse ++ rest) (hW : 2 * g.monitorRoom + (rest.map fun v => v.category).sum ≤ 8) (hdg : decode cc g.pc = .ok (.invokestatic index, 3)) (hf : cells + mc ≤ R.cells ∧ slots + ms ≤ R.slots) :
    vx_Run p l e R s m args below meth c H locs cells slots mc ms g rest (Qc As.toArray) XC free := by
  obtain ⟨⟨hrc, hrs, hfr, hlo, hws, hcw⟩, hcode, hini, hy, hlen, hl, hstt⟩ := cw
  have hK : vx_Back l R p e below s args y 3 8 (PreOf R mc ms Pc) (PostOf Qc mc ms free) (vx_Post XC mc ms free) := vx_backW (hh := hh) (bytes := bytes) (maxL := maxL) (ret := ret) hM hp.1 hrc hrs hfr hlo hws hcw (fun a' U hW => word_at hW (Or.inl (by first | rfl | simp [Cond.onTables, Cond.keeps, Cond.steady])) hini)
  obtain ⟨hx, hb, hml, ho, -⟩ := S
  intro T hT X
  rcases vx_callSX X hx (hh := hh) (bytes := bytes) (maxL := maxL) (ret := ret) ho hl hstt hini hcode hy hK hg (hsize.trans hml.symm) (argsL := As) (rest := rest) (fun sig h => hn.trans (hlen sig h)) hstack hW (by rw [hb]; exact hdg)
    (fun vm₁ hW₁ => ⟨hf.1, hf.2, hp.2 (T.setVm vm₁) hT hW₁⟩) with ⟨v, vm₁, ⟨U', l2, c2, s2⟩, hW₁, X', ⟨g', mk, t, L, e1, e2, hq, h1, hL, h2, h3⟩, st⟩ | ⟨q, vm₁, ⟨U', l2, c2, s2⟩, hW₁, X', ⟨g', mk, t, L, E, ce, e1, e2, hq, hce, hcv, hcl, h1, hL, h2, h3⟩, st⟩
  · dsimp only [Pt.U, Pt.locs, Pt.cells, Pt.slots] at X' e1 e2 h1 h2 h3 st
    subst h1; subst h2; subst h3
    exact Or.inl ⟨v, (T.setVm vm₁).calling g' mk As.toArray, t, U', L, hT, X', hL, e1, e2, hq, st⟩
  · dsimp only [Pt.U, Pt.locs, Pt.cells, Pt.slots] at X' e1 e2 h1 h2 h3 st hcl
    subst h1; subst h2; subst h3
    exact Or.inr ⟨q, (T.setVm vm₁).calling g' mk As.toArray, t, U', L, E, ce, hT, X', hL, e1, e2, hq, hce, hcv, vx_cls hW₁ hcl, st⟩
end
end VXH
theorem vx_ofWH {l : Launch} {y : MethodName} {ws ws' : List Cond} {rm : Room} {Pc : Array Value → State → Prop} {Qc : Array Value → State → Outcome → State → Prop} {XC : String → State → State → Prop} {mc ms : Nat} {free : Addr → Prop} {cc : ByteArray} {maxL : Nat} {ret : Option FieldType} {hh : List (Nat × Nat × Nat × Nat)}
    (hy : plainName y.cls = true) (hw : ws = Cond.codeWith y cc maxL ret hh :: ws')
    (body : ∀ p e s m args below meth c s₁, BodyLoose p l y (headSpec ws rm) cc maxL ret e s m args below meth c s₁ → c.maxLocals = maxL → Pc args s →
      W p l e (headSpec ws rm).room s m args below meth c s.heap [] 0 0 (vx_MQ below Qc XC args s mc ms free) (entryFrame m args maxL)) : vx_Met l y ws rm Pc Qc XC mc ms free := by
  refine MetFree.of_bodyS (code := cc) (maxLocals := maxL) (ret := ret) hy ?_ ?_
  · intro args s m h hn
    obtain ⟨m9, meth, c, hn9, h1, h2, h3, h4, -, h5, h6, -⟩ := Cond.codeWith_spec (atoms_spec (ws := ws) h _ (by rw [hw]; exact List.mem_cons_self))
    cases hn.symm.trans hn9
    exact ⟨meth, c, h1, h2, h3, h4, h5, h6⟩
  · intro p e s m args below meth c s₁ B hml hP _
    have hh0 : s₁.heap = s.heap := by rw [B.state]; rfl
    obtain ⟨t, a1, o, b1, b2, b3⟩ := body p e s m args below meth c s₁ B hml hP s₁ hh0 (Stand.of_body B)
    exact ⟨t, o, a1, b1, b2, b3⟩
/-! ===== END ===== -/
end
section
theorem va_arrN {s : State} {c9 : ClassId} {ty : FieldType} (h : va_RA s c9 ty) : s.vm.findClass ("[" ++ ty.toString) = some c9 := by
  cases ty with
  | object C =>
    obtain ⟨_, _, _, _, _, h4⟩ := h
    exact h4
  | _ => exact h
theorem va_arrU {D : va_G} {cl : List vw_C} {tys : List (ClassId × FieldType)} {s : State} {a b : ClassId} {ty : FieldType} (h : va_K D cl tys s) (ha : (a, ty) ∈ tys) (hb : (b, ty) ∈ tys) : a = b := by
  obtain ⟨i, hi⟩ := List.getElem?_of_mem ha
  obtain ⟨j, hj⟩ := List.getElem?_of_mem hb
  have h1 := va_arrN (h.2 i _ hi).2
  have h2 := va_arrN (h.2 j _ hj).2
  exact Option.some.inj (h1.symm.trans h2)
/-! worlds by roles: the cell of role r lies at ad r and holds g r; kV: the machine at pc, with these locals, stack and world, comes to Q -/
def wl (N : Nat) (ad : Nat → Nat) (g : Nat → va_E) : va_W := (List.range N).map (fun r => (ad r, g r))
theorem wl_get {N : Nat} {ad : Nat → Nat} {g : Nat → va_E} {r : Nat} (h : r < N) : (wl N ad g)[r]? = some (ad r, g r) := by
  simp [wl, h]
theorem wl_of {N : Nat} {ad : Nat → Nat} {g : Nat → va_E} {k : Nat} {q : Nat × va_E} (h : (wl N ad g)[k]? = some q) : k < N ∧ q = (ad k, g k) := by
  simp only [wl, List.getElem?_map] at h
  by_cases hk : k < N
  · rw [List.getElem?_range hk] at h
    exact ⟨hk, (Option.some.inj h).symm⟩
  · rw [List.getElem?_eq_none (by rw [List.length_range]; omega)] at h
    cases h
theorem wl_len {N : Nat} {ad : Nat → Nat} {g : Nat → va_E} : (wl N ad g).length = N := by simp [wl]
theorem wl_set {N : Nat} {ad : Nat → Nat} {g : Nat → va_E} {r : Nat} {e : va_E} (h : r < N) : (wl N ad g).set r (ad r, e) = wl N ad (va_up g r e) := by
  apply List.ext_getElem?
  intro j
  by_cases hj : j = r
  · subst hj
    rw [List.getElem?_set_self (by rw [wl_len]; exact h), wl_get h, va_up_self]
  · rw [List.getElem?_set_ne (Ne.symm hj)]
    by_cases hN : j < N
    · rw [wl_get hN, wl_get hN, va_up_ne _ _ hj]
    · rw [List.getElem?_eq_none (by rw [wl_len]; omega), List.getElem?_eq_none (by rw [wl_len]; omega)]
theorem wl_succ {N : Nat} {ad : Nat → Nat} {g : Nat → va_E} {a : Nat} {e : va_E} : wl N ad g ++ [(a, e)] = wl (N + 1) (va_up ad N a) (va_up g N e) := by
  apply List.ext_getElem?
  intro j
  by_cases h1 : j < N
  · rw [List.getElem?_append_left (by rw [wl_len]; exact h1), wl_get h1, wl_get (by omega), va_up_ne _ _ (by omega), va_up_ne _ _ (by omega)]
  · rw [List.getElem?_append_right (by rw [wl_len]; omega), wl_len]
    by_cases h2 : j = N
    · subst h2
      rw [wl_get (by omega), va_up_self, va_up_self, Nat.sub_self]
      rfl
    · rw [List.getElem?_eq_none (l := wl (N + 1) _ _) (by rw [wl_len]; omega), List.getElem?_eq_none (by simp; omega)]
/-- a role gets a new cell -/
theorem wl_new {D : va_G} {cl : List vw_C} {A : Nat → Prop} {N : Nat} {ad : Nat → Nat} {g : Nat → va_E} {r a : Nat} {e : va_E} {H : Heap} (hP : va_P D cl (wl N ad g ++ [(a, e)]) H) (hD : va_D A (wl N ad g ++ [(a, e)])) : va_P D cl (wl N (va_up ad r a) (va_up g r e)) H ∧ va_D A (wl N (va_up ad r a) (va_up g r e)) := by
  have hlast : (wl N ad g ++ [(a, e)])[N]? = some (a, e) := by
    rw [List.getElem?_append_right (by rw [wl_len]; exact Nat.le_refl _), wl_len, Nat.sub_self]; rfl
  have hold : ∀ k, k < N → (wl N ad g ++ [(a, e)])[k]? = some (ad k, g k) := fun k hk => by
    rw [List.getElem?_append_left (by rw [wl_len]; exact hk), wl_get hk]
  refine ⟨fun k q hk => ?_, fun i j x y hi hj hxy => ?_, fun k q hk => ?_⟩
  · obtain ⟨h1, rfl⟩ := wl_of hk
    by_cases hr : k = r
    · subst hr; rw [va_up_self, va_up_self]; exact hP _ _ hlast
    · rw [va_up_ne _ _ hr, va_up_ne _ _ hr]; exact hP _ _ (hold k h1)
  · obtain ⟨h1, rfl⟩ := wl_of hi
    obtain ⟨h2, rfl⟩ := wl_of hj
    by_cases hr : i = r
    · by_cases hr2 : j = r
      · omega
      · exfalso
        have h3 : va_up ad r a i = va_up ad r a j := hxy
        rw [hr, va_up_self, va_up_ne _ _ hr2] at h3
        have := hD.1 N j _ _ hlast (hold j h2) h3
        omega
    · by_cases hr2 : j = r
      · exfalso
        have h3 : va_up ad r a i = va_up ad r a j := hxy
        rw [hr2, va_up_self, va_up_ne _ _ hr] at h3
        have := hD.1 i N _ _ (hold i h1) hlast h3
        omega
      · have h3 : va_up ad r a i = va_up ad r a j := hxy
        rw [va_up_ne _ _ hr2, va_up_ne _ _ hr] at h3
        exact hD.1 i j _ _ (hold i h1) (hold j h2) h3
  · obtain ⟨h1, rfl⟩ := wl_of hk
    show A (va_up ad r a k)
    by_cases hr : k = r
    · subst hr; rw [va_up_self]; exact hD.2 _ _ hlast
    · rw [va_up_ne _ _ hr]; exact hD.2 _ _ (hold k h1)
/-! ints as whole numbers -/
def iI (z : Int) : Int32 := Int32.ofInt z
def bI (b : Bool) : Int32 := if b = true then 1 else 0
theorem iI_add (a b : Int) : iI a + iI b = iI (a + b) := (Int32.ofInt_add a b).symm
theorem iI_sub (a b : Int) : iI a - iI b = iI (a - b) := (Int32.ofInt_sub a b).symm
theorem iI_mul (a b : Int) : iI a * iI b = iI (a * b) := (Int32.ofInt_mul a b).symm
theorem iI_neg (a : Int) : -iI a = iI (-a) := (Int32.ofInt_neg a).symm
theorem iI_of (x : Int32) : iI x.toInt = x := Int32.ofInt_toInt x
theorem iI_nat (n : Nat) : iI (n : Int) = nI n := Int32.ofInt_eq_ofNat
theorem iI_toInt {z : Int} (h1 : -2147483648 ≤ z) (h2 : z < 2147483648) : (iI z).toInt = z := Int32.toInt_ofInt_of_le (by omega) (by omega)
theorem iI_lo (x : Int32) : -2147483648 ≤ x.toInt := by have := Int32.minValue_le_toInt x; rw [Int32.toInt_minValue] at this; omega
theorem iI_hi (x : Int32) : x.toInt < 2147483648 := by have := Int32.toInt_lt x; omega
theorem iI_lt {a b : Int} (a1 : -2147483648 ≤ a) (a2 : a < 2147483648) (b1 : -2147483648 ≤ b) (b2 : b < 2147483648) : iI a < iI b ↔ a < b := by
  rw [Int32.lt_iff_toInt_lt, iI_toInt a1 a2, iI_toInt b1 b2]
theorem iI_le {a b : Int} (a1 : -2147483648 ≤ a) (a2 : a < 2147483648) (b1 : -2147483648 ≤ b) (b2 : b < 2147483648) : iI a ≤ iI b ↔ a ≤ b := by
  rw [Int32.le_iff_toInt_le, iI_toInt a1 a2, iI_toInt b1 b2]
theorem iI_eq {a b : Int} (a1 : -2147483648 ≤ a) (a2 : a < 2147483648) (b1 : -2147483648 ≤ b) (b2 : b < 2147483648) : iI a = iI b ↔ a = b := by
  rw [← Int32.toInt_inj, iI_toInt a1 a2, iI_toInt b1 b2]
theorem iI_0 : iI 0 = 0 := rfl
theorem iI_in {z : Int} {n j : Nat} (hz : z = (j : Int)) (hj : j < n) (hn : n < 2147483648) : vp_in (iI z) n := by
  subst hz; rw [iI_nat]; exact vp_in_nI hj (by omega)
theorem iI_cl {z : Int} {j : Nat} (hz : z = (j : Int)) (hj : j < 2147483648) : (iI z).toNatClampNeg = j := by
  subst hz; rw [iI_nat]; exact nI_clamp (by omega)
theorem bI_0 (b : Bool) : bI b = 0 ↔ b = false := by cases b <;> simp [bI]
theorem bI_1 (b : Bool) : bI b = 1 ↔ b = true := by cases b <;> simp [bI]
theorem bI_nar (b : Bool) : vp_nar .boolean (bI b) = bI b := by cases b <;> rfl
theorem bI_n (b : Bool) : narrow .boolean (.int (bI b)) = .int (bI b) := by cases b <;> rfl
theorem bI_f (b : Bool) : fits .boolean (.int (bI b)) = true := by cases b <;> rfl
/-- all that is at or above B is ours -/
def aB (B : Nat) : Nat → Prop := fun q => B ≤ q
abbrev ZT : Type := State → Heap → Prop
/-- what the start gives for good: it stays as long as nothing below B is written -/
def Zmov (B : Nat) (Z : ZT) : Prop := (∀ (s U : State) (H H1 : Heap), s.WarmedH U.vm → H.size ≤ H1.size → (∀ a : Nat, a < H.size → ¬ aB B a → H1[a]? = H[a]?) → Z s H → Z U H1) ∧ ∀ (U U' : State) (H : Heap), U.vm = U'.vm → Z U H → Z U' H
def Cx (p : Program) (m : MethodId) (c : Code) (s : State) (args : Array Value) (cc : ByteArray) (nL : Nat) (own : String) (Ts : List Cond) (H0 : Heap) (B : Nat) (D : va_G) (cl : List vw_C) (tys : List (ClassId × FieldType)) (Z : ZT) : Prop :=
  CallFix p m c cc nL s args Ts own ∧ va_K D cl tys s ∧ B ≤ H0.size ∧ Z s H0 ∧ Zmov B Z
def kV (p : Program) (l : Launch) (e : Env) (R : Room) (s : State) (m : MethodId) (args : Array Value) (below : List Frame) (meth : Method) (c : Code) (Q : State → Prop) (H0 : Heap) (B : Nat) (D : va_G) (cl : List vw_C) (nL N cells slots : Nat) (ad : Nat → Nat) (g : Nat → va_E) (lv : List (Nat × Value)) (st : List Value) (pc : Nat) : Prop :=
  ∀ (H : Heap) (locs : List Loc) (ls : Array Slot), lv_has ls nL lv → va_P D cl (wl N ad g) H → va_D (aB B) (wl N ad g) → va_S (aB B) H0 H locs → W p l e R s m args below meth c H locs cells slots Q (F0 m pc ls st)
section VR
variable {p : Program} {l : Launch} {e : Env} {R : Room} {s : State} {m : MethodId} {args : Array Value} {below : List Frame} {meth : Method} {c : Code} {Q : State → Prop} {H0 : Heap} {B : Nat} {D : va_G} {cl : List vw_C} {tys : List (ClassId × FieldType)} {Z : ZT} {cc : ByteArray} {nL N : Nat} {own : String} {Ts : List Cond} {cells slots : Nat} {ad : Nat → Nat} {g : Nat → va_E} {lv lv' : List (Nat × Value)} {st : List Value} {pc pc2 : Nat}
theorem Cx.hA (C : Cx p m c s args cc nL own Ts H0 B D cl tys Z) : ∀ q, H0.size ≤ q → aB B q := fun q h => Nat.le_trans C.2.2.1 h
theorem v_iconst {n : Int} (C : Cx p m c s args cc nL own Ts H0 B D cl tys Z) (hd : decode cc pc = .ok (.iconst n, 1) ∧ pc + 1 = pc2)  (k : kV p l e R s m args below meth c Q H0 B D cl nL N cells slots ad g lv (.int (iI n) :: st) pc2) : kV p l e R s m args below meth c Q H0 B D cl nL N cells slots ad g lv (st) pc := fun H locs ls hl hP hD hS => by
  obtain ⟨hd, rfl⟩ := hd
  exact lv_iconst (v := iI n) C.1.1 C.1.2.1 hd rfl (k H locs ls hl hP hD hS)
theorem v_bipush {n : Int} (C : Cx p m c s args cc nL own Ts H0 B D cl tys Z) (hd : decode cc pc = .ok (.bipush n, 2) ∧ pc + 2 = pc2) (hv : (Int8.ofInt n).toInt32 = iI n) (k : kV p l e R s m args below meth c Q H0 B D cl nL N cells slots ad g lv (.int (iI n) :: st) pc2) : kV p l e R s m args below meth c Q H0 B D cl nL N cells slots ad g lv (st) pc := fun H locs ls hl hP hD hS => by
  obtain ⟨hd, rfl⟩ := hd
  exact lv_bipush C.1.1 C.1.2.1 hd hv (k H locs ls hl hP hD hS)
theorem v_sipush {n : Int} (C : Cx p m c s args cc nL own Ts H0 B D cl tys Z) (hd : decode cc pc = .ok (.sipush n, 3) ∧ pc + 3 = pc2) (hv : (Int16.ofInt n).toInt32 = iI n) (k : kV p l e R s m args below meth c Q H0 B D cl nL N cells slots ad g lv (.int (iI n) :: st) pc2) : kV p l e R s m args below meth c Q H0 B D cl nL N cells slots ad g lv (st) pc := fun H locs ls hl hP hD hS => by
  obtain ⟨hd, rfl⟩ := hd
  exact lv_sipush C.1.1 C.1.2.1 hd hv (k H locs ls hl hP hD hS)
theorem v_lconst {n : Fin 2} {v : Int64} (C : Cx p m c s args cc nL own Ts H0 B D cl tys Z) (hd : decode cc pc = .ok (.lconst n, 1) ∧ pc + 1 = pc2) (hv : Int64.ofNat (n : Nat) = v) (k : kV p l e R s m args below meth c Q H0 B D cl nL N cells slots ad g lv (.long v :: st) pc2) : kV p l e R s m args below meth c Q H0 B D cl nL N cells slots ad g lv (st) pc := fun H locs ls hl hP hD hS => by
  obtain ⟨hd, rfl⟩ := hd
  exact lv_lconst C.1.1 C.1.2.1 hd hv (k H locs ls hl hP hD hS)
theorem v_iload_n {k9 : Fin 4} {i : Nat} {x : Int32} (C : Cx p m c s args cc nL own Ts H0 B D cl tys Z) (hd : decode cc pc = .ok (.iload_n k9, 1) ∧ pc + 1 = pc2) (hi : (k9 : Nat) = i) (j : Nat) (hj : lv[j]? = some (i, .int x)) (k : kV p l e R s m args below meth c Q H0 B D cl nL N cells slots ad g lv (.int x :: st) pc2) : kV p l e R s m args below meth c Q H0 B D cl nL N cells slots ad g lv (st) pc := fun H locs ls hl hP hD hS => by
  obtain ⟨hd, rfl⟩ := hd
  exact lv_iload_n C.1.1 C.1.2.1 hd hi (lv_at hl j hj) (k H locs ls hl hP hD hS)
theorem v_iload {i : Nat} {x : Int32} (C : Cx p m c s args cc nL own Ts H0 B D cl tys Z) (hd : decode cc pc = .ok (.iload i, 2) ∧ pc + 2 = pc2) (j : Nat) (hj : lv[j]? = some (i, .int x)) (k : kV p l e R s m args below meth c Q H0 B D cl nL N cells slots ad g lv (.int x :: st) pc2) : kV p l e R s m args below meth c Q H0 B D cl nL N cells slots ad g lv (st) pc := fun H locs ls hl hP hD hS => by
  obtain ⟨hd, rfl⟩ := hd
  exact lv_iload C.1.1 C.1.2.1 hd (lv_at hl j hj) (k H locs ls hl hP hD hS)
theorem v_aload_n {k9 : Fin 4} {i : Nat} {x : Nat} (C : Cx p m c s args cc nL own Ts H0 B D cl tys Z) (hd : decode cc pc = .ok (.aload_n k9, 1) ∧ pc + 1 = pc2) (hi : (k9 : Nat) = i) (j : Nat) (hj : lv[j]? = some (i, .ref x)) (k : kV p l e R s m args below meth c Q H0 B D cl nL N cells slots ad g lv (.ref x :: st) pc2) : kV p l e R s m args below meth c Q H0 B D cl nL N cells slots ad g lv (st) pc := fun H locs ls hl hP hD hS => by
  obtain ⟨hd, rfl⟩ := hd
  exact lv_aload_n C.1.1 C.1.2.1 hd hi (lv_at hl j hj) (k H locs ls hl hP hD hS)
theorem v_aload {i : Nat} {x : Nat} (C : Cx p m c s args cc nL own Ts H0 B D cl tys Z) (hd : decode cc pc = .ok (.aload i, 2) ∧ pc + 2 = pc2) (j : Nat) (hj : lv[j]? = some (i, .ref x)) (k : kV p l e R s m args below meth c Q H0 B D cl nL N cells slots ad g lv (.ref x :: st) pc2) : kV p l e R s m args below meth c Q H0 B D cl nL N cells slots ad g lv (st) pc := fun H locs ls hl hP hD hS => by
  obtain ⟨hd, rfl⟩ := hd
  exact lv_aload C.1.1 C.1.2.1 hd (lv_at hl j hj) (k H locs ls hl hP hD hS)
theorem v_lload_n {k9 : Fin 4} {i : Nat} {x : Int64} (C : Cx p m c s args cc nL own Ts H0 B D cl tys Z) (hd : decode cc pc = .ok (.lload_n k9, 1) ∧ pc + 1 = pc2) (hi : (k9 : Nat) = i) (j : Nat) (hj : lv[j]? = some (i, .long x)) (k : kV p l e R s m args below meth c Q H0 B D cl nL N cells slots ad g lv (.long x :: st) pc2) : kV p l e R s m args below meth c Q H0 B D cl nL N cells slots ad g lv (st) pc := fun H locs ls hl hP hD hS => by
  obtain ⟨hd, rfl⟩ := hd
  exact lv_lload_n C.1.1 C.1.2.1 hd hi (lv_at hl j hj) (k H locs ls hl hP hD hS)
theorem v_lload {i : Nat} {x : Int64} (C : Cx p m c s args cc nL own Ts H0 B D cl tys Z) (hd : decode cc pc = .ok (.lload i, 2) ∧ pc + 2 = pc2) (j : Nat) (hj : lv[j]? = some (i, .long x)) (k : kV p l e R s m args below meth c Q H0 B D cl nL N cells slots ad g lv (.long x :: st) pc2) : kV p l e R s m args below meth c Q H0 B D cl nL N cells slots ad g lv (st) pc := fun H locs ls hl hP hD hS => by
  obtain ⟨hd, rfl⟩ := hd
  exact lv_lload C.1.1 C.1.2.1 hd (lv_at hl j hj) (k H locs ls hl hP hD hS)
theorem v_istore_n {k9 : Fin 4} {i : Nat} {x : Int32} (C : Cx p m c s args cc nL own Ts H0 B D cl tys Z) (hd : decode cc pc = .ok (.istore_n k9, 1) ∧ pc + 1 = pc2) (hi : (k9 : Nat) = i) (hn : i < nL) (hf : (i, Value.int x) :: lv.filter (fun q => !(q.1 == i) && !(q.1 + 1 == i && q.2.category == 2)) = lv') (k : kV p l e R s m args below meth c Q H0 B D cl nL N cells slots ad g lv' (st) pc2) : kV p l e R s m args below meth c Q H0 B D cl nL N cells slots ad g lv (.int x :: st) pc := fun H locs ls hl hP hD hS => by
  obtain ⟨hd, rfl⟩ := hd
  exact lv_istore_n C.1.1 C.1.2.1 hd hi hl hn hf (fun ls' hl' => k H locs ls' hl' hP hD hS)
theorem v_istore {i : Nat} {x : Int32} (C : Cx p m c s args cc nL own Ts H0 B D cl tys Z) (hd : decode cc pc = .ok (.istore i, 2) ∧ pc + 2 = pc2) (hn : i < nL) (hf : (i, Value.int x) :: lv.filter (fun q => !(q.1 == i) && !(q.1 + 1 == i && q.2.category == 2)) = lv') (k : kV p l e R s m args below meth c Q H0 B D cl nL N cells slots ad g lv' (st) pc2) : kV p l e R s m args below meth c Q H0 B D cl nL N cells slots ad g lv (.int x :: st) pc := fun H locs ls hl hP hD hS => by
  obtain ⟨hd, rfl⟩ := hd
  exact lv_istore C.1.1 C.1.2.1 hd hl hn hf (fun ls' hl' => k H locs ls' hl' hP hD hS)
theorem v_astore_n {k9 : Fin 4} {i : Nat} {x : Nat} (C : Cx p m c s args cc nL own Ts H0 B D cl tys Z) (hd : decode cc pc = .ok (.astore_n k9, 1) ∧ pc + 1 = pc2) (hi : (k9 : Nat) = i) (hn : i < nL) (hf : (i, Value.ref x) :: lv.filter (fun q => !(q.1 == i) && !(q.1 + 1 == i && q.2.category == 2)) = lv') (k : kV p l e R s m args below meth c Q H0 B D cl nL N cells slots ad g lv' (st) pc2) : kV p l e R s m args below meth c Q H0 B D cl nL N cells slots ad g lv (.ref x :: st) pc := fun H locs ls hl hP hD hS => by
  obtain ⟨hd, rfl⟩ := hd
  exact lv_astore_n C.1.1 C.1.2.1 hd hi hl hn hf (fun ls' hl' => k H locs ls' hl' hP hD hS)
theorem v_astore {i : Nat} {x : Nat} (C : Cx p m c s args cc nL own Ts H0 B D cl tys Z) (hd : decode cc pc = .ok (.astore i, 2) ∧ pc + 2 = pc2) (hn : i < nL) (hf : (i, Value.ref x) :: lv.filter (fun q => !(q.1 == i) && !(q.1 + 1 == i && q.2.category == 2)) = lv') (k : kV p l e R s m args below meth c Q H0 B D cl nL N cells slots ad g lv' (st) pc2) : kV p l e R s m args below meth c Q H0 B D cl nL N cells slots ad g lv (.ref x :: st) pc := fun H locs ls hl hP hD hS => by
  obtain ⟨hd, rfl⟩ := hd
  exact lv_astore C.1.1 C.1.2.1 hd hl hn hf (fun ls' hl' => k H locs ls' hl' hP hD hS)
theorem v_iinc {i : Nat} {n z : Int} (C : Cx p m c s args cc nL own Ts H0 B D cl tys Z) (hd : decode cc pc = .ok (.iinc i n, 3) ∧ pc + 3 = pc2) (j : Nat) (hj : lv[j]? = some (i, .int (iI z))) (hn : i < nL) (hf : (i, Value.int (iI (z + n))) :: lv.filter (fun q => !(q.1 == i) && !(q.1 + 1 == i && q.2.category == 2)) = lv') (k : kV p l e R s m args below meth c Q H0 B D cl nL N cells slots ad g lv' (st) pc2) : kV p l e R s m args below meth c Q H0 B D cl nL N cells slots ad g lv (st) pc := fun H locs ls hl hP hD hS => by
  obtain ⟨hd, rfl⟩ := hd
  exact lv_iinc C.1.1 C.1.2.1 hd hl hj (iI_add z n) hn hf (fun ls' hl' => k H locs ls' hl' hP hD hS)
/-- fewer locals, by their places -/
theorem v_lv (ks : List Nat) (h : lv_pick lv ks = lv') (k : kV p l e R s m args below meth c Q H0 B D cl nL N cells slots ad g lv' (st) pc) : kV p l e R s m args below meth c Q H0 B D cl nL N cells slots ad g lv (st) pc := fun H locs ls hl hP hD hS => k H locs ls (lv_sub hl ks h) hP hD hS
theorem v_iadd {x y : Int32} (C : Cx p m c s args cc nL own Ts H0 B D cl tys Z) (hd : decode cc pc = .ok (.iadd, 1) ∧ pc + 1 = pc2)  (k : kV p l e R s m args below meth c Q H0 B D cl nL N cells slots ad g lv (.int (x + y) :: st) pc2) : kV p l e R s m args below meth c Q H0 B D cl nL N cells slots ad g lv (.int y :: .int x :: st) pc := fun H locs ls hl hP hD hS => by
  obtain ⟨hd, rfl⟩ := hd
  exact lv_iadd C.1.1 C.1.2.1 hd  (k H locs ls hl hP hD hS)
theorem v_isub {x y : Int32} (C : Cx p m c s args cc nL own Ts H0 B D cl tys Z) (hd : decode cc pc = .ok (.isub, 1) ∧ pc + 1 = pc2)  (k : kV p l e R s m args below meth c Q H0 B D cl nL N cells slots ad g lv (.int (x - y) :: st) pc2) : kV p l e R s m args below meth c Q H0 B D cl nL N cells slots ad g lv (.int y :: .int x :: st) pc := fun H locs ls hl hP hD hS => by
  obtain ⟨hd, rfl⟩ := hd
  exact lv_isub C.1.1 C.1.2.1 hd  (k H locs ls hl hP hD hS)
theorem v_imul {x y : Int32} (C : Cx p m c s args cc nL own Ts H0 B D cl tys Z) (hd : decode cc pc = .ok (.imul, 1) ∧ pc + 1 = pc2)  (k : kV p l e R s m args below meth c Q H0 B D cl nL N cells slots ad g lv (.int (x * y) :: st) pc2) : kV p l e R s m args below meth c Q H0 B D cl nL N cells slots ad g lv (.int y :: .int x :: st) pc := fun H locs ls hl hP hD hS => by
  obtain ⟨hd, rfl⟩ := hd
  exact lv_imul C.1.1 C.1.2.1 hd  (k H locs ls hl hP hD hS)
theorem v_iand {x y : Int32} (C : Cx p m c s args cc nL own Ts H0 B D cl tys Z) (hd : decode cc pc = .ok (.iand, 1) ∧ pc + 1 = pc2)  (k : kV p l e R s m args below meth c Q H0 B D cl nL N cells slots ad g lv (.int (x &&& y) :: st) pc2) : kV p l e R s m args below meth c Q H0 B D cl nL N cells slots ad g lv (.int y :: .int x :: st) pc := fun H locs ls hl hP hD hS => by
  obtain ⟨hd, rfl⟩ := hd
  exact lv_iand C.1.1 C.1.2.1 hd  (k H locs ls hl hP hD hS)
theorem v_ior {x y : Int32} (C : Cx p m c s args cc nL own Ts H0 B D cl tys Z) (hd : decode cc pc = .ok (.ior, 1) ∧ pc + 1 = pc2)  (k : kV p l e R s m args below meth c Q H0 B D cl nL N cells slots ad g lv (.int (x ||| y) :: st) pc2) : kV p l e R s m args below meth c Q H0 B D cl nL N cells slots ad g lv (.int y :: .int x :: st) pc := fun H locs ls hl hP hD hS => by
  obtain ⟨hd, rfl⟩ := hd
  exact lv_ior C.1.1 C.1.2.1 hd  (k H locs ls hl hP hD hS)
theorem v_ixor {x y : Int32} (C : Cx p m c s args cc nL own Ts H0 B D cl tys Z) (hd : decode cc pc = .ok (.ixor, 1) ∧ pc + 1 = pc2)  (k : kV p l e R s m args below meth c Q H0 B D cl nL N cells slots ad g lv (.int (x ^^^ y) :: st) pc2) : kV p l e R s m args below meth c Q H0 B D cl nL N cells slots ad g lv (.int y :: .int x :: st) pc := fun H locs ls hl hP hD hS => by
  obtain ⟨hd, rfl⟩ := hd
  exact lv_ixor C.1.1 C.1.2.1 hd  (k H locs ls hl hP hD hS)
theorem v_ishl {x y : Int32} (C : Cx p m c s args cc nL own Ts H0 B D cl tys Z) (hd : decode cc pc = .ok (.ishl, 1) ∧ pc + 1 = pc2)  (k : kV p l e R s m args below meth c Q H0 B D cl nL N cells slots ad g lv (.int (x <<< (y &&& 31)) :: st) pc2) : kV p l e R s m args below meth c Q H0 B D cl nL N cells slots ad g lv (.int y :: .int x :: st) pc := fun H locs ls hl hP hD hS => by
  obtain ⟨hd, rfl⟩ := hd
  exact lv_ishl C.1.1 C.1.2.1 hd  (k H locs ls hl hP hD hS)
theorem v_ishr {x y : Int32} (C : Cx p m c s args cc nL own Ts H0 B D cl tys Z) (hd : decode cc pc = .ok (.ishr, 1) ∧ pc + 1 = pc2)  (k : kV p l e R s m args below meth c Q H0 B D cl nL N cells slots ad g lv (.int (x >>> (y &&& 31)) :: st) pc2) : kV p l e R s m args below meth c Q H0 B D cl nL N cells slots ad g lv (.int y :: .int x :: st) pc := fun H locs ls hl hP hD hS => by
  obtain ⟨hd, rfl⟩ := hd
  exact lv_ishr C.1.1 C.1.2.1 hd  (k H locs ls hl hP hD hS)
theorem v_idiv {x y : Int32} (C : Cx p m c s args cc nL own Ts H0 B D cl tys Z) (hd : decode cc pc = .ok (.idiv, 1) ∧ pc + 1 = pc2) (hne : ¬ y = 0) (k : kV p l e R s m args below meth c Q H0 B D cl nL N cells slots ad g lv (.int (x / y) :: st) pc2) : kV p l e R s m args below meth c Q H0 B D cl nL N cells slots ad g lv (.int y :: .int x :: st) pc := fun H locs ls hl hP hD hS => by
  obtain ⟨hd, rfl⟩ := hd
  exact lv_idiv C.1.1 C.1.2.1 hd hne (k H locs ls hl hP hD hS)
theorem v_irem {x y : Int32} (C : Cx p m c s args cc nL own Ts H0 B D cl tys Z) (hd : decode cc pc = .ok (.irem, 1) ∧ pc + 1 = pc2) (hne : ¬ y = 0) (k : kV p l e R s m args below meth c Q H0 B D cl nL N cells slots ad g lv (.int (x - x / y * y) :: st) pc2) : kV p l e R s m args below meth c Q H0 B D cl nL N cells slots ad g lv (.int y :: .int x :: st) pc := fun H locs ls hl hP hD hS => by
  obtain ⟨hd, rfl⟩ := hd
  exact lv_irem C.1.1 C.1.2.1 hd hne (k H locs ls hl hP hD hS)
theorem v_ineg {x : Int32} (C : Cx p m c s args cc nL own Ts H0 B D cl tys Z) (hd : decode cc pc = .ok (.ineg, 1) ∧ pc + 1 = pc2)  (k : kV p l e R s m args below meth c Q H0 B D cl nL N cells slots ad g lv (.int (-x) :: st) pc2) : kV p l e R s m args below meth c Q H0 B D cl nL N cells slots ad g lv (.int x :: st) pc := fun H locs ls hl hP hD hS => by
  obtain ⟨hd, rfl⟩ := hd
  exact lv_ineg C.1.1 C.1.2.1 hd  (k H locs ls hl hP hD hS)
theorem v_iaddI {a b : Int} (C : Cx p m c s args cc nL own Ts H0 B D cl tys Z) (hd : decode cc pc = .ok (.iadd, 1) ∧ pc + 1 = pc2) (k : kV p l e R s m args below meth c Q H0 B D cl nL N cells slots ad g lv (.int (iI (a + b)) :: st) pc2) : kV p l e R s m args below meth c Q H0 B D cl nL N cells slots ad g lv (.int (iI b) :: .int (iI a) :: st) pc := v_iadd C hd (by rw [iI_add]; exact k)
theorem v_isubI {a b : Int} (C : Cx p m c s args cc nL own Ts H0 B D cl tys Z) (hd : decode cc pc = .ok (.isub, 1) ∧ pc + 1 = pc2) (k : kV p l e R s m args below meth c Q H0 B D cl nL N cells slots ad g lv (.int (iI (a - b)) :: st) pc2) : kV p l e R s m args below meth c Q H0 B D cl nL N cells slots ad g lv (.int (iI b) :: .int (iI a) :: st) pc := v_isub C hd (by rw [iI_sub]; exact k)
theorem v_imulI {a b : Int} (C : Cx p m c s args cc nL own Ts H0 B D cl tys Z) (hd : decode cc pc = .ok (.imul, 1) ∧ pc + 1 = pc2) (k : kV p l e R s m args below meth c Q H0 B D cl nL N cells slots ad g lv (.int (iI (a * b)) :: st) pc2) : kV p l e R s m args below meth c Q H0 B D cl nL N cells slots ad g lv (.int (iI b) :: .int (iI a) :: st) pc := v_imul C hd (by rw [iI_mul]; exact k)
theorem v_inegI {a : Int} (C : Cx p m c s args cc nL own Ts H0 B D cl tys Z) (hd : decode cc pc = .ok (.ineg, 1) ∧ pc + 1 = pc2) (k : kV p l e R s m args below meth c Q H0 B D cl nL N cells slots ad g lv (.int (iI (-a)) :: st) pc2) : kV p l e R s m args below meth c Q H0 B D cl nL N cells slots ad g lv (.int (iI a) :: st) pc := v_ineg C hd (by rw [iI_neg]; exact k)
theorem v_i2l {x : Int32} (C : Cx p m c s args cc nL own Ts H0 B D cl tys Z) (hd : decode cc pc = .ok (.i2l, 1) ∧ pc + 1 = pc2)  (k : kV p l e R s m args below meth c Q H0 B D cl nL N cells slots ad g lv (.long x.toInt64 :: st) pc2) : kV p l e R s m args below meth c Q H0 B D cl nL N cells slots ad g lv (.int x :: st) pc := fun H locs ls hl hP hD hS => by
  obtain ⟨hd, rfl⟩ := hd
  exact lv_i2l C.1.1 C.1.2.1 hd rfl (k H locs ls hl hP hD hS)
theorem v_lcmp {x y : Int64} (C : Cx p m c s args cc nL own Ts H0 B D cl tys Z) (hd : decode cc pc = .ok (.lcmp, 1) ∧ pc + 1 = pc2)  (k : kV p l e R s m args below meth c Q H0 B D cl nL N cells slots ad g lv (.int (lg_cmp x y) :: st) pc2) : kV p l e R s m args below meth c Q H0 B D cl nL N cells slots ad g lv (.long y :: .long x :: st) pc := fun H locs ls hl hP hD hS => by
  obtain ⟨hd, rfl⟩ := hd
  exact W.lcmp C.1.1 C.1.2.1 hd  (k H locs ls hl hP hD hS)
theorem v_dup {va : Value} (C : Cx p m c s args cc nL own Ts H0 B D cl tys Z) (hd : decode cc pc = .ok (.dup, 1) ∧ pc + 1 = pc2) (h1 : va.category = 1) (k : kV p l e R s m args below meth c Q H0 B D cl nL N cells slots ad g lv (va :: va :: st) pc2) : kV p l e R s m args below meth c Q H0 B D cl nL N cells slots ad g lv (va :: st) pc := fun H locs ls hl hP hD hS => by
  obtain ⟨hd, rfl⟩ := hd
  exact lv_dup C.1.1 C.1.2.1 hd h1 (k H locs ls hl hP hD hS)
theorem v_pop {va : Value} (C : Cx p m c s args cc nL own Ts H0 B D cl tys Z) (hd : decode cc pc = .ok (.pop, 1) ∧ pc + 1 = pc2) (h1 : va.category = 1) (k : kV p l e R s m args below meth c Q H0 B D cl nL N cells slots ad g lv (st) pc2) : kV p l e R s m args below meth c Q H0 B D cl nL N cells slots ad g lv (va :: st) pc := fun H locs ls hl hP hD hS => by
  obtain ⟨hd, rfl⟩ := hd
  exact lv_pop C.1.1 C.1.2.1 hd h1 (k H locs ls hl hP hD hS)
theorem v_dup_x1 {va vb : Value} (C : Cx p m c s args cc nL own Ts H0 B D cl tys Z) (hd : decode cc pc = .ok (.dup_x1, 1) ∧ pc + 1 = pc2) (h1 : va.category = 1) (h2 : vb.category = 1) (k : kV p l e R s m args below meth c Q H0 B D cl nL N cells slots ad g lv (va :: vb :: va :: st) pc2) : kV p l e R s m args below meth c Q H0 B D cl nL N cells slots ad g lv (va :: vb :: st) pc := fun H locs ls hl hP hD hS => by
  obtain ⟨hd, rfl⟩ := hd
  exact lv_dup_x1 C.1.1 C.1.2.1 hd h1 h2 (k H locs ls hl hP hD hS)
theorem v_dup_x2 {va vb vd : Value} (C : Cx p m c s args cc nL own Ts H0 B D cl tys Z) (hd : decode cc pc = .ok (.dup_x2, 1) ∧ pc + 1 = pc2) (h1 : va.category = 1) (h2 : vb.category = 1) (h3 : vd.category = 1) (k : kV p l e R s m args below meth c Q H0 B D cl nL N cells slots ad g lv (va :: vb :: vd :: va :: st) pc2) : kV p l e R s m args below meth c Q H0 B D cl nL N cells slots ad g lv (va :: vb :: vd :: st) pc := fun H locs ls hl hP hD hS => by
  obtain ⟨hd, rfl⟩ := hd
  exact lv_dup_x2 C.1.1 C.1.2.1 hd h1 h2 h3 (k H locs ls hl hP hD hS)
theorem v_dup2 {va vb : Value} (C : Cx p m c s args cc nL own Ts H0 B D cl tys Z) (hd : decode cc pc = .ok (.dup2, 1) ∧ pc + 1 = pc2) (h1 : va.category = 1) (h2 : vb.category = 1) (k : kV p l e R s m args below meth c Q H0 B D cl nL N cells slots ad g lv (va :: vb :: va :: vb :: st) pc2) : kV p l e R s m args below meth c Q H0 B D cl nL N cells slots ad g lv (va :: vb :: st) pc := fun H locs ls hl hP hD hS => by
  obtain ⟨hd, rfl⟩ := hd
  exact lv_dup2_11 C.1.1 C.1.2.1 hd h1 h2 (k H locs ls hl hP hD hS)
theorem v_if_eq {x : Int32} {off : Int} {tgt : Nat} (C : Cx p m c s args cc nL own Ts H0 B D cl tys Z) (hd : decode cc pc = .ok (.ifCond .eq off, 3) ∧ pc + 3 = pc2 ∧ (pc : Int) + off = (tgt : Int)) (kt : x = 0 → kV p l e R s m args below meth c Q H0 B D cl nL N cells slots ad g lv (st) tgt) (kf : ¬ x = 0 → kV p l e R s m args below meth c Q H0 B D cl nL N cells slots ad g lv (st) pc2) : kV p l e R s m args below meth c Q H0 B D cl nL N cells slots ad g lv (.int x :: st) pc := fun H locs ls hl hP hD hS => by
  obtain ⟨hd, rfl, ht⟩ := hd
  exact lv_if_eq C.1.1 C.1.2.1 hd ht (fun h => kt h H locs ls hl hP hD hS) (fun h => kf h H locs ls hl hP hD hS)
theorem v_if_ne {x : Int32} {off : Int} {tgt : Nat} (C : Cx p m c s args cc nL own Ts H0 B D cl tys Z) (hd : decode cc pc = .ok (.ifCond .ne off, 3) ∧ pc + 3 = pc2 ∧ (pc : Int) + off = (tgt : Int)) (kt : ¬ x = 0 → kV p l e R s m args below meth c Q H0 B D cl nL N cells slots ad g lv (st) tgt) (kf : x = 0 → kV p l e R s m args below meth c Q H0 B D cl nL N cells slots ad g lv (st) pc2) : kV p l e R s m args below meth c Q H0 B D cl nL N cells slots ad g lv (.int x :: st) pc := fun H locs ls hl hP hD hS => by
  obtain ⟨hd, rfl, ht⟩ := hd
  exact lv_if_ne C.1.1 C.1.2.1 hd ht (fun h => kt h H locs ls hl hP hD hS) (fun h => kf h H locs ls hl hP hD hS)
theorem v_if_lt {x : Int32} {off : Int} {tgt : Nat} (C : Cx p m c s args cc nL own Ts H0 B D cl tys Z) (hd : decode cc pc = .ok (.ifCond .lt off, 3) ∧ pc + 3 = pc2 ∧ (pc : Int) + off = (tgt : Int)) (kt : x < 0 → kV p l e R s m args below meth c Q H0 B D cl nL N cells slots ad g lv (st) tgt) (kf : ¬ x < 0 → kV p l e R s m args below meth c Q H0 B D cl nL N cells slots ad g lv (st) pc2) : kV p l e R s m args below meth c Q H0 B D cl nL N cells slots ad g lv (.int x :: st) pc := fun H locs ls hl hP hD hS => by
  obtain ⟨hd, rfl, ht⟩ := hd
  exact lv_if_lt C.1.1 C.1.2.1 hd ht (fun h => kt h H locs ls hl hP hD hS) (fun h => kf h H locs ls hl hP hD hS)
theorem v_if_ge {x : Int32} {off : Int} {tgt : Nat} (C : Cx p m c s args cc nL own Ts H0 B D cl tys Z) (hd : decode cc pc = .ok (.ifCond .ge off, 3) ∧ pc + 3 = pc2 ∧ (pc : Int) + off = (tgt : Int)) (kt : 0 ≤ x → kV p l e R s m args below meth c Q H0 B D cl nL N cells slots ad g lv (st) tgt) (kf : ¬ 0 ≤ x → kV p l e R s m args below meth c Q H0 B D cl nL N cells slots ad g lv (st) pc2) : kV p l e R s m args below meth c Q H0 B D cl nL N cells slots ad g lv (.int x :: st) pc := fun H locs ls hl hP hD hS => by
  obtain ⟨hd, rfl, ht⟩ := hd
  exact lv_if_ge C.1.1 C.1.2.1 hd ht (fun h => kt h H locs ls hl hP hD hS) (fun h => kf h H locs ls hl hP hD hS)
theorem v_if_gt {x : Int32} {off : Int} {tgt : Nat} (C : Cx p m c s args cc nL own Ts H0 B D cl tys Z) (hd : decode cc pc = .ok (.ifCond .gt off, 3) ∧ pc + 3 = pc2 ∧ (pc : Int) + off = (tgt : Int)) (kt : 0 < x → kV p l e R s m args below meth c Q H0 B D cl nL N cells slots ad g lv (st) tgt) (kf : ¬ 0 < x → kV p l e R s m args below meth c Q H0 B D cl nL N cells slots ad g lv (st) pc2) : kV p l e R s m args below meth c Q H0 B D cl nL N cells slots ad g lv (.int x :: st) pc := fun H locs ls hl hP hD hS => by
  obtain ⟨hd, rfl, ht⟩ := hd
  exact lv_if_gt C.1.1 C.1.2.1 hd ht (fun h => kt h H locs ls hl hP hD hS) (fun h => kf h H locs ls hl hP hD hS)
theorem v_if_le {x : Int32} {off : Int} {tgt : Nat} (C : Cx p m c s args cc nL own Ts H0 B D cl tys Z) (hd : decode cc pc = .ok (.ifCond .le off, 3) ∧ pc + 3 = pc2 ∧ (pc : Int) + off = (tgt : Int)) (kt : x ≤ 0 → kV p l e R s m args below meth c Q H0 B D cl nL N cells slots ad g lv (st) tgt) (kf : ¬ x ≤ 0 → kV p l e R s m args below meth c Q H0 B D cl nL N cells slots ad g lv (st) pc2) : kV p l e R s m args below meth c Q H0 B D cl nL N cells slots ad g lv (.int x :: st) pc := fun H locs ls hl hP hD hS => by
  obtain ⟨hd, rfl, ht⟩ := hd
  exact lv_if_le C.1.1 C.1.2.1 hd ht (fun h => kt h H locs ls hl hP hD hS) (fun h => kf h H locs ls hl hP hD hS)
theorem v_icmp_eq {x y : Int32} {off : Int} {tgt : Nat} (C : Cx p m c s args cc nL own Ts H0 B D cl tys Z) (hd : decode cc pc = .ok (.if_icmp .eq off, 3) ∧ pc + 3 = pc2 ∧ (pc : Int) + off = (tgt : Int)) (kt : x = y → kV p l e R s m args below meth c Q H0 B D cl nL N cells slots ad g lv (st) tgt) (kf : ¬ x = y → kV p l e R s m args below meth c Q H0 B D cl nL N cells slots ad g lv (st) pc2) : kV p l e R s m args below meth c Q H0 B D cl nL N cells slots ad g lv (.int y :: .int x :: st) pc := fun H locs ls hl hP hD hS => by
  obtain ⟨hd, rfl, ht⟩ := hd
  exact lv_icmp_eq C.1.1 C.1.2.1 hd ht (fun h => kt h H locs ls hl hP hD hS) (fun h => kf h H locs ls hl hP hD hS)
theorem v_icmp_ne {x y : Int32} {off : Int} {tgt : Nat} (C : Cx p m c s args cc nL own Ts H0 B D cl tys Z) (hd : decode cc pc = .ok (.if_icmp .ne off, 3) ∧ pc + 3 = pc2 ∧ (pc : Int) + off = (tgt : Int)) (kt : ¬ x = y → kV p l e R s m args below meth c Q H0 B D cl nL N cells slots ad g lv (st) tgt) (kf : x = y → kV p l e R s m args below meth c Q H0 B D cl nL N cells slots ad g lv (st) pc2) : kV p l e R s m args below meth c Q H0 B D cl nL N cells slots ad g lv (.int y :: .int x :: st) pc := fun H locs ls hl hP hD hS => by
  obtain ⟨hd, rfl, ht⟩ := hd
  exact lv_icmp_ne C.1.1 C.1.2.1 hd ht (fun h => kt h H locs ls hl hP hD hS) (fun h => kf h H locs ls hl hP hD hS)
theorem v_icmp_lt {x y : Int32} {off : Int} {tgt : Nat} (C : Cx p m c s args cc nL own Ts H0 B D cl tys Z) (hd : decode cc pc = .ok (.if_icmp .lt off, 3) ∧ pc + 3 = pc2 ∧ (pc : Int) + off = (tgt : Int)) (kt : x < y → kV p l e R s m args below meth c Q H0 B D cl nL N cells slots ad g lv (st) tgt) (kf : ¬ x < y → kV p l e R s m args below meth c Q H0 B D cl nL N cells slots ad g lv (st) pc2) : kV p l e R s m args below meth c Q H0 B D cl nL N cells slots ad g lv (.int y :: .int x :: st) pc := fun H locs ls hl hP hD hS => by
  obtain ⟨hd, rfl, ht⟩ := hd
  exact lv_icmp_lt C.1.1 C.1.2.1 hd ht (fun h => kt h H locs ls hl hP hD hS) (fun h => kf h H locs ls hl hP hD hS)
theorem v_icmp_ge {x y : Int32} {off : Int} {tgt : Nat} (C : Cx p m c s args cc nL own Ts H0 B D cl tys Z) (hd : decode cc pc = .ok (.if_icmp .ge off, 3) ∧ pc + 3 = pc2 ∧ (pc : Int) + off = (tgt : Int)) (kt : y ≤ x → kV p l e R s m args below meth c Q H0 B D cl nL N cells slots ad g lv (st) tgt) (kf : ¬ y ≤ x → kV p l e R s m args below meth c Q H0 B D cl nL N cells slots ad g lv (st) pc2) : kV p l e R s m args below meth c Q H0 B D cl nL N cells slots ad g lv (.int y :: .int x :: st) pc := fun H locs ls hl hP hD hS => by
  obtain ⟨hd, rfl, ht⟩ := hd
  exact lv_icmp_ge C.1.1 C.1.2.1 hd ht (fun h => kt h H locs ls hl hP hD hS) (fun h => kf h H locs ls hl hP hD hS)
theorem v_icmp_gt {x y : Int32} {off : Int} {tgt : Nat} (C : Cx p m c s args cc nL own Ts H0 B D cl tys Z) (hd : decode cc pc = .ok (.if_icmp .gt off, 3) ∧ pc + 3 = pc2 ∧ (pc : Int) + off = (tgt : Int)) (kt : y < x → kV p l e R s m args below meth c Q H0 B D cl nL N cells slots ad g lv (st) tgt) (kf : ¬ y < x → kV p l e R s m args below meth c Q H0 B D cl nL N cells slots ad g lv (st) pc2) : kV p l e R s m args below meth c Q H0 B D cl nL N cells slots ad g lv (.int y :: .int x :: st) pc := fun H locs ls hl hP hD hS => by
  obtain ⟨hd, rfl, ht⟩ := hd
  exact lv_icmp_gt C.1.1 C.1.2.1 hd ht (fun h => kt h H locs ls hl hP hD hS) (fun h => kf h H locs ls hl hP hD hS)
theorem v_icmp_le {x y : Int32} {off : Int} {tgt : Nat} (C : Cx p m c s args cc nL own Ts H0 B D cl tys Z) (hd : decode cc pc = .ok (.if_icmp .le off, 3) ∧ pc + 3 = pc2 ∧ (pc : Int) + off = (tgt : Int)) (kt : x ≤ y → kV p l e R s m args below meth c Q H0 B D cl nL N cells slots ad g lv (st) tgt) (kf : ¬ x ≤ y → kV p l e R s m args below meth c Q H0 B D cl nL N cells slots ad g lv (st) pc2) : kV p l e R s m args below meth c Q H0 B D cl nL N cells slots ad g lv (.int y :: .int x :: st) pc := fun H locs ls hl hP hD hS => by
  obtain ⟨hd, rfl, ht⟩ := hd
  exact lv_icmp_le C.1.1 C.1.2.1 hd ht (fun h => kt h H locs ls hl hP hD hS) (fun h => kf h H locs ls hl hP hD hS)
theorem v_if_eqI {a : Int} {off : Int} {tgt : Nat} (C : Cx p m c s args cc nL own Ts H0 B D cl tys Z) (hd : decode cc pc = .ok (.ifCond .eq off, 3) ∧ pc + 3 = pc2 ∧ (pc : Int) + off = (tgt : Int)) (a1 : -2147483648 ≤ a) (a2 : a < 2147483648) (kt : a = 0 → kV p l e R s m args below meth c Q H0 B D cl nL N cells slots ad g lv (st) tgt) (kf : a ≠ 0 → kV p l e R s m args below meth c Q H0 B D cl nL N cells slots ad g lv (st) pc2) : kV p l e R s m args below meth c Q H0 B D cl nL N cells slots ad g lv (.int (iI a) :: st) pc := by
  have hu := (iI_eq (a := a) (b := 0) a1 a2 (by omega) (by omega))
  rw [iI_0] at hu
  refine v_if_eq C hd (fun h => kt (by rw [hu] at h; omega)) (fun h => kf (by rw [hu] at h; omega))
theorem v_if_neI {a : Int} {off : Int} {tgt : Nat} (C : Cx p m c s args cc nL own Ts H0 B D cl tys Z) (hd : decode cc pc = .ok (.ifCond .ne off, 3) ∧ pc + 3 = pc2 ∧ (pc : Int) + off = (tgt : Int)) (a1 : -2147483648 ≤ a) (a2 : a < 2147483648) (kt : a ≠ 0 → kV p l e R s m args below meth c Q H0 B D cl nL N cells slots ad g lv (st) tgt) (kf : a = 0 → kV p l e R s m args below meth c Q H0 B D cl nL N cells slots ad g lv (st) pc2) : kV p l e R s m args below meth c Q H0 B D cl nL N cells slots ad g lv (.int (iI a) :: st) pc := by
  have hu := (iI_eq (a := a) (b := 0) a1 a2 (by omega) (by omega))
  rw [iI_0] at hu
  refine v_if_ne C hd (fun h => kt (by rw [hu] at h; omega)) (fun h => kf (by rw [hu] at h; omega))
theorem v_if_ltI {a : Int} {off : Int} {tgt : Nat} (C : Cx p m c s args cc nL own Ts H0 B D cl tys Z) (hd : decode cc pc = .ok (.ifCond .lt off, 3) ∧ pc + 3 = pc2 ∧ (pc : Int) + off = (tgt : Int)) (a1 : -2147483648 ≤ a) (a2 : a < 2147483648) (kt : a < 0 → kV p l e R s m args below meth c Q H0 B D cl nL N cells slots ad g lv (st) tgt) (kf : 0 ≤ a → kV p l e R s m args below meth c Q H0 B D cl nL N cells slots ad g lv (st) pc2) : kV p l e R s m args below meth c Q H0 B D cl nL N cells slots ad g lv (.int (iI a) :: st) pc := by
  have hu := (iI_lt (a := a) (b := 0) a1 a2 (by omega) (by omega))
  rw [iI_0] at hu
  refine v_if_lt C hd (fun h => kt (by rw [hu] at h; omega)) (fun h => kf (by rw [hu] at h; omega))
theorem v_if_geI {a : Int} {off : Int} {tgt : Nat} (C : Cx p m c s args cc nL own Ts H0 B D cl tys Z) (hd : decode cc pc = .ok (.ifCond .ge off, 3) ∧ pc + 3 = pc2 ∧ (pc : Int) + off = (tgt : Int)) (a1 : -2147483648 ≤ a) (a2 : a < 2147483648) (kt : 0 ≤ a → kV p l e R s m args below meth c Q H0 B D cl nL N cells slots ad g lv (st) tgt) (kf : a < 0 → kV p l e R s m args below meth c Q H0 B D cl nL N cells slots ad g lv (st) pc2) : kV p l e R s m args below meth c Q H0 B D cl nL N cells slots ad g lv (.int (iI a) :: st) pc := by
  have hu := (iI_le (a := 0) (b := a) (by omega) (by omega) a1 a2)
  rw [iI_0] at hu
  refine v_if_ge C hd (fun h => kt (by rw [hu] at h; omega)) (fun h => kf (by rw [hu] at h; omega))
theorem v_if_gtI {a : Int} {off : Int} {tgt : Nat} (C : Cx p m c s args cc nL own Ts H0 B D cl tys Z) (hd : decode cc pc = .ok (.ifCond .gt off, 3) ∧ pc + 3 = pc2 ∧ (pc : Int) + off = (tgt : Int)) (a1 : -2147483648 ≤ a) (a2 : a < 2147483648) (kt : 0 < a → kV p l e R s m args below meth c Q H0 B D cl nL N cells slots ad g lv (st) tgt) (kf : a ≤ 0 → kV p l e R s m args below meth c Q H0 B D cl nL N cells slots ad g lv (st) pc2) : kV p l e R s m args below meth c Q H0 B D cl nL N cells slots ad g lv (.int (iI a) :: st) pc := by
  have hu := (iI_lt (a := 0) (b := a) (by omega) (by omega) a1 a2)
  rw [iI_0] at hu
  refine v_if_gt C hd (fun h => kt (by rw [hu] at h; omega)) (fun h => kf (by rw [hu] at h; omega))
theorem v_if_leI {a : Int} {off : Int} {tgt : Nat} (C : Cx p m c s args cc nL own Ts H0 B D cl tys Z) (hd : decode cc pc = .ok (.ifCond .le off, 3) ∧ pc + 3 = pc2 ∧ (pc : Int) + off = (tgt : Int)) (a1 : -2147483648 ≤ a) (a2 : a < 2147483648) (kt : a ≤ 0 → kV p l e R s m args below meth c Q H0 B D cl nL N cells slots ad g lv (st) tgt) (kf : 0 < a → kV p l e R s m args below meth c Q H0 B D cl nL N cells slots ad g lv (st) pc2) : kV p l e R s m args below meth c Q H0 B D cl nL N cells slots ad g lv (.int (iI a) :: st) pc := by
  have hu := (iI_le (a := a) (b := 0) a1 a2 (by omega) (by omega))
  rw [iI_0] at hu
  refine v_if_le C hd (fun h => kt (by rw [hu] at h; omega)) (fun h => kf (by rw [hu] at h; omega))
theorem v_icmp_eqI {a b : Int} {off : Int} {tgt : Nat} (C : Cx p m c s args cc nL own Ts H0 B D cl tys Z) (hd : decode cc pc = .ok (.if_icmp .eq off, 3) ∧ pc + 3 = pc2 ∧ (pc : Int) + off = (tgt : Int)) (a1 : -2147483648 ≤ a) (a2 : a < 2147483648) (b1 : -2147483648 ≤ b) (b2 : b < 2147483648) (kt : a = b → kV p l e R s m args below meth c Q H0 B D cl nL N cells slots ad g lv (st) tgt) (kf : a ≠ b → kV p l e R s m args below meth c Q H0 B D cl nL N cells slots ad g lv (st) pc2) : kV p l e R s m args below meth c Q H0 B D cl nL N cells slots ad g lv (.int (iI b) :: .int (iI a) :: st) pc := by
  have hu := (iI_eq a1 a2 b1 b2)
  refine v_icmp_eq C hd (fun h => kt (by rw [hu] at h; omega)) (fun h => kf (by rw [hu] at h; omega))
theorem v_icmp_neI {a b : Int} {off : Int} {tgt : Nat} (C : Cx p m c s args cc nL own Ts H0 B D cl tys Z) (hd : decode cc pc = .ok (.if_icmp .ne off, 3) ∧ pc + 3 = pc2 ∧ (pc : Int) + off = (tgt : Int)) (a1 : -2147483648 ≤ a) (a2 : a < 2147483648) (b1 : -2147483648 ≤ b) (b2 : b < 2147483648) (kt : a ≠ b → kV p l e R s m args below meth c Q H0 B D cl nL N cells slots ad g lv (st) tgt) (kf : a = b → kV p l e R s m args below meth c Q H0 B D cl nL N cells slots ad g lv (st) pc2) : kV p l e R s m args below meth c Q H0 B D cl nL N cells slots ad g lv (.int (iI b) :: .int (iI a) :: st) pc := by
  have hu := (iI_eq a1 a2 b1 b2)
  refine v_icmp_ne C hd (fun h => kt (by rw [hu] at h; omega)) (fun h => kf (by rw [hu] at h; omega))
theorem v_icmp_ltI {a b : Int} {off : Int} {tgt : Nat} (C : Cx p m c s args cc nL own Ts H0 B D cl tys Z) (hd : decode cc pc = .ok (.if_icmp .lt off, 3) ∧ pc + 3 = pc2 ∧ (pc : Int) + off = (tgt : Int)) (a1 : -2147483648 ≤ a) (a2 : a < 2147483648) (b1 : -2147483648 ≤ b) (b2 : b < 2147483648) (kt : a < b → kV p l e R s m args below meth c Q H0 B D cl nL N cells slots ad g lv (st) tgt) (kf : b ≤ a → kV p l e R s m args below meth c Q H0 B D cl nL N cells slots ad g lv (st) pc2) : kV p l e R s m args below meth c Q H0 B D cl nL N cells slots ad g lv (.int (iI b) :: .int (iI a) :: st) pc := by
  have hu := (iI_lt a1 a2 b1 b2)
  refine v_icmp_lt C hd (fun h => kt (by rw [hu] at h; omega)) (fun h => kf (by rw [hu] at h; omega))
theorem v_icmp_geI {a b : Int} {off : Int} {tgt : Nat} (C : Cx p m c s args cc nL own Ts H0 B D cl tys Z) (hd : decode cc pc = .ok (.if_icmp .ge off, 3) ∧ pc + 3 = pc2 ∧ (pc : Int) + off = (tgt : Int)) (a1 : -2147483648 ≤ a) (a2 : a < 2147483648) (b1 : -2147483648 ≤ b) (b2 : b < 2147483648) (kt : b ≤ a → kV p l e R s m args below meth c Q H0 B D cl nL N cells slots ad g lv (st) tgt) (kf : a < b → kV p l e R s m args below meth c Q H0 B D cl nL N cells slots ad g lv (st) pc2) : kV p l e R s m args below meth c Q H0 B D cl nL N cells slots ad g lv (.int (iI b) :: .int (iI a) :: st) pc := by
  have hu := (iI_le b1 b2 a1 a2)
  refine v_icmp_ge C hd (fun h => kt (by rw [hu] at h; omega)) (fun h => kf (by rw [hu] at h; omega))
theorem v_icmp_gtI {a b : Int} {off : Int} {tgt : Nat} (C : Cx p m c s args cc nL own Ts H0 B D cl tys Z) (hd : decode cc pc = .ok (.if_icmp .gt off, 3) ∧ pc + 3 = pc2 ∧ (pc : Int) + off = (tgt : Int)) (a1 : -2147483648 ≤ a) (a2 : a < 2147483648) (b1 : -2147483648 ≤ b) (b2 : b < 2147483648) (kt : b < a → kV p l e R s m args below meth c Q H0 B D cl nL N cells slots ad g lv (st) tgt) (kf : a ≤ b → kV p l e R s m args below meth c Q H0 B D cl nL N cells slots ad g lv (st) pc2) : kV p l e R s m args below meth c Q H0 B D cl nL N cells slots ad g lv (.int (iI b) :: .int (iI a) :: st) pc := by
  have hu := (iI_lt b1 b2 a1 a2)
  refine v_icmp_gt C hd (fun h => kt (by rw [hu] at h; omega)) (fun h => kf (by rw [hu] at h; omega))
theorem v_icmp_leI {a b : Int} {off : Int} {tgt : Nat} (C : Cx p m c s args cc nL own Ts H0 B D cl tys Z) (hd : decode cc pc = .ok (.if_icmp .le off, 3) ∧ pc + 3 = pc2 ∧ (pc : Int) + off = (tgt : Int)) (a1 : -2147483648 ≤ a) (a2 : a < 2147483648) (b1 : -2147483648 ≤ b) (b2 : b < 2147483648) (kt : a ≤ b → kV p l e R s m args below meth c Q H0 B D cl nL N cells slots ad g lv (st) tgt) (kf : b < a → kV p l e R s m args below meth c Q H0 B D cl nL N cells slots ad g lv (st) pc2) : kV p l e R s m args below meth c Q H0 B D cl nL N cells slots ad g lv (.int (iI b) :: .int (iI a) :: st) pc := by
  have hu := (iI_le a1 a2 b1 b2)
  refine v_icmp_le C hd (fun h => kt (by rw [hu] at h; omega)) (fun h => kf (by rw [hu] at h; omega))
theorem v_if_eqB {b : Bool} {off : Int} {tgt : Nat} (C : Cx p m c s args cc nL own Ts H0 B D cl tys Z) (hd : decode cc pc = .ok (.ifCond .eq off, 3) ∧ pc + 3 = pc2 ∧ (pc : Int) + off = (tgt : Int)) (kt : b = false → kV p l e R s m args below meth c Q H0 B D cl nL N cells slots ad g lv (st) tgt) (kf : b = true → kV p l e R s m args below meth c Q H0 B D cl nL N cells slots ad g lv (st) pc2) : kV p l e R s m args below meth c Q H0 B D cl nL N cells slots ad g lv (.int (bI b) :: st) pc := by
  refine v_if_eq C hd (fun h => kt (by revert h; cases b <;> simp [bI])) (fun h => kf (by revert h; cases b <;> simp [bI]))
theorem v_if_neB {b : Bool} {off : Int} {tgt : Nat} (C : Cx p m c s args cc nL own Ts H0 B D cl tys Z) (hd : decode cc pc = .ok (.ifCond .ne off, 3) ∧ pc + 3 = pc2 ∧ (pc : Int) + off = (tgt : Int)) (kt : b = true → kV p l e R s m args below meth c Q H0 B D cl nL N cells slots ad g lv (st) tgt) (kf : b = false → kV p l e R s m args below meth c Q H0 B D cl nL N cells slots ad g lv (st) pc2) : kV p l e R s m args below meth c Q H0 B D cl nL N cells slots ad g lv (.int (bI b) :: st) pc := by
  refine v_if_ne C hd (fun h => kt (by revert h; cases b <;> simp [bI])) (fun h => kf (by revert h; cases b <;> simp [bI]))
theorem v_goto {off : Int} {tgt : Nat} (C : Cx p m c s args cc nL own Ts H0 B D cl tys Z) (hd : decode cc pc = .ok (.goto off, 3) ∧ (pc : Int) + off = (tgt : Int)) (k : kV p l e R s m args below meth c Q H0 B D cl nL N cells slots ad g lv (st) tgt) : kV p l e R s m args below meth c Q H0 B D cl nL N cells slots ad g lv (st) pc := fun H locs ls hl hP hD hS => lv_goto C.1.1 C.1.2.1 hd.1 hd.2 (k H locs ls hl hP hD hS)
theorem v_get {ref C0 : String} {T : u_T} {M ci index r : Nat} (C : Cx p m c s args cc nL own Ts H0 B D cl tys Z) (hin : ∀ w ∈ u_ws C0 T M, w ∈ Ts) (hr : r < N) {fs : List Value} (hg : g r = .inr (ci, fs)) (hc : cl[ci]? = some (C0, T, M)) (j : Nat) (hj : j < M) (hlink : Cond.fieldLink own index ref (T j).2.1 (T j).2.2.1 ∈ Ts) (hsame : (T j).1 = ref) {v : Value} (hv : fs[j]? = some v) (hd : decode cc pc = .ok (.getfield index, 3) ∧ pc + 3 = pc2) (k : kV p l e R s m args below meth c Q H0 B D cl nL N cells slots ad g lv (v :: st) pc2) : kV p l e R s m args below meth c Q H0 B D cl nL N cells slots ad g lv (.ref (ad r) :: st) pc := fun H locs ls hl hP hD hS => by
  obtain ⟨hd, rfl⟩ := hd
  exact va_get C.1.1 C.1.2.1 C.1.2.2.2.2 hin C.1.2.2.2.1 C.2.1 hP r ((wl_get hr).trans (by rw [hg])) hc j hj (C.1.2.2.2.2 _ hlink) (fun x hx => by rw [← hsame]; exact hx) hv hd (k H locs ls hl hP hD hS)
theorem v_put {ref C0 : String} {T : u_T} {M ci index r : Nat} (C : Cx p m c s args cc nL own Ts H0 B D cl tys Z) (hin : ∀ w ∈ u_ws C0 T M, w ∈ Ts) (ty0 : Nat → FieldType) (hty : ∀ k, k < M → parseFieldDescriptor (T k).2.2.1 = some (ty0 k)) (hnm : ∀ a, a < M → ∀ b, b < M → a ≠ b → (T a).2.1 ≠ (T b).2.1) (hr : r < N) {fs fs' : List Value} (hg : g r = .inr (ci, fs)) (hc : cl[ci]? = some (C0, T, M)) (j : Nat) (hj : j < M) (hlink : Cond.fieldLink own index ref (T j).2.1 (T j).2.2.1 ∈ Ts) (hsame : (T j).1 = ref) (hfin : (T j).2.2.2 = false) {ty : FieldType} {v : Value} (hdp : parseFieldDescriptor (T j).2.2.1 = some ty) (hn : narrow ty v = v) (hfit : fits ty v = true) (hlen : j < fs.length) (hfs : fs.set j v = fs') (hd : decode cc pc = .ok (.putfield index, 3) ∧ pc + 3 = pc2) (k : ∀ g1 : Nat → va_E, g1 r = .inr (ci, fs') → (∀ r1, r1 ≠ r → g1 r1 = g r1) → kV p l e R s m args below meth c Q H0 B D cl nL N cells slots ad g1 lv (st) pc2) : kV p l e R s m args below meth c Q H0 B D cl nL N cells slots ad g lv (v :: .ref (ad r) :: st) pc := fun H locs ls hl hP hD hS => by
  obtain ⟨hd, rfl⟩ := hd
  refine va_put C.1.1 C.1.2.1 C.1.2.2.2.2 hin ty0 hty hnm C.1.2.2.2.1 C.2.1 hP hD hS r ((wl_get hr).trans (by rw [hg])) hc j hj (C.1.2.2.2.2 _ hlink) (fun x hx => by rw [← hsame]; exact hx) hfin hdp hn hfit hlen hd (fun H1 locs1 hP hD hS => ?_)
  rw [wl_set hr, hfs] at hP hD
  exact k _ (va_up_self _ _ _) (fun r1 h1 => va_up_ne _ _ h1) H1 locs1 ls hl hP hD hS
theorem v_putF {C0 : String} {T : u_T} {M ci index r : Nat} (C : Cx p m c s args cc nL own Ts H0 B D cl tys Z) (hin : ∀ w ∈ u_ws C0 T M, w ∈ Ts) (ty0 : Nat → FieldType) (hty : ∀ k, k < M → parseFieldDescriptor (T k).2.2.1 = some (ty0 k)) (hnm : ∀ a, a < M → ∀ b, b < M → a ≠ b → (T a).2.1 ≠ (T b).2.1) (hr : r < N) {fs fs' : List Value} (hg : g r = .inr (ci, fs)) (hc : cl[ci]? = some (C0, T, M)) (j : Nat) (hj : j < M) (hlink : Cond.fieldLink own index own (T j).2.1 (T j).2.2.1 ∈ Ts) (hsame : (T j).1 = own) (hfin : (T j).2.2.2 = true) (hin2 : meth.name = "<init>") {ty : FieldType} {v : Value} (hdp : parseFieldDescriptor (T j).2.2.1 = some ty) (hn : narrow ty v = v) (hfit : fits ty v = true) (hlen : j < fs.length) (hfs : fs.set j v = fs') (hd : decode cc pc = .ok (.putfield index, 3) ∧ pc + 3 = pc2) (k : ∀ g1 : Nat → va_E, g1 r = .inr (ci, fs') → (∀ r1, r1 ≠ r → g1 r1 = g r1) → kV p l e R s m args below meth c Q H0 B D cl nL N cells slots ad g1 lv (st) pc2) : kV p l e R s m args below meth c Q H0 B D cl nL N cells slots ad g lv (v :: .ref (ad r) :: st) pc := fun H locs ls hl hP hD hS => by
  obtain ⟨hd, rfl⟩ := hd
  refine va_putF (ref := own) C.1.1 C.1.2.1 C.1.2.2.2.2 hin ty0 hty hnm C.1.2.2.2.1 C.2.1 hP hD hS r ((wl_get hr).trans (by rw [hg])) hc j hj (C.1.2.2.2.2 _ hlink) (fun x hx => by rw [← hsame]; exact hx) hfin hin2 hsame hdp hn hfit hlen hd (fun H1 locs1 hP hD hS => ?_)
  rw [wl_set hr, hfs] at hP hD
  exact k _ (va_up_self _ _ _) (fun r1 h1 => va_up_ne _ _ h1) H1 locs1 ls hl hP hD hS
theorem v_iald {r n : Nat} {f : Nat → Int32} (C : Cx p m c s args cc nL own Ts H0 B D cl tys Z) (t0 : Nat) {cA : ClassId} (hr : r < N) (hg : g r = .inl (cA, n, .inl f)) (ht : tys[t0]? = some (cA, .int)) {z : Int} (i0 : Nat) (hz : z = (i0 : Int)) (hi0 : i0 < n) (hn9 : n < 2147483648) (hd : decode cc pc = .ok (.iaload, 1) ∧ pc + 1 = pc2) (k : kV p l e R s m args below meth c Q H0 B D cl nL N cells slots ad g lv (.int (f i0) :: st) pc2) : kV p l e R s m args below meth c Q H0 B D cl nL N cells slots ad g lv (.int (iI z) :: .ref (ad r) :: st) pc := fun H locs ls hl hP hD hS => by
  obtain ⟨hd, rfl⟩ := hd
  refine va_iald C.1.1 C.1.2.1 C.2.1 hP r t0 ((wl_get hr).trans (by rw [hg])) ht (iI_in hz hi0 hn9) hd ?_
  rw [iI_cl hz (by omega)]
  exact k H locs ls hl hP hD hS
theorem v_zald {r n : Nat} {f : Nat → Int32} (C : Cx p m c s args cc nL own Ts H0 B D cl tys Z) (t0 : Nat) {cA : ClassId} (hr : r < N) (hg : g r = .inl (cA, n, .inl f)) (ht : tys[t0]? = some (cA, .boolean)) {z : Int} (i0 : Nat) (hz : z = (i0 : Int)) (hi0 : i0 < n) (hn9 : n < 2147483648) (hd : decode cc pc = .ok (.baload, 1) ∧ pc + 1 = pc2) (k : kV p l e R s m args below meth c Q H0 B D cl nL N cells slots ad g lv (.int (f i0) :: st) pc2) : kV p l e R s m args below meth c Q H0 B D cl nL N cells slots ad g lv (.int (iI z) :: .ref (ad r) :: st) pc := fun H locs ls hl hP hD hS => by
  obtain ⟨hd, rfl⟩ := hd
  refine va_zald C.1.1 C.1.2.1 C.2.1 hP r t0 ((wl_get hr).trans (by rw [hg])) ht (iI_in hz hi0 hn9) hd ?_
  rw [iI_cl hz (by omega)]
  exact k H locs ls hl hP hD hS
theorem v_lald {r n : Nat} {f : Nat → Int64} (C : Cx p m c s args cc nL own Ts H0 B D cl tys Z) (t0 : Nat) {cA : ClassId} (hr : r < N) (hg : g r = .inl (cA, n, .inr (.inl f))) (ht : tys[t0]? = some (cA, .long)) {z : Int} (i0 : Nat) (hz : z = (i0 : Int)) (hi0 : i0 < n) (hn9 : n < 2147483648) (hd : decode cc pc = .ok (.laload, 1) ∧ pc + 1 = pc2) (k : kV p l e R s m args below meth c Q H0 B D cl nL N cells slots ad g lv (.long (f i0) :: st) pc2) : kV p l e R s m args below meth c Q H0 B D cl nL N cells slots ad g lv (.int (iI z) :: .ref (ad r) :: st) pc := fun H locs ls hl hP hD hS => by
  obtain ⟨hd, rfl⟩ := hd
  refine va_lald C.1.1 C.1.2.1 C.2.1 hP r t0 ((wl_get hr).trans (by rw [hg])) ht (iI_in hz hi0 hn9) hd ?_
  rw [iI_cl hz (by omega)]
  exact k H locs ls hl hP hD hS
theorem v_iast {r n : Nat} {f : Nat → Int32} {x : Int32} (C : Cx p m c s args cc nL own Ts H0 B D cl tys Z) (t0 : Nat) {cA : ClassId} (hr : r < N) (hg : g r = .inl (cA, n, .inl f)) (ht : tys[t0]? = some (cA, .int)) {z : Int} (i0 : Nat) (hz : z = (i0 : Int)) (hi0 : i0 < n) (hn9 : n < 2147483648) (hd : decode cc pc = .ok (.iastore, 1) ∧ pc + 1 = pc2) (k : ∀ g1 : Nat → va_E, g1 r = .inl (cA, n, .inl (upd f i0 x)) → (∀ r1, r1 ≠ r → g1 r1 = g r1) → kV p l e R s m args below meth c Q H0 B D cl nL N cells slots ad g1 lv (st) pc2) : kV p l e R s m args below meth c Q H0 B D cl nL N cells slots ad g lv (.int x :: .int (iI z) :: .ref (ad r) :: st) pc := fun H locs ls hl hP hD hS => by
  obtain ⟨hd, rfl⟩ := hd
  refine va_iast C.1.1 C.1.2.1 C.2.1 hP hD hS r t0 ((wl_get hr).trans (by rw [hg])) ht (iI_in hz hi0 hn9) hd (fun H1 locs1 hP hD hS => ?_)
  rw [iI_cl hz (by omega), wl_set hr] at hP hD
  exact k _ (va_up_self _ _ _) (fun r1 h1 => va_up_ne _ _ h1) H1 locs1 ls hl hP hD hS
theorem v_zast {r n : Nat} {f : Nat → Int32} {x : Int32} (C : Cx p m c s args cc nL own Ts H0 B D cl tys Z) (t0 : Nat) {cA : ClassId} (hr : r < N) (hg : g r = .inl (cA, n, .inl f)) (ht : tys[t0]? = some (cA, .boolean)) {z : Int} (i0 : Nat) (hz : z = (i0 : Int)) (hi0 : i0 < n) (hn9 : n < 2147483648) (hd : decode cc pc = .ok (.bastore, 1) ∧ pc + 1 = pc2) (k : ∀ g1 : Nat → va_E, g1 r = .inl (cA, n, .inl (upd f i0 (vp_nar .boolean x))) → (∀ r1, r1 ≠ r → g1 r1 = g r1) → kV p l e R s m args below meth c Q H0 B D cl nL N cells slots ad g1 lv (st) pc2) : kV p l e R s m args below meth c Q H0 B D cl nL N cells slots ad g lv (.int x :: .int (iI z) :: .ref (ad r) :: st) pc := fun H locs ls hl hP hD hS => by
  obtain ⟨hd, rfl⟩ := hd
  refine va_zast C.1.1 C.1.2.1 C.2.1 hP hD hS r t0 ((wl_get hr).trans (by rw [hg])) ht (iI_in hz hi0 hn9) hd (fun H1 locs1 hP hD hS => ?_)
  rw [iI_cl hz (by omega), wl_set hr] at hP hD
  exact k _ (va_up_self _ _ _) (fun r1 h1 => va_up_ne _ _ h1) H1 locs1 ls hl hP hD hS
theorem v_last {r n : Nat} {f : Nat → Int64} {x : Int64} (C : Cx p m c s args cc nL own Ts H0 B D cl tys Z) (t0 : Nat) {cA : ClassId} (hr : r < N) (hg : g r = .inl (cA, n, .inr (.inl f))) (ht : tys[t0]? = some (cA, .long)) {z : Int} (i0 : Nat) (hz : z = (i0 : Int)) (hi0 : i0 < n) (hn9 : n < 2147483648) (hd : decode cc pc = .ok (.lastore, 1) ∧ pc + 1 = pc2) (k : ∀ g1 : Nat → va_E, g1 r = .inl (cA, n, .inr (.inl (vp_updL f i0 x))) → (∀ r1, r1 ≠ r → g1 r1 = g r1) → kV p l e R s m args below meth c Q H0 B D cl nL N cells slots ad g1 lv (st) pc2) : kV p l e R s m args below meth c Q H0 B D cl nL N cells slots ad g lv (.long x :: .int (iI z) :: .ref (ad r) :: st) pc := fun H locs ls hl hP hD hS => by
  obtain ⟨hd, rfl⟩ := hd
  refine va_last C.1.1 C.1.2.1 C.2.1 hP hD hS r t0 ((wl_get hr).trans (by rw [hg])) ht (iI_in hz hi0 hn9) hd (fun H1 locs1 hP hD hS => ?_)
  rw [iI_cl hz (by omega), wl_set hr] at hP hD
  exact k _ (va_up_self _ _ _) (fun r1 h1 => va_up_ne _ _ h1) H1 locs1 ls hl hP hD hS
theorem v_alen {r n : Nat} {x : _} (C : Cx p m c s args cc nL own Ts H0 B D cl tys Z) (t0 : Nat) {cA : ClassId} {ty : FieldType} (hr : r < N) (hg : g r = .inl (cA, n, x)) (ht : tys[t0]? = some (cA, ty)) (hd : decode cc pc = .ok (.arraylength, 1) ∧ pc + 1 = pc2) (k : kV p l e R s m args below meth c Q H0 B D cl nL N cells slots ad g lv (.int (iI (n : Int)) :: st) pc2) : kV p l e R s m args below meth c Q H0 B D cl nL N cells slots ad g lv (.ref (ad r) :: st) pc := fun H locs ls hl hP hD hS => by
  obtain ⟨hd, rfl⟩ := hd
  exact va_alen (x := (n, x)) C.1.1 C.1.2.1 C.2.1 hP r t0 ((wl_get hr).trans (by rw [hg])) ht (v := iI (n : Int)) (iI_nat n).symm hd (k H locs ls hl hP hD hS)
theorem v_aald {r n : Nat} {f : Nat → Option Nat} (C : Cx p m c s args cc nL own Ts H0 B D cl tys Z) (t0 : Nat) {cA : ClassId} {C0 : String} (hr : r < N) (hg : g r = .inl (cA, n, .inr (.inr (.inr (.inr f))))) (ht : tys[t0]? = some (cA, .object C0)) {z : Int} (i0 : Nat) (hz : z = (i0 : Int)) (hi0 : i0 < n) (hn9 : n < 2147483648) {a : Nat} (ha : f i0 = some a) (hd : decode cc pc = .ok (.aaload, 1) ∧ pc + 1 = pc2) (k : kV p l e R s m args below meth c Q H0 B D cl nL N cells slots ad g lv (.ref a :: st) pc2) : kV p l e R s m args below meth c Q H0 B D cl nL N cells slots ad g lv (.int (iI z) :: .ref (ad r) :: st) pc := fun H locs ls hl hP hD hS => by
  obtain ⟨hd, rfl⟩ := hd
  refine va_aldq C.1.1 C.1.2.1 C.2.1 hP r t0 ((wl_get hr).trans (by rw [hg])) ht (iI_in hz hi0 hn9) hd ?_
  rw [iI_cl hz (by omega), ha]
  exact k H locs ls hl hP hD hS
theorem v_aast {r n r2 : Nat} {f : Nat → Option Nat} (C : Cx p m c s args cc nL own Ts H0 B D cl tys Z) (t0 ci : Nat) {cA : ClassId} {q : vw_C} {vs : List Value} (hr : r < N) (hg : g r = .inl (cA, n, .inr (.inr (.inr (.inr f))))) (ht : tys[t0]? = some (cA, .object q.1)) (hr2 : r2 < N) (hg2 : g r2 = .inr (ci, vs)) (hc : cl[ci]? = some q) {z : Int} (i0 : Nat) (hz : z = (i0 : Int)) (hi0 : i0 < n) (hn9 : n < 2147483648) (hd : decode cc pc = .ok (.aastore, 1) ∧ pc + 1 = pc2) (k : ∀ g1 : Nat → va_E, g1 r = .inl (cA, n, .inr (.inr (.inr (.inr (va_up f i0 (some (ad r2))))))) → (∀ r1, r1 ≠ r → g1 r1 = g r1) → kV p l e R s m args below meth c Q H0 B D cl nL N cells slots ad g1 lv (st) pc2) : kV p l e R s m args below meth c Q H0 B D cl nL N cells slots ad g lv (.ref (ad r2) :: .int (iI z) :: .ref (ad r) :: st) pc := fun H locs ls hl hP hD hS => by
  obtain ⟨hd, rfl⟩ := hd
  refine va_astq C.1.1 C.1.2.1 C.2.1 hP hD hS r t0 r2 ci ((wl_get hr).trans (by rw [hg])) ht ((wl_get hr2).trans (by rw [hg2])) hc (iI_in hz hi0 hn9) hd (fun H1 locs1 hP hD hS => ?_)
  rw [iI_cl hz (by omega), wl_set hr] at hP hD
  exact k _ (va_up_self _ _ _) (fun r1 h1 => va_up_ne _ _ h1) H1 locs1 ls hl hP hD hS
theorem v_newaR {r : Nat} (C : Cx p m c s args cc nL own Ts H0 B D cl tys Z) {atype : ArrayType} (harr : Cond.arrayClass (newarray.typeOf atype) ∈ Ts) {ty : FieldType} (hty : newarray.typeOf atype = ty) (t0 : Nat) {cA : ClassId} (ht : tys[t0]? = some (cA, ty)) {z : Int} {n : Nat} {a0 : vp_A} (hz : z = (n : Int)) (hn9 : n < 65536) (ha : ∀ cA : ClassId, vp_cell cA a0 = arrV cA n (fun _ => defaultValue ty)) (hbytes : n * componentBytes ty ≤ 536870912) (hcells : cells + 1 ≤ R.cells) (hslots : slots + n ≤ R.slots) (hd : decode cc pc = .ok (.newarray atype, 2) ∧ pc + 2 = pc2) (k : ∀ (ad1 : Nat → Nat) (g1 : Nat → va_E), (∀ r1, r1 ≠ r → ad1 r1 = ad r1) → g1 r = .inl (cA, a0) → (∀ r1, r1 ≠ r → g1 r1 = g r1) → kV p l e R s m args below meth c Q H0 B D cl nL N (cells + 1) (slots + n) ad1 g1 lv (.ref (ad1 r) :: st) pc2) : kV p l e R s m args below meth c Q H0 B D cl nL N cells slots ad g lv (.int (iI z) :: st) pc := fun H locs ls hl hP hD hS => by
  obtain ⟨hd, rfl⟩ := hd
  have hz0 : ¬ iI z < 0 := by subst hz; rw [iI_nat]; exact nI_pos (by omega)
  refine va_newa C.1.1 C.1.2.1 (C.1.2.2.2.2 _ harr) hty C.2.1 hP hD hS C.hA ha hz0 (iI_cl hz (by omega)) hbytes hcells hslots hd (fun q cA1 H1 hK hP hD hS => ?_)
  have hcA : cA1 = cA := va_arrU hK (by simp) (List.mem_append_left _ (List.mem_of_getElem? ht))
  subst hcA
  obtain ⟨hP, hD⟩ := wl_new (r := r) hP hD
  have h3 := k (va_up ad r q) (va_up g r (.inl (cA1, a0))) (fun r1 h1 => va_up_ne _ _ h1) (va_up_self _ _ _) (fun r1 h1 => va_up_ne _ _ h1) H1 locs ls hl hP hD hS
  rw [va_up_self] at h3
  exact h3
theorem v_newaP (C : Cx p m c s args cc nL own Ts H0 B D cl tys Z) {atype : ArrayType} (harr : Cond.arrayClass (newarray.typeOf atype) ∈ Ts) {ty : FieldType} (hty : newarray.typeOf atype = ty) (t0 : Nat) {cA : ClassId} (ht : tys[t0]? = some (cA, ty)) {z : Int} {n : Nat} {a0 : vp_A} (hz : z = (n : Int)) (hn9 : n < 65536) (ha : ∀ cA : ClassId, vp_cell cA a0 = arrV cA n (fun _ => defaultValue ty)) (hbytes : n * componentBytes ty ≤ 536870912) (hcells : cells + 1 ≤ R.cells) (hslots : slots + n ≤ R.slots) (hd : decode cc pc = .ok (.newarray atype, 2) ∧ pc + 2 = pc2) (k : ∀ (ad1 : Nat → Nat) (g1 : Nat → va_E), (∀ r1, r1 ≠ N → ad1 r1 = ad r1) → g1 N = .inl (cA, a0) → (∀ r1, r1 ≠ N → g1 r1 = g r1) → kV p l e R s m args below meth c Q H0 B D cl nL (N + 1) (cells + 1) (slots + n) ad1 g1 lv (.ref (ad1 N) :: st) pc2) : kV p l e R s m args below meth c Q H0 B D cl nL N cells slots ad g lv (.int (iI z) :: st) pc := fun H locs ls hl hP hD hS => by
  obtain ⟨hd, rfl⟩ := hd
  have hz0 : ¬ iI z < 0 := by subst hz; rw [iI_nat]; exact nI_pos (by omega)
  refine va_newa C.1.1 C.1.2.1 (C.1.2.2.2.2 _ harr) hty C.2.1 hP hD hS C.hA ha hz0 (iI_cl hz (by omega)) hbytes hcells hslots hd (fun q cA1 H1 hK hP hD hS => ?_)
  have hcA : cA1 = cA := va_arrU hK (by simp) (List.mem_append_left _ (List.mem_of_getElem? ht))
  subst hcA
  rw [wl_succ] at hP hD
  have h3 := k (va_up ad N q) (va_up g N (.inl (cA1, a0))) (fun r1 h1 => va_up_ne _ _ h1) (va_up_self _ _ _) (fun r1 h1 => va_up_ne _ _ h1) H1 locs ls hl hP hD hS
  rw [va_up_self] at h3
  exact h3
end VR
end
section
abbrev WT : Type := (Nat → Nat) × (Nat → va_E)
/-- a call's start: the words of the start, and the world -/
def wPc (B : Nat) (D : va_G) (cl : List vw_C) (tys : List (ClassId × FieldType)) (Z : ZT) (N : Nat) (as : List Value) (ad : Nat → Nat) (g : Nat → va_E) : Array Value → State → Prop := va_Pc as (fun U => B ≤ U.heap.size ∧ va_K D cl tys U ∧ Z U U.heap ∧ Zmov B Z ∧ va_P D cl (wl N ad g) U.heap ∧ va_D (aB B) (wl N ad g))
def wB (B : Nat) (D : va_G) (cl : List vw_C) (N : Nat) (u : WT) (t : State) : Prop := va_P D cl (wl N u.1 u.2) t.heap ∧ va_D (aB B) (wl N u.1 u.2)
abbrev QI (B : Nat) (D : va_G) (cl : List vw_C) (N : Nat) (post : Int32 → (Nat → Nat) → (Nat → va_E) → Prop) : Array Value → State → Outcome → State → Prop := va_Qi (fun r (u : WT) => post r u.1 u.2) (wB B D cl N) (aB B)
abbrev QV (B : Nat) (D : va_G) (cl : List vw_C) (N : Nat) (post : (Nat → Nat) → (Nat → va_E) → Prop) : Array Value → State → Outcome → State → Prop := va_Qv (fun (u : WT) => post u.1 u.2) (wB B D cl N) (aB B)
/-- where it throws: which class, and the world is as it was -/
abbrev QX (B : Nat) (D : va_G) (cl : List vw_C) (N : Nat) (xp : String → Prop) (ad : Nat → Nat) (g : Nat → va_E) : String → State → State → Prop := vx_X (fun _ : Unit => True) (fun E _ t => xp E ∧ wB B D cl N (ad, g) t) (aB B)
def kX (p : Program) (l : Launch) (e : Env) (R : Room) (s : State) (m : MethodId) (args : Array Value) (below : List Frame) (meth : Method) (c : Code) (Q : State → Prop) (H0 : Heap) (B : Nat) (D : va_G) (cl : List vw_C) (nL N cells slots : Nat) (ad : Nat → Nat) (g : Nat → va_E) (lv : List (Nat × Value)) (st : List Value) (pc : Nat) (E : String) : Prop :=
  ∀ (H : Heap) (locs : List Loc) (ls : Array Slot), lv_has ls nL lv → va_P D cl (wl N ad g) H → va_D (aB B) (wl N ad g) → va_S (aB B) H0 H locs → ∀ (q : Addr) (ce : Cell), H[q]? = some ce → ce.vm = .none → s.vm.findClass E = some ce.cls → vx_W p l e R s m args below meth c H locs cells slots Q (F0 m pc ls st) q
section CT
variable {p : Program} {l : Launch} {e : Env} {R : Room} {s : State} {m : MethodId} {args : Array Value} {below : List Frame} {meth : Method} {c : Code} {Q : State → Prop} {H0 : Heap} {B : Nat} {D : va_G} {cl : List vw_C} {tys : List (ClassId × FieldType)} {Z : ZT} {cc : ByteArray} {nL N N2 : Nat} {own : String} {Ts : List Cond} {cells slots : Nat} {ad : Nat → Nat} {g : Nat → va_E} {lv : List (Nat × Value)} {st st0 : List Value} {pc pc2 : Nat}
variable {y : MethodName} {bytes : ByteArray} {maxL mc ms n index : Nat} {ret : Option FieldType} {ws : List Cond} {rm : Room} {As : List Value} {C0 host : String} {xp : String → Prop}
theorem wPc_blind : FrameBlind (wPc B D cl tys Z N As ad g) := fun a U g9 mk q => by
  obtain ⟨q0, q1, q2, q3, q4, q5, q6⟩ := q
  exact ⟨q0, q1, va_K.moved (u := U) (U := U.calling g9 mk a) (Vm.Alike.refl U.vm) q2, q4.2 U _ _ rfl q3, q4, q5, q6⟩
theorem wPre (C : Cx p m c s args cc nL own Ts H0 B D cl tys Z) {H : Heap} {locs : List Loc} (hP : va_P D cl (wl N ad g) H) (hD : va_D (aB B) (wl N ad g)) (hS : va_S (aB B) H0 H locs) (U : State) (hU : U.heap = H) (hW : s.WarmedH U.vm) : wPc B D cl tys Z N As ad g As.toArray U :=
  ⟨rfl, by rw [hU]; exact Nat.le_trans C.2.2.1 hS.1, va_K.moved hW.alike C.2.1, by rw [hU]; exact C.2.2.2.2.1 s U H0 H hW hS.1 hS.2.1 C.2.2.2.1, C.2.2.2.2, by rw [hU]; exact hP, hD⟩
theorem wRecv (C : Cx p m c s args cc nL own Ts H0 B D cl tys Z) {H : Heap} (hP : va_P D cl (wl N ad g) H) {r ci : Nat} {q : vw_C} {fs : List Value} (hr : r < N) (hg : g r = .inr (ci, fs)) (hc : cl[ci]? = some q) : ∃ cell : Cell, H[ad r]? = some cell ∧ cell.vm.isStatics = false ∧ s.vm.findClass q.1 = some cell.cls :=
  va_recv C.2.1 hP hc (q0 := r) (fs := fs) ((wl_get hr).trans (by rw [hg]))
theorem ofI {post : Int32 → (Nat → Nat) → (Nat → va_E) → Prop} (hy : plainName y.cls = true) (hown : y.cls = own) (hlen : (lg_sl As).length ≤ maxL)
    (body : ∀ (p : Program) (e : Env) (s : State) (m : MethodId) (below : List Frame) (meth : Method) (c : Code) (Q : State → Prop), Cx p m c s As.toArray cc maxL own Ts s.heap B D cl tys Z → meth.name = y.name → (∀ (cells slots : Nat) (ad1 : Nat → Nat) (g1 : Nat → va_E) (lv : List (Nat × Value)) (v : Int32) (pc : Nat), cells ≤ mc → slots ≤ ms → decode cc pc = .ok (.ireturn, 1) → post v ad1 g1 → kV p l e rm s m As.toArray below meth c Q s.heap B D cl maxL N2 cells slots ad1 g1 lv [.int v] pc) → kV p l e rm s m As.toArray below meth c Q s.heap B D cl maxL N 0 0 ad g (lv_args 0 As) [] 0) : Met l y (Cond.code y cc maxL (some .int) :: Ts) rm (wPc B D cl tys Z N As ad g) (QI B D cl N2 post) mc ms (aB B) := by
  refine Met.ofW (cc := cc) (maxL := maxL) (ret := some .int) hy rfl ?_
  intro p e s m args below meth c s₁ B9 hml hv
  obtain ⟨rfl, hsz, hK, hZ, hZm, hP, hD⟩ := hv
  have hx := B9.exec
  have hb := B9.bytes
  have hr := B9.returns
  have hlocks := B9.notSynchronized
  have hts := atoms_spec (ws := Cond.code y cc maxL (some .int) :: Ts) B9.pre
  rw [lg_entry_eq]
  refine body p e s m below meth c _ ⟨⟨hx, hb, hml, by rw [← hown]; exact findClass_of_methodNamed B9.named, fun w hw => hts w (List.mem_cons_of_mem _ hw)⟩, hK, hsz, hZ, hZm⟩ (name_of_methodNamed B9.named B9.method).1 (fun cells slots ad1 g1 lv v pc h1 h2 hd hp H locs ls hl hP hD hS => ?_) s.heap [] _ (lv_entry As hlen) hP hD va_S.rf
  refine W.widen h1 h2 ?_
  exact W.iret hx hb hr (fun t ht hW => ⟨⟨v, (ad1, g1), rfl, hp, by rw [ht]; exact hP, hD⟩, hS.F ht⟩) hS.2.2 hd
theorem ofZ {post : Bool → (Nat → Nat) → (Nat → va_E) → Prop} (hy : plainName y.cls = true) (hown : y.cls = own) (hlen : (lg_sl As).length ≤ maxL)
    (body : ∀ (p : Program) (e : Env) (s : State) (m : MethodId) (below : List Frame) (meth : Method) (c : Code) (Q : State → Prop), Cx p m c s As.toArray cc maxL own Ts s.heap B D cl tys Z → meth.name = y.name → (∀ (cells slots : Nat) (ad1 : Nat → Nat) (g1 : Nat → va_E) (lv : List (Nat × Value)) (v : Bool) (pc : Nat), cells ≤ mc → slots ≤ ms → decode cc pc = .ok (.ireturn, 1) → post v ad1 g1 → kV p l e rm s m As.toArray below meth c Q s.heap B D cl maxL N2 cells slots ad1 g1 lv [.int (bI v)] pc) → kV p l e rm s m As.toArray below meth c Q s.heap B D cl maxL N 0 0 ad g (lv_args 0 As) [] 0) : Met l y (Cond.code y cc maxL (some .boolean) :: Ts) rm (wPc B D cl tys Z N As ad g) (QI B D cl N2 (fun v ad1 g1 => ∃ b, v = bI b ∧ post b ad1 g1)) mc ms (aB B) := by
  refine Met.ofW (cc := cc) (maxL := maxL) (ret := some .boolean) hy rfl ?_
  intro p e s m args below meth c s₁ B9 hml hv
  obtain ⟨rfl, hsz, hK, hZ, hZm, hP, hD⟩ := hv
  have hx := B9.exec
  have hb := B9.bytes
  have hr := B9.returns
  have hlocks := B9.notSynchronized
  have hts := atoms_spec (ws := Cond.code y cc maxL (some .boolean) :: Ts) B9.pre
  rw [lg_entry_eq]
  refine body p e s m below meth c _ ⟨⟨hx, hb, hml, by rw [← hown]; exact findClass_of_methodNamed B9.named, fun w hw => hts w (List.mem_cons_of_mem _ hw)⟩, hK, hsz, hZ, hZm⟩ (name_of_methodNamed B9.named B9.method).1 (fun cells slots ad1 g1 lv v pc h1 h2 hd hp H locs ls hl hP hD hS => ?_) s.heap [] _ (lv_entry As hlen) hP hD va_S.rf
  refine W.widen h1 h2 ?_
  exact W.zret hx hb hr (bI_n v) (fun t ht hW => ⟨⟨bI v, (ad1, g1), rfl, ⟨v, rfl, hp⟩, by rw [ht]; exact hP, hD⟩, hS.F ht⟩) hS.2.2 hd
theorem ofV {post : (Nat → Nat) → (Nat → va_E) → Prop} (hy : plainName y.cls = true) (hown : y.cls = own) (hlen : (lg_sl As).length ≤ maxL)
    (body : ∀ (p : Program) (e : Env) (s : State) (m : MethodId) (below : List Frame) (meth : Method) (c : Code) (Q : State → Prop), Cx p m c s As.toArray cc maxL own Ts s.heap B D cl tys Z → meth.name = y.name → (∀ (cells slots : Nat) (ad1 : Nat → Nat) (g1 : Nat → va_E) (lv : List (Nat × Value)) (pc : Nat), cells ≤ mc → slots ≤ ms → decode cc pc = .ok (.return_, 1) → post ad1 g1 → kV p l e rm s m As.toArray below meth c Q s.heap B D cl maxL N2 cells slots ad1 g1 lv [] pc) → kV p l e rm s m As.toArray below meth c Q s.heap B D cl maxL N 0 0 ad g (lv_args 0 As) [] 0) : Met l y (Cond.code y cc maxL (none) :: Ts) rm (wPc B D cl tys Z N As ad g) (QV B D cl N2 post) mc ms (aB B) := by
  refine Met.ofW (cc := cc) (maxL := maxL) (ret := none) hy rfl ?_
  intro p e s m args below meth c s₁ B9 hml hv
  obtain ⟨rfl, hsz, hK, hZ, hZm, hP, hD⟩ := hv
  have hx := B9.exec
  have hb := B9.bytes
  have hr := B9.returns
  have hlocks := B9.notSynchronized
  have hts := atoms_spec (ws := Cond.code y cc maxL (none) :: Ts) B9.pre
  rw [lg_entry_eq]
  refine body p e s m below meth c _ ⟨⟨hx, hb, hml, by rw [← hown]; exact findClass_of_methodNamed B9.named, fun w hw => hts w (List.mem_cons_of_mem _ hw)⟩, hK, hsz, hZ, hZm⟩ (name_of_methodNamed B9.named B9.method).1 (fun cells slots ad1 g1 lv pc h1 h2 hd hp H locs ls hl hP hD hS => ?_) s.heap [] _ (lv_entry As hlen) hP hD va_S.rf
  refine W.widen h1 h2 ?_
  exact W.vret hx hb hr (fun t ht hW => ⟨⟨(ad1, g1), rfl, hp, by rw [ht]; exact hP, hD⟩, hS.F ht⟩) hS.2.2 hd
theorem ofXI {post : Int32 → (Nat → Nat) → (Nat → va_E) → Prop} (hy : plainName y.cls = true) (hown : y.cls = own) (hlen : (lg_sl As).length ≤ maxL)
    (body : ∀ (p : Program) (e : Env) (s : State) (m : MethodId) (below : List Frame) (meth : Method) (c : Code) (Q : State → Prop), Cx p m c s As.toArray cc maxL own Ts s.heap B D cl tys Z → meth.locks = false → (∀ x ∈ c.exceptionTable.toList, False) → Q = vx_MQ below (QI B D cl N2 post) (QX B D cl N xp ad g) As.toArray s mc ms (aB B) → (∀ (cells slots : Nat) (ad1 : Nat → Nat) (g1 : Nat → va_E) (lv : List (Nat × Value)) (v : Int32) (pc : Nat), cells ≤ mc → slots ≤ ms → decode cc pc = .ok (.ireturn, 1) → post v ad1 g1 → kV p l e rm s m As.toArray below meth c Q s.heap B D cl maxL N2 cells slots ad1 g1 lv [.int v] pc) → (∀ (E : String) (cells slots : Nat) (lv : List (Nat × Value)) (st : List Value) (pc : Nat), xp E → cells ≤ mc → slots ≤ ms → kX p l e rm s m As.toArray below meth c Q s.heap B D cl maxL N cells slots ad g lv st pc E) → kV p l e rm s m As.toArray below meth c Q s.heap B D cl maxL N 0 0 ad g (lv_args 0 As) [] 0) : vx_Met l y (Cond.code y cc maxL (some .int) :: Ts) rm (wPc B D cl tys Z N As ad g) (QI B D cl N2 post) (QX B D cl N xp ad g) mc ms (aB B) := by
  refine vx_ofW (cc := cc) (maxL := maxL) (ret := some .int) hy rfl ?_
  intro p e s m args below meth c s₁ B9 hml htab hv
  obtain ⟨rfl, hsz, hK, hZ, hZm, hP, hD⟩ := hv
  have hx := B9.exec
  have hb := B9.bytes
  have hr := B9.returns
  have hlocks := B9.notSynchronized
  have hts := atoms_spec (ws := Cond.code y cc maxL (some .int) :: Ts) B9.pre
  rw [lg_entry_eq]
  refine body p e s m below meth c _ ⟨⟨hx, hb, hml, by rw [← hown]; exact findClass_of_methodNamed B9.named, fun w hw => hts w (List.mem_cons_of_mem _ hw)⟩, hK, hsz, hZ, hZm⟩ hlocks htab rfl (fun cells slots ad1 g1 lv v pc h1 h2 hd hp H locs ls hl hP hD hS => ?_) (fun E cells slots lv st pc hE h1 h2 H locs ls hl hP hD hS q ce hce hcv hcl => ?_) s.heap [] _ (lv_entry As hlen) hP hD va_S.rf
  · refine W.widen h1 h2 (vx_ret ?_)
    exact W.iret hx hb hr (fun t ht hW => ⟨⟨v, (ad1, g1), rfl, hp, by rw [ht]; exact hP, hD⟩, hS.F ht⟩) hS.2.2 hd
  · exact vx_out (fun x hx => (htab x hx).elim) hlocks hce hcv hcl (fun t ht ha => ⟨(), trivial, ⟨hE, by rw [ht]; exact hP, hD⟩, hS.F ht⟩) hS.2.2 h1 h2
theorem ofXZ {post : Bool → (Nat → Nat) → (Nat → va_E) → Prop} (hy : plainName y.cls = true) (hown : y.cls = own) (hlen : (lg_sl As).length ≤ maxL)
    (body : ∀ (p : Program) (e : Env) (s : State) (m : MethodId) (below : List Frame) (meth : Method) (c : Code) (Q : State → Prop), Cx p m c s As.toArray cc maxL own Ts s.heap B D cl tys Z → meth.locks = false → (∀ x ∈ c.exceptionTable.toList, False) → Q = vx_MQ below (QI B D cl N2 (fun v ad1 g1 => ∃ b, v = bI b ∧ post b ad1 g1)) (QX B D cl N xp ad g) As.toArray s mc ms (aB B) → (∀ (cells slots : Nat) (ad1 : Nat → Nat) (g1 : Nat → va_E) (lv : List (Nat × Value)) (v : Bool) (pc : Nat), cells ≤ mc → slots ≤ ms → decode cc pc = .ok (.ireturn, 1) → post v ad1 g1 → kV p l e rm s m As.toArray below meth c Q s.heap B D cl maxL N2 cells slots ad1 g1 lv [.int (bI v)] pc) → (∀ (E : String) (cells slots : Nat) (lv : List (Nat × Value)) (st : List Value) (pc : Nat), xp E → cells ≤ mc → slots ≤ ms → kX p l e rm s m As.toArray below meth c Q s.heap B D cl maxL N cells slots ad g lv st pc E) → kV p l e rm s m As.toArray below meth c Q s.heap B D cl maxL N 0 0 ad g (lv_args 0 As) [] 0) : vx_Met l y (Cond.code y cc maxL (some .boolean) :: Ts) rm (wPc B D cl tys Z N As ad g) (QI B D cl N2 (fun v ad1 g1 => ∃ b, v = bI b ∧ post b ad1 g1)) (QX B D cl N xp ad g) mc ms (aB B) := by
  refine vx_ofW (cc := cc) (maxL := maxL) (ret := some .boolean) hy rfl ?_
  intro p e s m args below meth c s₁ B9 hml htab hv
  obtain ⟨rfl, hsz, hK, hZ, hZm, hP, hD⟩ := hv
  have hx := B9.exec
  have hb := B9.bytes
  have hr := B9.returns
  have hlocks := B9.notSynchronized
  have hts := atoms_spec (ws := Cond.code y cc maxL (some .boolean) :: Ts) B9.pre
  rw [lg_entry_eq]
  refine body p e s m below meth c _ ⟨⟨hx, hb, hml, by rw [← hown]; exact findClass_of_methodNamed B9.named, fun w hw => hts w (List.mem_cons_of_mem _ hw)⟩, hK, hsz, hZ, hZm⟩ hlocks htab rfl (fun cells slots ad1 g1 lv v pc h1 h2 hd hp H locs ls hl hP hD hS => ?_) (fun E cells slots lv st pc hE h1 h2 H locs ls hl hP hD hS q ce hce hcv hcl => ?_) s.heap [] _ (lv_entry As hlen) hP hD va_S.rf
  · refine W.widen h1 h2 (vx_ret ?_)
    exact W.zret hx hb hr (bI_n v) (fun t ht hW => ⟨⟨bI v, (ad1, g1), rfl, ⟨v, rfl, hp⟩, by rw [ht]; exact hP, hD⟩, hS.F ht⟩) hS.2.2 hd
  · exact vx_out (fun x hx => (htab x hx).elim) hlocks hce hcv hcl (fun t ht ha => ⟨(), trivial, ⟨hE, by rw [ht]; exact hP, hD⟩, hS.F ht⟩) hS.2.2 h1 h2
theorem ofXV {post : (Nat → Nat) → (Nat → va_E) → Prop} (hy : plainName y.cls = true) (hown : y.cls = own) (hlen : (lg_sl As).length ≤ maxL)
    (body : ∀ (p : Program) (e : Env) (s : State) (m : MethodId) (below : List Frame) (meth : Method) (c : Code) (Q : State → Prop), Cx p m c s As.toArray cc maxL own Ts s.heap B D cl tys Z → meth.locks = false → (∀ x ∈ c.exceptionTable.toList, False) → Q = vx_MQ below (QV B D cl N2 post) (QX B D cl N xp ad g) As.toArray s mc ms (aB B) → (∀ (cells slots : Nat) (ad1 : Nat → Nat) (g1 : Nat → va_E) (lv : List (Nat × Value)) (pc : Nat), cells ≤ mc → slots ≤ ms → decode cc pc = .ok (.return_, 1) → post ad1 g1 → kV p l e rm s m As.toArray below meth c Q s.heap B D cl maxL N2 cells slots ad1 g1 lv [] pc) → (∀ (E : String) (cells slots : Nat) (lv : List (Nat × Value)) (st : List Value) (pc : Nat), xp E → cells ≤ mc → slots ≤ ms → kX p l e rm s m As.toArray below meth c Q s.heap B D cl maxL N cells slots ad g lv st pc E) → kV p l e rm s m As.toArray below meth c Q s.heap B D cl maxL N 0 0 ad g (lv_args 0 As) [] 0) : vx_Met l y (Cond.code y cc maxL (none) :: Ts) rm (wPc B D cl tys Z N As ad g) (QV B D cl N2 post) (QX B D cl N xp ad g) mc ms (aB B) := by
  refine vx_ofW (cc := cc) (maxL := maxL) (ret := none) hy rfl ?_
  intro p e s m args below meth c s₁ B9 hml htab hv
  obtain ⟨rfl, hsz, hK, hZ, hZm, hP, hD⟩ := hv
  have hx := B9.exec
  have hb := B9.bytes
  have hr := B9.returns
  have hlocks := B9.notSynchronized
  have hts := atoms_spec (ws := Cond.code y cc maxL (none) :: Ts) B9.pre
  rw [lg_entry_eq]
  refine body p e s m below meth c _ ⟨⟨hx, hb, hml, by rw [← hown]; exact findClass_of_methodNamed B9.named, fun w hw => hts w (List.mem_cons_of_mem _ hw)⟩, hK, hsz, hZ, hZm⟩ hlocks htab rfl (fun cells slots ad1 g1 lv pc h1 h2 hd hp H locs ls hl hP hD hS => ?_) (fun E cells slots lv st pc hE h1 h2 H locs ls hl hP hD hS q ce hce hcv hcl => ?_) s.heap [] _ (lv_entry As hlen) hP hD va_S.rf
  · refine W.widen h1 h2 (vx_ret ?_)
    exact W.vret hx hb hr (fun t ht hW => ⟨⟨(ad1, g1), rfl, hp, by rw [ht]; exact hP, hD⟩, hS.F ht⟩) hS.2.2 hd
  · exact vx_out (fun x hx => (htab x hx).elim) hlocks hce hcv hcl (fun t ht ha => ⟨(), trivial, ⟨hE, by rw [ht]; exact hP, hD⟩, hS.F ht⟩) hS.2.2 h1 h2
theorem v_callSI {post : Int32 → (Nat → Nat) → (Nat → va_E) → Prop} (C : Cx p m c s args cc nL own Ts H0 B D cl tys Z) (hM : Met l y ws rm (wPc B D cl tys Z N (As) ad g) (QI B D cl N2 post) mc ms (aB B)) (cw : CallB R s args own index y bytes maxL ret ws rm mc ms n ∧ (Cond.static y).before args s = true) (hAs : As.length = n) (hst : st0 = As.reverse ++ st) (hW : (st.map fun v => v.category).sum ≤ 8) (hd : decode cc pc = .ok (.invokestatic index, 3) ∧ pc + 3 = pc2) (hf : cells + mc ≤ R.cells ∧ slots + ms ≤ R.slots) (k : ∀ (v : Int32) (ad1 : Nat → Nat) (g1 : Nat → va_E), post v ad1 g1 → kV p l e R s m args below meth c Q H0 B D cl nL N2 (cells + mc) (slots + ms) ad1 g1 lv (.int v :: st) pc2) : kV p l e R s m args below meth c Q H0 B D cl nL N cells slots ad g lv st0 pc := fun H locs ls hl hP hD hS => by
  obtain ⟨hd, rfl⟩ := hd
  refine va_calli (va_runS (As := As) (rest := st) C.1 hM cw ⟨wPc_blind, wPre C hP hD hS⟩ rfl hAs hl.1 hst (lv_room hW) hd hf) hS (fun q _ h => h) (fun q h => h) (fun v u t H1 locs1 ht hvm hp hB hz hk hS1 => ?_)
  obtain ⟨hP1, hD1⟩ := hB
  rw [ht] at hP1
  exact k v u.1 u.2 hp H1 locs1 ls hl hP1 hD1 hS1
theorem v_callSV {post : (Nat → Nat) → (Nat → va_E) → Prop} (C : Cx p m c s args cc nL own Ts H0 B D cl tys Z) (hM : Met l y ws rm (wPc B D cl tys Z N (As) ad g) (QV B D cl N2 post) mc ms (aB B)) (cw : CallB R s args own index y bytes maxL ret ws rm mc ms n ∧ (Cond.static y).before args s = true) (hAs : As.length = n) (hst : st0 = As.reverse ++ st) (hW : (st.map fun v => v.category).sum ≤ 8) (hd : decode cc pc = .ok (.invokestatic index, 3) ∧ pc + 3 = pc2) (hf : cells + mc ≤ R.cells ∧ slots + ms ≤ R.slots) (k : ∀ (ad1 : Nat → Nat) (g1 : Nat → va_E), post ad1 g1 → kV p l e R s m args below meth c Q H0 B D cl nL N2 (cells + mc) (slots + ms) ad1 g1 lv st pc2) : kV p l e R s m args below meth c Q H0 B D cl nL N cells slots ad g lv st0 pc := fun H locs ls hl hP hD hS => by
  obtain ⟨hd, rfl⟩ := hd
  refine va_callv (va_runS (As := As) (rest := st) C.1 hM cw ⟨wPc_blind, wPre C hP hD hS⟩ rfl hAs hl.1 hst (lv_room hW) hd hf) hS (fun q _ h => h) (fun q h => h) (fun u t H1 locs1 ht hvm hp hB hz hk hS1 => ?_)
  obtain ⟨hP1, hD1⟩ := hB
  rw [ht] at hP1
  exact k u.1 u.2 hp H1 locs1 ls hl hP1 hD1 hS1
theorem v_callSNI {post : Int32 → (Nat → Nat) → (Nat → va_E) → Prop} (C : Cx p m c s args cc nL own Ts H0 B D cl tys Z) (hM : Met l y ws rm (wPc B D cl tys Z N (As) ad g) (QI B D cl N2 post) mc ms (aB B)) (cw : va_CN R s args own index y host bytes maxL ret ws rm mc ms n ∧ (Cond.static y).before args s = true ∧ True) (hAs : As.length = n) (hst : st0 = As.reverse ++ st) (hW : (st.map fun v => v.category).sum ≤ 8) (hd : decode cc pc = .ok (.invokestatic index, 3) ∧ pc + 3 = pc2) (hf : cells + mc ≤ R.cells ∧ slots + ms ≤ R.slots) (k : ∀ (v : Int32) (ad1 : Nat → Nat) (g1 : Nat → va_E), post v ad1 g1 → kV p l e R s m args below meth c Q H0 B D cl nL N2 (cells + mc) (slots + ms) ad1 g1 lv (.int v :: st) pc2) : kV p l e R s m args below meth c Q H0 B D cl nL N cells slots ad g lv st0 pc := fun H locs ls hl hP hD hS => by
  obtain ⟨hd, rfl⟩ := hd
  refine va_calli (va_runSN (As := As) (rest := st) C.1 hM cw ⟨wPc_blind, wPre C hP hD hS⟩ rfl hAs hl.1 hst (lv_room hW) hd hf) hS (fun q _ h => h) (fun q h => h) (fun v u t H1 locs1 ht hvm hp hB hz hk hS1 => ?_)
  obtain ⟨hP1, hD1⟩ := hB
  rw [ht] at hP1
  exact k v u.1 u.2 hp H1 locs1 ls hl hP1 hD1 hS1
theorem v_callSNV {post : (Nat → Nat) → (Nat → va_E) → Prop} (C : Cx p m c s args cc nL own Ts H0 B D cl tys Z) (hM : Met l y ws rm (wPc B D cl tys Z N (As) ad g) (QV B D cl N2 post) mc ms (aB B)) (cw : va_CN R s args own index y host bytes maxL ret ws rm mc ms n ∧ (Cond.static y).before args s = true ∧ True) (hAs : As.length = n) (hst : st0 = As.reverse ++ st) (hW : (st.map fun v => v.category).sum ≤ 8) (hd : decode cc pc = .ok (.invokestatic index, 3) ∧ pc + 3 = pc2) (hf : cells + mc ≤ R.cells ∧ slots + ms ≤ R.slots) (k : ∀ (ad1 : Nat → Nat) (g1 : Nat → va_E), post ad1 g1 → kV p l e R s m args below meth c Q H0 B D cl nL N2 (cells + mc) (slots + ms) ad1 g1 lv st pc2) : kV p l e R s m args below meth c Q H0 B D cl nL N cells slots ad g lv st0 pc := fun H locs ls hl hP hD hS => by
  obtain ⟨hd, rfl⟩ := hd
  refine va_callv (va_runSN (As := As) (rest := st) C.1 hM cw ⟨wPc_blind, wPre C hP hD hS⟩ rfl hAs hl.1 hst (lv_room hW) hd hf) hS (fun q _ h => h) (fun q h => h) (fun u t H1 locs1 ht hvm hp hB hz hk hS1 => ?_)
  obtain ⟨hP1, hD1⟩ := hB
  rw [ht] at hP1
  exact k u.1 u.2 hp H1 locs1 ls hl hP1 hD1 hS1
theorem v_callVI {post : Int32 → (Nat → Nat) → (Nat → va_E) → Prop} {r0 ci : Nat} {q0 : vw_C} {fs : List Value} (hr : r0 < N) (hg : g r0 = .inr (ci, fs)) (hcl : cl[ci]? = some q0) (hC0 : q0.1 = C0) (C : Cx p m c s args cc nL own Ts H0 B D cl tys Z) (hM : Met l y ws rm (wPc B D cl tys Z N (.ref (ad r0) :: As) ad g) (QI B D cl N2 post) mc ms (aB B)) (cw : CallW R s args own C0 index y bytes maxL ret ws rm mc ms n) (hAs : As.length = n) (hst : st0 = As.reverse ++ .ref (ad r0) :: st) (hW : (st.map fun v => v.category).sum ≤ 8) (hd : decode cc pc = .ok (.invokevirtual index, 3) ∧ pc + 3 = pc2) (hf : cells + mc ≤ R.cells ∧ slots + ms ≤ R.slots) (k : ∀ (v : Int32) (ad1 : Nat → Nat) (g1 : Nat → va_E), post v ad1 g1 → kV p l e R s m args below meth c Q H0 B D cl nL N2 (cells + mc) (slots + ms) ad1 g1 lv (.int v :: st) pc2) : kV p l e R s m args below meth c Q H0 B D cl nL N cells slots ad g lv st0 pc := fun H locs ls hl hP hD hS => by
  obtain ⟨hd, rfl⟩ := hd
  refine va_calli (va_runV (As := As) (rest := st) C.1 hM cw ⟨wPc_blind, by rw [← hC0]; exact wRecv C hP hr hg hcl, wPre C hP hD hS⟩ rfl hAs hl.1 hst (lv_room hW) hd hf) hS (fun q _ h => h) (fun q h => h) (fun v u t H1 locs1 ht hvm hp hB hz hk hS1 => ?_)
  obtain ⟨hP1, hD1⟩ := hB
  rw [ht] at hP1
  exact k v u.1 u.2 hp H1 locs1 ls hl hP1 hD1 hS1
theorem v_callVV {post : (Nat → Nat) → (Nat → va_E) → Prop} {r0 ci : Nat} {q0 : vw_C} {fs : List Value} (hr : r0 < N) (hg : g r0 = .inr (ci, fs)) (hcl : cl[ci]? = some q0) (hC0 : q0.1 = C0) (C : Cx p m c s args cc nL own Ts H0 B D cl tys Z) (hM : Met l y ws rm (wPc B D cl tys Z N (.ref (ad r0) :: As) ad g) (QV B D cl N2 post) mc ms (aB B)) (cw : CallW R s args own C0 index y bytes maxL ret ws rm mc ms n) (hAs : As.length = n) (hst : st0 = As.reverse ++ .ref (ad r0) :: st) (hW : (st.map fun v => v.category).sum ≤ 8) (hd : decode cc pc = .ok (.invokevirtual index, 3) ∧ pc + 3 = pc2) (hf : cells + mc ≤ R.cells ∧ slots + ms ≤ R.slots) (k : ∀ (ad1 : Nat → Nat) (g1 : Nat → va_E), post ad1 g1 → kV p l e R s m args below meth c Q H0 B D cl nL N2 (cells + mc) (slots + ms) ad1 g1 lv st pc2) : kV p l e R s m args below meth c Q H0 B D cl nL N cells slots ad g lv st0 pc := fun H locs ls hl hP hD hS => by
  obtain ⟨hd, rfl⟩ := hd
  refine va_callv (va_runV (As := As) (rest := st) C.1 hM cw ⟨wPc_blind, by rw [← hC0]; exact wRecv C hP hr hg hcl, wPre C hP hD hS⟩ rfl hAs hl.1 hst (lv_room hW) hd hf) hS (fun q _ h => h) (fun q h => h) (fun u t H1 locs1 ht hvm hp hB hz hk hS1 => ?_)
  obtain ⟨hP1, hD1⟩ := hB
  rw [ht] at hP1
  exact k u.1 u.2 hp H1 locs1 ls hl hP1 hD1 hS1
theorem v_callVNI {post : Int32 → (Nat → Nat) → (Nat → va_E) → Prop} {r0 ci : Nat} {q0 : vw_C} {fs : List Value} (hr : r0 < N) (hg : g r0 = .inr (ci, fs)) (hcl : cl[ci]? = some q0) (hC0 : q0.1 = C0) (C : Cx p m c s args cc nL own Ts H0 B D cl tys Z) (hM : Met l y ws rm (wPc B D cl tys Z N (.ref (ad r0) :: As) ad g) (QI B D cl N2 post) mc ms (aB B)) (cw : va_CN R s args own index y host bytes maxL ret ws rm mc ms n ∧ (Cond.instanceMethod y).before args s = true ∧ (Cond.selects C0 y y).before args s = true) (hAs : As.length = n) (hst : st0 = As.reverse ++ .ref (ad r0) :: st) (hW : (st.map fun v => v.category).sum ≤ 8) (hd : decode cc pc = .ok (.invokevirtual index, 3) ∧ pc + 3 = pc2) (hf : cells + mc ≤ R.cells ∧ slots + ms ≤ R.slots) (k : ∀ (v : Int32) (ad1 : Nat → Nat) (g1 : Nat → va_E), post v ad1 g1 → kV p l e R s m args below meth c Q H0 B D cl nL N2 (cells + mc) (slots + ms) ad1 g1 lv (.int v :: st) pc2) : kV p l e R s m args below meth c Q H0 B D cl nL N cells slots ad g lv st0 pc := fun H locs ls hl hP hD hS => by
  obtain ⟨hd, rfl⟩ := hd
  refine va_calli (va_runVN (As := As) (rest := st) C.1 hM cw ⟨wPc_blind, by rw [← hC0]; exact wRecv C hP hr hg hcl, wPre C hP hD hS⟩ rfl hAs hl.1 hst (lv_room hW) hd hf) hS (fun q _ h => h) (fun q h => h) (fun v u t H1 locs1 ht hvm hp hB hz hk hS1 => ?_)
  obtain ⟨hP1, hD1⟩ := hB
  rw [ht] at hP1
  exact k v u.1 u.2 hp H1 locs1 ls hl hP1 hD1 hS1
theorem v_callVNV {post : (Nat → Nat) → (Nat → va_E) → Prop} {r0 ci : Nat} {q0 : vw_C} {fs : List Value} (hr : r0 < N) (hg : g r0 = .inr (ci, fs)) (hcl : cl[ci]? = some q0) (hC0 : q0.1 = C0) (C : Cx p m c s args cc nL own Ts H0 B D cl tys Z) (hM : Met l y ws rm (wPc B D cl tys Z N (.ref (ad r0) :: As) ad g) (QV B D cl N2 post) mc ms (aB B)) (cw : va_CN R s args own index y host bytes maxL ret ws rm mc ms n ∧ (Cond.instanceMethod y).before args s = true ∧ (Cond.selects C0 y y).before args s = true) (hAs : As.length = n) (hst : st0 = As.reverse ++ .ref (ad r0) :: st) (hW : (st.map fun v => v.category).sum ≤ 8) (hd : decode cc pc = .ok (.invokevirtual index, 3) ∧ pc + 3 = pc2) (hf : cells + mc ≤ R.cells ∧ slots + ms ≤ R.slots) (k : ∀ (ad1 : Nat → Nat) (g1 : Nat → va_E), post ad1 g1 → kV p l e R s m args below meth c Q H0 B D cl nL N2 (cells + mc) (slots + ms) ad1 g1 lv st pc2) : kV p l e R s m args below meth c Q H0 B D cl nL N cells slots ad g lv st0 pc := fun H locs ls hl hP hD hS => by
  obtain ⟨hd, rfl⟩ := hd
  refine va_callv (va_runVN (As := As) (rest := st) C.1 hM cw ⟨wPc_blind, by rw [← hC0]; exact wRecv C hP hr hg hcl, wPre C hP hD hS⟩ rfl hAs hl.1 hst (lv_room hW) hd hf) hS (fun q _ h => h) (fun q h => h) (fun u t H1 locs1 ht hvm hp hB hz hk hS1 => ?_)
  obtain ⟨hP1, hD1⟩ := hB
  rw [ht] at hP1
  exact k u.1 u.2 hp H1 locs1 ls hl hP1 hD1 hS1
theorem v_callIV {post : (Nat → Nat) → (Nat → va_E) → Prop} {r0 : Nat} (C : Cx p m c s args cc nL own Ts H0 B D cl tys Z) (hM : Met l y ws rm (wPc B D cl tys Z N (.ref (ad r0) :: As) ad g) (QV B D cl N2 post) mc ms (aB B)) (cw : CallB R s args own index y bytes maxL none ws rm mc ms n ∧ y.name = "<init>" ∧ (Cond.instanceMethod y).before args s = true) (hAs : As.length = n) (hst : st0 = As.reverse ++ .ref (ad r0) :: st) (hW : (st.map fun v => v.category).sum ≤ 8) (hd : decode cc pc = .ok (.invokespecial index, 3) ∧ pc + 3 = pc2) (hf : cells + mc ≤ R.cells ∧ slots + ms ≤ R.slots) (k : ∀ (ad1 : Nat → Nat) (g1 : Nat → va_E), post ad1 g1 → kV p l e R s m args below meth c Q H0 B D cl nL N2 (cells + mc) (slots + ms) ad1 g1 lv st pc2) : kV p l e R s m args below meth c Q H0 B D cl nL N cells slots ad g lv st0 pc := fun H locs ls hl hP hD hS => by
  obtain ⟨hd, rfl⟩ := hd
  refine va_callv (va_runI (As := As) (rest := st) C.1 hM cw ⟨wPc_blind, wPre C hP hD hS⟩ rfl hAs hl.1 hst (lv_room hW) hd hf) hS (fun q _ h => h) (fun q h => h) (fun u t H1 locs1 ht hvm hp hB hz hk hS1 => ?_)
  obtain ⟨hP1, hD1⟩ := hB
  rw [ht] at hP1
  exact k u.1 u.2 hp H1 locs1 ls hl hP1 hD1 hS1
theorem v_callINV {post : (Nat → Nat) → (Nat → va_E) → Prop} {r0 : Nat} (C : Cx p m c s args cc nL own Ts H0 B D cl tys Z) (hM : Met l y ws rm (wPc B D cl tys Z N (.ref (ad r0) :: As) ad g) (QV B D cl N2 post) mc ms (aB B)) (cw : va_CN R s args own index y host bytes maxL none ws rm mc ms n ∧ y.name = "<init>" ∧ (Cond.instanceMethod y).before args s = true) (hAs : As.length = n) (hst : st0 = As.reverse ++ .ref (ad r0) :: st) (hW : (st.map fun v => v.category).sum ≤ 8) (hd : decode cc pc = .ok (.invokespecial index, 3) ∧ pc + 3 = pc2) (hf : cells + mc ≤ R.cells ∧ slots + ms ≤ R.slots) (k : ∀ (ad1 : Nat → Nat) (g1 : Nat → va_E), post ad1 g1 → kV p l e R s m args below meth c Q H0 B D cl nL N2 (cells + mc) (slots + ms) ad1 g1 lv st pc2) : kV p l e R s m args below meth c Q H0 B D cl nL N cells slots ad g lv st0 pc := fun H locs ls hl hP hD hS => by
  obtain ⟨hd, rfl⟩ := hd
  refine va_callv (va_runIN (As := As) (rest := st) C.1 hM cw ⟨wPc_blind, wPre C hP hD hS⟩ rfl hAs hl.1 hst (lv_room hW) hd hf) hS (fun q _ h => h) (fun q h => h) (fun u t H1 locs1 ht hvm hp hB hz hk hS1 => ?_)
  obtain ⟨hP1, hD1⟩ := hB
  rw [ht] at hP1
  exact k u.1 u.2 hp H1 locs1 ls hl hP1 hD1 hS1
theorem v_xcallSI {post : Int32 → (Nat → Nat) → (Nat → va_E) → Prop} (C : Cx p m c s args cc nL own Ts H0 B D cl tys Z) (hM : vx_Met l y ws rm (wPc B D cl tys Z N (As) ad g) (QI B D cl N2 post) (QX B D cl N xp ad g) mc ms (aB B)) (cw : CallB R s args own index y bytes maxL ret ws rm mc ms n ∧ (Cond.static y).before args s = true) (hAs : As.length = n) (hst : st0 = As.reverse ++ st) (hW : (st.map fun v => v.category).sum ≤ 8) (hd : decode cc pc = .ok (.invokestatic index, 3) ∧ pc + 3 = pc2) (hf : cells + mc ≤ R.cells ∧ slots + ms ≤ R.slots) (kx : ∀ E : String, xp E → kX p l e R s m args below meth c Q H0 B D cl nL N (cells + mc) (slots + ms) ad g lv st pc E) (k : ∀ (v : Int32) (ad1 : Nat → Nat) (g1 : Nat → va_E), post v ad1 g1 → kV p l e R s m args below meth c Q H0 B D cl nL N2 (cells + mc) (slots + ms) ad1 g1 lv (.int v :: st) pc2) : kV p l e R s m args below meth c Q H0 B D cl nL N cells slots ad g lv st0 pc := fun H locs ls hl hP hD hS => by
  obtain ⟨hd, rfl⟩ := hd
  refine vx_calli (vx_runS (As := As) (rest := st) C.1 hM cw ⟨wPc_blind, wPre C hP hD hS⟩ rfl hAs hl.1 hst (lv_room hW) hd hf) hS (fun q _ h => h) (fun q h => h) (fun q _ h => h) (fun E ce q9 u t H1 locs1 ht hvm hpx hB hz hk hS1 hce hcv hcl9 => ?_) (fun v u t H1 locs1 ht hvm hp hB hz hk hS1 => ?_)
  · obtain ⟨hE, hP1, hD1⟩ := hB
    rw [ht] at hP1
    exact kx E hE H1 locs1 ls hl hP1 hD1 hS1 q9 ce hce hcv hcl9
  · obtain ⟨hP1, hD1⟩ := hB
    rw [ht] at hP1
    exact k v u.1 u.2 hp H1 locs1 ls hl hP1 hD1 hS1
theorem v_xcallSV {post : (Nat → Nat) → (Nat → va_E) → Prop} (C : Cx p m c s args cc nL own Ts H0 B D cl tys Z) (hM : vx_Met l y ws rm (wPc B D cl tys Z N (As) ad g) (QV B D cl N2 post) (QX B D cl N xp ad g) mc ms (aB B)) (cw : CallB R s args own index y bytes maxL ret ws rm mc ms n ∧ (Cond.static y).before args s = true) (hAs : As.length = n) (hst : st0 = As.reverse ++ st) (hW : (st.map fun v => v.category).sum ≤ 8) (hd : decode cc pc = .ok (.invokestatic index, 3) ∧ pc + 3 = pc2) (hf : cells + mc ≤ R.cells ∧ slots + ms ≤ R.slots) (kx : ∀ E : String, xp E → kX p l e R s m args below meth c Q H0 B D cl nL N (cells + mc) (slots + ms) ad g lv st pc E) (k : ∀ (ad1 : Nat → Nat) (g1 : Nat → va_E), post ad1 g1 → kV p l e R s m args below meth c Q H0 B D cl nL N2 (cells + mc) (slots + ms) ad1 g1 lv st pc2) : kV p l e R s m args below meth c Q H0 B D cl nL N cells slots ad g lv st0 pc := fun H locs ls hl hP hD hS => by
  obtain ⟨hd, rfl⟩ := hd
  refine vx_callv (vx_runS (As := As) (rest := st) C.1 hM cw ⟨wPc_blind, wPre C hP hD hS⟩ rfl hAs hl.1 hst (lv_room hW) hd hf) hS (fun q _ h => h) (fun q h => h) (fun q _ h => h) (fun E ce q9 u t H1 locs1 ht hvm hpx hB hz hk hS1 hce hcv hcl9 => ?_) (fun u t H1 locs1 ht hvm hp hB hz hk hS1 => ?_)
  · obtain ⟨hE, hP1, hD1⟩ := hB
    rw [ht] at hP1
    exact kx E hE H1 locs1 ls hl hP1 hD1 hS1 q9 ce hce hcv hcl9
  · obtain ⟨hP1, hD1⟩ := hB
    rw [ht] at hP1
    exact k u.1 u.2 hp H1 locs1 ls hl hP1 hD1 hS1
theorem v_xcallVI {post : Int32 → (Nat → Nat) → (Nat → va_E) → Prop} {r0 ci : Nat} {q0 : vw_C} {fs : List Value} (hr : r0 < N) (hg : g r0 = .inr (ci, fs)) (hcl : cl[ci]? = some q0) (hC0 : q0.1 = C0) (C : Cx p m c s args cc nL own Ts H0 B D cl tys Z) (hM : vx_Met l y ws rm (wPc B D cl tys Z N (.ref (ad r0) :: As) ad g) (QI B D cl N2 post) (QX B D cl N xp ad g) mc ms (aB B)) (cw : CallW R s args own C0 index y bytes maxL ret ws rm mc ms n) (hAs : As.length = n) (hst : st0 = As.reverse ++ .ref (ad r0) :: st) (hW : (st.map fun v => v.category).sum ≤ 8) (hd : decode cc pc = .ok (.invokevirtual index, 3) ∧ pc + 3 = pc2) (hf : cells + mc ≤ R.cells ∧ slots + ms ≤ R.slots) (kx : ∀ E : String, xp E → kX p l e R s m args below meth c Q H0 B D cl nL N (cells + mc) (slots + ms) ad g lv st pc E) (k : ∀ (v : Int32) (ad1 : Nat → Nat) (g1 : Nat → va_E), post v ad1 g1 → kV p l e R s m args below meth c Q H0 B D cl nL N2 (cells + mc) (slots + ms) ad1 g1 lv (.int v :: st) pc2) : kV p l e R s m args below meth c Q H0 B D cl nL N cells slots ad g lv st0 pc := fun H locs ls hl hP hD hS => by
  obtain ⟨hd, rfl⟩ := hd
  refine vx_calli (vx_runV (As := As) (rest := st) C.1 hM cw ⟨wPc_blind, by rw [← hC0]; exact wRecv C hP hr hg hcl, wPre C hP hD hS⟩ rfl hAs hl.1 hst (lv_room hW) hd hf) hS (fun q _ h => h) (fun q h => h) (fun q _ h => h) (fun E ce q9 u t H1 locs1 ht hvm hpx hB hz hk hS1 hce hcv hcl9 => ?_) (fun v u t H1 locs1 ht hvm hp hB hz hk hS1 => ?_)
  · obtain ⟨hE, hP1, hD1⟩ := hB
    rw [ht] at hP1
    exact kx E hE H1 locs1 ls hl hP1 hD1 hS1 q9 ce hce hcv hcl9
  · obtain ⟨hP1, hD1⟩ := hB
    rw [ht] at hP1
    exact k v u.1 u.2 hp H1 locs1 ls hl hP1 hD1 hS1
theorem v_xcallVV {post : (Nat → Nat) → (Nat → va_E) → Prop} {r0 ci : Nat} {q0 : vw_C} {fs : List Value} (hr : r0 < N) (hg : g r0 = .inr (ci, fs)) (hcl : cl[ci]? = some q0) (hC0 : q0.1 = C0) (C : Cx p m c s args cc nL own Ts H0 B D cl tys Z) (hM : vx_Met l y ws rm (wPc B D cl tys Z N (.ref (ad r0) :: As) ad g) (QV B D cl N2 post) (QX B D cl N xp ad g) mc ms (aB B)) (cw : CallW R s args own C0 index y bytes maxL ret ws rm mc ms n) (hAs : As.length = n) (hst : st0 = As.reverse ++ .ref (ad r0) :: st) (hW : (st.map fun v => v.category).sum ≤ 8) (hd : decode cc pc = .ok (.invokevirtual index, 3) ∧ pc + 3 = pc2) (hf : cells + mc ≤ R.cells ∧ slots + ms ≤ R.slots) (kx : ∀ E : String, xp E → kX p l e R s m args below meth c Q H0 B D cl nL N (cells + mc) (slots + ms) ad g lv st pc E) (k : ∀ (ad1 : Nat → Nat) (g1 : Nat → va_E), post ad1 g1 → kV p l e R s m args below meth c Q H0 B D cl nL N2 (cells + mc) (slots + ms) ad1 g1 lv st pc2) : kV p l e R s m args below meth c Q H0 B D cl nL N cells slots ad g lv st0 pc := fun H locs ls hl hP hD hS => by
  obtain ⟨hd, rfl⟩ := hd
  refine vx_callv (vx_runV (As := As) (rest := st) C.1 hM cw ⟨wPc_blind, by rw [← hC0]; exact wRecv C hP hr hg hcl, wPre C hP hD hS⟩ rfl hAs hl.1 hst (lv_room hW) hd hf) hS (fun q _ h => h) (fun q h => h) (fun q _ h => h) (fun E ce q9 u t H1 locs1 ht hvm hpx hB hz hk hS1 hce hcv hcl9 => ?_) (fun u t H1 locs1 ht hvm hp hB hz hk hS1 => ?_)
  · obtain ⟨hE, hP1, hD1⟩ := hB
    rw [ht] at hP1
    exact kx E hE H1 locs1 ls hl hP1 hD1 hS1 q9 ce hce hcv hcl9
  · obtain ⟨hP1, hD1⟩ := hB
    rw [ht] at hP1
    exact k u.1 u.2 hp H1 locs1 ls hl hP1 hD1 hS1
end CT
end
section
def R_A : String := "ShadowArchive"
def F_A : u_T := fun k => match k with
  | 0 => ("ShadowArchive", "w", "I", false)
  | 1 => ("ShadowArchive", "h", "I", false)
  | 2 => ("ShadowArchive", "picture", "[I", true)
  | 3 => ("ShadowArchive", "shelves", "[LShadowArchive$Shelf;", true)
  | 4 => ("ShadowArchive", "hasKept", "Z", false)
  | 5 => ("ShadowArchive", "kept", "[I", true)
  | 6 => ("ShadowArchive", "keptShelves", "[LShadowArchive$Shelf;", true)
  | 7 => ("ShadowArchive", "hasRebuilt", "Z", false)
  | 8 => ("ShadowArchive", "rebuilt", "[I", true)
  | 9 => ("ShadowArchive", "steps", "I", false)
  | 10 => ("ShadowArchive", "wrongBin", "I", false)
  | 11 => ("ShadowArchive", "draft", "[I", true)
  | 12 => ("ShadowArchive", "sheets", "[LShadowArchive$Worksheet;", true)
  | _ => ("ShadowArchive", "ghostCells", "[I", true)
def t_A : Nat → FieldType := fun k => match k with
  | 0 => .int
  | 1 => .int
  | 2 => .array .int
  | 3 => .array (.object "ShadowArchive$Shelf")
  | 4 => .boolean
  | 5 => .array .int
  | 6 => .array (.object "ShadowArchive$Shelf")
  | 7 => .boolean
  | 8 => .array .int
  | 9 => .int
  | 10 => .int
  | 11 => .array .int
  | 12 => .array (.object "ShadowArchive$Worksheet")
  | _ => .array .int
theorem n_A : ∀ a, a < 14 → ∀ b, b < 14 → a ≠ b → (F_A a).2.1 ≠ (F_A b).2.1 := by decide +kernel
theorem t_A_ok : ∀ k, k < 14 → parseFieldDescriptor (F_A k).2.2.1 = some (t_A k) := by decide +kernel
def R_S : String := "ShadowArchive$Shelf"
def F_S : u_T := fun k => match k with
  | 0 => ("ShadowArchive$Shelf", "aimed", "Z", false)
  | 1 => ("ShadowArchive$Shelf", "filled", "Z", false)
  | 2 => ("ShadowArchive$Shelf", "p", "I", false)
  | 3 => ("ShadowArchive$Shelf", "q", "I", false)
  | 4 => ("ShadowArchive$Shelf", "least", "I", false)
  | 5 => ("ShadowArchive$Shelf", "count", "I", false)
  | _ => ("ShadowArchive$Shelf", "bins", "[I", false)
def t_S : Nat → FieldType := fun k => match k with
  | 0 => .boolean
  | 1 => .boolean
  | 2 => .int
  | 3 => .int
  | 4 => .int
  | 5 => .int
  | _ => .array .int
theorem n_S : ∀ a, a < 7 → ∀ b, b < 7 → a ≠ b → (F_S a).2.1 ≠ (F_S b).2.1 := by decide +kernel
theorem t_S_ok : ∀ k, k < 7 → parseFieldDescriptor (F_S k).2.2.1 = some (t_S k) := by decide +kernel
def R_W : String := "ShadowArchive$Worksheet"
def F_W : u_T := fun k => match k with
  | 0 => ("ShadowArchive$Worksheet", "count", "I", false)
  | 1 => ("ShadowArchive$Worksheet", "lowest", "I", false)
  | 2 => ("ShadowArchive$Worksheet", "unknown", "[I", false)
  | 3 => ("ShadowArchive$Worksheet", "unknownCells", "[I", false)
  | _ => ("ShadowArchive$Worksheet", "rest", "[I", false)
def t_W : Nat → FieldType := fun k => match k with
  | 0 => .int
  | 1 => .int
  | 2 => .array .int
  | 3 => .array .int
  | _ => .array .int
theorem n_W : ∀ a, a < 5 → ∀ b, b < 5 → a ≠ b → (F_W a).2.1 ≠ (F_W b).2.1 := by decide +kernel
theorem t_W_ok : ∀ k, k < 5 → parseFieldDescriptor (F_W k).2.2.1 = some (t_W k) := by decide +kernel
def R_M : String := "ShadowArchiveModel"
def F_M : u_T := fun k => match k with
  | 0 => ("ShadowArchiveModel", "thrown", "I", false)
  | 1 => ("ShadowArchiveModel", "w", "I", false)
  | 2 => ("ShadowArchiveModel", "h", "I", false)
  | 3 => ("ShadowArchiveModel", "picture", "[I", true)
  | 4 => ("ShadowArchiveModel", "kept", "[I", true)
  | 5 => ("ShadowArchiveModel", "rebuilt", "[I", true)
  | 6 => ("ShadowArchiveModel", "tried", "[I", true)
  | 7 => ("ShadowArchiveModel", "known", "[Z", true)
  | 8 => ("ShadowArchiveModel", "keeps", "Z", false)
  | 9 => ("ShadowArchiveModel", "hasRebuilt", "Z", false)
  | 10 => ("ShadowArchiveModel", "told", "[Z", true)
  | 11 => ("ShadowArchiveModel", "right", "[I", true)
  | 12 => ("ShadowArchiveModel", "down", "[I", true)
  | 13 => ("ShadowArchiveModel", "filled", "[Z", true)
  | 14 => ("ShadowArchiveModel", "bins", "[I", true)
  | 15 => ("ShadowArchiveModel", "keptTold", "[Z", true)
  | 16 => ("ShadowArchiveModel", "keptRight", "[I", true)
  | 17 => ("ShadowArchiveModel", "keptDown", "[I", true)
  | 18 => ("ShadowArchiveModel", "keptFilled", "[Z", true)
  | 19 => ("ShadowArchiveModel", "keptBins", "[I", true)
  | 20 => ("ShadowArchiveModel", "unknown", "[I", true)
  | 21 => ("ShadowArchiveModel", "left", "[I", true)
  | 22 => ("ShadowArchiveModel", "tries", "I", false)
  | 23 => ("ShadowArchiveModel", "sums", "[I", true)
  | 24 => ("ShadowArchiveModel", "steps", "I", false)
  | 25 => ("ShadowArchiveModel", "wrongBin", "I", false)
  | 26 => ("ShadowArchiveModel", "spread", "[I", true)
  | _ => ("ShadowArchiveModel", "spreading", "[I", true)
def t_M : Nat → FieldType := fun k => match k with
  | 0 => .int
  | 1 => .int
  | 2 => .int
  | 3 => .array .int
  | 4 => .array .int
  | 5 => .array .int
  | 6 => .array .int
  | 7 => .array .boolean
  | 8 => .boolean
  | 9 => .boolean
  | 10 => .array .boolean
  | 11 => .array .int
  | 12 => .array .int
  | 13 => .array .boolean
  | 14 => .array .int
  | 15 => .array .boolean
  | 16 => .array .int
  | 17 => .array .int
  | 18 => .array .boolean
  | 19 => .array .int
  | 20 => .array .int
  | 21 => .array .int
  | 22 => .int
  | 23 => .array .int
  | 24 => .int
  | 25 => .int
  | 26 => .array .int
  | _ => .array .int
theorem n_M : ∀ a, a < 28 → ∀ b, b < 28 → a ≠ b → (F_M a).2.1 ≠ (F_M b).2.1 := by decide +kernel
theorem t_M_ok : ∀ k, k < 28 → parseFieldDescriptor (F_M k).2.2.1 = some (t_M k) := by decide +kernel
def R_L : String := "ShadowArchiveLaw"
abbrev classes : List vw_C := [(R_A, F_A, 14), (R_S, F_S, 7), (R_W, F_W, 5), (R_M, F_M, 28)]
abbrev b_A_about : ByteArray := prog_1_method_13_code
def y_A_about : MethodName := ⟨"ShadowArchive", "about", "(I)I"⟩
abbrev b_A_add : ByteArray := prog_1_method_18_code
def y_A_add : MethodName := ⟨"ShadowArchive", "add", "(Z)I"⟩
abbrev b_A_addEach : ByteArray := prog_1_method_38_code
def y_A_addEach : MethodName := ⟨"ShadowArchive", "addEach", "([I[IIZ)V"⟩
abbrev b_A_aimedOf : ByteArray := prog_1_method_28_code
def y_A_aimedOf : MethodName := ⟨"ShadowArchive", "aimedOf", "(I)I"⟩
abbrev b_A_anotherHas : ByteArray := prog_1_method_27_code
def y_A_anotherHas : MethodName := ⟨"ShadowArchive", "anotherHas", "(III)Z"⟩
abbrev b_A_areEnough : ByteArray := prog_1_method_30_code
def y_A_areEnough : MethodName := ⟨"ShadowArchive", "areEnough", "(I)Z"⟩
abbrev b_A_areOfOnePicture : ByteArray := prog_1_method_31_code
def y_A_areOfOnePicture : MethodName := ⟨"ShadowArchive", "areOfOnePicture", "(I)Z"⟩
abbrev b_A_audit : ByteArray := prog_1_method_15_code
def y_A_audit : MethodName := ⟨"ShadowArchive", "audit", "()I"⟩
abbrev b_A_bin : ByteArray := prog_1_method_9_code
def y_A_bin : MethodName := ⟨"ShadowArchive", "bin", "(II)I"⟩
abbrev b_A_cellAt : ByteArray := prog_1_method_24_code
def y_A_cellAt : MethodName := ⟨"ShadowArchive", "cellAt", "(II)I"⟩
abbrev b_A_direction : ByteArray := prog_1_method_5_code
def y_A_direction : MethodName := ⟨"ShadowArchive", "direction", "(III)V"⟩
abbrev b_A_drawGhost : ByteArray := prog_1_method_36_code
def y_A_drawGhost : MethodName := ⟨"ShadowArchive", "drawGhost", "(I)V"⟩
abbrev b_A_drop : ByteArray := prog_1_method_8_code
def y_A_drop : MethodName := ⟨"ShadowArchive", "drop", "(I)Z"⟩
abbrev b_A_enough : ByteArray := prog_1_method_11_code
def y_A_enough : MethodName := ⟨"ShadowArchive", "enough", "(I)Z"⟩
abbrev b_A_filledShelves : ByteArray := prog_1_method_29_code
def y_A_filledShelves : MethodName := ⟨"ShadowArchive", "filledShelves", "()I"⟩
abbrev b_A_ghost : ByteArray := prog_1_method_16_code
def y_A_ghost : MethodName := ⟨"ShadowArchive", "ghost", "(III)I"⟩
abbrev b_A_init : ByteArray := prog_1_method_1_code
def y_A_init : MethodName := ⟨"ShadowArchive", "<init>", "()V"⟩
abbrev b_A_isDirection : ByteArray := prog_1_method_26_code
def y_A_isDirection : MethodName := ⟨"ShadowArchive", "isDirection", "(II)Z"⟩
abbrev b_A_isIn : ByteArray := prog_1_method_25_code
def y_A_isIn : MethodName := ⟨"ShadowArchive", "isIn", "(II)Z"⟩
abbrev b_A_keep : ByteArray := prog_1_method_17_code
def y_A_keep : MethodName := ⟨"ShadowArchive", "keep", "()V"⟩
abbrev b_A_look : ByteArray := prog_1_method_4_code
def y_A_look : MethodName := ⟨"ShadowArchive", "look", "(III)I"⟩
abbrev b_A_lowestReadyShelf : ByteArray := prog_1_method_33_code
def y_A_lowestReadyShelf : MethodName := ⟨"ShadowArchive", "lowestReadyShelf", "(I)I"⟩
abbrev b_A_lowestWrongShelf : ByteArray := prog_1_method_35_code
def y_A_lowestWrongShelf : MethodName := ⟨"ShadowArchive", "lowestWrongShelf", "(I)I"⟩
abbrev b_A_makeKnown : ByteArray := prog_1_method_34_code
def y_A_makeKnown : MethodName := ⟨"ShadowArchive", "makeKnown", "(III)V"⟩
abbrev b_A_pixel : ByteArray := prog_1_method_3_code
def y_A_pixel : MethodName := ⟨"ShadowArchive", "pixel", "(III)I"⟩
abbrev b_A_project : ByteArray := prog_1_method_7_code
def y_A_project : MethodName := ⟨"ShadowArchive", "project", "(I)V"⟩
abbrev b_A_put : ByteArray := prog_1_method_10_code
def y_A_put : MethodName := ⟨"ShadowArchive", "put", "(III)I"⟩
abbrev b_A_rebuild : ByteArray := prog_1_method_12_code
def y_A_rebuild : MethodName := ⟨"ShadowArchive", "rebuild", "(I)I"⟩
abbrev b_A_regenerate : ByteArray := prog_1_method_14_code
def y_A_regenerate : MethodName := ⟨"ShadowArchive", "regenerate", "(I)Z"⟩
abbrev b_A_requireBin : ByteArray := prog_1_method_21_code
def y_A_requireBin : MethodName := ⟨"ShadowArchive", "requireBin", "(II)V"⟩
abbrev b_A_requireMask : ByteArray := prog_1_method_22_code
def y_A_requireMask : MethodName := ⟨"ShadowArchive", "requireMask", "(I)V"⟩
abbrev b_A_requirePixel : ByteArray := prog_1_method_19_code
def y_A_requirePixel : MethodName := ⟨"ShadowArchive", "requirePixel", "(II)V"⟩
abbrev b_A_requireShelf : ByteArray := prog_1_method_20_code
def y_A_requireShelf : MethodName := ⟨"ShadowArchive", "requireShelf", "(I)V"⟩
abbrev b_A_requireState : ByteArray := prog_1_method_23_code
def y_A_requireState : MethodName := ⟨"ShadowArchive", "requireState", "(Z)V"⟩
abbrev b_A_shelf : ByteArray := prog_1_method_6_code
def y_A_shelf : MethodName := ⟨"ShadowArchive", "shelf", "(II)I"⟩
abbrev b_A_size : ByteArray := prog_1_method_2_code
def y_A_size : MethodName := ⟨"ShadowArchive", "size", "(II)V"⟩
abbrev b_A_solve : ByteArray := prog_1_method_32_code
def y_A_solve : MethodName := ⟨"ShadowArchive", "solve", "(I)I"⟩
abbrev b_A_takeGhostMoved : ByteArray := prog_1_method_37_code
def y_A_takeGhostMoved : MethodName := ⟨"ShadowArchive", "takeGhostMoved", "(II)V"⟩
abbrev b_J_fill : ByteArray := prog_15_method_103_code
def y_J_fill : MethodName := ⟨"java/util/Arrays", "fill", "([II)V"⟩
abbrev b_L_about : ByteArray := method_14_code
def y_L_about : MethodName := ⟨"ShadowArchiveLaw", "about", "(LShadowArchive;I[J)I"⟩
abbrev b_L_add : ByteArray := method_17_code
def y_L_add : MethodName := ⟨"ShadowArchiveLaw", "add", "(LShadowArchive;Z[J)I"⟩
abbrev b_L_bin : ByteArray := method_10_code
def y_L_bin : MethodName := ⟨"ShadowArchiveLaw", "bin", "(LShadowArchive;II[J)I"⟩
abbrev b_L_direction : ByteArray := method_6_code
def y_L_direction : MethodName := ⟨"ShadowArchiveLaw", "direction", "(LShadowArchive;III)I"⟩
abbrev b_L_drop : ByteArray := method_9_code
def y_L_drop : MethodName := ⟨"ShadowArchiveLaw", "drop", "(LShadowArchive;I[J)I"⟩
abbrev b_L_enough : ByteArray := method_12_code
def y_L_enough : MethodName := ⟨"ShadowArchiveLaw", "enough", "(LShadowArchive;I[J)I"⟩
abbrev b_L_ghost : ByteArray := method_16_code
def y_L_ghost : MethodName := ⟨"ShadowArchiveLaw", "ghost", "(LShadowArchive;III[J)I"⟩
abbrev b_L_law : ByteArray := code
def y_L_law : MethodName := ⟨"ShadowArchiveLaw", "law", "([I)Z"⟩
abbrev b_L_look : ByteArray := method_5_code
def y_L_look : MethodName := ⟨"ShadowArchiveLaw", "look", "(LShadowArchive;III[J)I"⟩
abbrev b_L_pixel : ByteArray := method_4_code
def y_L_pixel : MethodName := ⟨"ShadowArchiveLaw", "pixel", "(LShadowArchive;III[J)I"⟩
abbrev b_L_project : ByteArray := method_8_code
def y_L_project : MethodName := ⟨"ShadowArchiveLaw", "project", "(LShadowArchive;I)I"⟩
abbrev b_L_put : ByteArray := method_11_code
def y_L_put : MethodName := ⟨"ShadowArchiveLaw", "put", "(LShadowArchive;III[J)I"⟩
abbrev b_L_rebuild : ByteArray := method_13_code
def y_L_rebuild : MethodName := ⟨"ShadowArchiveLaw", "rebuild", "(LShadowArchive;I[J)I"⟩
abbrev b_L_regenerate : ByteArray := method_15_code
def y_L_regenerate : MethodName := ⟨"ShadowArchiveLaw", "regenerate", "(LShadowArchive;I[J)I"⟩
abbrev b_L_shelf : ByteArray := method_7_code
def y_L_shelf : MethodName := ⟨"ShadowArchiveLaw", "shelf", "(LShadowArchive;II[J)I"⟩
abbrev b_L_size : ByteArray := method_3_code
def y_L_size : MethodName := ⟨"ShadowArchiveLaw", "size", "(LShadowArchive;II)I"⟩
abbrev b_M_about : ByteArray := prog_5_method_37_code
def y_M_about : MethodName := ⟨"ShadowArchiveModel", "about", "(I)I"⟩
abbrev b_M_add : ByteArray := prog_5_method_45_code
def y_M_add : MethodName := ⟨"ShadowArchiveModel", "add", "(Z)I"⟩
abbrev b_M_areEnough : ByteArray := prog_5_method_27_code
def y_M_areEnough : MethodName := ⟨"ShadowArchiveModel", "areEnough", "(I)Z"⟩
abbrev b_M_areOfOne : ByteArray := prog_5_method_39_code
def y_M_areOfOne : MethodName := ⟨"ShadowArchiveModel", "areOfOne", "(I)Z"⟩
abbrev b_M_audit : ByteArray := prog_5_method_40_code
def y_M_audit : MethodName := ⟨"ShadowArchiveModel", "audit", "()I"⟩
abbrev b_M_beginTry : ByteArray := prog_5_method_29_code
def y_M_beginTry : MethodName := ⟨"ShadowArchiveModel", "beginTry", "(I)V"⟩
abbrev b_M_bin : ByteArray := prog_5_method_22_code
def y_M_bin : MethodName := ⟨"ShadowArchiveModel", "bin", "(II)I"⟩
abbrev b_M_binAt : ByteArray := prog_5_method_15_code
def y_M_binAt : MethodName := ⟨"ShadowArchiveModel", "binAt", "(III)I"⟩
abbrev b_M_binsOf : ByteArray := prog_5_method_14_code
def y_M_binsOf : MethodName := ⟨"ShadowArchiveModel", "binsOf", "(I)I"⟩
abbrev b_M_comes : ByteArray := prog_5_method_33_code
def y_M_comes : MethodName := ⟨"ShadowArchiveModel", "comes", "(I)Z"⟩
abbrev b_M_direction : ByteArray := prog_5_method_12_code
def y_M_direction : MethodName := ⟨"ShadowArchiveModel", "direction", "(III)V"⟩
abbrev b_M_disagrees : ByteArray := prog_5_method_35_code
def y_M_disagrees : MethodName := ⟨"ShadowArchiveModel", "disagrees", "(I)I"⟩
abbrev b_M_drop : ByteArray := prog_5_method_20_code
def y_M_drop : MethodName := ⟨"ShadowArchiveModel", "drop", "(I)Z"⟩
abbrev b_M_enough : ByteArray := prog_5_method_28_code
def y_M_enough : MethodName := ⟨"ShadowArchiveModel", "enough", "(I)Z"⟩
abbrev b_M_fill : ByteArray := prog_5_method_18_code
def y_M_fill : MethodName := ⟨"ShadowArchiveModel", "fill", "(I[I)V"⟩
abbrev b_M_filledOnes : ByteArray := prog_5_method_26_code
def y_M_filledOnes : MethodName := ⟨"ShadowArchiveModel", "filledOnes", "()I"⟩
abbrev b_M_ghost : ByteArray := prog_5_method_43_code
def y_M_ghost : MethodName := ⟨"ShadowArchiveModel", "ghost", "(III)I"⟩
abbrev b_M_hasDirection : ByteArray := prog_5_method_6_code
def y_M_hasDirection : MethodName := ⟨"ShadowArchiveModel", "hasDirection", "(I)Z"⟩
abbrev b_M_hasNoBin : ByteArray := prog_5_method_21_code
def y_M_hasNoBin : MethodName := ⟨"ShadowArchiveModel", "hasNoBin", "(II)Z"⟩
abbrev b_M_haveFactor : ByteArray := prog_5_method_10_code
def y_M_haveFactor : MethodName := ⟨"ShadowArchiveModel", "haveFactor", "(II)Z"⟩
abbrev b_M_init : ByteArray := prog_5_method_1_code
def y_M_init : MethodName := ⟨"ShadowArchiveModel", "<init>", "()V"⟩
abbrev b_M_isMask : ByteArray := prog_5_method_24_code
def y_M_isMask : MethodName := ⟨"ShadowArchiveModel", "isMask", "(I)Z"⟩
abbrev b_M_isOf : ByteArray := prog_5_method_25_code
def y_M_isOf : MethodName := ⟨"ShadowArchiveModel", "isOf", "(II)Z"⟩
abbrev b_M_isPixel : ByteArray := prog_5_method_5_code
def y_M_isPixel : MethodName := ⟨"ShadowArchiveModel", "isPixel", "(II)Z"⟩
abbrev b_M_isShelf : ByteArray := prog_5_method_4_code
def y_M_isShelf : MethodName := ⟨"ShadowArchiveModel", "isShelf", "(I)Z"⟩
abbrev b_M_isTaken : ByteArray := prog_5_method_11_code
def y_M_isTaken : MethodName := ⟨"ShadowArchiveModel", "isTaken", "(III)Z"⟩
abbrev b_M_keep : ByteArray := prog_5_method_44_code
def y_M_keep : MethodName := ⟨"ShadowArchiveModel", "keep", "()V"⟩
abbrev b_M_learn : ByteArray := prog_5_method_31_code
def y_M_learn : MethodName := ⟨"ShadowArchiveModel", "learn", "(IIII)V"⟩
abbrev b_M_learnOf : ByteArray := prog_5_method_32_code
def y_M_learnOf : MethodName := ⟨"ShadowArchiveModel", "learnOf", "(II)V"⟩
abbrev b_M_look : ByteArray := prog_5_method_9_code
def y_M_look : MethodName := ⟨"ShadowArchiveModel", "look", "(III)I"⟩
abbrev b_M_lowestColumn : ByteArray := prog_5_method_42_code
def y_M_lowestColumn : MethodName := ⟨"ShadowArchiveModel", "lowestColumn", "()I"⟩
abbrev b_M_moveAway : ByteArray := prog_5_method_41_code
def y_M_moveAway : MethodName := ⟨"ShadowArchiveModel", "moveAway", "(II)V"⟩
abbrev b_M_parts : ByteArray := prog_5_method_34_code
def y_M_parts : MethodName := ⟨"ShadowArchiveModel", "parts", "(I)I"⟩
abbrev b_M_pixel : ByteArray := prog_5_method_8_code
def y_M_pixel : MethodName := ⟨"ShadowArchiveModel", "pixel", "(III)I"⟩
abbrev b_M_project : ByteArray := prog_5_method_19_code
def y_M_project : MethodName := ⟨"ShadowArchiveModel", "project", "(I)V"⟩
abbrev b_M_put : ByteArray := prog_5_method_23_code
def y_M_put : MethodName := ⟨"ShadowArchiveModel", "put", "(III)I"⟩
abbrev b_M_rebuild : ByteArray := prog_5_method_36_code
def y_M_rebuild : MethodName := ⟨"ShadowArchiveModel", "rebuild", "(I)I"⟩
abbrev b_M_regenerate : ByteArray := prog_5_method_38_code
def y_M_regenerate : MethodName := ⟨"ShadowArchiveModel", "regenerate", "(I)Z"⟩
abbrev b_M_shelf : ByteArray := prog_5_method_16_code
def y_M_shelf : MethodName := ⟨"ShadowArchiveModel", "shelf", "(II)I"⟩
abbrev b_M_single : ByteArray := prog_5_method_30_code
def y_M_single : MethodName := ⟨"ShadowArchiveModel", "single", "(I)I"⟩
abbrev b_M_size : ByteArray := prog_5_method_7_code
def y_M_size : MethodName := ⟨"ShadowArchiveModel", "size", "(II)V"⟩
abbrev b_M_sizeOf : ByteArray := prog_5_method_13_code
def y_M_sizeOf : MethodName := ⟨"ShadowArchiveModel", "sizeOf", "(I)I"⟩
abbrev b_M_sumUp : ByteArray := prog_5_method_17_code
def y_M_sumUp : MethodName := ⟨"ShadowArchiveModel", "sumUp", "(I[I)V"⟩
abbrev b_M_throwing : ByteArray := prog_5_method_3_code
def y_M_throwing : MethodName := ⟨"ShadowArchiveModel", "throwing", "(ZZ)Z"⟩
abbrev b_M_thrown : ByteArray := prog_5_method_2_code
def y_M_thrown : MethodName := ⟨"ShadowArchiveModel", "thrown", "()I"⟩
abbrev b_S_addShelf : ByteArray := prog_2_method_9_code
def y_S_addShelf : MethodName := ⟨"ShadowArchive$Shelf", "addShelf", "(LShadowArchive$Shelf;Z)V"⟩
abbrev b_S_aim : ByteArray := prog_2_method_3_code
def y_S_aim : MethodName := ⟨"ShadowArchive$Shelf", "aim", "(IIII)V"⟩
abbrev b_S_binAt : ByteArray := prog_2_method_6_code
def y_S_binAt : MethodName := ⟨"ShadowArchive$Shelf", "binAt", "(II)I"⟩
abbrev b_S_copyFrom : ByteArray := prog_2_method_8_code
def y_S_copyFrom : MethodName := ⟨"ShadowArchive$Shelf", "copyFrom", "(LShadowArchive$Shelf;)V"⟩
abbrev b_S_fillFrom : ByteArray := prog_2_method_7_code
def y_S_fillFrom : MethodName := ⟨"ShadowArchive$Shelf", "fillFrom", "([III)V"⟩
abbrev b_S_goesAlong : ByteArray := prog_2_method_5_code
def y_S_goesAlong : MethodName := ⟨"ShadowArchive$Shelf", "goesAlong", "(II)Z"⟩
abbrev b_S_init : ByteArray := prog_2_method_1_code
def y_S_init : MethodName := ⟨"ShadowArchive$Shelf", "<init>", "()V"⟩
abbrev b_S_makeBins : ByteArray := prog_2_method_4_code
def y_S_makeBins : MethodName := ⟨"ShadowArchive$Shelf", "makeBins", "()V"⟩
abbrev b_S_unaim : ByteArray := prog_2_method_2_code
def y_S_unaim : MethodName := ⟨"ShadowArchive$Shelf", "unaim", "()V"⟩
abbrev b_W_begin : ByteArray := prog_3_method_2_code
def y_W_begin : MethodName := ⟨"ShadowArchive$Worksheet", "begin", "(LShadowArchive$Shelf;II)V"⟩
abbrev b_W_findReadyBin : ByteArray := prog_3_method_4_code
def y_W_findReadyBin : MethodName := ⟨"ShadowArchive$Worksheet", "findReadyBin", "()Z"⟩
abbrev b_W_init : ByteArray := prog_3_method_1_code
def y_W_init : MethodName := ⟨"ShadowArchive$Worksheet", "<init>", "()V"⟩
abbrev b_W_lowestWrongBin : ByteArray := prog_3_method_8_code
def y_W_lowestWrongBin : MethodName := ⟨"ShadowArchive$Worksheet", "lowestWrongBin", "()I"⟩
abbrev b_W_makeRows : ByteArray := prog_3_method_3_code
def y_W_makeRows : MethodName := ⟨"ShadowArchive$Worksheet", "makeRows", "()V"⟩
abbrev b_W_readyCell : ByteArray := prog_3_method_5_code
def y_W_readyCell : MethodName := ⟨"ShadowArchive$Worksheet", "readyCell", "()I"⟩
abbrev b_W_readyNumber : ByteArray := prog_3_method_6_code
def y_W_readyNumber : MethodName := ⟨"ShadowArchive$Worksheet", "readyNumber", "()I"⟩
abbrev b_W_takeOut : ByteArray := prog_3_method_7_code
def y_W_takeOut : MethodName := ⟨"ShadowArchive$Worksheet", "takeOut", "(III)V"⟩
/-- the words that go with every call -/
def wG : List Cond := lw_tbl.filter goodWord
theorem wG_good {L : List Cond} (h : ∀ w ∈ L, w ∈ wG) : GoodIn wG L := fun w hw => ⟨h w hw, good_of_word (List.mem_filter.mp (h w hw)).2⟩
theorem wG_cons {L : List Cond} {w : Cond} (h1 : w ∈ wG) (h2 : ∀ w ∈ L, w ∈ wG) : ∀ w' ∈ w :: L, w' ∈ wG := fun w' h => (List.mem_cons.mp h).elim (fun e => by rw [e]; exact h1) (h2 w')
theorem wG_self : ∀ w ∈ wG, w ∈ wG := fun _ h => h
theorem wG_1 {w : Cond} (i : Nat) (h : tables_1_1[i]? = some w) (hg : goodWord w = true) : w ∈ wG := List.mem_filter.mpr ⟨List.mem_append_right _ (List.mem_append_left _ (List.mem_of_getElem? h)), hg⟩
theorem wG_2 {w : Cond} (i : Nat) (h : tables_1_2[i]? = some w) (hg : goodWord w = true) : w ∈ wG := List.mem_filter.mpr ⟨List.mem_append_right _ (List.mem_append_right _ (List.mem_append_left _ (List.mem_of_getElem? h))), hg⟩
theorem wG_3 {w : Cond} (i : Nat) (h : tables_1_3[i]? = some w) (hg : goodWord w = true) : w ∈ wG := List.mem_filter.mpr ⟨List.mem_append_right _ (List.mem_append_right _ (List.mem_append_right _ (List.mem_append_left _ (List.mem_of_getElem? h)))), hg⟩
theorem wG_4 {w : Cond} (i : Nat) (h : tables_1_4[i]? = some w) (hg : goodWord w = true) : w ∈ wG := List.mem_filter.mpr ⟨List.mem_append_right _ (List.mem_append_right _ (List.mem_append_right _ (List.mem_append_right _ (List.mem_of_getElem? h)))), hg⟩
theorem wG_s {w : Cond} (h : w ∈ k2_sels lw_privs) (hg : goodWord w = true) : w ∈ wG := List.mem_filter.mpr ⟨List.mem_append_left _ h, hg⟩
theorem in_L : (Cond.initialized "ShadowArchiveLaw") ∈ wG := wG_1 0 (by decide +kernel) (by decide +kernel)
theorem in_A : (Cond.initialized "ShadowArchive") ∈ wG := wG_1 1 (by decide +kernel) (by decide +kernel)
theorem in_S : (Cond.initialized "ShadowArchive$Shelf") ∈ wG := wG_1 2 (by decide +kernel) (by decide +kernel)
theorem in_W : (Cond.initialized "ShadowArchive$Worksheet") ∈ wG := wG_1 3 (by decide +kernel) (by decide +kernel)
theorem in_M : (Cond.initialized "ShadowArchiveModel") ∈ wG := wG_1 4 (by decide +kernel) (by decide +kernel)
theorem in_IllegalArgumentException : (Cond.initialized "java/lang/IllegalArgumentException") ∈ wG := wG_1 8 (by decide +kernel) (by decide +kernel)
theorem in_J : (Cond.initialized "java/util/Arrays") ∈ wG := wG_1 9 (by decide +kernel) (by decide +kernel)
theorem in_IndexOutOfBoundsException : (Cond.initialized "java/lang/IndexOutOfBoundsException") ∈ wG := wG_1 10 (by decide +kernel) (by decide +kernel)
theorem in_IllegalStateException : (Cond.initialized "java/lang/IllegalStateException") ∈ wG := wG_1 11 (by decide +kernel) (by decide +kernel)
theorem in_H : (Cond.initialized "java/lang/Math") ∈ wG := wG_1 12 (by decide +kernel) (by decide +kernel)
theorem in_Y : (Cond.initialized "java/lang/System") ∈ wG := wG_1 13 (by decide +kernel) (by decide +kernel)
theorem kl_L_8 : (Cond.classLink "ShadowArchiveLaw" 8 "ShadowArchive") ∈ wG := wG_1 14 (by decide +kernel) (by decide +kernel)
theorem ia_A : (Cond.instantiable "ShadowArchive" 14) ∈ wG := wG_1 15 (by decide +kernel) (by decide +kernel)
theorem ml_L_68 : (Cond.methodLink "ShadowArchiveLaw" 68 y_A_init) ∈ wG := wG_1 16 (by decide +kernel) (by decide +kernel)
theorem im_A_init : (Cond.instanceMethod y_A_init) ∈ wG := wG_1 17 (by decide +kernel) (by decide +kernel)
theorem co_A_init : (Cond.code y_A_init prog_1_method_1_code 2 none) ∈ wG := wG_1 18 (by decide +kernel) (by decide +kernel)
theorem ml_A_3 : (Cond.methodLink "ShadowArchive" 3 objectInit) ∈ wG := wG_1 19 (by decide +kernel) (by decide +kernel)
theorem im_objectInit : (Cond.instanceMethod objectInit) ∈ wG := wG_1 20 (by decide +kernel) (by decide +kernel)
theorem co_objectInit : (Cond.code objectInit ⟨#[0xb1]⟩ 1 none) ∈ wG := wG_1 21 (by decide +kernel) (by decide +kernel)
theorem kl_A_20 : (Cond.classLink "ShadowArchive" 20 "ShadowArchive$Shelf") ∈ wG := wG_1 22 (by decide +kernel) (by decide +kernel)
theorem kl_A_51 : (Cond.classLink "ShadowArchive" 51 "ShadowArchive$Worksheet") ∈ wG := wG_1 24 (by decide +kernel) (by decide +kernel)
theorem ia_S : (Cond.instantiable "ShadowArchive$Shelf" 7) ∈ wG := wG_1 26 (by decide +kernel) (by decide +kernel)
theorem im_S_init : (Cond.instanceMethod y_S_init) ∈ wG := wG_1 28 (by decide +kernel) (by decide +kernel)
theorem co_S_init : (Cond.code y_S_init prog_2_method_1_code 1 none) ∈ wG := wG_1 29 (by decide +kernel) (by decide +kernel)
theorem ml_S_3 : (Cond.methodLink "ShadowArchive$Shelf" 3 objectInit) ∈ wG := wG_1 30 (by decide +kernel) (by decide +kernel)
theorem fl_S_9 : (Cond.fieldLink "ShadowArchive$Shelf" 9 "ShadowArchive$Shelf" "aimed" "Z") ∈ wG := wG_1 31 (by decide +kernel) (by decide +kernel)
theorem fl_A_117 : (Cond.fieldLink "ShadowArchive" 117 "ShadowArchive$Shelf" "aimed" "Z") ∈ wG := wG_1 32 (by decide +kernel) (by decide +kernel)
theorem fl_S_15 : (Cond.fieldLink "ShadowArchive$Shelf" 15 "ShadowArchive$Shelf" "filled" "Z") ∈ wG := wG_1 33 (by decide +kernel) (by decide +kernel)
theorem fl_A_129 : (Cond.fieldLink "ShadowArchive" 129 "ShadowArchive$Shelf" "filled" "Z") ∈ wG := wG_1 34 (by decide +kernel) (by decide +kernel)
theorem fl_S_18 : (Cond.fieldLink "ShadowArchive$Shelf" 18 "ShadowArchive$Shelf" "p" "I") ∈ wG := wG_1 35 (by decide +kernel) (by decide +kernel)
theorem fl_A_120 : (Cond.fieldLink "ShadowArchive" 120 "ShadowArchive$Shelf" "p" "I") ∈ wG := wG_1 36 (by decide +kernel) (by decide +kernel)
theorem fl_S_22 : (Cond.fieldLink "ShadowArchive$Shelf" 22 "ShadowArchive$Shelf" "q" "I") ∈ wG := wG_1 37 (by decide +kernel) (by decide +kernel)
theorem fl_A_123 : (Cond.fieldLink "ShadowArchive" 123 "ShadowArchive$Shelf" "q" "I") ∈ wG := wG_1 38 (by decide +kernel) (by decide +kernel)
theorem fl_S_25 : (Cond.fieldLink "ShadowArchive$Shelf" 25 "ShadowArchive$Shelf" "least" "I") ∈ wG := wG_1 39 (by decide +kernel) (by decide +kernel)
theorem fl_S_28 : (Cond.fieldLink "ShadowArchive$Shelf" 28 "ShadowArchive$Shelf" "count" "I") ∈ wG := wG_1 40 (by decide +kernel) (by decide +kernel)
theorem fl_W_31 : (Cond.fieldLink "ShadowArchive$Worksheet" 31 "ShadowArchive$Shelf" "count" "I") ∈ wG := wG_1 41 (by decide +kernel) (by decide +kernel)
theorem fl_A_126 : (Cond.fieldLink "ShadowArchive" 126 "ShadowArchive$Shelf" "count" "I") ∈ wG := wG_1 42 (by decide +kernel) (by decide +kernel)
theorem fl_S_31 : (Cond.fieldLink "ShadowArchive$Shelf" 31 "ShadowArchive$Shelf" "bins" "[I") ∈ wG := wG_1 43 (by decide +kernel) (by decide +kernel)
theorem fl_W_40 : (Cond.fieldLink "ShadowArchive$Worksheet" 40 "ShadowArchive$Shelf" "bins" "[I") ∈ wG := wG_1 44 (by decide +kernel) (by decide +kernel)
theorem fl_A_139 : (Cond.fieldLink "ShadowArchive" 139 "ShadowArchive$Shelf" "bins" "[I") ∈ wG := wG_1 45 (by decide +kernel) (by decide +kernel)
theorem la_S_aimed : (Cond.lays "ShadowArchive$Shelf" "ShadowArchive$Shelf" "aimed" "Z") ∈ wG := wG_1 46 (by decide +kernel) (by decide +kernel)
theorem la_S_filled : (Cond.lays "ShadowArchive$Shelf" "ShadowArchive$Shelf" "filled" "Z") ∈ wG := wG_1 48 (by decide +kernel) (by decide +kernel)
theorem la_S_p : (Cond.lays "ShadowArchive$Shelf" "ShadowArchive$Shelf" "p" "I") ∈ wG := wG_1 50 (by decide +kernel) (by decide +kernel)
theorem la_S_q : (Cond.lays "ShadowArchive$Shelf" "ShadowArchive$Shelf" "q" "I") ∈ wG := wG_1 52 (by decide +kernel) (by decide +kernel)
theorem la_S_least : (Cond.lays "ShadowArchive$Shelf" "ShadowArchive$Shelf" "least" "I") ∈ wG := wG_1 54 (by decide +kernel) (by decide +kernel)
theorem la_S_count : (Cond.lays "ShadowArchive$Shelf" "ShadowArchive$Shelf" "count" "I") ∈ wG := wG_1 56 (by decide +kernel) (by decide +kernel)
theorem la_S_bins : (Cond.lays "ShadowArchive$Shelf" "ShadowArchive$Shelf" "bins" "[I") ∈ wG := wG_1 58 (by decide +kernel) (by decide +kernel)
theorem ac_int : (Cond.arrayClass .int) ∈ wG := wG_1 61 (by decide +kernel) (by decide +kernel)
theorem ia_W : (Cond.instantiable "ShadowArchive$Worksheet" 5) ∈ wG := wG_1 62 (by decide +kernel) (by decide +kernel)
theorem im_W_init : (Cond.instanceMethod y_W_init) ∈ wG := wG_1 64 (by decide +kernel) (by decide +kernel)
theorem co_W_init : (Cond.code y_W_init prog_3_method_1_code 1 none) ∈ wG := wG_1 65 (by decide +kernel) (by decide +kernel)
theorem ml_W_3 : (Cond.methodLink "ShadowArchive$Worksheet" 3 objectInit) ∈ wG := wG_1 66 (by decide +kernel) (by decide +kernel)
theorem fl_W_9 : (Cond.fieldLink "ShadowArchive$Worksheet" 9 "ShadowArchive$Worksheet" "count" "I") ∈ wG := wG_1 67 (by decide +kernel) (by decide +kernel)
theorem fl_W_15 : (Cond.fieldLink "ShadowArchive$Worksheet" 15 "ShadowArchive$Worksheet" "lowest" "I") ∈ wG := wG_1 68 (by decide +kernel) (by decide +kernel)
theorem fl_W_18 : (Cond.fieldLink "ShadowArchive$Worksheet" 18 "ShadowArchive$Worksheet" "unknown" "[I") ∈ wG := wG_1 69 (by decide +kernel) (by decide +kernel)
theorem fl_W_22 : (Cond.fieldLink "ShadowArchive$Worksheet" 22 "ShadowArchive$Worksheet" "unknownCells" "[I") ∈ wG := wG_1 70 (by decide +kernel) (by decide +kernel)
theorem fl_W_25 : (Cond.fieldLink "ShadowArchive$Worksheet" 25 "ShadowArchive$Worksheet" "rest" "[I") ∈ wG := wG_1 71 (by decide +kernel) (by decide +kernel)
theorem la_W_count : (Cond.lays "ShadowArchive$Worksheet" "ShadowArchive$Worksheet" "count" "I") ∈ wG := wG_1 72 (by decide +kernel) (by decide +kernel)
theorem la_W_lowest : (Cond.lays "ShadowArchive$Worksheet" "ShadowArchive$Worksheet" "lowest" "I") ∈ wG := wG_1 74 (by decide +kernel) (by decide +kernel)
theorem la_W_unknown : (Cond.lays "ShadowArchive$Worksheet" "ShadowArchive$Worksheet" "unknown" "[I") ∈ wG := wG_1 76 (by decide +kernel) (by decide +kernel)
theorem la_W_unknownCells : (Cond.lays "ShadowArchive$Worksheet" "ShadowArchive$Worksheet" "unknownCells" "[I") ∈ wG := wG_1 78 (by decide +kernel) (by decide +kernel)
theorem la_W_rest : (Cond.lays "ShadowArchive$Worksheet" "ShadowArchive$Worksheet" "rest" "[I") ∈ wG := wG_1 80 (by decide +kernel) (by decide +kernel)
theorem fl_A_9 : (Cond.fieldLink "ShadowArchive" 9 "ShadowArchive" "w" "I") ∈ wG := wG_1 83 (by decide +kernel) (by decide +kernel)
theorem fl_A_13 : (Cond.fieldLink "ShadowArchive" 13 "ShadowArchive" "h" "I") ∈ wG := wG_1 84 (by decide +kernel) (by decide +kernel)
theorem fl_A_16 : (Cond.fieldLink "ShadowArchive" 16 "ShadowArchive" "picture" "[I") ∈ wG := wG_1 85 (by decide +kernel) (by decide +kernel)
theorem fl_A_22 : (Cond.fieldLink "ShadowArchive" 22 "ShadowArchive" "shelves" "[LShadowArchive$Shelf;") ∈ wG := wG_1 86 (by decide +kernel) (by decide +kernel)
theorem fl_A_26 : (Cond.fieldLink "ShadowArchive" 26 "ShadowArchive" "hasKept" "Z") ∈ wG := wG_1 87 (by decide +kernel) (by decide +kernel)
theorem fl_A_30 : (Cond.fieldLink "ShadowArchive" 30 "ShadowArchive" "kept" "[I") ∈ wG := wG_1 88 (by decide +kernel) (by decide +kernel)
theorem fl_A_33 : (Cond.fieldLink "ShadowArchive" 33 "ShadowArchive" "keptShelves" "[LShadowArchive$Shelf;") ∈ wG := wG_1 89 (by decide +kernel) (by decide +kernel)
theorem fl_A_36 : (Cond.fieldLink "ShadowArchive" 36 "ShadowArchive" "hasRebuilt" "Z") ∈ wG := wG_1 90 (by decide +kernel) (by decide +kernel)
theorem fl_A_39 : (Cond.fieldLink "ShadowArchive" 39 "ShadowArchive" "rebuilt" "[I") ∈ wG := wG_1 91 (by decide +kernel) (by decide +kernel)
theorem fl_A_42 : (Cond.fieldLink "ShadowArchive" 42 "ShadowArchive" "steps" "I") ∈ wG := wG_1 92 (by decide +kernel) (by decide +kernel)
theorem fl_A_45 : (Cond.fieldLink "ShadowArchive" 45 "ShadowArchive" "wrongBin" "I") ∈ wG := wG_1 93 (by decide +kernel) (by decide +kernel)
theorem fl_A_48 : (Cond.fieldLink "ShadowArchive" 48 "ShadowArchive" "draft" "[I") ∈ wG := wG_1 94 (by decide +kernel) (by decide +kernel)
theorem fl_A_53 : (Cond.fieldLink "ShadowArchive" 53 "ShadowArchive" "sheets" "[LShadowArchive$Worksheet;") ∈ wG := wG_1 95 (by decide +kernel) (by decide +kernel)
theorem fl_A_57 : (Cond.fieldLink "ShadowArchive" 57 "ShadowArchive" "ghostCells" "[I") ∈ wG := wG_1 96 (by decide +kernel) (by decide +kernel)
theorem la_A_w : (Cond.lays "ShadowArchive" "ShadowArchive" "w" "I") ∈ wG := wG_1 97 (by decide +kernel) (by decide +kernel)
theorem la_A_h : (Cond.lays "ShadowArchive" "ShadowArchive" "h" "I") ∈ wG := wG_1 99 (by decide +kernel) (by decide +kernel)
theorem la_A_picture : (Cond.laysFinal "ShadowArchive" "ShadowArchive" "picture" "[I") ∈ wG := wG_1 101 (by decide +kernel) (by decide +kernel)
theorem la_A_shelves : (Cond.laysFinal "ShadowArchive" "ShadowArchive" "shelves" "[LShadowArchive$Shelf;") ∈ wG := wG_1 103 (by decide +kernel) (by decide +kernel)
theorem la_A_hasKept : (Cond.lays "ShadowArchive" "ShadowArchive" "hasKept" "Z") ∈ wG := wG_1 105 (by decide +kernel) (by decide +kernel)
theorem la_A_kept : (Cond.laysFinal "ShadowArchive" "ShadowArchive" "kept" "[I") ∈ wG := wG_1 107 (by decide +kernel) (by decide +kernel)
theorem la_A_keptShelves : (Cond.laysFinal "ShadowArchive" "ShadowArchive" "keptShelves" "[LShadowArchive$Shelf;") ∈ wG := wG_1 109 (by decide +kernel) (by decide +kernel)
theorem la_A_hasRebuilt : (Cond.lays "ShadowArchive" "ShadowArchive" "hasRebuilt" "Z") ∈ wG := wG_1 111 (by decide +kernel) (by decide +kernel)
theorem la_A_rebuilt : (Cond.laysFinal "ShadowArchive" "ShadowArchive" "rebuilt" "[I") ∈ wG := wG_1 113 (by decide +kernel) (by decide +kernel)
theorem la_A_steps : (Cond.lays "ShadowArchive" "ShadowArchive" "steps" "I") ∈ wG := wG_1 115 (by decide +kernel) (by decide +kernel)
theorem la_A_wrongBin : (Cond.lays "ShadowArchive" "ShadowArchive" "wrongBin" "I") ∈ wG := wG_1 117 (by decide +kernel) (by decide +kernel)
theorem la_A_draft : (Cond.laysFinal "ShadowArchive" "ShadowArchive" "draft" "[I") ∈ wG := wG_1 119 (by decide +kernel) (by decide +kernel)
theorem la_A_sheets : (Cond.laysFinal "ShadowArchive" "ShadowArchive" "sheets" "[LShadowArchive$Worksheet;") ∈ wG := wG_1 121 (by decide +kernel) (by decide +kernel)
theorem la_A_ghostCells : (Cond.laysFinal "ShadowArchive" "ShadowArchive" "ghostCells" "[I") ∈ wG := wG_1 123 (by decide +kernel) (by decide +kernel)
theorem ml_L_123 : (Cond.methodLink "ShadowArchiveLaw" 123 y_A_audit) ∈ wG := wG_1 126 (by decide +kernel) (by decide +kernel)
theorem im_A_audit : (Cond.instanceMethod y_A_audit) ∈ wG := wG_1 127 (by decide +kernel) (by decide +kernel)
theorem se_A_audit : (Cond.selects "ShadowArchive" y_A_audit y_A_audit) ∈ wG := wG_1 128 (by decide +kernel) (by decide +kernel)
theorem co_A_audit : (Cond.code y_A_audit prog_1_method_15_code 3 (some .int)) ∈ wG := wG_1 129 (by decide +kernel) (by decide +kernel)
theorem ml_A_153 : (Cond.methodLink "ShadowArchive" 153 y_A_filledShelves) ∈ wG := wG_1 130 (by decide +kernel) (by decide +kernel)
theorem im_A_filledShelves : (Cond.instanceMethod y_A_filledShelves) ∈ wG := wG_1 132 (by decide +kernel) (by decide +kernel)
theorem co_A_filledShelves : (Cond.code y_A_filledShelves prog_1_method_29_code 3 (some .int)) ∈ wG := wG_1 133 (by decide +kernel) (by decide +kernel)
theorem ml_A_174 : (Cond.methodLink "ShadowArchive" 174 y_A_areOfOnePicture) ∈ wG := wG_1 134 (by decide +kernel) (by decide +kernel)
theorem im_A_areOfOnePicture : (Cond.instanceMethod y_A_areOfOnePicture) ∈ wG := wG_1 136 (by decide +kernel) (by decide +kernel)
theorem co_A_areOfOnePicture : (Cond.code y_A_areOfOnePicture prog_1_method_31_code 2 (some .boolean)) ∈ wG := wG_1 137 (by decide +kernel) (by decide +kernel)
theorem ml_A_157 : (Cond.methodLink "ShadowArchive" 157 y_A_solve) ∈ wG := wG_1 138 (by decide +kernel) (by decide +kernel)
theorem im_A_solve : (Cond.instanceMethod y_A_solve) ∈ wG := wG_1 140 (by decide +kernel) (by decide +kernel)
theorem co_A_solve : (Cond.code y_A_solve prog_1_method_32_code 5 (some .int)) ∈ wG := wG_1 141 (by decide +kernel) (by decide +kernel)
theorem ml_A_177 : (Cond.methodLink "ShadowArchive" 177 y_A_isIn) ∈ wG := wG_1 142 (by decide +kernel) (by decide +kernel)
theorem sm_A_isIn : (Cond.static y_A_isIn) ∈ wG := wG_1 143 (by decide +kernel) (by decide +kernel)
theorem co_A_isIn : (Cond.code y_A_isIn prog_1_method_25_code 2 (some .boolean)) ∈ wG := wG_1 144 (by decide +kernel) (by decide +kernel)
theorem ml_A_216 : (Cond.methodLink "ShadowArchive" 216 y_W_begin) ∈ wG := wG_1 145 (by decide +kernel) (by decide +kernel)
theorem im_W_begin : (Cond.instanceMethod y_W_begin) ∈ wG := wG_1 146 (by decide +kernel) (by decide +kernel)
theorem se_W_begin : (Cond.selects "ShadowArchive$Worksheet" y_W_begin y_W_begin) ∈ wG := wG_1 147 (by decide +kernel) (by decide +kernel)
theorem co_W_begin : (Cond.code y_W_begin prog_3_method_2_code 7 none) ∈ wG := wG_1 148 (by decide +kernel) (by decide +kernel)
theorem ml_W_28 : (Cond.methodLink "ShadowArchive$Worksheet" 28 y_W_makeRows) ∈ wG := wG_1 149 (by decide +kernel) (by decide +kernel)
theorem im_W_makeRows : (Cond.instanceMethod y_W_makeRows) ∈ wG := wG_1 151 (by decide +kernel) (by decide +kernel)
theorem co_W_makeRows : (Cond.code y_W_makeRows prog_3_method_3_code 1 none) ∈ wG := wG_1 152 (by decide +kernel) (by decide +kernel)
theorem ml_W_34 : (Cond.methodLink "ShadowArchive$Worksheet" 34 y_J_fill) ∈ wG := wG_1 153 (by decide +kernel) (by decide +kernel)
theorem sm_J_fill : (Cond.static y_J_fill) ∈ wG := wG_1 154 (by decide +kernel) (by decide +kernel)
theorem co_J_fill : (Cond.code y_J_fill prog_15_method_103_code 4 none) ∈ wG := wG_1 155 (by decide +kernel) (by decide +kernel)
theorem ml_W_43 : (Cond.methodLink "ShadowArchive$Worksheet" 43 arraycopyName) ∈ wG := wG_1 156 (by decide +kernel) (by decide +kernel)
theorem sm_arraycopyName : (Cond.static arraycopyName) ∈ wG := wG_1 157 (by decide +kernel) (by decide +kernel)
theorem nm_arraycopyName : (Cond.native arraycopyName) ∈ wG := wG_1 158 (by decide +kernel) (by decide +kernel)
theorem ml_W_49 : (Cond.methodLink "ShadowArchive$Worksheet" 49 y_S_binAt) ∈ wG := wG_1 159 (by decide +kernel) (by decide +kernel)
theorem im_S_binAt : (Cond.instanceMethod y_S_binAt) ∈ wG := wG_1 160 (by decide +kernel) (by decide +kernel)
theorem se_S_binAt : (Cond.selects "ShadowArchive$Shelf" y_S_binAt y_S_binAt) ∈ wG := wG_1 161 (by decide +kernel) (by decide +kernel)
theorem co_S_binAt : (Cond.code y_S_binAt prog_2_method_6_code 3 (some .int)) ∈ wG := wG_1 162 (by decide +kernel) (by decide +kernel)
theorem sm_A_cellAt : (Cond.static y_A_cellAt) ∈ wG := wG_1 164 (by decide +kernel) (by decide +kernel)
theorem co_A_cellAt : (Cond.code y_A_cellAt prog_1_method_24_code 2 (some .int)) ∈ wG := wG_1 165 (by decide +kernel) (by decide +kernel)
theorem ml_A_220 : (Cond.methodLink "ShadowArchive" 220 y_A_lowestReadyShelf) ∈ wG := wG_1 166 (by decide +kernel) (by decide +kernel)
theorem im_A_lowestReadyShelf : (Cond.instanceMethod y_A_lowestReadyShelf) ∈ wG := wG_1 168 (by decide +kernel) (by decide +kernel)
theorem co_A_lowestReadyShelf : (Cond.code y_A_lowestReadyShelf prog_1_method_33_code 3 (some .int)) ∈ wG := wG_1 169 (by decide +kernel) (by decide +kernel)
theorem ml_A_233 : (Cond.methodLink "ShadowArchive" 233 y_W_findReadyBin) ∈ wG := wG_1 170 (by decide +kernel) (by decide +kernel)
theorem im_W_findReadyBin : (Cond.instanceMethod y_W_findReadyBin) ∈ wG := wG_1 171 (by decide +kernel) (by decide +kernel)
theorem se_W_findReadyBin : (Cond.selects "ShadowArchive$Worksheet" y_W_findReadyBin y_W_findReadyBin) ∈ wG := wG_1 172 (by decide +kernel) (by decide +kernel)
theorem co_W_findReadyBin : (Cond.code y_W_findReadyBin prog_3_method_4_code 1 (some .boolean)) ∈ wG := wG_1 173 (by decide +kernel) (by decide +kernel)
theorem ml_A_223 : (Cond.methodLink "ShadowArchive" 223 y_W_readyCell) ∈ wG := wG_1 174 (by decide +kernel) (by decide +kernel)
theorem im_W_readyCell : (Cond.instanceMethod y_W_readyCell) ∈ wG := wG_1 175 (by decide +kernel) (by decide +kernel)
theorem se_W_readyCell : (Cond.selects "ShadowArchive$Worksheet" y_W_readyCell y_W_readyCell) ∈ wG := wG_1 176 (by decide +kernel) (by decide +kernel)
theorem co_W_readyCell : (Cond.code y_W_readyCell prog_3_method_5_code 1 (some .int)) ∈ wG := wG_1 177 (by decide +kernel) (by decide +kernel)
theorem ml_A_226 : (Cond.methodLink "ShadowArchive" 226 y_W_readyNumber) ∈ wG := wG_1 178 (by decide +kernel) (by decide +kernel)
theorem im_W_readyNumber : (Cond.instanceMethod y_W_readyNumber) ∈ wG := wG_1 179 (by decide +kernel) (by decide +kernel)
theorem se_W_readyNumber : (Cond.selects "ShadowArchive$Worksheet" y_W_readyNumber y_W_readyNumber) ∈ wG := wG_1 180 (by decide +kernel) (by decide +kernel)
theorem co_W_readyNumber : (Cond.code y_W_readyNumber prog_3_method_6_code 1 (some .int)) ∈ wG := wG_1 181 (by decide +kernel) (by decide +kernel)
theorem ml_A_229 : (Cond.methodLink "ShadowArchive" 229 y_A_makeKnown) ∈ wG := wG_1 182 (by decide +kernel) (by decide +kernel)
theorem im_A_makeKnown : (Cond.instanceMethod y_A_makeKnown) ∈ wG := wG_1 184 (by decide +kernel) (by decide +kernel)
theorem co_A_makeKnown : (Cond.code y_A_makeKnown prog_1_method_34_code 7 none) ∈ wG := wG_1 185 (by decide +kernel) (by decide +kernel)
theorem ml_A_237 : (Cond.methodLink "ShadowArchive" 237 y_S_binAt) ∈ wG := wG_1 186 (by decide +kernel) (by decide +kernel)
theorem ml_A_240 : (Cond.methodLink "ShadowArchive" 240 y_W_takeOut) ∈ wG := wG_1 187 (by decide +kernel) (by decide +kernel)
theorem im_W_takeOut : (Cond.instanceMethod y_W_takeOut) ∈ wG := wG_1 188 (by decide +kernel) (by decide +kernel)
theorem se_W_takeOut : (Cond.selects "ShadowArchive$Worksheet" y_W_takeOut y_W_takeOut) ∈ wG := wG_1 189 (by decide +kernel) (by decide +kernel)
theorem co_W_takeOut : (Cond.code y_W_takeOut prog_3_method_7_code 4 none) ∈ wG := wG_1 190 (by decide +kernel) (by decide +kernel)
theorem ml_A_166 : (Cond.methodLink "ShadowArchive" 166 y_A_lowestWrongShelf) ∈ wG := wG_1 191 (by decide +kernel) (by decide +kernel)
theorem im_A_lowestWrongShelf : (Cond.instanceMethod y_A_lowestWrongShelf) ∈ wG := wG_1 193 (by decide +kernel) (by decide +kernel)
theorem co_A_lowestWrongShelf : (Cond.code y_A_lowestWrongShelf prog_1_method_35_code 3 (some .int)) ∈ wG := wG_1 194 (by decide +kernel) (by decide +kernel)
theorem ml_A_169 : (Cond.methodLink "ShadowArchive" 169 y_W_lowestWrongBin) ∈ wG := wG_1 195 (by decide +kernel) (by decide +kernel)
theorem im_W_lowestWrongBin : (Cond.instanceMethod y_W_lowestWrongBin) ∈ wG := wG_1 196 (by decide +kernel) (by decide +kernel)
theorem se_W_lowestWrongBin : (Cond.selects "ShadowArchive$Worksheet" y_W_lowestWrongBin y_W_lowestWrongBin) ∈ wG := wG_1 197 (by decide +kernel) (by decide +kernel)
theorem co_W_lowestWrongBin : (Cond.code y_W_lowestWrongBin prog_3_method_8_code 2 (some .int)) ∈ wG := wG_1 198 (by decide +kernel) (by decide +kernel)
theorem ml_L_130 : (Cond.methodLink "ShadowArchiveLaw" 130 y_A_keep) ∈ wG := wG_1 199 (by decide +kernel) (by decide +kernel)
theorem im_A_keep : (Cond.instanceMethod y_A_keep) ∈ wG := wG_1 200 (by decide +kernel) (by decide +kernel)
theorem se_A_keep : (Cond.selects "ShadowArchive" y_A_keep y_A_keep) ∈ wG := wG_1 201 (by decide +kernel) (by decide +kernel)
theorem co_A_keep : (Cond.code y_A_keep prog_1_method_17_code 2 none) ∈ wG := wG_1 202 (by decide +kernel) (by decide +kernel)
theorem ml_A_160 : (Cond.methodLink "ShadowArchive" 160 arraycopyName) ∈ wG := wG_1 203 (by decide +kernel) (by decide +kernel)
theorem ml_A_183 : (Cond.methodLink "ShadowArchive" 183 y_S_copyFrom) ∈ wG := wG_1 204 (by decide +kernel) (by decide +kernel)
theorem im_S_copyFrom : (Cond.instanceMethod y_S_copyFrom) ∈ wG := wG_1 205 (by decide +kernel) (by decide +kernel)
theorem se_S_copyFrom : (Cond.selects "ShadowArchive$Shelf" y_S_copyFrom y_S_copyFrom) ∈ wG := wG_1 206 (by decide +kernel) (by decide +kernel)
theorem co_S_copyFrom : (Cond.code y_S_copyFrom prog_2_method_8_code 2 none) ∈ wG := wG_1 207 (by decide +kernel) (by decide +kernel)
theorem ml_S_45 : (Cond.methodLink "ShadowArchive$Shelf" 45 y_S_makeBins) ∈ wG := wG_1 208 (by decide +kernel) (by decide +kernel)
theorem im_S_makeBins : (Cond.instanceMethod y_S_makeBins) ∈ wG := wG_1 210 (by decide +kernel) (by decide +kernel)
theorem co_S_makeBins : (Cond.code y_S_makeBins prog_2_method_4_code 1 none) ∈ wG := wG_1 211 (by decide +kernel) (by decide +kernel)
theorem ml_S_60 : (Cond.methodLink "ShadowArchive$Shelf" 60 arraycopyName) ∈ wG := wG_1 212 (by decide +kernel) (by decide +kernel)
theorem ml_L_72 : (Cond.methodLink "ShadowArchiveLaw" 72 y_L_size) ∈ wG := wG_1 213 (by decide +kernel) (by decide +kernel)
theorem sm_L_size : (Cond.static y_L_size) ∈ wG := wG_1 214 (by decide +kernel) (by decide +kernel)
theorem cw_L_size : (Cond.codeWith y_L_size method_3_code 4 (some .int) [(0, 6, 9, 13)]) ∈ wG := wG_1 215 (by decide +kernel) (by decide +kernel)
theorem kl_L_13 : (Cond.classLink "ShadowArchiveLaw" 13 "java/lang/IllegalArgumentException") ∈ wG := wG_1 216 (by decide +kernel) (by decide +kernel)
theorem ml_L_7 : (Cond.methodLink "ShadowArchiveLaw" 7 y_A_size) ∈ wG := wG_1 217 (by decide +kernel) (by decide +kernel)
theorem im_A_size : (Cond.instanceMethod y_A_size) ∈ wG := wG_1 218 (by decide +kernel) (by decide +kernel)
theorem se_A_size : (Cond.selects "ShadowArchive" y_A_size y_A_size) ∈ wG := wG_1 219 (by decide +kernel) (by decide +kernel)
theorem co_A_size : (Cond.code y_A_size prog_1_method_2_code 4 none) ∈ wG := wG_1 220 (by decide +kernel) (by decide +kernel)
theorem kl_A_62 : (Cond.classLink "ShadowArchive" 62 "java/lang/IllegalArgumentException") ∈ wG := wG_1 221 (by decide +kernel) (by decide +kernel)
theorem ia_IllegalArgumentException : (Cond.instantiable "java/lang/IllegalArgumentException" 6) ∈ wG := wG_1 222 (by decide +kernel) (by decide +kernel)
theorem ml_A_66 : (Cond.methodLink "ShadowArchive" 66 ⟨"java/lang/IllegalArgumentException", "<init>", "(Ljava/lang/String;)V"⟩) ∈ wG := wG_2 23 (by decide +kernel) (by decide +kernel)
theorem ac_byte : (Cond.arrayClass .byte) ∈ wG := wG_2 48 (by decide +kernel) (by decide +kernel)
theorem ml_A_69 : (Cond.methodLink "ShadowArchive" 69 y_J_fill) ∈ wG := wG_2 49 (by decide +kernel) (by decide +kernel)
theorem ml_A_75 : (Cond.methodLink "ShadowArchive" 75 y_S_unaim) ∈ wG := wG_2 50 (by decide +kernel) (by decide +kernel)
theorem im_S_unaim : (Cond.instanceMethod y_S_unaim) ∈ wG := wG_2 51 (by decide +kernel) (by decide +kernel)
theorem se_S_unaim : (Cond.selects "ShadowArchive$Shelf" y_S_unaim y_S_unaim) ∈ wG := wG_2 52 (by decide +kernel) (by decide +kernel)
theorem co_S_unaim : (Cond.code y_S_unaim prog_2_method_2_code 1 none) ∈ wG := wG_2 53 (by decide +kernel) (by decide +kernel)
theorem ml_L_82 : (Cond.methodLink "ShadowArchiveLaw" 82 y_L_pixel) ∈ wG := wG_2 54 (by decide +kernel) (by decide +kernel)
theorem sm_L_pixel : (Cond.static y_L_pixel) ∈ wG := wG_2 55 (by decide +kernel) (by decide +kernel)
theorem cw_L_pixel : (Cond.codeWith y_L_pixel method_4_code 6 (some .int) [(0, 12, 15, 19)]) ∈ wG := wG_2 56 (by decide +kernel) (by decide +kernel)
theorem kl_L_19 : (Cond.classLink "ShadowArchiveLaw" 19 "java/lang/IndexOutOfBoundsException") ∈ wG := wG_2 57 (by decide +kernel) (by decide +kernel)
theorem ml_L_15 : (Cond.methodLink "ShadowArchiveLaw" 15 y_A_pixel) ∈ wG := wG_2 58 (by decide +kernel) (by decide +kernel)
theorem im_A_pixel : (Cond.instanceMethod y_A_pixel) ∈ wG := wG_2 59 (by decide +kernel) (by decide +kernel)
theorem se_A_pixel : (Cond.selects "ShadowArchive" y_A_pixel y_A_pixel) ∈ wG := wG_2 60 (by decide +kernel) (by decide +kernel)
theorem co_A_pixel : (Cond.code y_A_pixel prog_1_method_3_code 6 (some .int)) ∈ wG := wG_2 61 (by decide +kernel) (by decide +kernel)
theorem ml_A_78 : (Cond.methodLink "ShadowArchive" 78 y_A_requirePixel) ∈ wG := wG_2 62 (by decide +kernel) (by decide +kernel)
theorem im_A_requirePixel : (Cond.instanceMethod y_A_requirePixel) ∈ wG := wG_2 64 (by decide +kernel) (by decide +kernel)
theorem co_A_requirePixel : (Cond.code y_A_requirePixel prog_1_method_19_code 3 none) ∈ wG := wG_2 65 (by decide +kernel) (by decide +kernel)
theorem kl_A_90 : (Cond.classLink "ShadowArchive" 90 "java/lang/IndexOutOfBoundsException") ∈ wG := wG_2 66 (by decide +kernel) (by decide +kernel)
theorem ia_IndexOutOfBoundsException : (Cond.instantiable "java/lang/IndexOutOfBoundsException" 6) ∈ wG := wG_2 67 (by decide +kernel) (by decide +kernel)
theorem ml_A_94 : (Cond.methodLink "ShadowArchive" 94 ⟨"java/lang/IndexOutOfBoundsException", "<init>", "(Ljava/lang/String;)V"⟩) ∈ wG := wG_2 76 (by decide +kernel) (by decide +kernel)
theorem ml_A_82 : (Cond.methodLink "ShadowArchive" 82 y_A_cellAt) ∈ wG := wG_2 82 (by decide +kernel) (by decide +kernel)
theorem ml_L_86 : (Cond.methodLink "ShadowArchiveLaw" 86 y_L_look) ∈ wG := wG_2 83 (by decide +kernel) (by decide +kernel)
theorem sm_L_look : (Cond.static y_L_look) ∈ wG := wG_2 84 (by decide +kernel) (by decide +kernel)
theorem cw_L_look : (Cond.codeWith y_L_look method_5_code 6 (some .int) [(0, 12, 15, 19), (0, 12, 19, 24)]) ∈ wG := wG_2 85 (by decide +kernel) (by decide +kernel)
theorem kl_L_24 : (Cond.classLink "ShadowArchiveLaw" 24 "java/lang/IllegalStateException") ∈ wG := wG_2 86 (by decide +kernel) (by decide +kernel)
theorem ml_L_21 : (Cond.methodLink "ShadowArchiveLaw" 21 y_A_look) ∈ wG := wG_2 87 (by decide +kernel) (by decide +kernel)
theorem im_A_look : (Cond.instanceMethod y_A_look) ∈ wG := wG_2 88 (by decide +kernel) (by decide +kernel)
theorem se_A_look : (Cond.selects "ShadowArchive" y_A_look y_A_look) ∈ wG := wG_2 89 (by decide +kernel) (by decide +kernel)
theorem co_A_look : (Cond.code y_A_look prog_1_method_4_code 5 (some .int)) ∈ wG := wG_2 90 (by decide +kernel) (by decide +kernel)
theorem ml_A_86 : (Cond.methodLink "ShadowArchive" 86 y_A_requireState) ∈ wG := wG_2 91 (by decide +kernel) (by decide +kernel)
theorem sm_A_requireState : (Cond.static y_A_requireState) ∈ wG := wG_2 92 (by decide +kernel) (by decide +kernel)
theorem co_A_requireState : (Cond.code y_A_requireState prog_1_method_23_code 1 none) ∈ wG := wG_2 93 (by decide +kernel) (by decide +kernel)
theorem kl_A_203 : (Cond.classLink "ShadowArchive" 203 "java/lang/IllegalStateException") ∈ wG := wG_2 94 (by decide +kernel) (by decide +kernel)
theorem ia_IllegalStateException : (Cond.instantiable "java/lang/IllegalStateException" 6) ∈ wG := wG_2 95 (by decide +kernel) (by decide +kernel)
theorem ml_A_207 : (Cond.methodLink "ShadowArchive" 207 ⟨"java/lang/IllegalStateException", "<init>", "(Ljava/lang/String;)V"⟩) ∈ wG := wG_2 104 (by decide +kernel) (by decide +kernel)
theorem ml_L_89 : (Cond.methodLink "ShadowArchiveLaw" 89 y_L_direction) ∈ wG := wG_2 111 (by decide +kernel) (by decide +kernel)
theorem sm_L_direction : (Cond.static y_L_direction) ∈ wG := wG_2 112 (by decide +kernel) (by decide +kernel)
theorem cw_L_direction : (Cond.codeWith y_L_direction method_6_code 5 (some .int) [(0, 7, 10, 19), (0, 7, 14, 13)]) ∈ wG := wG_2 113 (by decide +kernel) (by decide +kernel)
theorem ml_L_26 : (Cond.methodLink "ShadowArchiveLaw" 26 y_A_direction) ∈ wG := wG_2 114 (by decide +kernel) (by decide +kernel)
theorem im_A_direction : (Cond.instanceMethod y_A_direction) ∈ wG := wG_2 115 (by decide +kernel) (by decide +kernel)
theorem se_A_direction : (Cond.selects "ShadowArchive" y_A_direction y_A_direction) ∈ wG := wG_2 116 (by decide +kernel) (by decide +kernel)
theorem co_A_direction : (Cond.code y_A_direction prog_1_method_5_code 7 none) ∈ wG := wG_2 117 (by decide +kernel) (by decide +kernel)
theorem ml_A_95 : (Cond.methodLink "ShadowArchive" 95 y_A_requireShelf) ∈ wG := wG_2 118 (by decide +kernel) (by decide +kernel)
theorem sm_A_requireShelf : (Cond.static y_A_requireShelf) ∈ wG := wG_2 119 (by decide +kernel) (by decide +kernel)
theorem co_A_requireShelf : (Cond.code y_A_requireShelf prog_1_method_20_code 1 none) ∈ wG := wG_2 120 (by decide +kernel) (by decide +kernel)
theorem ml_A_99 : (Cond.methodLink "ShadowArchive" 99 y_A_isDirection) ∈ wG := wG_2 122 (by decide +kernel) (by decide +kernel)
theorem sm_A_isDirection : (Cond.static y_A_isDirection) ∈ wG := wG_2 123 (by decide +kernel) (by decide +kernel)
theorem co_A_isDirection : (Cond.code y_A_isDirection prog_1_method_26_code 3 (some .boolean)) ∈ wG := wG_2 124 (by decide +kernel) (by decide +kernel)
theorem ml_A_105 : (Cond.methodLink "ShadowArchive" 105 y_A_anotherHas) ∈ wG := wG_2 126 (by decide +kernel) (by decide +kernel)
theorem im_A_anotherHas : (Cond.instanceMethod y_A_anotherHas) ∈ wG := wG_2 128 (by decide +kernel) (by decide +kernel)
theorem co_A_anotherHas : (Cond.code y_A_anotherHas prog_1_method_27_code 5 (some .boolean)) ∈ wG := wG_2 129 (by decide +kernel) (by decide +kernel)
theorem ml_A_208 : (Cond.methodLink "ShadowArchive" 208 y_S_goesAlong) ∈ wG := wG_2 130 (by decide +kernel) (by decide +kernel)
theorem im_S_goesAlong : (Cond.instanceMethod y_S_goesAlong) ∈ wG := wG_2 131 (by decide +kernel) (by decide +kernel)
theorem se_S_goesAlong : (Cond.selects "ShadowArchive$Shelf" y_S_goesAlong y_S_goesAlong) ∈ wG := wG_2 132 (by decide +kernel) (by decide +kernel)
theorem co_S_goesAlong : (Cond.code y_S_goesAlong prog_2_method_5_code 3 (some .boolean)) ∈ wG := wG_2 133 (by decide +kernel) (by decide +kernel)
theorem ml_A_111 : (Cond.methodLink "ShadowArchive" 111 y_S_aim) ∈ wG := wG_2 135 (by decide +kernel) (by decide +kernel)
theorem im_S_aim : (Cond.instanceMethod y_S_aim) ∈ wG := wG_2 136 (by decide +kernel) (by decide +kernel)
theorem se_S_aim : (Cond.selects "ShadowArchive$Shelf" y_S_aim y_S_aim) ∈ wG := wG_2 137 (by decide +kernel) (by decide +kernel)
theorem co_S_aim : (Cond.code y_S_aim prog_2_method_3_code 5 none) ∈ wG := wG_2 138 (by decide +kernel) (by decide +kernel)
theorem ml_S_35 : (Cond.methodLink "ShadowArchive$Shelf" 35 Lib.Math.min.name) ∈ wG := wG_2 139 (by decide +kernel) (by decide +kernel)
theorem sm_min : (Cond.static Lib.Math.min.name) ∈ wG := wG_2 140 (by decide +kernel) (by decide +kernel)
theorem co_min : (Cond.code Lib.Math.min.name Lib.Math.min.code 2 (some .int)) ∈ wG := wG_2 141 (by decide +kernel) (by decide +kernel)
theorem ml_S_41 : (Cond.methodLink "ShadowArchive$Shelf" 41 Lib.Math.abs.name) ∈ wG := wG_2 142 (by decide +kernel) (by decide +kernel)
theorem sm_abs : (Cond.static Lib.Math.abs.name) ∈ wG := wG_2 143 (by decide +kernel) (by decide +kernel)
theorem co_abs : (Cond.code Lib.Math.abs.name Lib.Math.abs.code 1 (some .int)) ∈ wG := wG_2 144 (by decide +kernel) (by decide +kernel)
theorem ml_L_93 : (Cond.methodLink "ShadowArchiveLaw" 93 y_L_shelf) ∈ wG := wG_2 145 (by decide +kernel) (by decide +kernel)
theorem sm_L_shelf : (Cond.static y_L_shelf) ∈ wG := wG_2 146 (by decide +kernel) (by decide +kernel)
theorem cw_L_shelf : (Cond.codeWith y_L_shelf method_7_code 5 (some .int) [(0, 10, 13, 19), (0, 10, 17, 24)]) ∈ wG := wG_2 147 (by decide +kernel) (by decide +kernel)
theorem ml_L_30 : (Cond.methodLink "ShadowArchiveLaw" 30 y_A_shelf) ∈ wG := wG_2 148 (by decide +kernel) (by decide +kernel)
theorem im_A_shelf : (Cond.instanceMethod y_A_shelf) ∈ wG := wG_2 149 (by decide +kernel) (by decide +kernel)
theorem se_A_shelf : (Cond.selects "ShadowArchive" y_A_shelf y_A_shelf) ∈ wG := wG_2 150 (by decide +kernel) (by decide +kernel)
theorem co_A_shelf : (Cond.code y_A_shelf prog_1_method_6_code 4 (some .int)) ∈ wG := wG_2 151 (by decide +kernel) (by decide +kernel)
theorem ml_L_97 : (Cond.methodLink "ShadowArchiveLaw" 97 y_L_project) ∈ wG := wG_2 153 (by decide +kernel) (by decide +kernel)
theorem sm_L_project : (Cond.static y_L_project) ∈ wG := wG_2 154 (by decide +kernel) (by decide +kernel)
theorem cw_L_project : (Cond.codeWith y_L_project method_8_code 3 (some .int) [(0, 5, 8, 19), (0, 5, 11, 24)]) ∈ wG := wG_2 155 (by decide +kernel) (by decide +kernel)
theorem ml_L_34 : (Cond.methodLink "ShadowArchiveLaw" 34 y_A_project) ∈ wG := wG_2 156 (by decide +kernel) (by decide +kernel)
theorem im_A_project : (Cond.instanceMethod y_A_project) ∈ wG := wG_2 157 (by decide +kernel) (by decide +kernel)
theorem se_A_project : (Cond.selects "ShadowArchive" y_A_project y_A_project) ∈ wG := wG_2 158 (by decide +kernel) (by decide +kernel)
theorem co_A_project : (Cond.code y_A_project prog_1_method_7_code 2 none) ∈ wG := wG_2 159 (by decide +kernel) (by decide +kernel)
theorem ml_A_132 : (Cond.methodLink "ShadowArchive" 132 y_S_fillFrom) ∈ wG := wG_2 160 (by decide +kernel) (by decide +kernel)
theorem im_S_fillFrom : (Cond.instanceMethod y_S_fillFrom) ∈ wG := wG_2 161 (by decide +kernel) (by decide +kernel)
theorem se_S_fillFrom : (Cond.selects "ShadowArchive$Shelf" y_S_fillFrom y_S_fillFrom) ∈ wG := wG_2 162 (by decide +kernel) (by decide +kernel)
theorem co_S_fillFrom : (Cond.code y_S_fillFrom prog_2_method_7_code 6 none) ∈ wG := wG_2 163 (by decide +kernel) (by decide +kernel)
theorem ml_S_48 : (Cond.methodLink "ShadowArchive$Shelf" 48 y_J_fill) ∈ wG := wG_2 164 (by decide +kernel) (by decide +kernel)
theorem ml_S_54 : (Cond.methodLink "ShadowArchive$Shelf" 54 y_S_binAt) ∈ wG := wG_2 165 (by decide +kernel) (by decide +kernel)
theorem ml_L_101 : (Cond.methodLink "ShadowArchiveLaw" 101 y_L_drop) ∈ wG := wG_2 167 (by decide +kernel) (by decide +kernel)
theorem sm_L_drop : (Cond.static y_L_drop) ∈ wG := wG_2 168 (by decide +kernel) (by decide +kernel)
theorem cw_L_drop : (Cond.codeWith y_L_drop method_9_code 4 (some .int) [(0, 16, 19, 19)]) ∈ wG := wG_2 169 (by decide +kernel) (by decide +kernel)
theorem ml_L_38 : (Cond.methodLink "ShadowArchiveLaw" 38 y_A_drop) ∈ wG := wG_2 170 (by decide +kernel) (by decide +kernel)
theorem im_A_drop : (Cond.instanceMethod y_A_drop) ∈ wG := wG_2 171 (by decide +kernel) (by decide +kernel)
theorem se_A_drop : (Cond.selects "ShadowArchive" y_A_drop y_A_drop) ∈ wG := wG_2 172 (by decide +kernel) (by decide +kernel)
theorem co_A_drop : (Cond.code y_A_drop prog_1_method_8_code 3 (some .boolean)) ∈ wG := wG_2 173 (by decide +kernel) (by decide +kernel)
theorem ml_L_105 : (Cond.methodLink "ShadowArchiveLaw" 105 y_L_bin) ∈ wG := wG_2 174 (by decide +kernel) (by decide +kernel)
theorem sm_L_bin : (Cond.static y_L_bin) ∈ wG := wG_2 175 (by decide +kernel) (by decide +kernel)
theorem cw_L_bin : (Cond.codeWith y_L_bin method_10_code 5 (some .int) [(0, 10, 13, 19), (0, 10, 17, 24)]) ∈ wG := wG_2 176 (by decide +kernel) (by decide +kernel)
theorem ml_L_42 : (Cond.methodLink "ShadowArchiveLaw" 42 y_A_bin) ∈ wG := wG_2 177 (by decide +kernel) (by decide +kernel)
theorem im_A_bin : (Cond.instanceMethod y_A_bin) ∈ wG := wG_2 178 (by decide +kernel) (by decide +kernel)
theorem se_A_bin : (Cond.selects "ShadowArchive" y_A_bin y_A_bin) ∈ wG := wG_2 179 (by decide +kernel) (by decide +kernel)
theorem co_A_bin : (Cond.code y_A_bin prog_1_method_9_code 3 (some .int)) ∈ wG := wG_2 180 (by decide +kernel) (by decide +kernel)
theorem ml_A_136 : (Cond.methodLink "ShadowArchive" 136 y_A_requireBin) ∈ wG := wG_2 181 (by decide +kernel) (by decide +kernel)
theorem im_A_requireBin : (Cond.instanceMethod y_A_requireBin) ∈ wG := wG_2 183 (by decide +kernel) (by decide +kernel)
theorem co_A_requireBin : (Cond.code y_A_requireBin prog_1_method_21_code 3 none) ∈ wG := wG_2 184 (by decide +kernel) (by decide +kernel)
theorem ml_L_108 : (Cond.methodLink "ShadowArchiveLaw" 108 y_L_put) ∈ wG := wG_2 186 (by decide +kernel) (by decide +kernel)
theorem sm_L_put : (Cond.static y_L_put) ∈ wG := wG_2 187 (by decide +kernel) (by decide +kernel)
theorem cw_L_put : (Cond.codeWith y_L_put method_11_code 6 (some .int) [(0, 12, 15, 19), (0, 12, 19, 24)]) ∈ wG := wG_2 188 (by decide +kernel) (by decide +kernel)
theorem ml_L_45 : (Cond.methodLink "ShadowArchiveLaw" 45 y_A_put) ∈ wG := wG_2 189 (by decide +kernel) (by decide +kernel)
theorem im_A_put : (Cond.instanceMethod y_A_put) ∈ wG := wG_2 190 (by decide +kernel) (by decide +kernel)
theorem se_A_put : (Cond.selects "ShadowArchive" y_A_put y_A_put) ∈ wG := wG_2 191 (by decide +kernel) (by decide +kernel)
theorem co_A_put : (Cond.code y_A_put prog_1_method_10_code 6 (some .int)) ∈ wG := wG_2 192 (by decide +kernel) (by decide +kernel)
theorem ml_L_111 : (Cond.methodLink "ShadowArchiveLaw" 111 y_L_enough) ∈ wG := wG_2 193 (by decide +kernel) (by decide +kernel)
theorem sm_L_enough : (Cond.static y_L_enough) ∈ wG := wG_2 194 (by decide +kernel) (by decide +kernel)
theorem cw_L_enough : (Cond.codeWith y_L_enough method_12_code 4 (some .int) [(0, 16, 19, 13)]) ∈ wG := wG_2 195 (by decide +kernel) (by decide +kernel)
theorem ml_L_48 : (Cond.methodLink "ShadowArchiveLaw" 48 y_A_enough) ∈ wG := wG_2 196 (by decide +kernel) (by decide +kernel)
theorem im_A_enough : (Cond.instanceMethod y_A_enough) ∈ wG := wG_2 197 (by decide +kernel) (by decide +kernel)
theorem se_A_enough : (Cond.selects "ShadowArchive" y_A_enough y_A_enough) ∈ wG := wG_2 198 (by decide +kernel) (by decide +kernel)
theorem co_A_enough : (Cond.code y_A_enough prog_1_method_11_code 2 (some .boolean)) ∈ wG := wG_2 199 (by decide +kernel) (by decide +kernel)
theorem ml_A_142 : (Cond.methodLink "ShadowArchive" 142 y_A_requireMask) ∈ wG := wG_2 200 (by decide +kernel) (by decide +kernel)
theorem sm_A_requireMask : (Cond.static y_A_requireMask) ∈ wG := wG_2 201 (by decide +kernel) (by decide +kernel)
theorem co_A_requireMask : (Cond.code y_A_requireMask prog_1_method_22_code 1 none) ∈ wG := wG_2 202 (by decide +kernel) (by decide +kernel)
theorem ml_A_145 : (Cond.methodLink "ShadowArchive" 145 y_A_aimedOf) ∈ wG := wG_2 204 (by decide +kernel) (by decide +kernel)
theorem im_A_aimedOf : (Cond.instanceMethod y_A_aimedOf) ∈ wG := wG_2 206 (by decide +kernel) (by decide +kernel)
theorem co_A_aimedOf : (Cond.code y_A_aimedOf prog_1_method_28_code 4 (some .int)) ∈ wG := wG_2 207 (by decide +kernel) (by decide +kernel)
theorem ml_A_149 : (Cond.methodLink "ShadowArchive" 149 y_A_areEnough) ∈ wG := wG_2 208 (by decide +kernel) (by decide +kernel)
theorem im_A_areEnough : (Cond.instanceMethod y_A_areEnough) ∈ wG := wG_2 210 (by decide +kernel) (by decide +kernel)
theorem co_A_areEnough : (Cond.code y_A_areEnough prog_1_method_30_code 5 (some .boolean)) ∈ wG := wG_2 211 (by decide +kernel) (by decide +kernel)
theorem ml_A_211 : (Cond.methodLink "ShadowArchive" 211 Lib.Math.abs.name) ∈ wG := wG_2 212 (by decide +kernel) (by decide +kernel)
theorem ml_L_114 : (Cond.methodLink "ShadowArchiveLaw" 114 y_L_rebuild) ∈ wG := wG_2 213 (by decide +kernel) (by decide +kernel)
theorem sm_L_rebuild : (Cond.static y_L_rebuild) ∈ wG := wG_2 214 (by decide +kernel) (by decide +kernel)
theorem cw_L_rebuild : (Cond.codeWith y_L_rebuild method_13_code 4 (some .int) [(0, 9, 12, 13), (0, 9, 15, 24)]) ∈ wG := wG_2 215 (by decide +kernel) (by decide +kernel)
theorem ml_L_51 : (Cond.methodLink "ShadowArchiveLaw" 51 y_A_rebuild) ∈ wG := wG_2 216 (by decide +kernel) (by decide +kernel)
theorem im_A_rebuild : (Cond.instanceMethod y_A_rebuild) ∈ wG := wG_2 217 (by decide +kernel) (by decide +kernel)
theorem se_A_rebuild : (Cond.selects "ShadowArchive" y_A_rebuild y_A_rebuild) ∈ wG := wG_2 218 (by decide +kernel) (by decide +kernel)
theorem co_A_rebuild : (Cond.code y_A_rebuild prog_1_method_12_code 4 (some .int)) ∈ wG := wG_2 219 (by decide +kernel) (by decide +kernel)
theorem ml_L_117 : (Cond.methodLink "ShadowArchiveLaw" 117 y_L_about) ∈ wG := wG_2 220 (by decide +kernel) (by decide +kernel)
theorem sm_L_about : (Cond.static y_L_about) ∈ wG := wG_2 221 (by decide +kernel) (by decide +kernel)
theorem cw_L_about : (Cond.codeWith y_L_about method_14_code 4 (some .int) [(0, 9, 12, 13)]) ∈ wG := wG_2 222 (by decide +kernel) (by decide +kernel)
theorem ml_L_55 : (Cond.methodLink "ShadowArchiveLaw" 55 y_A_about) ∈ wG := wG_2 223 (by decide +kernel) (by decide +kernel)
theorem im_A_about : (Cond.instanceMethod y_A_about) ∈ wG := wG_2 224 (by decide +kernel) (by decide +kernel)
theorem se_A_about : (Cond.selects "ShadowArchive" y_A_about y_A_about) ∈ wG := wG_2 225 (by decide +kernel) (by decide +kernel)
theorem co_A_about : (Cond.code y_A_about prog_1_method_13_code 2 (some .int)) ∈ wG := wG_2 226 (by decide +kernel) (by decide +kernel)
theorem ml_L_120 : (Cond.methodLink "ShadowArchiveLaw" 120 y_L_regenerate) ∈ wG := wG_2 228 (by decide +kernel) (by decide +kernel)
theorem sm_L_regenerate : (Cond.static y_L_regenerate) ∈ wG := wG_2 229 (by decide +kernel) (by decide +kernel)
theorem cw_L_regenerate : (Cond.codeWith y_L_regenerate method_15_code 4 (some .int) [(0, 16, 19, 19), (0, 16, 22, 24)]) ∈ wG := wG_2 230 (by decide +kernel) (by decide +kernel)
theorem ml_L_58 : (Cond.methodLink "ShadowArchiveLaw" 58 y_A_regenerate) ∈ wG := wG_2 231 (by decide +kernel) (by decide +kernel)
theorem im_A_regenerate : (Cond.instanceMethod y_A_regenerate) ∈ wG := wG_2 232 (by decide +kernel) (by decide +kernel)
theorem se_A_regenerate : (Cond.selects "ShadowArchive" y_A_regenerate y_A_regenerate) ∈ wG := wG_2 233 (by decide +kernel) (by decide +kernel)
theorem co_A_regenerate : (Cond.code y_A_regenerate prog_1_method_14_code 3 (some .boolean)) ∈ wG := wG_2 234 (by decide +kernel) (by decide +kernel)
theorem ml_L_127 : (Cond.methodLink "ShadowArchiveLaw" 127 y_L_ghost) ∈ wG := wG_2 235 (by decide +kernel) (by decide +kernel)
theorem sm_L_ghost : (Cond.static y_L_ghost) ∈ wG := wG_2 236 (by decide +kernel) (by decide +kernel)
theorem cw_L_ghost : (Cond.codeWith y_L_ghost method_16_code 6 (some .int) [(0, 12, 15, 13), (0, 12, 19, 19), (0, 12, 23, 24)]) ∈ wG := wG_2 237 (by decide +kernel) (by decide +kernel)
theorem ml_L_61 : (Cond.methodLink "ShadowArchiveLaw" 61 y_A_ghost) ∈ wG := wG_2 238 (by decide +kernel) (by decide +kernel)
theorem im_A_ghost : (Cond.instanceMethod y_A_ghost) ∈ wG := wG_2 239 (by decide +kernel) (by decide +kernel)
theorem se_A_ghost : (Cond.selects "ShadowArchive" y_A_ghost y_A_ghost) ∈ wG := wG_3 0 (by decide +kernel) (by decide +kernel)
theorem co_A_ghost : (Cond.code y_A_ghost prog_1_method_16_code 5 (some .int)) ∈ wG := wG_3 1 (by decide +kernel) (by decide +kernel)
theorem ml_A_180 : (Cond.methodLink "ShadowArchive" 180 y_A_drawGhost) ∈ wG := wG_3 2 (by decide +kernel) (by decide +kernel)
theorem im_A_drawGhost : (Cond.instanceMethod y_A_drawGhost) ∈ wG := wG_3 4 (by decide +kernel) (by decide +kernel)
theorem co_A_drawGhost : (Cond.code y_A_drawGhost prog_1_method_36_code 4 none) ∈ wG := wG_3 5 (by decide +kernel) (by decide +kernel)
theorem ml_A_243 : (Cond.methodLink "ShadowArchive" 243 Lib.Math.max.name) ∈ wG := wG_3 6 (by decide +kernel) (by decide +kernel)
theorem sm_max : (Cond.static Lib.Math.max.name) ∈ wG := wG_3 7 (by decide +kernel) (by decide +kernel)
theorem co_max : (Cond.code Lib.Math.max.name Lib.Math.max.code 2 (some .int)) ∈ wG := wG_3 8 (by decide +kernel) (by decide +kernel)
theorem ml_A_246 : (Cond.methodLink "ShadowArchive" 246 y_A_takeGhostMoved) ∈ wG := wG_3 9 (by decide +kernel) (by decide +kernel)
theorem im_A_takeGhostMoved : (Cond.instanceMethod y_A_takeGhostMoved) ∈ wG := wG_3 11 (by decide +kernel) (by decide +kernel)
theorem co_A_takeGhostMoved : (Cond.code y_A_takeGhostMoved prog_1_method_37_code 6 none) ∈ wG := wG_3 12 (by decide +kernel) (by decide +kernel)
theorem ml_L_134 : (Cond.methodLink "ShadowArchiveLaw" 134 y_L_add) ∈ wG := wG_3 13 (by decide +kernel) (by decide +kernel)
theorem sm_L_add : (Cond.static y_L_add) ∈ wG := wG_3 14 (by decide +kernel) (by decide +kernel)
theorem cw_L_add : (Cond.codeWith y_L_add method_17_code 4 (some .int) [(0, 9, 12, 24)]) ∈ wG := wG_3 15 (by decide +kernel) (by decide +kernel)
theorem ml_L_64 : (Cond.methodLink "ShadowArchiveLaw" 64 y_A_add) ∈ wG := wG_3 16 (by decide +kernel) (by decide +kernel)
theorem im_A_add : (Cond.instanceMethod y_A_add) ∈ wG := wG_3 17 (by decide +kernel) (by decide +kernel)
theorem se_A_add : (Cond.selects "ShadowArchive" y_A_add y_A_add) ∈ wG := wG_3 18 (by decide +kernel) (by decide +kernel)
theorem co_A_add : (Cond.code y_A_add prog_1_method_18_code 4 (some .int)) ∈ wG := wG_3 19 (by decide +kernel) (by decide +kernel)
theorem ml_A_187 : (Cond.methodLink "ShadowArchive" 187 y_A_addEach) ∈ wG := wG_3 20 (by decide +kernel) (by decide +kernel)
theorem sm_A_addEach : (Cond.static y_A_addEach) ∈ wG := wG_3 21 (by decide +kernel) (by decide +kernel)
theorem co_A_addEach : (Cond.code y_A_addEach prog_1_method_38_code 5 none) ∈ wG := wG_3 22 (by decide +kernel) (by decide +kernel)
theorem ml_A_191 : (Cond.methodLink "ShadowArchive" 191 y_S_addShelf) ∈ wG := wG_3 23 (by decide +kernel) (by decide +kernel)
theorem im_S_addShelf : (Cond.instanceMethod y_S_addShelf) ∈ wG := wG_3 24 (by decide +kernel) (by decide +kernel)
theorem se_S_addShelf : (Cond.selects "ShadowArchive$Shelf" y_S_addShelf y_S_addShelf) ∈ wG := wG_3 25 (by decide +kernel) (by decide +kernel)
theorem co_S_addShelf : (Cond.code y_S_addShelf prog_2_method_9_code 3 none) ∈ wG := wG_3 26 (by decide +kernel) (by decide +kernel)
theorem ml_S_66 : (Cond.methodLink "ShadowArchive$Shelf" 66 y_S_goesAlong) ∈ wG := wG_3 27 (by decide +kernel) (by decide +kernel)
theorem kl_L_69 : (Cond.classLink "ShadowArchiveLaw" 69 "ShadowArchiveModel") ∈ wG := wG_3 29 (by decide +kernel) (by decide +kernel)
theorem ia_M : (Cond.instantiable "ShadowArchiveModel" 28) ∈ wG := wG_3 30 (by decide +kernel) (by decide +kernel)
theorem ml_L_71 : (Cond.methodLink "ShadowArchiveLaw" 71 y_M_init) ∈ wG := wG_3 31 (by decide +kernel) (by decide +kernel)
theorem im_M_init : (Cond.instanceMethod y_M_init) ∈ wG := wG_3 32 (by decide +kernel) (by decide +kernel)
theorem co_M_init : (Cond.code y_M_init prog_5_method_1_code 1 none) ∈ wG := wG_3 33 (by decide +kernel) (by decide +kernel)
theorem ml_M_1 : (Cond.methodLink "ShadowArchiveModel" 1 objectInit) ∈ wG := wG_3 34 (by decide +kernel) (by decide +kernel)
theorem fl_M_81 : (Cond.fieldLink "ShadowArchiveModel" 81 "ShadowArchiveModel" "thrown" "I") ∈ wG := wG_3 35 (by decide +kernel) (by decide +kernel)
theorem fl_M_7 : (Cond.fieldLink "ShadowArchiveModel" 7 "ShadowArchiveModel" "w" "I") ∈ wG := wG_3 36 (by decide +kernel) (by decide +kernel)
theorem fl_M_13 : (Cond.fieldLink "ShadowArchiveModel" 13 "ShadowArchiveModel" "h" "I") ∈ wG := wG_3 37 (by decide +kernel) (by decide +kernel)
theorem fl_M_16 : (Cond.fieldLink "ShadowArchiveModel" 16 "ShadowArchiveModel" "picture" "[I") ∈ wG := wG_3 38 (by decide +kernel) (by decide +kernel)
theorem fl_M_20 : (Cond.fieldLink "ShadowArchiveModel" 20 "ShadowArchiveModel" "kept" "[I") ∈ wG := wG_3 39 (by decide +kernel) (by decide +kernel)
theorem fl_M_23 : (Cond.fieldLink "ShadowArchiveModel" 23 "ShadowArchiveModel" "rebuilt" "[I") ∈ wG := wG_3 40 (by decide +kernel) (by decide +kernel)
theorem fl_M_26 : (Cond.fieldLink "ShadowArchiveModel" 26 "ShadowArchiveModel" "tried" "[I") ∈ wG := wG_3 41 (by decide +kernel) (by decide +kernel)
theorem fl_M_29 : (Cond.fieldLink "ShadowArchiveModel" 29 "ShadowArchiveModel" "known" "[Z") ∈ wG := wG_3 42 (by decide +kernel) (by decide +kernel)
theorem fl_M_92 : (Cond.fieldLink "ShadowArchiveModel" 92 "ShadowArchiveModel" "keeps" "Z") ∈ wG := wG_3 43 (by decide +kernel) (by decide +kernel)
theorem fl_M_96 : (Cond.fieldLink "ShadowArchiveModel" 96 "ShadowArchiveModel" "hasRebuilt" "Z") ∈ wG := wG_3 44 (by decide +kernel) (by decide +kernel)
theorem fl_M_33 : (Cond.fieldLink "ShadowArchiveModel" 33 "ShadowArchiveModel" "told" "[Z") ∈ wG := wG_3 45 (by decide +kernel) (by decide +kernel)
theorem fl_M_36 : (Cond.fieldLink "ShadowArchiveModel" 36 "ShadowArchiveModel" "right" "[I") ∈ wG := wG_3 46 (by decide +kernel) (by decide +kernel)
theorem fl_M_39 : (Cond.fieldLink "ShadowArchiveModel" 39 "ShadowArchiveModel" "down" "[I") ∈ wG := wG_3 47 (by decide +kernel) (by decide +kernel)
theorem fl_M_42 : (Cond.fieldLink "ShadowArchiveModel" 42 "ShadowArchiveModel" "filled" "[Z") ∈ wG := wG_3 48 (by decide +kernel) (by decide +kernel)
theorem fl_M_45 : (Cond.fieldLink "ShadowArchiveModel" 45 "ShadowArchiveModel" "bins" "[I") ∈ wG := wG_3 49 (by decide +kernel) (by decide +kernel)
theorem fl_M_48 : (Cond.fieldLink "ShadowArchiveModel" 48 "ShadowArchiveModel" "keptTold" "[Z") ∈ wG := wG_3 50 (by decide +kernel) (by decide +kernel)
theorem fl_M_51 : (Cond.fieldLink "ShadowArchiveModel" 51 "ShadowArchiveModel" "keptRight" "[I") ∈ wG := wG_3 51 (by decide +kernel) (by decide +kernel)
theorem fl_M_54 : (Cond.fieldLink "ShadowArchiveModel" 54 "ShadowArchiveModel" "keptDown" "[I") ∈ wG := wG_3 52 (by decide +kernel) (by decide +kernel)
theorem fl_M_57 : (Cond.fieldLink "ShadowArchiveModel" 57 "ShadowArchiveModel" "keptFilled" "[Z") ∈ wG := wG_3 53 (by decide +kernel) (by decide +kernel)
theorem fl_M_60 : (Cond.fieldLink "ShadowArchiveModel" 60 "ShadowArchiveModel" "keptBins" "[I") ∈ wG := wG_3 54 (by decide +kernel) (by decide +kernel)
theorem fl_M_63 : (Cond.fieldLink "ShadowArchiveModel" 63 "ShadowArchiveModel" "unknown" "[I") ∈ wG := wG_3 55 (by decide +kernel) (by decide +kernel)
theorem fl_M_66 : (Cond.fieldLink "ShadowArchiveModel" 66 "ShadowArchiveModel" "left" "[I") ∈ wG := wG_3 56 (by decide +kernel) (by decide +kernel)
theorem fl_M_143 : (Cond.fieldLink "ShadowArchiveModel" 143 "ShadowArchiveModel" "tries" "I") ∈ wG := wG_3 57 (by decide +kernel) (by decide +kernel)
theorem fl_M_69 : (Cond.fieldLink "ShadowArchiveModel" 69 "ShadowArchiveModel" "sums" "[I") ∈ wG := wG_3 58 (by decide +kernel) (by decide +kernel)
theorem fl_M_167 : (Cond.fieldLink "ShadowArchiveModel" 167 "ShadowArchiveModel" "steps" "I") ∈ wG := wG_3 59 (by decide +kernel) (by decide +kernel)
theorem fl_M_72 : (Cond.fieldLink "ShadowArchiveModel" 72 "ShadowArchiveModel" "wrongBin" "I") ∈ wG := wG_3 60 (by decide +kernel) (by decide +kernel)
theorem fl_M_75 : (Cond.fieldLink "ShadowArchiveModel" 75 "ShadowArchiveModel" "spread" "[I") ∈ wG := wG_3 61 (by decide +kernel) (by decide +kernel)
theorem fl_M_78 : (Cond.fieldLink "ShadowArchiveModel" 78 "ShadowArchiveModel" "spreading" "[I") ∈ wG := wG_3 62 (by decide +kernel) (by decide +kernel)
theorem la_M_thrown : (Cond.lays "ShadowArchiveModel" "ShadowArchiveModel" "thrown" "I") ∈ wG := wG_3 63 (by decide +kernel) (by decide +kernel)
theorem la_M_w : (Cond.lays "ShadowArchiveModel" "ShadowArchiveModel" "w" "I") ∈ wG := wG_3 65 (by decide +kernel) (by decide +kernel)
theorem la_M_h : (Cond.lays "ShadowArchiveModel" "ShadowArchiveModel" "h" "I") ∈ wG := wG_3 67 (by decide +kernel) (by decide +kernel)
theorem la_M_picture : (Cond.laysFinal "ShadowArchiveModel" "ShadowArchiveModel" "picture" "[I") ∈ wG := wG_3 69 (by decide +kernel) (by decide +kernel)
theorem la_M_kept : (Cond.laysFinal "ShadowArchiveModel" "ShadowArchiveModel" "kept" "[I") ∈ wG := wG_3 71 (by decide +kernel) (by decide +kernel)
theorem la_M_rebuilt : (Cond.laysFinal "ShadowArchiveModel" "ShadowArchiveModel" "rebuilt" "[I") ∈ wG := wG_3 73 (by decide +kernel) (by decide +kernel)
theorem la_M_tried : (Cond.laysFinal "ShadowArchiveModel" "ShadowArchiveModel" "tried" "[I") ∈ wG := wG_3 75 (by decide +kernel) (by decide +kernel)
theorem la_M_known : (Cond.laysFinal "ShadowArchiveModel" "ShadowArchiveModel" "known" "[Z") ∈ wG := wG_3 77 (by decide +kernel) (by decide +kernel)
theorem la_M_keeps : (Cond.lays "ShadowArchiveModel" "ShadowArchiveModel" "keeps" "Z") ∈ wG := wG_3 79 (by decide +kernel) (by decide +kernel)
theorem la_M_hasRebuilt : (Cond.lays "ShadowArchiveModel" "ShadowArchiveModel" "hasRebuilt" "Z") ∈ wG := wG_3 81 (by decide +kernel) (by decide +kernel)
theorem la_M_told : (Cond.laysFinal "ShadowArchiveModel" "ShadowArchiveModel" "told" "[Z") ∈ wG := wG_3 83 (by decide +kernel) (by decide +kernel)
theorem la_M_right : (Cond.laysFinal "ShadowArchiveModel" "ShadowArchiveModel" "right" "[I") ∈ wG := wG_3 85 (by decide +kernel) (by decide +kernel)
theorem la_M_down : (Cond.laysFinal "ShadowArchiveModel" "ShadowArchiveModel" "down" "[I") ∈ wG := wG_3 87 (by decide +kernel) (by decide +kernel)
theorem la_M_filled : (Cond.laysFinal "ShadowArchiveModel" "ShadowArchiveModel" "filled" "[Z") ∈ wG := wG_3 89 (by decide +kernel) (by decide +kernel)
theorem la_M_bins : (Cond.laysFinal "ShadowArchiveModel" "ShadowArchiveModel" "bins" "[I") ∈ wG := wG_3 91 (by decide +kernel) (by decide +kernel)
theorem la_M_keptTold : (Cond.laysFinal "ShadowArchiveModel" "ShadowArchiveModel" "keptTold" "[Z") ∈ wG := wG_3 93 (by decide +kernel) (by decide +kernel)
theorem la_M_keptRight : (Cond.laysFinal "ShadowArchiveModel" "ShadowArchiveModel" "keptRight" "[I") ∈ wG := wG_3 95 (by decide +kernel) (by decide +kernel)
theorem la_M_keptDown : (Cond.laysFinal "ShadowArchiveModel" "ShadowArchiveModel" "keptDown" "[I") ∈ wG := wG_3 97 (by decide +kernel) (by decide +kernel)
theorem la_M_keptFilled : (Cond.laysFinal "ShadowArchiveModel" "ShadowArchiveModel" "keptFilled" "[Z") ∈ wG := wG_3 99 (by decide +kernel) (by decide +kernel)
theorem la_M_keptBins : (Cond.laysFinal "ShadowArchiveModel" "ShadowArchiveModel" "keptBins" "[I") ∈ wG := wG_3 101 (by decide +kernel) (by decide +kernel)
theorem la_M_unknown : (Cond.laysFinal "ShadowArchiveModel" "ShadowArchiveModel" "unknown" "[I") ∈ wG := wG_3 103 (by decide +kernel) (by decide +kernel)
theorem la_M_left : (Cond.laysFinal "ShadowArchiveModel" "ShadowArchiveModel" "left" "[I") ∈ wG := wG_3 105 (by decide +kernel) (by decide +kernel)
theorem la_M_tries : (Cond.lays "ShadowArchiveModel" "ShadowArchiveModel" "tries" "I") ∈ wG := wG_3 107 (by decide +kernel) (by decide +kernel)
theorem la_M_sums : (Cond.laysFinal "ShadowArchiveModel" "ShadowArchiveModel" "sums" "[I") ∈ wG := wG_3 109 (by decide +kernel) (by decide +kernel)
theorem la_M_steps : (Cond.lays "ShadowArchiveModel" "ShadowArchiveModel" "steps" "I") ∈ wG := wG_3 111 (by decide +kernel) (by decide +kernel)
theorem la_M_wrongBin : (Cond.lays "ShadowArchiveModel" "ShadowArchiveModel" "wrongBin" "I") ∈ wG := wG_3 113 (by decide +kernel) (by decide +kernel)
theorem la_M_spread : (Cond.laysFinal "ShadowArchiveModel" "ShadowArchiveModel" "spread" "[I") ∈ wG := wG_3 115 (by decide +kernel) (by decide +kernel)
theorem la_M_spreading : (Cond.laysFinal "ShadowArchiveModel" "ShadowArchiveModel" "spreading" "[I") ∈ wG := wG_3 117 (by decide +kernel) (by decide +kernel)
theorem ac_boolean : (Cond.arrayClass .boolean) ∈ wG := wG_3 120 (by decide +kernel) (by decide +kernel)
theorem ml_L_78 : (Cond.methodLink "ShadowArchiveLaw" 78 y_M_thrown) ∈ wG := wG_3 121 (by decide +kernel) (by decide +kernel)
theorem im_M_thrown : (Cond.instanceMethod y_M_thrown) ∈ wG := wG_3 122 (by decide +kernel) (by decide +kernel)
theorem se_M_thrown : (Cond.selects "ShadowArchiveModel" y_M_thrown y_M_thrown) ∈ wG := wG_3 123 (by decide +kernel) (by decide +kernel)
theorem co_M_thrown : (Cond.code y_M_thrown prog_5_method_2_code 1 (some .int)) ∈ wG := wG_3 124 (by decide +kernel) (by decide +kernel)
theorem ml_L_77 : (Cond.methodLink "ShadowArchiveLaw" 77 y_M_size) ∈ wG := wG_3 125 (by decide +kernel) (by decide +kernel)
theorem im_M_size : (Cond.instanceMethod y_M_size) ∈ wG := wG_3 126 (by decide +kernel) (by decide +kernel)
theorem se_M_size : (Cond.selects "ShadowArchiveModel" y_M_size y_M_size) ∈ wG := wG_3 127 (by decide +kernel) (by decide +kernel)
theorem co_M_size : (Cond.code y_M_size prog_5_method_7_code 4 none) ∈ wG := wG_3 128 (by decide +kernel) (by decide +kernel)
theorem ml_M_88 : (Cond.methodLink "ShadowArchiveModel" 88 y_M_throwing) ∈ wG := wG_3 129 (by decide +kernel) (by decide +kernel)
theorem im_M_throwing : (Cond.instanceMethod y_M_throwing) ∈ wG := wG_3 131 (by decide +kernel) (by decide +kernel)
theorem co_M_throwing : (Cond.code y_M_throwing prog_5_method_3_code 3 (some .boolean)) ∈ wG := wG_3 132 (by decide +kernel) (by decide +kernel)
theorem ml_L_85 : (Cond.methodLink "ShadowArchiveLaw" 85 y_M_pixel) ∈ wG := wG_3 133 (by decide +kernel) (by decide +kernel)
theorem im_M_pixel : (Cond.instanceMethod y_M_pixel) ∈ wG := wG_3 134 (by decide +kernel) (by decide +kernel)
theorem se_M_pixel : (Cond.selects "ShadowArchiveModel" y_M_pixel y_M_pixel) ∈ wG := wG_3 135 (by decide +kernel) (by decide +kernel)
theorem co_M_pixel : (Cond.code y_M_pixel prog_5_method_8_code 5 (some .int)) ∈ wG := wG_3 136 (by decide +kernel) (by decide +kernel)
theorem ml_M_99 : (Cond.methodLink "ShadowArchiveModel" 99 y_M_isPixel) ∈ wG := wG_3 137 (by decide +kernel) (by decide +kernel)
theorem im_M_isPixel : (Cond.instanceMethod y_M_isPixel) ∈ wG := wG_3 139 (by decide +kernel) (by decide +kernel)
theorem co_M_isPixel : (Cond.code y_M_isPixel prog_5_method_5_code 3 (some .boolean)) ∈ wG := wG_3 140 (by decide +kernel) (by decide +kernel)
theorem ml_L_88 : (Cond.methodLink "ShadowArchiveLaw" 88 y_M_look) ∈ wG := wG_3 141 (by decide +kernel) (by decide +kernel)
theorem im_M_look : (Cond.instanceMethod y_M_look) ∈ wG := wG_3 142 (by decide +kernel) (by decide +kernel)
theorem se_M_look : (Cond.selects "ShadowArchiveModel" y_M_look y_M_look) ∈ wG := wG_3 143 (by decide +kernel) (by decide +kernel)
theorem co_M_look : (Cond.code y_M_look prog_5_method_9_code 6 (some .int)) ∈ wG := wG_3 144 (by decide +kernel) (by decide +kernel)
theorem ml_L_92 : (Cond.methodLink "ShadowArchiveLaw" 92 y_M_direction) ∈ wG := wG_3 145 (by decide +kernel) (by decide +kernel)
theorem im_M_direction : (Cond.instanceMethod y_M_direction) ∈ wG := wG_3 146 (by decide +kernel) (by decide +kernel)
theorem se_M_direction : (Cond.selects "ShadowArchiveModel" y_M_direction y_M_direction) ∈ wG := wG_3 147 (by decide +kernel) (by decide +kernel)
theorem co_M_direction : (Cond.code y_M_direction prog_5_method_12_code 8 none) ∈ wG := wG_3 148 (by decide +kernel) (by decide +kernel)
theorem ml_M_84 : (Cond.methodLink "ShadowArchiveModel" 84 y_M_isShelf) ∈ wG := wG_3 149 (by decide +kernel) (by decide +kernel)
theorem sm_M_isShelf : (Cond.static y_M_isShelf) ∈ wG := wG_3 150 (by decide +kernel) (by decide +kernel)
theorem co_M_isShelf : (Cond.code y_M_isShelf prog_5_method_4_code 1 (some .boolean)) ∈ wG := wG_3 151 (by decide +kernel) (by decide +kernel)
theorem ml_M_103 : (Cond.methodLink "ShadowArchiveModel" 103 y_M_haveFactor) ∈ wG := wG_3 152 (by decide +kernel) (by decide +kernel)
theorem sm_M_haveFactor : (Cond.static y_M_haveFactor) ∈ wG := wG_3 153 (by decide +kernel) (by decide +kernel)
theorem co_M_haveFactor : (Cond.code y_M_haveFactor prog_5_method_10_code 4 (some .boolean)) ∈ wG := wG_3 154 (by decide +kernel) (by decide +kernel)
theorem ml_M_106 : (Cond.methodLink "ShadowArchiveModel" 106 y_M_isTaken) ∈ wG := wG_3 155 (by decide +kernel) (by decide +kernel)
theorem im_M_isTaken : (Cond.instanceMethod y_M_isTaken) ∈ wG := wG_3 157 (by decide +kernel) (by decide +kernel)
theorem co_M_isTaken : (Cond.code y_M_isTaken prog_5_method_11_code 6 (some .boolean)) ∈ wG := wG_3 158 (by decide +kernel) (by decide +kernel)
theorem ml_L_96 : (Cond.methodLink "ShadowArchiveLaw" 96 y_M_shelf) ∈ wG := wG_3 159 (by decide +kernel) (by decide +kernel)
theorem im_M_shelf : (Cond.instanceMethod y_M_shelf) ∈ wG := wG_3 160 (by decide +kernel) (by decide +kernel)
theorem se_M_shelf : (Cond.selects "ShadowArchiveModel" y_M_shelf y_M_shelf) ∈ wG := wG_3 161 (by decide +kernel) (by decide +kernel)
theorem co_M_shelf : (Cond.code y_M_shelf prog_5_method_16_code 3 (some .int)) ∈ wG := wG_3 162 (by decide +kernel) (by decide +kernel)
theorem ml_M_114 : (Cond.methodLink "ShadowArchiveModel" 114 y_M_hasDirection) ∈ wG := wG_3 163 (by decide +kernel) (by decide +kernel)
theorem im_M_hasDirection : (Cond.instanceMethod y_M_hasDirection) ∈ wG := wG_3 165 (by decide +kernel) (by decide +kernel)
theorem co_M_hasDirection : (Cond.code y_M_hasDirection prog_5_method_6_code 2 (some .boolean)) ∈ wG := wG_3 166 (by decide +kernel) (by decide +kernel)
theorem ml_M_117 : (Cond.methodLink "ShadowArchiveModel" 117 y_M_binsOf) ∈ wG := wG_3 167 (by decide +kernel) (by decide +kernel)
theorem im_M_binsOf : (Cond.instanceMethod y_M_binsOf) ∈ wG := wG_3 169 (by decide +kernel) (by decide +kernel)
theorem co_M_binsOf : (Cond.code y_M_binsOf prog_5_method_14_code 2 (some .int)) ∈ wG := wG_3 170 (by decide +kernel) (by decide +kernel)
theorem ml_M_110 : (Cond.methodLink "ShadowArchiveModel" 110 y_M_sizeOf) ∈ wG := wG_3 171 (by decide +kernel) (by decide +kernel)
theorem sm_M_sizeOf : (Cond.static y_M_sizeOf) ∈ wG := wG_3 172 (by decide +kernel) (by decide +kernel)
theorem co_M_sizeOf : (Cond.code y_M_sizeOf prog_5_method_13_code 1 (some .int)) ∈ wG := wG_3 173 (by decide +kernel) (by decide +kernel)
theorem ml_L_100 : (Cond.methodLink "ShadowArchiveLaw" 100 y_M_project) ∈ wG := wG_3 174 (by decide +kernel) (by decide +kernel)
theorem im_M_project : (Cond.instanceMethod y_M_project) ∈ wG := wG_3 175 (by decide +kernel) (by decide +kernel)
theorem se_M_project : (Cond.selects "ShadowArchiveModel" y_M_project y_M_project) ∈ wG := wG_3 176 (by decide +kernel) (by decide +kernel)
theorem co_M_project : (Cond.code y_M_project prog_5_method_19_code 2 none) ∈ wG := wG_3 177 (by decide +kernel) (by decide +kernel)
theorem ml_M_128 : (Cond.methodLink "ShadowArchiveModel" 128 y_M_fill) ∈ wG := wG_3 178 (by decide +kernel) (by decide +kernel)
theorem im_M_fill : (Cond.instanceMethod y_M_fill) ∈ wG := wG_3 180 (by decide +kernel) (by decide +kernel)
theorem co_M_fill : (Cond.code y_M_fill prog_5_method_18_code 4 none) ∈ wG := wG_3 181 (by decide +kernel) (by decide +kernel)
theorem ml_M_124 : (Cond.methodLink "ShadowArchiveModel" 124 y_M_sumUp) ∈ wG := wG_3 182 (by decide +kernel) (by decide +kernel)
theorem im_M_sumUp : (Cond.instanceMethod y_M_sumUp) ∈ wG := wG_3 184 (by decide +kernel) (by decide +kernel)
theorem co_M_sumUp : (Cond.code y_M_sumUp prog_5_method_17_code 5 none) ∈ wG := wG_3 185 (by decide +kernel) (by decide +kernel)
theorem ml_M_120 : (Cond.methodLink "ShadowArchiveModel" 120 y_M_binAt) ∈ wG := wG_3 186 (by decide +kernel) (by decide +kernel)
theorem im_M_binAt : (Cond.instanceMethod y_M_binAt) ∈ wG := wG_3 188 (by decide +kernel) (by decide +kernel)
theorem co_M_binAt : (Cond.code y_M_binAt prog_5_method_15_code 5 (some .int)) ∈ wG := wG_3 189 (by decide +kernel) (by decide +kernel)
theorem ml_L_104 : (Cond.methodLink "ShadowArchiveLaw" 104 y_M_drop) ∈ wG := wG_3 190 (by decide +kernel) (by decide +kernel)
theorem im_M_drop : (Cond.instanceMethod y_M_drop) ∈ wG := wG_3 191 (by decide +kernel) (by decide +kernel)
theorem se_M_drop : (Cond.selects "ShadowArchiveModel" y_M_drop y_M_drop) ∈ wG := wG_3 192 (by decide +kernel) (by decide +kernel)
theorem co_M_drop : (Cond.code y_M_drop prog_5_method_20_code 3 (some .boolean)) ∈ wG := wG_3 193 (by decide +kernel) (by decide +kernel)
theorem ml_L_107 : (Cond.methodLink "ShadowArchiveLaw" 107 y_M_bin) ∈ wG := wG_3 194 (by decide +kernel) (by decide +kernel)
theorem im_M_bin : (Cond.instanceMethod y_M_bin) ∈ wG := wG_3 195 (by decide +kernel) (by decide +kernel)
theorem se_M_bin : (Cond.selects "ShadowArchiveModel" y_M_bin y_M_bin) ∈ wG := wG_3 196 (by decide +kernel) (by decide +kernel)
theorem co_M_bin : (Cond.code y_M_bin prog_5_method_22_code 3 (some .int)) ∈ wG := wG_3 197 (by decide +kernel) (by decide +kernel)
theorem ml_M_131 : (Cond.methodLink "ShadowArchiveModel" 131 y_M_hasNoBin) ∈ wG := wG_3 198 (by decide +kernel) (by decide +kernel)
theorem im_M_hasNoBin : (Cond.instanceMethod y_M_hasNoBin) ∈ wG := wG_3 200 (by decide +kernel) (by decide +kernel)
theorem co_M_hasNoBin : (Cond.code y_M_hasNoBin prog_5_method_21_code 3 (some .boolean)) ∈ wG := wG_3 201 (by decide +kernel) (by decide +kernel)
theorem ml_L_110 : (Cond.methodLink "ShadowArchiveLaw" 110 y_M_put) ∈ wG := wG_3 202 (by decide +kernel) (by decide +kernel)
theorem im_M_put : (Cond.instanceMethod y_M_put) ∈ wG := wG_3 203 (by decide +kernel) (by decide +kernel)
theorem se_M_put : (Cond.selects "ShadowArchiveModel" y_M_put y_M_put) ∈ wG := wG_3 204 (by decide +kernel) (by decide +kernel)
theorem co_M_put : (Cond.code y_M_put prog_5_method_23_code 5 (some .int)) ∈ wG := wG_3 205 (by decide +kernel) (by decide +kernel)
theorem ml_L_113 : (Cond.methodLink "ShadowArchiveLaw" 113 y_M_enough) ∈ wG := wG_3 206 (by decide +kernel) (by decide +kernel)
theorem im_M_enough : (Cond.instanceMethod y_M_enough) ∈ wG := wG_3 207 (by decide +kernel) (by decide +kernel)
theorem se_M_enough : (Cond.selects "ShadowArchiveModel" y_M_enough y_M_enough) ∈ wG := wG_3 208 (by decide +kernel) (by decide +kernel)
theorem co_M_enough : (Cond.code y_M_enough prog_5_method_28_code 2 (some .boolean)) ∈ wG := wG_3 209 (by decide +kernel) (by decide +kernel)
theorem ml_M_137 : (Cond.methodLink "ShadowArchiveModel" 137 y_M_isMask) ∈ wG := wG_3 210 (by decide +kernel) (by decide +kernel)
theorem sm_M_isMask : (Cond.static y_M_isMask) ∈ wG := wG_3 211 (by decide +kernel) (by decide +kernel)
theorem co_M_isMask : (Cond.code y_M_isMask prog_5_method_24_code 1 (some .boolean)) ∈ wG := wG_3 212 (by decide +kernel) (by decide +kernel)
theorem ml_M_140 : (Cond.methodLink "ShadowArchiveModel" 140 y_M_areEnough) ∈ wG := wG_3 213 (by decide +kernel) (by decide +kernel)
theorem im_M_areEnough : (Cond.instanceMethod y_M_areEnough) ∈ wG := wG_3 215 (by decide +kernel) (by decide +kernel)
theorem co_M_areEnough : (Cond.code y_M_areEnough prog_5_method_27_code 5 (some .boolean)) ∈ wG := wG_3 216 (by decide +kernel) (by decide +kernel)
theorem ml_M_134 : (Cond.methodLink "ShadowArchiveModel" 134 y_M_isOf) ∈ wG := wG_3 217 (by decide +kernel) (by decide +kernel)
theorem im_M_isOf : (Cond.instanceMethod y_M_isOf) ∈ wG := wG_3 219 (by decide +kernel) (by decide +kernel)
theorem co_M_isOf : (Cond.code y_M_isOf prog_5_method_25_code 3 (some .boolean)) ∈ wG := wG_3 220 (by decide +kernel) (by decide +kernel)
theorem ml_L_116 : (Cond.methodLink "ShadowArchiveLaw" 116 y_M_rebuild) ∈ wG := wG_3 221 (by decide +kernel) (by decide +kernel)
theorem im_M_rebuild : (Cond.instanceMethod y_M_rebuild) ∈ wG := wG_3 222 (by decide +kernel) (by decide +kernel)
theorem se_M_rebuild : (Cond.selects "ShadowArchiveModel" y_M_rebuild y_M_rebuild) ∈ wG := wG_3 223 (by decide +kernel) (by decide +kernel)
theorem co_M_rebuild : (Cond.code y_M_rebuild prog_5_method_36_code 5 (some .int)) ∈ wG := wG_3 224 (by decide +kernel) (by decide +kernel)
theorem ml_M_164 : (Cond.methodLink "ShadowArchiveModel" 164 y_M_comes) ∈ wG := wG_3 225 (by decide +kernel) (by decide +kernel)
theorem im_M_comes : (Cond.instanceMethod y_M_comes) ∈ wG := wG_3 227 (by decide +kernel) (by decide +kernel)
theorem co_M_comes : (Cond.code y_M_comes prog_5_method_33_code 3 (some .boolean)) ∈ wG := wG_3 228 (by decide +kernel) (by decide +kernel)
theorem ml_M_150 : (Cond.methodLink "ShadowArchiveModel" 150 y_M_beginTry) ∈ wG := wG_3 229 (by decide +kernel) (by decide +kernel)
theorem im_M_beginTry : (Cond.instanceMethod y_M_beginTry) ∈ wG := wG_3 231 (by decide +kernel) (by decide +kernel)
theorem co_M_beginTry : (Cond.code y_M_beginTry prog_5_method_29_code 5 none) ∈ wG := wG_3 232 (by decide +kernel) (by decide +kernel)
theorem ml_M_154 : (Cond.methodLink "ShadowArchiveModel" 154 y_M_single) ∈ wG := wG_3 233 (by decide +kernel) (by decide +kernel)
theorem im_M_single : (Cond.instanceMethod y_M_single) ∈ wG := wG_3 235 (by decide +kernel) (by decide +kernel)
theorem co_M_single : (Cond.code y_M_single prog_5_method_30_code 5 (some .int)) ∈ wG := wG_3 236 (by decide +kernel) (by decide +kernel)
theorem ml_M_157 : (Cond.methodLink "ShadowArchiveModel" 157 y_M_learnOf) ∈ wG := wG_3 237 (by decide +kernel) (by decide +kernel)
theorem im_M_learnOf : (Cond.instanceMethod y_M_learnOf) ∈ wG := wG_3 239 (by decide +kernel) (by decide +kernel)
theorem co_M_learnOf : (Cond.code y_M_learnOf prog_5_method_32_code 7 none) ∈ wG := wG_4 0 (by decide +kernel) (by decide +kernel)
theorem ml_M_146 : (Cond.methodLink "ShadowArchiveModel" 146 y_M_learn) ∈ wG := wG_4 1 (by decide +kernel) (by decide +kernel)
theorem im_M_learn : (Cond.instanceMethod y_M_learn) ∈ wG := wG_4 3 (by decide +kernel) (by decide +kernel)
theorem co_M_learn : (Cond.code y_M_learn prog_5_method_31_code 7 none) ∈ wG := wG_4 4 (by decide +kernel) (by decide +kernel)
theorem ml_M_170 : (Cond.methodLink "ShadowArchiveModel" 170 y_M_disagrees) ∈ wG := wG_4 5 (by decide +kernel) (by decide +kernel)
theorem im_M_disagrees : (Cond.instanceMethod y_M_disagrees) ∈ wG := wG_4 7 (by decide +kernel) (by decide +kernel)
theorem co_M_disagrees : (Cond.code y_M_disagrees prog_5_method_35_code 3 (some .int)) ∈ wG := wG_4 8 (by decide +kernel) (by decide +kernel)
theorem ml_M_161 : (Cond.methodLink "ShadowArchiveModel" 161 y_M_parts) ∈ wG := wG_4 9 (by decide +kernel) (by decide +kernel)
theorem im_M_parts : (Cond.instanceMethod y_M_parts) ∈ wG := wG_4 11 (by decide +kernel) (by decide +kernel)
theorem co_M_parts : (Cond.code y_M_parts prog_5_method_34_code 4 (some .int)) ∈ wG := wG_4 12 (by decide +kernel) (by decide +kernel)
theorem ml_L_119 : (Cond.methodLink "ShadowArchiveLaw" 119 y_M_about) ∈ wG := wG_4 13 (by decide +kernel) (by decide +kernel)
theorem im_M_about : (Cond.instanceMethod y_M_about) ∈ wG := wG_4 14 (by decide +kernel) (by decide +kernel)
theorem se_M_about : (Cond.selects "ShadowArchiveModel" y_M_about y_M_about) ∈ wG := wG_4 15 (by decide +kernel) (by decide +kernel)
theorem co_M_about : (Cond.code y_M_about prog_5_method_37_code 2 (some .int)) ∈ wG := wG_4 16 (by decide +kernel) (by decide +kernel)
theorem ml_L_122 : (Cond.methodLink "ShadowArchiveLaw" 122 y_M_regenerate) ∈ wG := wG_4 17 (by decide +kernel) (by decide +kernel)
theorem im_M_regenerate : (Cond.instanceMethod y_M_regenerate) ∈ wG := wG_4 18 (by decide +kernel) (by decide +kernel)
theorem se_M_regenerate : (Cond.selects "ShadowArchiveModel" y_M_regenerate y_M_regenerate) ∈ wG := wG_4 19 (by decide +kernel) (by decide +kernel)
theorem co_M_regenerate : (Cond.code y_M_regenerate prog_5_method_38_code 3 (some .boolean)) ∈ wG := wG_4 20 (by decide +kernel) (by decide +kernel)
theorem ml_M_173 : (Cond.methodLink "ShadowArchiveModel" 173 y_M_filledOnes) ∈ wG := wG_4 21 (by decide +kernel) (by decide +kernel)
theorem im_M_filledOnes : (Cond.instanceMethod y_M_filledOnes) ∈ wG := wG_4 23 (by decide +kernel) (by decide +kernel)
theorem co_M_filledOnes : (Cond.code y_M_filledOnes prog_5_method_26_code 3 (some .int)) ∈ wG := wG_4 24 (by decide +kernel) (by decide +kernel)
theorem ml_L_126 : (Cond.methodLink "ShadowArchiveLaw" 126 y_M_audit) ∈ wG := wG_4 25 (by decide +kernel) (by decide +kernel)
theorem im_M_audit : (Cond.instanceMethod y_M_audit) ∈ wG := wG_4 26 (by decide +kernel) (by decide +kernel)
theorem se_M_audit : (Cond.selects "ShadowArchiveModel" y_M_audit y_M_audit) ∈ wG := wG_4 27 (by decide +kernel) (by decide +kernel)
theorem co_M_audit : (Cond.code y_M_audit prog_5_method_40_code 3 (some .int)) ∈ wG := wG_4 28 (by decide +kernel) (by decide +kernel)
theorem ml_M_177 : (Cond.methodLink "ShadowArchiveModel" 177 y_M_areOfOne) ∈ wG := wG_4 29 (by decide +kernel) (by decide +kernel)
theorem im_M_areOfOne : (Cond.instanceMethod y_M_areOfOne) ∈ wG := wG_4 31 (by decide +kernel) (by decide +kernel)
theorem co_M_areOfOne : (Cond.code y_M_areOfOne prog_5_method_39_code 2 (some .boolean)) ∈ wG := wG_4 32 (by decide +kernel) (by decide +kernel)
theorem ml_L_129 : (Cond.methodLink "ShadowArchiveLaw" 129 y_M_ghost) ∈ wG := wG_4 33 (by decide +kernel) (by decide +kernel)
theorem im_M_ghost : (Cond.instanceMethod y_M_ghost) ∈ wG := wG_4 34 (by decide +kernel) (by decide +kernel)
theorem se_M_ghost : (Cond.selects "ShadowArchiveModel" y_M_ghost y_M_ghost) ∈ wG := wG_4 35 (by decide +kernel) (by decide +kernel)
theorem co_M_ghost : (Cond.code y_M_ghost prog_5_method_43_code 6 (some .int)) ∈ wG := wG_4 36 (by decide +kernel) (by decide +kernel)
theorem ml_M_180 : (Cond.methodLink "ShadowArchiveModel" 180 y_M_moveAway) ∈ wG := wG_4 37 (by decide +kernel) (by decide +kernel)
theorem im_M_moveAway : (Cond.instanceMethod y_M_moveAway) ∈ wG := wG_4 39 (by decide +kernel) (by decide +kernel)
theorem co_M_moveAway : (Cond.code y_M_moveAway prog_5_method_41_code 6 none) ∈ wG := wG_4 40 (by decide +kernel) (by decide +kernel)
theorem ml_M_183 : (Cond.methodLink "ShadowArchiveModel" 183 y_M_lowestColumn) ∈ wG := wG_4 41 (by decide +kernel) (by decide +kernel)
theorem im_M_lowestColumn : (Cond.instanceMethod y_M_lowestColumn) ∈ wG := wG_4 43 (by decide +kernel) (by decide +kernel)
theorem co_M_lowestColumn : (Cond.code y_M_lowestColumn prog_5_method_42_code 3 (some .int)) ∈ wG := wG_4 44 (by decide +kernel) (by decide +kernel)
theorem ml_L_133 : (Cond.methodLink "ShadowArchiveLaw" 133 y_M_keep) ∈ wG := wG_4 45 (by decide +kernel) (by decide +kernel)
theorem im_M_keep : (Cond.instanceMethod y_M_keep) ∈ wG := wG_4 46 (by decide +kernel) (by decide +kernel)
theorem se_M_keep : (Cond.selects "ShadowArchiveModel" y_M_keep y_M_keep) ∈ wG := wG_4 47 (by decide +kernel) (by decide +kernel)
theorem co_M_keep : (Cond.code y_M_keep prog_5_method_44_code 2 none) ∈ wG := wG_4 48 (by decide +kernel) (by decide +kernel)
theorem ml_L_137 : (Cond.methodLink "ShadowArchiveLaw" 137 y_M_add) ∈ wG := wG_4 49 (by decide +kernel) (by decide +kernel)
theorem im_M_add : (Cond.instanceMethod y_M_add) ∈ wG := wG_4 50 (by decide +kernel) (by decide +kernel)
theorem se_M_add : (Cond.selects "ShadowArchiveModel" y_M_add y_M_add) ∈ wG := wG_4 51 (by decide +kernel) (by decide +kernel)
theorem co_M_add : (Cond.code y_M_add prog_5_method_45_code 6 (some .int)) ∈ wG := wG_4 52 (by decide +kernel) (by decide +kernel)
theorem ac_long : (Cond.arrayClass .long) ∈ wG := wG_4 53 (by decide +kernel) (by decide +kernel)
theorem se_A_filledShelves : Cond.selects "ShadowArchive" y_A_filledShelves y_A_filledShelves ∈ wG := wG_s (List.mem_of_getElem? (i := 0) (by decide +kernel)) (by decide +kernel)
theorem se_A_areOfOnePicture : Cond.selects "ShadowArchive" y_A_areOfOnePicture y_A_areOfOnePicture ∈ wG := wG_s (List.mem_of_getElem? (i := 1) (by decide +kernel)) (by decide +kernel)
theorem se_A_solve : Cond.selects "ShadowArchive" y_A_solve y_A_solve ∈ wG := wG_s (List.mem_of_getElem? (i := 2) (by decide +kernel)) (by decide +kernel)
theorem se_W_makeRows : Cond.selects "ShadowArchive$Worksheet" y_W_makeRows y_W_makeRows ∈ wG := wG_s (List.mem_of_getElem? (i := 3) (by decide +kernel)) (by decide +kernel)
theorem se_A_lowestReadyShelf : Cond.selects "ShadowArchive" y_A_lowestReadyShelf y_A_lowestReadyShelf ∈ wG := wG_s (List.mem_of_getElem? (i := 4) (by decide +kernel)) (by decide +kernel)
theorem se_A_makeKnown : Cond.selects "ShadowArchive" y_A_makeKnown y_A_makeKnown ∈ wG := wG_s (List.mem_of_getElem? (i := 5) (by decide +kernel)) (by decide +kernel)
theorem se_A_lowestWrongShelf : Cond.selects "ShadowArchive" y_A_lowestWrongShelf y_A_lowestWrongShelf ∈ wG := wG_s (List.mem_of_getElem? (i := 6) (by decide +kernel)) (by decide +kernel)
theorem se_S_makeBins : Cond.selects "ShadowArchive$Shelf" y_S_makeBins y_S_makeBins ∈ wG := wG_s (List.mem_of_getElem? (i := 7) (by decide +kernel)) (by decide +kernel)
theorem se_A_requirePixel : Cond.selects "ShadowArchive" y_A_requirePixel y_A_requirePixel ∈ wG := wG_s (List.mem_of_getElem? (i := 9) (by decide +kernel)) (by decide +kernel)
theorem se_A_anotherHas : Cond.selects "ShadowArchive" y_A_anotherHas y_A_anotherHas ∈ wG := wG_s (List.mem_of_getElem? (i := 10) (by decide +kernel)) (by decide +kernel)
theorem se_A_requireBin : Cond.selects "ShadowArchive" y_A_requireBin y_A_requireBin ∈ wG := wG_s (List.mem_of_getElem? (i := 11) (by decide +kernel)) (by decide +kernel)
theorem se_A_aimedOf : Cond.selects "ShadowArchive" y_A_aimedOf y_A_aimedOf ∈ wG := wG_s (List.mem_of_getElem? (i := 12) (by decide +kernel)) (by decide +kernel)
theorem se_A_areEnough : Cond.selects "ShadowArchive" y_A_areEnough y_A_areEnough ∈ wG := wG_s (List.mem_of_getElem? (i := 13) (by decide +kernel)) (by decide +kernel)
theorem se_A_drawGhost : Cond.selects "ShadowArchive" y_A_drawGhost y_A_drawGhost ∈ wG := wG_s (List.mem_of_getElem? (i := 14) (by decide +kernel)) (by decide +kernel)
theorem se_A_takeGhostMoved : Cond.selects "ShadowArchive" y_A_takeGhostMoved y_A_takeGhostMoved ∈ wG := wG_s (List.mem_of_getElem? (i := 15) (by decide +kernel)) (by decide +kernel)
theorem se_M_throwing : Cond.selects "ShadowArchiveModel" y_M_throwing y_M_throwing ∈ wG := wG_s (List.mem_of_getElem? (i := 16) (by decide +kernel)) (by decide +kernel)
theorem se_M_isPixel : Cond.selects "ShadowArchiveModel" y_M_isPixel y_M_isPixel ∈ wG := wG_s (List.mem_of_getElem? (i := 17) (by decide +kernel)) (by decide +kernel)
theorem se_M_isTaken : Cond.selects "ShadowArchiveModel" y_M_isTaken y_M_isTaken ∈ wG := wG_s (List.mem_of_getElem? (i := 18) (by decide +kernel)) (by decide +kernel)
theorem se_M_hasDirection : Cond.selects "ShadowArchiveModel" y_M_hasDirection y_M_hasDirection ∈ wG := wG_s (List.mem_of_getElem? (i := 19) (by decide +kernel)) (by decide +kernel)
theorem se_M_binsOf : Cond.selects "ShadowArchiveModel" y_M_binsOf y_M_binsOf ∈ wG := wG_s (List.mem_of_getElem? (i := 20) (by decide +kernel)) (by decide +kernel)
theorem se_M_fill : Cond.selects "ShadowArchiveModel" y_M_fill y_M_fill ∈ wG := wG_s (List.mem_of_getElem? (i := 21) (by decide +kernel)) (by decide +kernel)
theorem se_M_sumUp : Cond.selects "ShadowArchiveModel" y_M_sumUp y_M_sumUp ∈ wG := wG_s (List.mem_of_getElem? (i := 22) (by decide +kernel)) (by decide +kernel)
theorem se_M_binAt : Cond.selects "ShadowArchiveModel" y_M_binAt y_M_binAt ∈ wG := wG_s (List.mem_of_getElem? (i := 23) (by decide +kernel)) (by decide +kernel)
theorem se_M_hasNoBin : Cond.selects "ShadowArchiveModel" y_M_hasNoBin y_M_hasNoBin ∈ wG := wG_s (List.mem_of_getElem? (i := 24) (by decide +kernel)) (by decide +kernel)
theorem se_M_areEnough : Cond.selects "ShadowArchiveModel" y_M_areEnough y_M_areEnough ∈ wG := wG_s (List.mem_of_getElem? (i := 25) (by decide +kernel)) (by decide +kernel)
theorem se_M_isOf : Cond.selects "ShadowArchiveModel" y_M_isOf y_M_isOf ∈ wG := wG_s (List.mem_of_getElem? (i := 26) (by decide +kernel)) (by decide +kernel)
theorem se_M_comes : Cond.selects "ShadowArchiveModel" y_M_comes y_M_comes ∈ wG := wG_s (List.mem_of_getElem? (i := 27) (by decide +kernel)) (by decide +kernel)
theorem se_M_beginTry : Cond.selects "ShadowArchiveModel" y_M_beginTry y_M_beginTry ∈ wG := wG_s (List.mem_of_getElem? (i := 28) (by decide +kernel)) (by decide +kernel)
theorem se_M_single : Cond.selects "ShadowArchiveModel" y_M_single y_M_single ∈ wG := wG_s (List.mem_of_getElem? (i := 29) (by decide +kernel)) (by decide +kernel)
theorem se_M_learnOf : Cond.selects "ShadowArchiveModel" y_M_learnOf y_M_learnOf ∈ wG := wG_s (List.mem_of_getElem? (i := 30) (by decide +kernel)) (by decide +kernel)
theorem se_M_learn : Cond.selects "ShadowArchiveModel" y_M_learn y_M_learn ∈ wG := wG_s (List.mem_of_getElem? (i := 31) (by decide +kernel)) (by decide +kernel)
theorem se_M_disagrees : Cond.selects "ShadowArchiveModel" y_M_disagrees y_M_disagrees ∈ wG := wG_s (List.mem_of_getElem? (i := 32) (by decide +kernel)) (by decide +kernel)
theorem se_M_parts : Cond.selects "ShadowArchiveModel" y_M_parts y_M_parts ∈ wG := wG_s (List.mem_of_getElem? (i := 33) (by decide +kernel)) (by decide +kernel)
theorem se_M_filledOnes : Cond.selects "ShadowArchiveModel" y_M_filledOnes y_M_filledOnes ∈ wG := wG_s (List.mem_of_getElem? (i := 34) (by decide +kernel)) (by decide +kernel)
theorem se_M_areOfOne : Cond.selects "ShadowArchiveModel" y_M_areOfOne y_M_areOfOne ∈ wG := wG_s (List.mem_of_getElem? (i := 35) (by decide +kernel)) (by decide +kernel)
theorem se_M_moveAway : Cond.selects "ShadowArchiveModel" y_M_moveAway y_M_moveAway ∈ wG := wG_s (List.mem_of_getElem? (i := 36) (by decide +kernel)) (by decide +kernel)
theorem se_M_lowestColumn : Cond.selects "ShadowArchiveModel" y_M_lowestColumn y_M_lowestColumn ∈ wG := wG_s (List.mem_of_getElem? (i := 37) (by decide +kernel)) (by decide +kernel)
theorem ws_A : ∀ w ∈ u_ws R_A F_A 14, w ∈ wG := wG_cons la_A_w (wG_cons la_A_h (wG_cons la_A_picture (wG_cons la_A_shelves (wG_cons la_A_hasKept (wG_cons la_A_kept (wG_cons la_A_keptShelves (wG_cons la_A_hasRebuilt (wG_cons la_A_rebuilt (wG_cons la_A_steps (wG_cons la_A_wrongBin (wG_cons la_A_draft (wG_cons la_A_sheets (wG_cons la_A_ghostCells (fun _ h => absurd h List.not_mem_nil))))))))))))))
theorem ws_S : ∀ w ∈ u_ws R_S F_S 7, w ∈ wG := wG_cons la_S_aimed (wG_cons la_S_filled (wG_cons la_S_p (wG_cons la_S_q (wG_cons la_S_least (wG_cons la_S_count (wG_cons la_S_bins (fun _ h => absurd h List.not_mem_nil)))))))
theorem ws_W : ∀ w ∈ u_ws R_W F_W 5, w ∈ wG := wG_cons la_W_count (wG_cons la_W_lowest (wG_cons la_W_unknown (wG_cons la_W_unknownCells (wG_cons la_W_rest (fun _ h => absurd h List.not_mem_nil)))))
theorem ws_M : ∀ w ∈ u_ws R_M F_M 28, w ∈ wG := wG_cons la_M_thrown (wG_cons la_M_w (wG_cons la_M_h (wG_cons la_M_picture (wG_cons la_M_kept (wG_cons la_M_rebuilt (wG_cons la_M_tried (wG_cons la_M_known (wG_cons la_M_keeps (wG_cons la_M_hasRebuilt (wG_cons la_M_told (wG_cons la_M_right (wG_cons la_M_down (wG_cons la_M_filled (wG_cons la_M_bins (wG_cons la_M_keptTold (wG_cons la_M_keptRight (wG_cons la_M_keptDown (wG_cons la_M_keptFilled (wG_cons la_M_keptBins (wG_cons la_M_unknown (wG_cons la_M_left (wG_cons la_M_tries (wG_cons la_M_sums (wG_cons la_M_steps (wG_cons la_M_wrongBin (wG_cons la_M_spread (wG_cons la_M_spreading (fun _ h => absurd h List.not_mem_nil))))))))))))))))))))))))))))
end
section
theorem d_S_addShelf_0 : decode b_S_addShelf 0 = .ok (.aload_n 0, 1) ∧ 0 + 1 = 1 := ⟨by decide +kernel, rfl⟩
theorem d_S_addShelf_1 : decode b_S_addShelf 1 = .ok (.aload_n 0, 1) ∧ 1 + 1 = 2 := ⟨by decide +kernel, rfl⟩
theorem d_S_addShelf_2 : decode b_S_addShelf 2 = .ok (.getfield 15, 3) ∧ 2 + 3 = 5 := ⟨by decide +kernel, rfl⟩
theorem d_S_addShelf_5 : decode b_S_addShelf 5 = .ok (.ifCond .eq 29, 3) ∧ 5 + 3 = 8 ∧ ((5 : Nat) : Int) + 29 = ((34 : Nat) : Int) := ⟨by decide +kernel, rfl, by decide⟩
theorem d_S_addShelf_8 : decode b_S_addShelf 8 = .ok (.aload_n 1, 1) ∧ 8 + 1 = 9 := ⟨by decide +kernel, rfl⟩
theorem d_S_addShelf_9 : decode b_S_addShelf 9 = .ok (.getfield 15, 3) ∧ 9 + 3 = 12 := ⟨by decide +kernel, rfl⟩
theorem d_S_addShelf_12 : decode b_S_addShelf 12 = .ok (.ifCond .eq 22, 3) ∧ 12 + 3 = 15 ∧ ((12 : Nat) : Int) + 22 = ((34 : Nat) : Int) := ⟨by decide +kernel, rfl, by decide⟩
theorem d_S_addShelf_15 : decode b_S_addShelf 15 = .ok (.aload_n 1, 1) ∧ 15 + 1 = 16 := ⟨by decide +kernel, rfl⟩
theorem d_S_addShelf_16 : decode b_S_addShelf 16 = .ok (.aload_n 0, 1) ∧ 16 + 1 = 17 := ⟨by decide +kernel, rfl⟩
theorem d_S_addShelf_17 : decode b_S_addShelf 17 = .ok (.getfield 18, 3) ∧ 17 + 3 = 20 := ⟨by decide +kernel, rfl⟩
theorem d_S_addShelf_20 : decode b_S_addShelf 20 = .ok (.aload_n 0, 1) ∧ 20 + 1 = 21 := ⟨by decide +kernel, rfl⟩
theorem d_S_addShelf_21 : decode b_S_addShelf 21 = .ok (.getfield 22, 3) ∧ 21 + 3 = 24 := ⟨by decide +kernel, rfl⟩
theorem d_S_addShelf_24 : decode b_S_addShelf 24 = .ok (.invokevirtual 66, 3) ∧ 24 + 3 = 27 := ⟨by decide +kernel, rfl⟩
theorem d_S_addShelf_27 : decode b_S_addShelf 27 = .ok (.ifCond .eq 7, 3) ∧ 27 + 3 = 30 ∧ ((27 : Nat) : Int) + 7 = ((34 : Nat) : Int) := ⟨by decide +kernel, rfl, by decide⟩
theorem d_S_addShelf_30 : decode b_S_addShelf 30 = .ok (.iconst 1, 1) ∧ 30 + 1 = 31 := ⟨by decide +kernel, rfl⟩
theorem d_S_addShelf_31 : decode b_S_addShelf 31 = .ok (.goto 4, 3) ∧ ((31 : Nat) : Int) + 4 = ((35 : Nat) : Int) := ⟨by decide +kernel, by decide⟩
theorem d_S_addShelf_34 : decode b_S_addShelf 34 = .ok (.iconst 0, 1) ∧ 34 + 1 = 35 := ⟨by decide +kernel, rfl⟩
theorem d_S_addShelf_35 : decode b_S_addShelf 35 = .ok (.putfield 15, 3) ∧ 35 + 3 = 38 := ⟨by decide +kernel, rfl⟩
theorem d_S_addShelf_38 : decode b_S_addShelf 38 = .ok (.aload_n 0, 1) ∧ 38 + 1 = 39 := ⟨by decide +kernel, rfl⟩
theorem d_S_addShelf_39 : decode b_S_addShelf 39 = .ok (.getfield 15, 3) ∧ 39 + 3 = 42 := ⟨by decide +kernel, rfl⟩
theorem d_S_addShelf_42 : decode b_S_addShelf 42 = .ok (.ifCond .eq 19, 3) ∧ 42 + 3 = 45 ∧ ((42 : Nat) : Int) + 19 = ((61 : Nat) : Int) := ⟨by decide +kernel, rfl, by decide⟩
theorem d_S_addShelf_45 : decode b_S_addShelf 45 = .ok (.aload_n 0, 1) ∧ 45 + 1 = 46 := ⟨by decide +kernel, rfl⟩
theorem d_S_addShelf_46 : decode b_S_addShelf 46 = .ok (.getfield 31, 3) ∧ 46 + 3 = 49 := ⟨by decide +kernel, rfl⟩
theorem d_S_addShelf_49 : decode b_S_addShelf 49 = .ok (.aload_n 1, 1) ∧ 49 + 1 = 50 := ⟨by decide +kernel, rfl⟩
theorem d_S_addShelf_50 : decode b_S_addShelf 50 = .ok (.getfield 31, 3) ∧ 50 + 3 = 53 := ⟨by decide +kernel, rfl⟩
theorem d_S_addShelf_53 : decode b_S_addShelf 53 = .ok (.aload_n 0, 1) ∧ 53 + 1 = 54 := ⟨by decide +kernel, rfl⟩
theorem d_S_addShelf_54 : decode b_S_addShelf 54 = .ok (.getfield 28, 3) ∧ 54 + 3 = 57 := ⟨by decide +kernel, rfl⟩
theorem d_S_addShelf_57 : decode b_S_addShelf 57 = .ok (.iload_n 2, 1) ∧ 57 + 1 = 58 := ⟨by decide +kernel, rfl⟩
theorem d_S_addShelf_58 : decode b_S_addShelf 58 = .ok (.invokestatic 70, 3) ∧ 58 + 3 = 61 := ⟨by decide +kernel, rfl⟩
theorem d_S_addShelf_61 : decode b_S_addShelf 61 = .ok (.return_, 1) := by decide +kernel
theorem d_S_aim_0 : decode b_S_aim 0 = .ok (.aload_n 0, 1) ∧ 0 + 1 = 1 := ⟨by decide +kernel, rfl⟩
theorem d_S_aim_1 : decode b_S_aim 1 = .ok (.iload_n 1, 1) ∧ 1 + 1 = 2 := ⟨by decide +kernel, rfl⟩
theorem d_S_aim_2 : decode b_S_aim 2 = .ok (.putfield 18, 3) ∧ 2 + 3 = 5 := ⟨by decide +kernel, rfl⟩
theorem d_S_aim_5 : decode b_S_aim 5 = .ok (.aload_n 0, 1) ∧ 5 + 1 = 6 := ⟨by decide +kernel, rfl⟩
theorem d_S_aim_6 : decode b_S_aim 6 = .ok (.iload_n 2, 1) ∧ 6 + 1 = 7 := ⟨by decide +kernel, rfl⟩
theorem d_S_aim_7 : decode b_S_aim 7 = .ok (.putfield 22, 3) ∧ 7 + 3 = 10 := ⟨by decide +kernel, rfl⟩
theorem d_S_aim_10 : decode b_S_aim 10 = .ok (.aload_n 0, 1) ∧ 10 + 1 = 11 := ⟨by decide +kernel, rfl⟩
theorem d_S_aim_11 : decode b_S_aim 11 = .ok (.iconst 0, 1) ∧ 11 + 1 = 12 := ⟨by decide +kernel, rfl⟩
theorem d_S_aim_12 : decode b_S_aim 12 = .ok (.iload_n 1, 1) ∧ 12 + 1 = 13 := ⟨by decide +kernel, rfl⟩
theorem d_S_aim_13 : decode b_S_aim 13 = .ok (.iload 4, 2) ∧ 13 + 2 = 15 := ⟨by decide +kernel, rfl⟩
theorem d_S_aim_15 : decode b_S_aim 15 = .ok (.iconst 1, 1) ∧ 15 + 1 = 16 := ⟨by decide +kernel, rfl⟩
theorem d_S_aim_16 : decode b_S_aim 16 = .ok (.isub, 1) ∧ 16 + 1 = 17 := ⟨by decide +kernel, rfl⟩
theorem d_S_aim_17 : decode b_S_aim 17 = .ok (.imul, 1) ∧ 17 + 1 = 18 := ⟨by decide +kernel, rfl⟩
theorem d_S_aim_18 : decode b_S_aim 18 = .ok (.invokestatic 35, 3) ∧ 18 + 3 = 21 := ⟨by decide +kernel, rfl⟩
theorem d_S_aim_21 : decode b_S_aim 21 = .ok (.iload_n 2, 1) ∧ 21 + 1 = 22 := ⟨by decide +kernel, rfl⟩
theorem d_S_aim_22 : decode b_S_aim 22 = .ok (.iload_n 3, 1) ∧ 22 + 1 = 23 := ⟨by decide +kernel, rfl⟩
theorem d_S_aim_23 : decode b_S_aim 23 = .ok (.iconst 1, 1) ∧ 23 + 1 = 24 := ⟨by decide +kernel, rfl⟩
theorem d_S_aim_24 : decode b_S_aim 24 = .ok (.isub, 1) ∧ 24 + 1 = 25 := ⟨by decide +kernel, rfl⟩
theorem d_S_aim_25 : decode b_S_aim 25 = .ok (.imul, 1) ∧ 25 + 1 = 26 := ⟨by decide +kernel, rfl⟩
theorem d_S_aim_26 : decode b_S_aim 26 = .ok (.isub, 1) ∧ 26 + 1 = 27 := ⟨by decide +kernel, rfl⟩
theorem d_S_aim_27 : decode b_S_aim 27 = .ok (.putfield 25, 3) ∧ 27 + 3 = 30 := ⟨by decide +kernel, rfl⟩
theorem d_S_aim_30 : decode b_S_aim 30 = .ok (.aload_n 0, 1) ∧ 30 + 1 = 31 := ⟨by decide +kernel, rfl⟩
theorem d_S_aim_31 : decode b_S_aim 31 = .ok (.iload_n 1, 1) ∧ 31 + 1 = 32 := ⟨by decide +kernel, rfl⟩
theorem d_S_aim_32 : decode b_S_aim 32 = .ok (.invokestatic 41, 3) ∧ 32 + 3 = 35 := ⟨by decide +kernel, rfl⟩
theorem d_S_aim_35 : decode b_S_aim 35 = .ok (.iload 4, 2) ∧ 35 + 2 = 37 := ⟨by decide +kernel, rfl⟩
theorem d_S_aim_37 : decode b_S_aim 37 = .ok (.iconst 1, 1) ∧ 37 + 1 = 38 := ⟨by decide +kernel, rfl⟩
theorem d_S_aim_38 : decode b_S_aim 38 = .ok (.isub, 1) ∧ 38 + 1 = 39 := ⟨by decide +kernel, rfl⟩
theorem d_S_aim_39 : decode b_S_aim 39 = .ok (.imul, 1) ∧ 39 + 1 = 40 := ⟨by decide +kernel, rfl⟩
theorem d_S_aim_40 : decode b_S_aim 40 = .ok (.iload_n 2, 1) ∧ 40 + 1 = 41 := ⟨by decide +kernel, rfl⟩
theorem d_S_aim_41 : decode b_S_aim 41 = .ok (.iload_n 3, 1) ∧ 41 + 1 = 42 := ⟨by decide +kernel, rfl⟩
theorem d_S_aim_42 : decode b_S_aim 42 = .ok (.iconst 1, 1) ∧ 42 + 1 = 43 := ⟨by decide +kernel, rfl⟩
theorem d_S_aim_43 : decode b_S_aim 43 = .ok (.isub, 1) ∧ 43 + 1 = 44 := ⟨by decide +kernel, rfl⟩
theorem d_S_aim_44 : decode b_S_aim 44 = .ok (.imul, 1) ∧ 44 + 1 = 45 := ⟨by decide +kernel, rfl⟩
theorem d_S_aim_45 : decode b_S_aim 45 = .ok (.iadd, 1) ∧ 45 + 1 = 46 := ⟨by decide +kernel, rfl⟩
theorem d_S_aim_46 : decode b_S_aim 46 = .ok (.iconst 1, 1) ∧ 46 + 1 = 47 := ⟨by decide +kernel, rfl⟩
theorem d_S_aim_47 : decode b_S_aim 47 = .ok (.iadd, 1) ∧ 47 + 1 = 48 := ⟨by decide +kernel, rfl⟩
theorem d_S_aim_48 : decode b_S_aim 48 = .ok (.putfield 28, 3) ∧ 48 + 3 = 51 := ⟨by decide +kernel, rfl⟩
theorem d_S_aim_51 : decode b_S_aim 51 = .ok (.aload_n 0, 1) ∧ 51 + 1 = 52 := ⟨by decide +kernel, rfl⟩
theorem d_S_aim_52 : decode b_S_aim 52 = .ok (.iconst 1, 1) ∧ 52 + 1 = 53 := ⟨by decide +kernel, rfl⟩
theorem d_S_aim_53 : decode b_S_aim 53 = .ok (.putfield 9, 3) ∧ 53 + 3 = 56 := ⟨by decide +kernel, rfl⟩
theorem d_S_aim_56 : decode b_S_aim 56 = .ok (.aload_n 0, 1) ∧ 56 + 1 = 57 := ⟨by decide +kernel, rfl⟩
theorem d_S_aim_57 : decode b_S_aim 57 = .ok (.iconst 0, 1) ∧ 57 + 1 = 58 := ⟨by decide +kernel, rfl⟩
theorem d_S_aim_58 : decode b_S_aim 58 = .ok (.putfield 15, 3) ∧ 58 + 3 = 61 := ⟨by decide +kernel, rfl⟩
theorem d_S_aim_61 : decode b_S_aim 61 = .ok (.aload_n 0, 1) ∧ 61 + 1 = 62 := ⟨by decide +kernel, rfl⟩
theorem d_S_aim_62 : decode b_S_aim 62 = .ok (.invokevirtual 45, 3) ∧ 62 + 3 = 65 := ⟨by decide +kernel, rfl⟩
theorem d_S_aim_65 : decode b_S_aim 65 = .ok (.return_, 1) := by decide +kernel
theorem d_S_binAt_0 : decode b_S_binAt 0 = .ok (.aload_n 0, 1) ∧ 0 + 1 = 1 := ⟨by decide +kernel, rfl⟩
theorem d_S_binAt_1 : decode b_S_binAt 1 = .ok (.getfield 18, 3) ∧ 1 + 3 = 4 := ⟨by decide +kernel, rfl⟩
theorem d_S_binAt_4 : decode b_S_binAt 4 = .ok (.iload_n 2, 1) ∧ 4 + 1 = 5 := ⟨by decide +kernel, rfl⟩
theorem d_S_binAt_5 : decode b_S_binAt 5 = .ok (.imul, 1) ∧ 5 + 1 = 6 := ⟨by decide +kernel, rfl⟩
theorem d_S_binAt_6 : decode b_S_binAt 6 = .ok (.aload_n 0, 1) ∧ 6 + 1 = 7 := ⟨by decide +kernel, rfl⟩
theorem d_S_binAt_7 : decode b_S_binAt 7 = .ok (.getfield 22, 3) ∧ 7 + 3 = 10 := ⟨by decide +kernel, rfl⟩
theorem d_S_binAt_10 : decode b_S_binAt 10 = .ok (.iload_n 1, 1) ∧ 10 + 1 = 11 := ⟨by decide +kernel, rfl⟩
theorem d_S_binAt_11 : decode b_S_binAt 11 = .ok (.imul, 1) ∧ 11 + 1 = 12 := ⟨by decide +kernel, rfl⟩
theorem d_S_binAt_12 : decode b_S_binAt 12 = .ok (.isub, 1) ∧ 12 + 1 = 13 := ⟨by decide +kernel, rfl⟩
theorem d_S_binAt_13 : decode b_S_binAt 13 = .ok (.aload_n 0, 1) ∧ 13 + 1 = 14 := ⟨by decide +kernel, rfl⟩
theorem d_S_binAt_14 : decode b_S_binAt 14 = .ok (.getfield 25, 3) ∧ 14 + 3 = 17 := ⟨by decide +kernel, rfl⟩
theorem d_S_binAt_17 : decode b_S_binAt 17 = .ok (.isub, 1) ∧ 17 + 1 = 18 := ⟨by decide +kernel, rfl⟩
theorem d_S_binAt_18 : decode b_S_binAt 18 = .ok (.ireturn, 1) := by decide +kernel
theorem d_S_copyFrom_0 : decode b_S_copyFrom 0 = .ok (.aload_n 0, 1) ∧ 0 + 1 = 1 := ⟨by decide +kernel, rfl⟩
theorem d_S_copyFrom_1 : decode b_S_copyFrom 1 = .ok (.aload_n 1, 1) ∧ 1 + 1 = 2 := ⟨by decide +kernel, rfl⟩
theorem d_S_copyFrom_2 : decode b_S_copyFrom 2 = .ok (.getfield 9, 3) ∧ 2 + 3 = 5 := ⟨by decide +kernel, rfl⟩
theorem d_S_copyFrom_5 : decode b_S_copyFrom 5 = .ok (.putfield 9, 3) ∧ 5 + 3 = 8 := ⟨by decide +kernel, rfl⟩
theorem d_S_copyFrom_8 : decode b_S_copyFrom 8 = .ok (.aload_n 0, 1) ∧ 8 + 1 = 9 := ⟨by decide +kernel, rfl⟩
theorem d_S_copyFrom_9 : decode b_S_copyFrom 9 = .ok (.aload_n 1, 1) ∧ 9 + 1 = 10 := ⟨by decide +kernel, rfl⟩
theorem d_S_copyFrom_10 : decode b_S_copyFrom 10 = .ok (.getfield 15, 3) ∧ 10 + 3 = 13 := ⟨by decide +kernel, rfl⟩
theorem d_S_copyFrom_13 : decode b_S_copyFrom 13 = .ok (.putfield 15, 3) ∧ 13 + 3 = 16 := ⟨by decide +kernel, rfl⟩
theorem d_S_copyFrom_16 : decode b_S_copyFrom 16 = .ok (.aload_n 0, 1) ∧ 16 + 1 = 17 := ⟨by decide +kernel, rfl⟩
theorem d_S_copyFrom_17 : decode b_S_copyFrom 17 = .ok (.aload_n 1, 1) ∧ 17 + 1 = 18 := ⟨by decide +kernel, rfl⟩
theorem d_S_copyFrom_18 : decode b_S_copyFrom 18 = .ok (.getfield 18, 3) ∧ 18 + 3 = 21 := ⟨by decide +kernel, rfl⟩
theorem d_S_copyFrom_21 : decode b_S_copyFrom 21 = .ok (.putfield 18, 3) ∧ 21 + 3 = 24 := ⟨by decide +kernel, rfl⟩
theorem d_S_copyFrom_24 : decode b_S_copyFrom 24 = .ok (.aload_n 0, 1) ∧ 24 + 1 = 25 := ⟨by decide +kernel, rfl⟩
theorem d_S_copyFrom_25 : decode b_S_copyFrom 25 = .ok (.aload_n 1, 1) ∧ 25 + 1 = 26 := ⟨by decide +kernel, rfl⟩
theorem d_S_copyFrom_26 : decode b_S_copyFrom 26 = .ok (.getfield 22, 3) ∧ 26 + 3 = 29 := ⟨by decide +kernel, rfl⟩
theorem d_S_copyFrom_29 : decode b_S_copyFrom 29 = .ok (.putfield 22, 3) ∧ 29 + 3 = 32 := ⟨by decide +kernel, rfl⟩
theorem d_S_copyFrom_32 : decode b_S_copyFrom 32 = .ok (.aload_n 0, 1) ∧ 32 + 1 = 33 := ⟨by decide +kernel, rfl⟩
theorem d_S_copyFrom_33 : decode b_S_copyFrom 33 = .ok (.aload_n 1, 1) ∧ 33 + 1 = 34 := ⟨by decide +kernel, rfl⟩
theorem d_S_copyFrom_34 : decode b_S_copyFrom 34 = .ok (.getfield 25, 3) ∧ 34 + 3 = 37 := ⟨by decide +kernel, rfl⟩
theorem d_S_copyFrom_37 : decode b_S_copyFrom 37 = .ok (.putfield 25, 3) ∧ 37 + 3 = 40 := ⟨by decide +kernel, rfl⟩
theorem d_S_copyFrom_40 : decode b_S_copyFrom 40 = .ok (.aload_n 0, 1) ∧ 40 + 1 = 41 := ⟨by decide +kernel, rfl⟩
theorem d_S_copyFrom_41 : decode b_S_copyFrom 41 = .ok (.aload_n 1, 1) ∧ 41 + 1 = 42 := ⟨by decide +kernel, rfl⟩
theorem d_S_copyFrom_42 : decode b_S_copyFrom 42 = .ok (.getfield 28, 3) ∧ 42 + 3 = 45 := ⟨by decide +kernel, rfl⟩
theorem d_S_copyFrom_45 : decode b_S_copyFrom 45 = .ok (.putfield 28, 3) ∧ 45 + 3 = 48 := ⟨by decide +kernel, rfl⟩
theorem d_S_copyFrom_48 : decode b_S_copyFrom 48 = .ok (.aload_n 0, 1) ∧ 48 + 1 = 49 := ⟨by decide +kernel, rfl⟩
theorem d_S_copyFrom_49 : decode b_S_copyFrom 49 = .ok (.getfield 15, 3) ∧ 49 + 3 = 52 := ⟨by decide +kernel, rfl⟩
theorem d_S_copyFrom_52 : decode b_S_copyFrom 52 = .ok (.ifCond .eq 24, 3) ∧ 52 + 3 = 55 ∧ ((52 : Nat) : Int) + 24 = ((76 : Nat) : Int) := ⟨by decide +kernel, rfl, by decide⟩
theorem d_S_copyFrom_55 : decode b_S_copyFrom 55 = .ok (.aload_n 0, 1) ∧ 55 + 1 = 56 := ⟨by decide +kernel, rfl⟩
theorem d_S_copyFrom_56 : decode b_S_copyFrom 56 = .ok (.invokevirtual 45, 3) ∧ 56 + 3 = 59 := ⟨by decide +kernel, rfl⟩
theorem d_S_copyFrom_59 : decode b_S_copyFrom 59 = .ok (.aload_n 1, 1) ∧ 59 + 1 = 60 := ⟨by decide +kernel, rfl⟩
theorem d_S_copyFrom_60 : decode b_S_copyFrom 60 = .ok (.getfield 31, 3) ∧ 60 + 3 = 63 := ⟨by decide +kernel, rfl⟩
theorem d_S_copyFrom_63 : decode b_S_copyFrom 63 = .ok (.iconst 0, 1) ∧ 63 + 1 = 64 := ⟨by decide +kernel, rfl⟩
theorem d_S_copyFrom_64 : decode b_S_copyFrom 64 = .ok (.aload_n 0, 1) ∧ 64 + 1 = 65 := ⟨by decide +kernel, rfl⟩
theorem d_S_copyFrom_65 : decode b_S_copyFrom 65 = .ok (.getfield 31, 3) ∧ 65 + 3 = 68 := ⟨by decide +kernel, rfl⟩
theorem d_S_copyFrom_68 : decode b_S_copyFrom 68 = .ok (.iconst 0, 1) ∧ 68 + 1 = 69 := ⟨by decide +kernel, rfl⟩
theorem d_S_copyFrom_69 : decode b_S_copyFrom 69 = .ok (.aload_n 0, 1) ∧ 69 + 1 = 70 := ⟨by decide +kernel, rfl⟩
theorem d_S_copyFrom_70 : decode b_S_copyFrom 70 = .ok (.getfield 28, 3) ∧ 70 + 3 = 73 := ⟨by decide +kernel, rfl⟩
theorem d_S_copyFrom_73 : decode b_S_copyFrom 73 = .ok (.invokestatic 60, 3) ∧ 73 + 3 = 76 := ⟨by decide +kernel, rfl⟩
theorem d_S_copyFrom_76 : decode b_S_copyFrom 76 = .ok (.return_, 1) := by decide +kernel
theorem d_S_fillFrom_0 : decode b_S_fillFrom 0 = .ok (.aload_n 0, 1) ∧ 0 + 1 = 1 := ⟨by decide +kernel, rfl⟩
theorem d_S_fillFrom_1 : decode b_S_fillFrom 1 = .ok (.getfield 31, 3) ∧ 1 + 3 = 4 := ⟨by decide +kernel, rfl⟩
theorem d_S_fillFrom_4 : decode b_S_fillFrom 4 = .ok (.iconst 0, 1) ∧ 4 + 1 = 5 := ⟨by decide +kernel, rfl⟩
theorem d_S_fillFrom_5 : decode b_S_fillFrom 5 = .ok (.invokestatic 48, 3) ∧ 5 + 3 = 8 := ⟨by decide +kernel, rfl⟩
theorem d_S_fillFrom_8 : decode b_S_fillFrom 8 = .ok (.iconst 0, 1) ∧ 8 + 1 = 9 := ⟨by decide +kernel, rfl⟩
theorem d_S_fillFrom_9 : decode b_S_fillFrom 9 = .ok (.istore 4, 2) ∧ 9 + 2 = 11 := ⟨by decide +kernel, rfl⟩
theorem d_S_fillFrom_11 : decode b_S_fillFrom 11 = .ok (.iload 4, 2) ∧ 11 + 2 = 13 := ⟨by decide +kernel, rfl⟩
theorem d_S_fillFrom_13 : decode b_S_fillFrom 13 = .ok (.iload_n 3, 1) ∧ 13 + 1 = 14 := ⟨by decide +kernel, rfl⟩
theorem d_S_fillFrom_14 : decode b_S_fillFrom 14 = .ok (.if_icmp .ge 49, 3) ∧ 14 + 3 = 17 ∧ ((14 : Nat) : Int) + 49 = ((63 : Nat) : Int) := ⟨by decide +kernel, rfl, by decide⟩
theorem d_S_fillFrom_17 : decode b_S_fillFrom 17 = .ok (.iconst 0, 1) ∧ 17 + 1 = 18 := ⟨by decide +kernel, rfl⟩
theorem d_S_fillFrom_18 : decode b_S_fillFrom 18 = .ok (.istore 5, 2) ∧ 18 + 2 = 20 := ⟨by decide +kernel, rfl⟩
theorem d_S_fillFrom_20 : decode b_S_fillFrom 20 = .ok (.iload 5, 2) ∧ 20 + 2 = 22 := ⟨by decide +kernel, rfl⟩
theorem d_S_fillFrom_22 : decode b_S_fillFrom 22 = .ok (.iload_n 2, 1) ∧ 22 + 1 = 23 := ⟨by decide +kernel, rfl⟩
theorem d_S_fillFrom_23 : decode b_S_fillFrom 23 = .ok (.if_icmp .ge 34, 3) ∧ 23 + 3 = 26 ∧ ((23 : Nat) : Int) + 34 = ((57 : Nat) : Int) := ⟨by decide +kernel, rfl, by decide⟩
theorem d_S_fillFrom_26 : decode b_S_fillFrom 26 = .ok (.aload_n 0, 1) ∧ 26 + 1 = 27 := ⟨by decide +kernel, rfl⟩
theorem d_S_fillFrom_27 : decode b_S_fillFrom 27 = .ok (.getfield 31, 3) ∧ 27 + 3 = 30 := ⟨by decide +kernel, rfl⟩
theorem d_S_fillFrom_30 : decode b_S_fillFrom 30 = .ok (.aload_n 0, 1) ∧ 30 + 1 = 31 := ⟨by decide +kernel, rfl⟩
theorem d_S_fillFrom_31 : decode b_S_fillFrom 31 = .ok (.iload 5, 2) ∧ 31 + 2 = 33 := ⟨by decide +kernel, rfl⟩
theorem d_S_fillFrom_33 : decode b_S_fillFrom 33 = .ok (.iload 4, 2) ∧ 33 + 2 = 35 := ⟨by decide +kernel, rfl⟩
theorem d_S_fillFrom_35 : decode b_S_fillFrom 35 = .ok (.invokevirtual 54, 3) ∧ 35 + 3 = 38 := ⟨by decide +kernel, rfl⟩
theorem d_S_fillFrom_38 : decode b_S_fillFrom 38 = .ok (.dup2, 1) ∧ 38 + 1 = 39 := ⟨by decide +kernel, rfl⟩
theorem d_S_fillFrom_39 : decode b_S_fillFrom 39 = .ok (.iaload, 1) ∧ 39 + 1 = 40 := ⟨by decide +kernel, rfl⟩
theorem d_S_fillFrom_40 : decode b_S_fillFrom 40 = .ok (.aload_n 1, 1) ∧ 40 + 1 = 41 := ⟨by decide +kernel, rfl⟩
theorem d_S_fillFrom_41 : decode b_S_fillFrom 41 = .ok (.iload 5, 2) ∧ 41 + 2 = 43 := ⟨by decide +kernel, rfl⟩
theorem d_S_fillFrom_43 : decode b_S_fillFrom 43 = .ok (.iload 4, 2) ∧ 43 + 2 = 45 := ⟨by decide +kernel, rfl⟩
theorem d_S_fillFrom_45 : decode b_S_fillFrom 45 = .ok (.invokestatic 57, 3) ∧ 45 + 3 = 48 := ⟨by decide +kernel, rfl⟩
theorem d_S_fillFrom_48 : decode b_S_fillFrom 48 = .ok (.iaload, 1) ∧ 48 + 1 = 49 := ⟨by decide +kernel, rfl⟩
theorem d_S_fillFrom_49 : decode b_S_fillFrom 49 = .ok (.iadd, 1) ∧ 49 + 1 = 50 := ⟨by decide +kernel, rfl⟩
theorem d_S_fillFrom_50 : decode b_S_fillFrom 50 = .ok (.iastore, 1) ∧ 50 + 1 = 51 := ⟨by decide +kernel, rfl⟩
theorem d_S_fillFrom_51 : decode b_S_fillFrom 51 = .ok (.iinc 5 1, 3) ∧ 51 + 3 = 54 := ⟨by decide +kernel, rfl⟩
theorem d_S_fillFrom_54 : decode b_S_fillFrom 54 = .ok (.goto (-34), 3) ∧ ((54 : Nat) : Int) + (-34) = ((20 : Nat) : Int) := ⟨by decide +kernel, by decide⟩
theorem d_S_fillFrom_57 : decode b_S_fillFrom 57 = .ok (.iinc 4 1, 3) ∧ 57 + 3 = 60 := ⟨by decide +kernel, rfl⟩
theorem d_S_fillFrom_60 : decode b_S_fillFrom 60 = .ok (.goto (-49), 3) ∧ ((60 : Nat) : Int) + (-49) = ((11 : Nat) : Int) := ⟨by decide +kernel, by decide⟩
theorem d_S_fillFrom_63 : decode b_S_fillFrom 63 = .ok (.aload_n 0, 1) ∧ 63 + 1 = 64 := ⟨by decide +kernel, rfl⟩
theorem d_S_fillFrom_64 : decode b_S_fillFrom 64 = .ok (.iconst 1, 1) ∧ 64 + 1 = 65 := ⟨by decide +kernel, rfl⟩
theorem d_S_fillFrom_65 : decode b_S_fillFrom 65 = .ok (.putfield 15, 3) ∧ 65 + 3 = 68 := ⟨by decide +kernel, rfl⟩
theorem d_S_fillFrom_68 : decode b_S_fillFrom 68 = .ok (.return_, 1) := by decide +kernel
theorem d_S_goesAlong_0 : decode b_S_goesAlong 0 = .ok (.aload_n 0, 1) ∧ 0 + 1 = 1 := ⟨by decide +kernel, rfl⟩
theorem d_S_goesAlong_1 : decode b_S_goesAlong 1 = .ok (.getfield 18, 3) ∧ 1 + 3 = 4 := ⟨by decide +kernel, rfl⟩
theorem d_S_goesAlong_4 : decode b_S_goesAlong 4 = .ok (.iload_n 1, 1) ∧ 4 + 1 = 5 := ⟨by decide +kernel, rfl⟩
theorem d_S_goesAlong_5 : decode b_S_goesAlong 5 = .ok (.if_icmp .ne 15, 3) ∧ 5 + 3 = 8 ∧ ((5 : Nat) : Int) + 15 = ((20 : Nat) : Int) := ⟨by decide +kernel, rfl, by decide⟩
theorem d_S_goesAlong_8 : decode b_S_goesAlong 8 = .ok (.aload_n 0, 1) ∧ 8 + 1 = 9 := ⟨by decide +kernel, rfl⟩
theorem d_S_goesAlong_9 : decode b_S_goesAlong 9 = .ok (.getfield 22, 3) ∧ 9 + 3 = 12 := ⟨by decide +kernel, rfl⟩
theorem d_S_goesAlong_12 : decode b_S_goesAlong 12 = .ok (.iload_n 2, 1) ∧ 12 + 1 = 13 := ⟨by decide +kernel, rfl⟩
theorem d_S_goesAlong_13 : decode b_S_goesAlong 13 = .ok (.if_icmp .ne 7, 3) ∧ 13 + 3 = 16 ∧ ((13 : Nat) : Int) + 7 = ((20 : Nat) : Int) := ⟨by decide +kernel, rfl, by decide⟩
theorem d_S_goesAlong_16 : decode b_S_goesAlong 16 = .ok (.iconst 1, 1) ∧ 16 + 1 = 17 := ⟨by decide +kernel, rfl⟩
theorem d_S_goesAlong_17 : decode b_S_goesAlong 17 = .ok (.goto 4, 3) ∧ ((17 : Nat) : Int) + 4 = ((21 : Nat) : Int) := ⟨by decide +kernel, by decide⟩
theorem d_S_goesAlong_20 : decode b_S_goesAlong 20 = .ok (.iconst 0, 1) ∧ 20 + 1 = 21 := ⟨by decide +kernel, rfl⟩
theorem d_S_goesAlong_21 : decode b_S_goesAlong 21 = .ok (.ireturn, 1) := by decide +kernel
theorem d_S_init_0 : decode b_S_init 0 = .ok (.aload_n 0, 1) ∧ 0 + 1 = 1 := ⟨by decide +kernel, rfl⟩
theorem d_S_init_1 : decode b_S_init 1 = .ok (.invokespecial 3, 3) ∧ 1 + 3 = 4 := ⟨by decide +kernel, rfl⟩
theorem d_S_init_4 : decode b_S_init 4 = .ok (.aload_n 0, 1) ∧ 4 + 1 = 5 := ⟨by decide +kernel, rfl⟩
theorem d_S_init_5 : decode b_S_init 5 = .ok (.iconst 0, 1) ∧ 5 + 1 = 6 := ⟨by decide +kernel, rfl⟩
theorem d_S_init_6 : decode b_S_init 6 = .ok (.putfield 9, 3) ∧ 6 + 3 = 9 := ⟨by decide +kernel, rfl⟩
theorem d_S_init_9 : decode b_S_init 9 = .ok (.aload_n 0, 1) ∧ 9 + 1 = 10 := ⟨by decide +kernel, rfl⟩
theorem d_S_init_10 : decode b_S_init 10 = .ok (.iconst 0, 1) ∧ 10 + 1 = 11 := ⟨by decide +kernel, rfl⟩
theorem d_S_init_11 : decode b_S_init 11 = .ok (.putfield 15, 3) ∧ 11 + 3 = 14 := ⟨by decide +kernel, rfl⟩
theorem d_S_init_14 : decode b_S_init 14 = .ok (.aload_n 0, 1) ∧ 14 + 1 = 15 := ⟨by decide +kernel, rfl⟩
theorem d_S_init_15 : decode b_S_init 15 = .ok (.iconst 0, 1) ∧ 15 + 1 = 16 := ⟨by decide +kernel, rfl⟩
theorem d_S_init_16 : decode b_S_init 16 = .ok (.putfield 18, 3) ∧ 16 + 3 = 19 := ⟨by decide +kernel, rfl⟩
theorem d_S_init_19 : decode b_S_init 19 = .ok (.aload_n 0, 1) ∧ 19 + 1 = 20 := ⟨by decide +kernel, rfl⟩
theorem d_S_init_20 : decode b_S_init 20 = .ok (.iconst 0, 1) ∧ 20 + 1 = 21 := ⟨by decide +kernel, rfl⟩
theorem d_S_init_21 : decode b_S_init 21 = .ok (.putfield 22, 3) ∧ 21 + 3 = 24 := ⟨by decide +kernel, rfl⟩
theorem d_S_init_24 : decode b_S_init 24 = .ok (.aload_n 0, 1) ∧ 24 + 1 = 25 := ⟨by decide +kernel, rfl⟩
theorem d_S_init_25 : decode b_S_init 25 = .ok (.iconst 0, 1) ∧ 25 + 1 = 26 := ⟨by decide +kernel, rfl⟩
theorem d_S_init_26 : decode b_S_init 26 = .ok (.putfield 25, 3) ∧ 26 + 3 = 29 := ⟨by decide +kernel, rfl⟩
theorem d_S_init_29 : decode b_S_init 29 = .ok (.aload_n 0, 1) ∧ 29 + 1 = 30 := ⟨by decide +kernel, rfl⟩
theorem d_S_init_30 : decode b_S_init 30 = .ok (.iconst 0, 1) ∧ 30 + 1 = 31 := ⟨by decide +kernel, rfl⟩
theorem d_S_init_31 : decode b_S_init 31 = .ok (.putfield 28, 3) ∧ 31 + 3 = 34 := ⟨by decide +kernel, rfl⟩
theorem d_S_init_34 : decode b_S_init 34 = .ok (.aload_n 0, 1) ∧ 34 + 1 = 35 := ⟨by decide +kernel, rfl⟩
theorem d_S_init_35 : decode b_S_init 35 = .ok (.iconst 0, 1) ∧ 35 + 1 = 36 := ⟨by decide +kernel, rfl⟩
theorem d_S_init_36 : decode b_S_init 36 = .ok (.newarray .int, 2) ∧ 36 + 2 = 38 := ⟨by decide +kernel, rfl⟩
theorem d_S_init_38 : decode b_S_init 38 = .ok (.putfield 31, 3) ∧ 38 + 3 = 41 := ⟨by decide +kernel, rfl⟩
theorem d_S_init_41 : decode b_S_init 41 = .ok (.return_, 1) := by decide +kernel
theorem d_S_makeBins_0 : decode b_S_makeBins 0 = .ok (.aload_n 0, 1) ∧ 0 + 1 = 1 := ⟨by decide +kernel, rfl⟩
theorem d_S_makeBins_1 : decode b_S_makeBins 1 = .ok (.getfield 31, 3) ∧ 1 + 3 = 4 := ⟨by decide +kernel, rfl⟩
theorem d_S_makeBins_4 : decode b_S_makeBins 4 = .ok (.arraylength, 1) ∧ 4 + 1 = 5 := ⟨by decide +kernel, rfl⟩
theorem d_S_makeBins_5 : decode b_S_makeBins 5 = .ok (.ifCond .ne 12, 3) ∧ 5 + 3 = 8 ∧ ((5 : Nat) : Int) + 12 = ((17 : Nat) : Int) := ⟨by decide +kernel, rfl, by decide⟩
theorem d_S_makeBins_8 : decode b_S_makeBins 8 = .ok (.aload_n 0, 1) ∧ 8 + 1 = 9 := ⟨by decide +kernel, rfl⟩
theorem d_S_makeBins_9 : decode b_S_makeBins 9 = .ok (.sipush 481, 3) ∧ 9 + 3 = 12 := ⟨by decide +kernel, rfl⟩
theorem d_S_makeBins_12 : decode b_S_makeBins 12 = .ok (.newarray .int, 2) ∧ 12 + 2 = 14 := ⟨by decide +kernel, rfl⟩
theorem d_S_makeBins_14 : decode b_S_makeBins 14 = .ok (.putfield 31, 3) ∧ 14 + 3 = 17 := ⟨by decide +kernel, rfl⟩
theorem d_S_makeBins_17 : decode b_S_makeBins 17 = .ok (.return_, 1) := by decide +kernel
theorem d_S_unaim_0 : decode b_S_unaim 0 = .ok (.aload_n 0, 1) ∧ 0 + 1 = 1 := ⟨by decide +kernel, rfl⟩
theorem d_S_unaim_1 : decode b_S_unaim 1 = .ok (.iconst 0, 1) ∧ 1 + 1 = 2 := ⟨by decide +kernel, rfl⟩
theorem d_S_unaim_2 : decode b_S_unaim 2 = .ok (.putfield 9, 3) ∧ 2 + 3 = 5 := ⟨by decide +kernel, rfl⟩
theorem d_S_unaim_5 : decode b_S_unaim 5 = .ok (.aload_n 0, 1) ∧ 5 + 1 = 6 := ⟨by decide +kernel, rfl⟩
theorem d_S_unaim_6 : decode b_S_unaim 6 = .ok (.iconst 0, 1) ∧ 6 + 1 = 7 := ⟨by decide +kernel, rfl⟩
theorem d_S_unaim_7 : decode b_S_unaim 7 = .ok (.putfield 15, 3) ∧ 7 + 3 = 10 := ⟨by decide +kernel, rfl⟩
theorem d_S_unaim_10 : decode b_S_unaim 10 = .ok (.return_, 1) := by decide +kernel
theorem d_W_begin_0 : decode b_W_begin 0 = .ok (.aload_n 0, 1) ∧ 0 + 1 = 1 := ⟨by decide +kernel, rfl⟩
theorem d_W_begin_1 : decode b_W_begin 1 = .ok (.invokevirtual 28, 3) ∧ 1 + 3 = 4 := ⟨by decide +kernel, rfl⟩
theorem d_W_begin_4 : decode b_W_begin 4 = .ok (.aload_n 0, 1) ∧ 4 + 1 = 5 := ⟨by decide +kernel, rfl⟩
theorem d_W_begin_5 : decode b_W_begin 5 = .ok (.aload_n 1, 1) ∧ 5 + 1 = 6 := ⟨by decide +kernel, rfl⟩
theorem d_W_begin_6 : decode b_W_begin 6 = .ok (.getfield 31, 3) ∧ 6 + 3 = 9 := ⟨by decide +kernel, rfl⟩
theorem d_W_begin_9 : decode b_W_begin 9 = .ok (.putfield 9, 3) ∧ 9 + 3 = 12 := ⟨by decide +kernel, rfl⟩
theorem d_W_begin_12 : decode b_W_begin 12 = .ok (.aload_n 0, 1) ∧ 12 + 1 = 13 := ⟨by decide +kernel, rfl⟩
theorem d_W_begin_13 : decode b_W_begin 13 = .ok (.iconst 0, 1) ∧ 13 + 1 = 14 := ⟨by decide +kernel, rfl⟩
theorem d_W_begin_14 : decode b_W_begin 14 = .ok (.putfield 15, 3) ∧ 14 + 3 = 17 := ⟨by decide +kernel, rfl⟩
theorem d_W_begin_17 : decode b_W_begin 17 = .ok (.aload_n 0, 1) ∧ 17 + 1 = 18 := ⟨by decide +kernel, rfl⟩
theorem d_W_begin_18 : decode b_W_begin 18 = .ok (.getfield 18, 3) ∧ 18 + 3 = 21 := ⟨by decide +kernel, rfl⟩
theorem d_W_begin_21 : decode b_W_begin 21 = .ok (.iconst 0, 1) ∧ 21 + 1 = 22 := ⟨by decide +kernel, rfl⟩
theorem d_W_begin_22 : decode b_W_begin 22 = .ok (.invokestatic 34, 3) ∧ 22 + 3 = 25 := ⟨by decide +kernel, rfl⟩
theorem d_W_begin_25 : decode b_W_begin 25 = .ok (.aload_n 0, 1) ∧ 25 + 1 = 26 := ⟨by decide +kernel, rfl⟩
theorem d_W_begin_26 : decode b_W_begin 26 = .ok (.getfield 22, 3) ∧ 26 + 3 = 29 := ⟨by decide +kernel, rfl⟩
theorem d_W_begin_29 : decode b_W_begin 29 = .ok (.iconst 0, 1) ∧ 29 + 1 = 30 := ⟨by decide +kernel, rfl⟩
theorem d_W_begin_30 : decode b_W_begin 30 = .ok (.invokestatic 34, 3) ∧ 30 + 3 = 33 := ⟨by decide +kernel, rfl⟩
theorem d_W_begin_33 : decode b_W_begin 33 = .ok (.aload_n 1, 1) ∧ 33 + 1 = 34 := ⟨by decide +kernel, rfl⟩
theorem d_W_begin_34 : decode b_W_begin 34 = .ok (.getfield 40, 3) ∧ 34 + 3 = 37 := ⟨by decide +kernel, rfl⟩
theorem d_W_begin_37 : decode b_W_begin 37 = .ok (.iconst 0, 1) ∧ 37 + 1 = 38 := ⟨by decide +kernel, rfl⟩
theorem d_W_begin_38 : decode b_W_begin 38 = .ok (.aload_n 0, 1) ∧ 38 + 1 = 39 := ⟨by decide +kernel, rfl⟩
theorem d_W_begin_39 : decode b_W_begin 39 = .ok (.getfield 25, 3) ∧ 39 + 3 = 42 := ⟨by decide +kernel, rfl⟩
theorem d_W_begin_42 : decode b_W_begin 42 = .ok (.iconst 0, 1) ∧ 42 + 1 = 43 := ⟨by decide +kernel, rfl⟩
theorem d_W_begin_43 : decode b_W_begin 43 = .ok (.aload_n 0, 1) ∧ 43 + 1 = 44 := ⟨by decide +kernel, rfl⟩
theorem d_W_begin_44 : decode b_W_begin 44 = .ok (.getfield 9, 3) ∧ 44 + 3 = 47 := ⟨by decide +kernel, rfl⟩
theorem d_W_begin_47 : decode b_W_begin 47 = .ok (.invokestatic 43, 3) ∧ 47 + 3 = 50 := ⟨by decide +kernel, rfl⟩
theorem d_W_begin_50 : decode b_W_begin 50 = .ok (.iconst 0, 1) ∧ 50 + 1 = 51 := ⟨by decide +kernel, rfl⟩
theorem d_W_begin_51 : decode b_W_begin 51 = .ok (.istore 4, 2) ∧ 51 + 2 = 53 := ⟨by decide +kernel, rfl⟩
theorem d_W_begin_53 : decode b_W_begin 53 = .ok (.iload 4, 2) ∧ 53 + 2 = 55 := ⟨by decide +kernel, rfl⟩
theorem d_W_begin_55 : decode b_W_begin 55 = .ok (.iload_n 3, 1) ∧ 55 + 1 = 56 := ⟨by decide +kernel, rfl⟩
theorem d_W_begin_56 : decode b_W_begin 56 = .ok (.if_icmp .ge 62, 3) ∧ 56 + 3 = 59 ∧ ((56 : Nat) : Int) + 62 = ((118 : Nat) : Int) := ⟨by decide +kernel, rfl, by decide⟩
theorem d_W_begin_59 : decode b_W_begin 59 = .ok (.iconst 0, 1) ∧ 59 + 1 = 60 := ⟨by decide +kernel, rfl⟩
theorem d_W_begin_60 : decode b_W_begin 60 = .ok (.istore 5, 2) ∧ 60 + 2 = 62 := ⟨by decide +kernel, rfl⟩
theorem d_W_begin_62 : decode b_W_begin 62 = .ok (.iload 5, 2) ∧ 62 + 2 = 64 := ⟨by decide +kernel, rfl⟩
theorem d_W_begin_64 : decode b_W_begin 64 = .ok (.iload_n 2, 1) ∧ 64 + 1 = 65 := ⟨by decide +kernel, rfl⟩
theorem d_W_begin_65 : decode b_W_begin 65 = .ok (.if_icmp .ge 47, 3) ∧ 65 + 3 = 68 ∧ ((65 : Nat) : Int) + 47 = ((112 : Nat) : Int) := ⟨by decide +kernel, rfl, by decide⟩
theorem d_W_begin_68 : decode b_W_begin 68 = .ok (.aload_n 1, 1) ∧ 68 + 1 = 69 := ⟨by decide +kernel, rfl⟩
theorem d_W_begin_69 : decode b_W_begin 69 = .ok (.iload 5, 2) ∧ 69 + 2 = 71 := ⟨by decide +kernel, rfl⟩
theorem d_W_begin_71 : decode b_W_begin 71 = .ok (.iload 4, 2) ∧ 71 + 2 = 73 := ⟨by decide +kernel, rfl⟩
theorem d_W_begin_73 : decode b_W_begin 73 = .ok (.invokevirtual 49, 3) ∧ 73 + 3 = 76 := ⟨by decide +kernel, rfl⟩
theorem d_W_begin_76 : decode b_W_begin 76 = .ok (.istore 6, 2) ∧ 76 + 2 = 78 := ⟨by decide +kernel, rfl⟩
theorem d_W_begin_78 : decode b_W_begin 78 = .ok (.aload_n 0, 1) ∧ 78 + 1 = 79 := ⟨by decide +kernel, rfl⟩
theorem d_W_begin_79 : decode b_W_begin 79 = .ok (.getfield 18, 3) ∧ 79 + 3 = 82 := ⟨by decide +kernel, rfl⟩
theorem d_W_begin_82 : decode b_W_begin 82 = .ok (.iload 6, 2) ∧ 82 + 2 = 84 := ⟨by decide +kernel, rfl⟩
theorem d_W_begin_84 : decode b_W_begin 84 = .ok (.dup2, 1) ∧ 84 + 1 = 85 := ⟨by decide +kernel, rfl⟩
theorem d_W_begin_85 : decode b_W_begin 85 = .ok (.iaload, 1) ∧ 85 + 1 = 86 := ⟨by decide +kernel, rfl⟩
theorem d_W_begin_86 : decode b_W_begin 86 = .ok (.iconst 1, 1) ∧ 86 + 1 = 87 := ⟨by decide +kernel, rfl⟩
theorem d_W_begin_87 : decode b_W_begin 87 = .ok (.iadd, 1) ∧ 87 + 1 = 88 := ⟨by decide +kernel, rfl⟩
theorem d_W_begin_88 : decode b_W_begin 88 = .ok (.iastore, 1) ∧ 88 + 1 = 89 := ⟨by decide +kernel, rfl⟩
theorem d_W_begin_89 : decode b_W_begin 89 = .ok (.aload_n 0, 1) ∧ 89 + 1 = 90 := ⟨by decide +kernel, rfl⟩
theorem d_W_begin_90 : decode b_W_begin 90 = .ok (.getfield 22, 3) ∧ 90 + 3 = 93 := ⟨by decide +kernel, rfl⟩
theorem d_W_begin_93 : decode b_W_begin 93 = .ok (.iload 6, 2) ∧ 93 + 2 = 95 := ⟨by decide +kernel, rfl⟩
theorem d_W_begin_95 : decode b_W_begin 95 = .ok (.dup2, 1) ∧ 95 + 1 = 96 := ⟨by decide +kernel, rfl⟩
theorem d_W_begin_96 : decode b_W_begin 96 = .ok (.iaload, 1) ∧ 96 + 1 = 97 := ⟨by decide +kernel, rfl⟩
theorem d_W_begin_97 : decode b_W_begin 97 = .ok (.iload 5, 2) ∧ 97 + 2 = 99 := ⟨by decide +kernel, rfl⟩
theorem d_W_begin_99 : decode b_W_begin 99 = .ok (.iload 4, 2) ∧ 99 + 2 = 101 := ⟨by decide +kernel, rfl⟩
theorem d_W_begin_101 : decode b_W_begin 101 = .ok (.invokestatic 53, 3) ∧ 101 + 3 = 104 := ⟨by decide +kernel, rfl⟩
theorem d_W_begin_104 : decode b_W_begin 104 = .ok (.iadd, 1) ∧ 104 + 1 = 105 := ⟨by decide +kernel, rfl⟩
theorem d_W_begin_105 : decode b_W_begin 105 = .ok (.iastore, 1) ∧ 105 + 1 = 106 := ⟨by decide +kernel, rfl⟩
theorem d_W_begin_106 : decode b_W_begin 106 = .ok (.iinc 5 1, 3) ∧ 106 + 3 = 109 := ⟨by decide +kernel, rfl⟩
theorem d_W_begin_109 : decode b_W_begin 109 = .ok (.goto (-47), 3) ∧ ((109 : Nat) : Int) + (-47) = ((62 : Nat) : Int) := ⟨by decide +kernel, by decide⟩
theorem d_W_begin_112 : decode b_W_begin 112 = .ok (.iinc 4 1, 3) ∧ 112 + 3 = 115 := ⟨by decide +kernel, rfl⟩
theorem d_W_begin_115 : decode b_W_begin 115 = .ok (.goto (-62), 3) ∧ ((115 : Nat) : Int) + (-62) = ((53 : Nat) : Int) := ⟨by decide +kernel, by decide⟩
theorem d_W_begin_118 : decode b_W_begin 118 = .ok (.return_, 1) := by decide +kernel
theorem d_W_findReadyBin_0 : decode b_W_findReadyBin 0 = .ok (.aload_n 0, 1) ∧ 0 + 1 = 1 := ⟨by decide +kernel, rfl⟩
theorem d_W_findReadyBin_1 : decode b_W_findReadyBin 1 = .ok (.getfield 15, 3) ∧ 1 + 3 = 4 := ⟨by decide +kernel, rfl⟩
theorem d_W_findReadyBin_4 : decode b_W_findReadyBin 4 = .ok (.aload_n 0, 1) ∧ 4 + 1 = 5 := ⟨by decide +kernel, rfl⟩
theorem d_W_findReadyBin_5 : decode b_W_findReadyBin 5 = .ok (.getfield 9, 3) ∧ 5 + 3 = 8 := ⟨by decide +kernel, rfl⟩
theorem d_W_findReadyBin_8 : decode b_W_findReadyBin 8 = .ok (.if_icmp .ge 29, 3) ∧ 8 + 3 = 11 ∧ ((8 : Nat) : Int) + 29 = ((37 : Nat) : Int) := ⟨by decide +kernel, rfl, by decide⟩
theorem d_W_findReadyBin_11 : decode b_W_findReadyBin 11 = .ok (.aload_n 0, 1) ∧ 11 + 1 = 12 := ⟨by decide +kernel, rfl⟩
theorem d_W_findReadyBin_12 : decode b_W_findReadyBin 12 = .ok (.getfield 18, 3) ∧ 12 + 3 = 15 := ⟨by decide +kernel, rfl⟩
theorem d_W_findReadyBin_15 : decode b_W_findReadyBin 15 = .ok (.aload_n 0, 1) ∧ 15 + 1 = 16 := ⟨by decide +kernel, rfl⟩
theorem d_W_findReadyBin_16 : decode b_W_findReadyBin 16 = .ok (.getfield 15, 3) ∧ 16 + 3 = 19 := ⟨by decide +kernel, rfl⟩
theorem d_W_findReadyBin_19 : decode b_W_findReadyBin 19 = .ok (.iaload, 1) ∧ 19 + 1 = 20 := ⟨by decide +kernel, rfl⟩
theorem d_W_findReadyBin_20 : decode b_W_findReadyBin 20 = .ok (.iconst 1, 1) ∧ 20 + 1 = 21 := ⟨by decide +kernel, rfl⟩
theorem d_W_findReadyBin_21 : decode b_W_findReadyBin 21 = .ok (.if_icmp .eq 16, 3) ∧ 21 + 3 = 24 ∧ ((21 : Nat) : Int) + 16 = ((37 : Nat) : Int) := ⟨by decide +kernel, rfl, by decide⟩
theorem d_W_findReadyBin_24 : decode b_W_findReadyBin 24 = .ok (.aload_n 0, 1) ∧ 24 + 1 = 25 := ⟨by decide +kernel, rfl⟩
theorem d_W_findReadyBin_25 : decode b_W_findReadyBin 25 = .ok (.dup, 1) ∧ 25 + 1 = 26 := ⟨by decide +kernel, rfl⟩
theorem d_W_findReadyBin_26 : decode b_W_findReadyBin 26 = .ok (.getfield 15, 3) ∧ 26 + 3 = 29 := ⟨by decide +kernel, rfl⟩
theorem d_W_findReadyBin_29 : decode b_W_findReadyBin 29 = .ok (.iconst 1, 1) ∧ 29 + 1 = 30 := ⟨by decide +kernel, rfl⟩
theorem d_W_findReadyBin_30 : decode b_W_findReadyBin 30 = .ok (.iadd, 1) ∧ 30 + 1 = 31 := ⟨by decide +kernel, rfl⟩
theorem d_W_findReadyBin_31 : decode b_W_findReadyBin 31 = .ok (.putfield 15, 3) ∧ 31 + 3 = 34 := ⟨by decide +kernel, rfl⟩
theorem d_W_findReadyBin_34 : decode b_W_findReadyBin 34 = .ok (.goto (-34), 3) ∧ ((34 : Nat) : Int) + (-34) = ((0 : Nat) : Int) := ⟨by decide +kernel, by decide⟩
theorem d_W_findReadyBin_37 : decode b_W_findReadyBin 37 = .ok (.aload_n 0, 1) ∧ 37 + 1 = 38 := ⟨by decide +kernel, rfl⟩
theorem d_W_findReadyBin_38 : decode b_W_findReadyBin 38 = .ok (.getfield 15, 3) ∧ 38 + 3 = 41 := ⟨by decide +kernel, rfl⟩
theorem d_W_findReadyBin_41 : decode b_W_findReadyBin 41 = .ok (.aload_n 0, 1) ∧ 41 + 1 = 42 := ⟨by decide +kernel, rfl⟩
theorem d_W_findReadyBin_42 : decode b_W_findReadyBin 42 = .ok (.getfield 9, 3) ∧ 42 + 3 = 45 := ⟨by decide +kernel, rfl⟩
theorem d_W_findReadyBin_45 : decode b_W_findReadyBin 45 = .ok (.if_icmp .ge 7, 3) ∧ 45 + 3 = 48 ∧ ((45 : Nat) : Int) + 7 = ((52 : Nat) : Int) := ⟨by decide +kernel, rfl, by decide⟩
theorem d_W_findReadyBin_48 : decode b_W_findReadyBin 48 = .ok (.iconst 1, 1) ∧ 48 + 1 = 49 := ⟨by decide +kernel, rfl⟩
theorem d_W_findReadyBin_49 : decode b_W_findReadyBin 49 = .ok (.goto 4, 3) ∧ ((49 : Nat) : Int) + 4 = ((53 : Nat) : Int) := ⟨by decide +kernel, by decide⟩
theorem d_W_findReadyBin_52 : decode b_W_findReadyBin 52 = .ok (.iconst 0, 1) ∧ 52 + 1 = 53 := ⟨by decide +kernel, rfl⟩
theorem d_W_findReadyBin_53 : decode b_W_findReadyBin 53 = .ok (.ireturn, 1) := by decide +kernel
theorem d_W_init_0 : decode b_W_init 0 = .ok (.aload_n 0, 1) ∧ 0 + 1 = 1 := ⟨by decide +kernel, rfl⟩
theorem d_W_init_1 : decode b_W_init 1 = .ok (.invokespecial 3, 3) ∧ 1 + 3 = 4 := ⟨by decide +kernel, rfl⟩
theorem d_W_init_4 : decode b_W_init 4 = .ok (.aload_n 0, 1) ∧ 4 + 1 = 5 := ⟨by decide +kernel, rfl⟩
theorem d_W_init_5 : decode b_W_init 5 = .ok (.iconst 0, 1) ∧ 5 + 1 = 6 := ⟨by decide +kernel, rfl⟩
theorem d_W_init_6 : decode b_W_init 6 = .ok (.putfield 9, 3) ∧ 6 + 3 = 9 := ⟨by decide +kernel, rfl⟩
theorem d_W_init_9 : decode b_W_init 9 = .ok (.aload_n 0, 1) ∧ 9 + 1 = 10 := ⟨by decide +kernel, rfl⟩
theorem d_W_init_10 : decode b_W_init 10 = .ok (.iconst 0, 1) ∧ 10 + 1 = 11 := ⟨by decide +kernel, rfl⟩
theorem d_W_init_11 : decode b_W_init 11 = .ok (.putfield 15, 3) ∧ 11 + 3 = 14 := ⟨by decide +kernel, rfl⟩
theorem d_W_init_14 : decode b_W_init 14 = .ok (.aload_n 0, 1) ∧ 14 + 1 = 15 := ⟨by decide +kernel, rfl⟩
theorem d_W_init_15 : decode b_W_init 15 = .ok (.iconst 0, 1) ∧ 15 + 1 = 16 := ⟨by decide +kernel, rfl⟩
theorem d_W_init_16 : decode b_W_init 16 = .ok (.newarray .int, 2) ∧ 16 + 2 = 18 := ⟨by decide +kernel, rfl⟩
theorem d_W_init_18 : decode b_W_init 18 = .ok (.putfield 18, 3) ∧ 18 + 3 = 21 := ⟨by decide +kernel, rfl⟩
theorem d_W_init_21 : decode b_W_init 21 = .ok (.aload_n 0, 1) ∧ 21 + 1 = 22 := ⟨by decide +kernel, rfl⟩
theorem d_W_init_22 : decode b_W_init 22 = .ok (.iconst 0, 1) ∧ 22 + 1 = 23 := ⟨by decide +kernel, rfl⟩
theorem d_W_init_23 : decode b_W_init 23 = .ok (.newarray .int, 2) ∧ 23 + 2 = 25 := ⟨by decide +kernel, rfl⟩
theorem d_W_init_25 : decode b_W_init 25 = .ok (.putfield 22, 3) ∧ 25 + 3 = 28 := ⟨by decide +kernel, rfl⟩
theorem d_W_init_28 : decode b_W_init 28 = .ok (.aload_n 0, 1) ∧ 28 + 1 = 29 := ⟨by decide +kernel, rfl⟩
theorem d_W_init_29 : decode b_W_init 29 = .ok (.iconst 0, 1) ∧ 29 + 1 = 30 := ⟨by decide +kernel, rfl⟩
theorem d_W_init_30 : decode b_W_init 30 = .ok (.newarray .int, 2) ∧ 30 + 2 = 32 := ⟨by decide +kernel, rfl⟩
theorem d_W_init_32 : decode b_W_init 32 = .ok (.putfield 25, 3) ∧ 32 + 3 = 35 := ⟨by decide +kernel, rfl⟩
theorem d_W_init_35 : decode b_W_init 35 = .ok (.return_, 1) := by decide +kernel
theorem d_W_lowestWrongBin_0 : decode b_W_lowestWrongBin 0 = .ok (.iconst 0, 1) ∧ 0 + 1 = 1 := ⟨by decide +kernel, rfl⟩
theorem d_W_lowestWrongBin_1 : decode b_W_lowestWrongBin 1 = .ok (.istore_n 1, 1) ∧ 1 + 1 = 2 := ⟨by decide +kernel, rfl⟩
theorem d_W_lowestWrongBin_2 : decode b_W_lowestWrongBin 2 = .ok (.iload_n 1, 1) ∧ 2 + 1 = 3 := ⟨by decide +kernel, rfl⟩
theorem d_W_lowestWrongBin_3 : decode b_W_lowestWrongBin 3 = .ok (.aload_n 0, 1) ∧ 3 + 1 = 4 := ⟨by decide +kernel, rfl⟩
theorem d_W_lowestWrongBin_4 : decode b_W_lowestWrongBin 4 = .ok (.getfield 9, 3) ∧ 4 + 3 = 7 := ⟨by decide +kernel, rfl⟩
theorem d_W_lowestWrongBin_7 : decode b_W_lowestWrongBin 7 = .ok (.if_icmp .ge 20, 3) ∧ 7 + 3 = 10 ∧ ((7 : Nat) : Int) + 20 = ((27 : Nat) : Int) := ⟨by decide +kernel, rfl, by decide⟩
theorem d_W_lowestWrongBin_10 : decode b_W_lowestWrongBin 10 = .ok (.aload_n 0, 1) ∧ 10 + 1 = 11 := ⟨by decide +kernel, rfl⟩
theorem d_W_lowestWrongBin_11 : decode b_W_lowestWrongBin 11 = .ok (.getfield 25, 3) ∧ 11 + 3 = 14 := ⟨by decide +kernel, rfl⟩
theorem d_W_lowestWrongBin_14 : decode b_W_lowestWrongBin 14 = .ok (.iload_n 1, 1) ∧ 14 + 1 = 15 := ⟨by decide +kernel, rfl⟩
theorem d_W_lowestWrongBin_15 : decode b_W_lowestWrongBin 15 = .ok (.iaload, 1) ∧ 15 + 1 = 16 := ⟨by decide +kernel, rfl⟩
theorem d_W_lowestWrongBin_16 : decode b_W_lowestWrongBin 16 = .ok (.ifCond .eq 5, 3) ∧ 16 + 3 = 19 ∧ ((16 : Nat) : Int) + 5 = ((21 : Nat) : Int) := ⟨by decide +kernel, rfl, by decide⟩
theorem d_W_lowestWrongBin_19 : decode b_W_lowestWrongBin 19 = .ok (.iload_n 1, 1) ∧ 19 + 1 = 20 := ⟨by decide +kernel, rfl⟩
theorem d_W_lowestWrongBin_20 : decode b_W_lowestWrongBin 20 = .ok (.ireturn, 1) := by decide +kernel
theorem d_W_lowestWrongBin_21 : decode b_W_lowestWrongBin 21 = .ok (.iinc 1 1, 3) ∧ 21 + 3 = 24 := ⟨by decide +kernel, rfl⟩
theorem d_W_lowestWrongBin_24 : decode b_W_lowestWrongBin 24 = .ok (.goto (-22), 3) ∧ ((24 : Nat) : Int) + (-22) = ((2 : Nat) : Int) := ⟨by decide +kernel, by decide⟩
theorem d_W_lowestWrongBin_27 : decode b_W_lowestWrongBin 27 = .ok (.iconst (-1), 1) ∧ 27 + 1 = 28 := ⟨by decide +kernel, rfl⟩
theorem d_W_lowestWrongBin_28 : decode b_W_lowestWrongBin 28 = .ok (.ireturn, 1) := by decide +kernel
theorem d_W_makeRows_0 : decode b_W_makeRows 0 = .ok (.aload_n 0, 1) ∧ 0 + 1 = 1 := ⟨by decide +kernel, rfl⟩
theorem d_W_makeRows_1 : decode b_W_makeRows 1 = .ok (.getfield 25, 3) ∧ 1 + 3 = 4 := ⟨by decide +kernel, rfl⟩
theorem d_W_makeRows_4 : decode b_W_makeRows 4 = .ok (.arraylength, 1) ∧ 4 + 1 = 5 := ⟨by decide +kernel, rfl⟩
theorem d_W_makeRows_5 : decode b_W_makeRows 5 = .ok (.ifCond .ne 30, 3) ∧ 5 + 3 = 8 ∧ ((5 : Nat) : Int) + 30 = ((35 : Nat) : Int) := ⟨by decide +kernel, rfl, by decide⟩
theorem d_W_makeRows_8 : decode b_W_makeRows 8 = .ok (.aload_n 0, 1) ∧ 8 + 1 = 9 := ⟨by decide +kernel, rfl⟩
theorem d_W_makeRows_9 : decode b_W_makeRows 9 = .ok (.sipush 481, 3) ∧ 9 + 3 = 12 := ⟨by decide +kernel, rfl⟩
theorem d_W_makeRows_12 : decode b_W_makeRows 12 = .ok (.newarray .int, 2) ∧ 12 + 2 = 14 := ⟨by decide +kernel, rfl⟩
theorem d_W_makeRows_14 : decode b_W_makeRows 14 = .ok (.putfield 18, 3) ∧ 14 + 3 = 17 := ⟨by decide +kernel, rfl⟩
theorem d_W_makeRows_17 : decode b_W_makeRows 17 = .ok (.aload_n 0, 1) ∧ 17 + 1 = 18 := ⟨by decide +kernel, rfl⟩
theorem d_W_makeRows_18 : decode b_W_makeRows 18 = .ok (.sipush 481, 3) ∧ 18 + 3 = 21 := ⟨by decide +kernel, rfl⟩
theorem d_W_makeRows_21 : decode b_W_makeRows 21 = .ok (.newarray .int, 2) ∧ 21 + 2 = 23 := ⟨by decide +kernel, rfl⟩
theorem d_W_makeRows_23 : decode b_W_makeRows 23 = .ok (.putfield 22, 3) ∧ 23 + 3 = 26 := ⟨by decide +kernel, rfl⟩
theorem d_W_makeRows_26 : decode b_W_makeRows 26 = .ok (.aload_n 0, 1) ∧ 26 + 1 = 27 := ⟨by decide +kernel, rfl⟩
theorem d_W_makeRows_27 : decode b_W_makeRows 27 = .ok (.sipush 481, 3) ∧ 27 + 3 = 30 := ⟨by decide +kernel, rfl⟩
theorem d_W_makeRows_30 : decode b_W_makeRows 30 = .ok (.newarray .int, 2) ∧ 30 + 2 = 32 := ⟨by decide +kernel, rfl⟩
theorem d_W_makeRows_32 : decode b_W_makeRows 32 = .ok (.putfield 25, 3) ∧ 32 + 3 = 35 := ⟨by decide +kernel, rfl⟩
theorem d_W_makeRows_35 : decode b_W_makeRows 35 = .ok (.return_, 1) := by decide +kernel
theorem d_W_readyCell_0 : decode b_W_readyCell 0 = .ok (.aload_n 0, 1) ∧ 0 + 1 = 1 := ⟨by decide +kernel, rfl⟩
theorem d_W_readyCell_1 : decode b_W_readyCell 1 = .ok (.getfield 22, 3) ∧ 1 + 3 = 4 := ⟨by decide +kernel, rfl⟩
theorem d_W_readyCell_4 : decode b_W_readyCell 4 = .ok (.aload_n 0, 1) ∧ 4 + 1 = 5 := ⟨by decide +kernel, rfl⟩
theorem d_W_readyCell_5 : decode b_W_readyCell 5 = .ok (.getfield 15, 3) ∧ 5 + 3 = 8 := ⟨by decide +kernel, rfl⟩
theorem d_W_readyCell_8 : decode b_W_readyCell 8 = .ok (.iaload, 1) ∧ 8 + 1 = 9 := ⟨by decide +kernel, rfl⟩
theorem d_W_readyCell_9 : decode b_W_readyCell 9 = .ok (.ireturn, 1) := by decide +kernel
theorem d_W_readyNumber_0 : decode b_W_readyNumber 0 = .ok (.aload_n 0, 1) ∧ 0 + 1 = 1 := ⟨by decide +kernel, rfl⟩
theorem d_W_readyNumber_1 : decode b_W_readyNumber 1 = .ok (.getfield 25, 3) ∧ 1 + 3 = 4 := ⟨by decide +kernel, rfl⟩
theorem d_W_readyNumber_4 : decode b_W_readyNumber 4 = .ok (.aload_n 0, 1) ∧ 4 + 1 = 5 := ⟨by decide +kernel, rfl⟩
theorem d_W_readyNumber_5 : decode b_W_readyNumber 5 = .ok (.getfield 15, 3) ∧ 5 + 3 = 8 := ⟨by decide +kernel, rfl⟩
theorem d_W_readyNumber_8 : decode b_W_readyNumber 8 = .ok (.iaload, 1) ∧ 8 + 1 = 9 := ⟨by decide +kernel, rfl⟩
theorem d_W_readyNumber_9 : decode b_W_readyNumber 9 = .ok (.ireturn, 1) := by decide +kernel
theorem d_W_takeOut_0 : decode b_W_takeOut 0 = .ok (.aload_n 0, 1) ∧ 0 + 1 = 1 := ⟨by decide +kernel, rfl⟩
theorem d_W_takeOut_1 : decode b_W_takeOut 1 = .ok (.getfield 18, 3) ∧ 1 + 3 = 4 := ⟨by decide +kernel, rfl⟩
theorem d_W_takeOut_4 : decode b_W_takeOut 4 = .ok (.iload_n 1, 1) ∧ 4 + 1 = 5 := ⟨by decide +kernel, rfl⟩
theorem d_W_takeOut_5 : decode b_W_takeOut 5 = .ok (.dup2, 1) ∧ 5 + 1 = 6 := ⟨by decide +kernel, rfl⟩
theorem d_W_takeOut_6 : decode b_W_takeOut 6 = .ok (.iaload, 1) ∧ 6 + 1 = 7 := ⟨by decide +kernel, rfl⟩
theorem d_W_takeOut_7 : decode b_W_takeOut 7 = .ok (.iconst 1, 1) ∧ 7 + 1 = 8 := ⟨by decide +kernel, rfl⟩
theorem d_W_takeOut_8 : decode b_W_takeOut 8 = .ok (.isub, 1) ∧ 8 + 1 = 9 := ⟨by decide +kernel, rfl⟩
theorem d_W_takeOut_9 : decode b_W_takeOut 9 = .ok (.iastore, 1) ∧ 9 + 1 = 10 := ⟨by decide +kernel, rfl⟩
theorem d_W_takeOut_10 : decode b_W_takeOut 10 = .ok (.aload_n 0, 1) ∧ 10 + 1 = 11 := ⟨by decide +kernel, rfl⟩
theorem d_W_takeOut_11 : decode b_W_takeOut 11 = .ok (.getfield 22, 3) ∧ 11 + 3 = 14 := ⟨by decide +kernel, rfl⟩
theorem d_W_takeOut_14 : decode b_W_takeOut 14 = .ok (.iload_n 1, 1) ∧ 14 + 1 = 15 := ⟨by decide +kernel, rfl⟩
theorem d_W_takeOut_15 : decode b_W_takeOut 15 = .ok (.dup2, 1) ∧ 15 + 1 = 16 := ⟨by decide +kernel, rfl⟩
theorem d_W_takeOut_16 : decode b_W_takeOut 16 = .ok (.iaload, 1) ∧ 16 + 1 = 17 := ⟨by decide +kernel, rfl⟩
theorem d_W_takeOut_17 : decode b_W_takeOut 17 = .ok (.iload_n 2, 1) ∧ 17 + 1 = 18 := ⟨by decide +kernel, rfl⟩
theorem d_W_takeOut_18 : decode b_W_takeOut 18 = .ok (.isub, 1) ∧ 18 + 1 = 19 := ⟨by decide +kernel, rfl⟩
theorem d_W_takeOut_19 : decode b_W_takeOut 19 = .ok (.iastore, 1) ∧ 19 + 1 = 20 := ⟨by decide +kernel, rfl⟩
theorem d_W_takeOut_20 : decode b_W_takeOut 20 = .ok (.aload_n 0, 1) ∧ 20 + 1 = 21 := ⟨by decide +kernel, rfl⟩
theorem d_W_takeOut_21 : decode b_W_takeOut 21 = .ok (.getfield 25, 3) ∧ 21 + 3 = 24 := ⟨by decide +kernel, rfl⟩
theorem d_W_takeOut_24 : decode b_W_takeOut 24 = .ok (.iload_n 1, 1) ∧ 24 + 1 = 25 := ⟨by decide +kernel, rfl⟩
theorem d_W_takeOut_25 : decode b_W_takeOut 25 = .ok (.dup2, 1) ∧ 25 + 1 = 26 := ⟨by decide +kernel, rfl⟩
theorem d_W_takeOut_26 : decode b_W_takeOut 26 = .ok (.iaload, 1) ∧ 26 + 1 = 27 := ⟨by decide +kernel, rfl⟩
theorem d_W_takeOut_27 : decode b_W_takeOut 27 = .ok (.iload_n 3, 1) ∧ 27 + 1 = 28 := ⟨by decide +kernel, rfl⟩
theorem d_W_takeOut_28 : decode b_W_takeOut 28 = .ok (.isub, 1) ∧ 28 + 1 = 29 := ⟨by decide +kernel, rfl⟩
theorem d_W_takeOut_29 : decode b_W_takeOut 29 = .ok (.iastore, 1) ∧ 29 + 1 = 30 := ⟨by decide +kernel, rfl⟩
theorem d_W_takeOut_30 : decode b_W_takeOut 30 = .ok (.aload_n 0, 1) ∧ 30 + 1 = 31 := ⟨by decide +kernel, rfl⟩
theorem d_W_takeOut_31 : decode b_W_takeOut 31 = .ok (.getfield 18, 3) ∧ 31 + 3 = 34 := ⟨by decide +kernel, rfl⟩
theorem d_W_takeOut_34 : decode b_W_takeOut 34 = .ok (.iload_n 1, 1) ∧ 34 + 1 = 35 := ⟨by decide +kernel, rfl⟩
theorem d_W_takeOut_35 : decode b_W_takeOut 35 = .ok (.iaload, 1) ∧ 35 + 1 = 36 := ⟨by decide +kernel, rfl⟩
theorem d_W_takeOut_36 : decode b_W_takeOut 36 = .ok (.iconst 1, 1) ∧ 36 + 1 = 37 := ⟨by decide +kernel, rfl⟩
theorem d_W_takeOut_37 : decode b_W_takeOut 37 = .ok (.if_icmp .ne 16, 3) ∧ 37 + 3 = 40 ∧ ((37 : Nat) : Int) + 16 = ((53 : Nat) : Int) := ⟨by decide +kernel, rfl, by decide⟩
theorem d_W_takeOut_40 : decode b_W_takeOut 40 = .ok (.iload_n 1, 1) ∧ 40 + 1 = 41 := ⟨by decide +kernel, rfl⟩
theorem d_W_takeOut_41 : decode b_W_takeOut 41 = .ok (.aload_n 0, 1) ∧ 41 + 1 = 42 := ⟨by decide +kernel, rfl⟩
theorem d_W_takeOut_42 : decode b_W_takeOut 42 = .ok (.getfield 15, 3) ∧ 42 + 3 = 45 := ⟨by decide +kernel, rfl⟩
theorem d_W_takeOut_45 : decode b_W_takeOut 45 = .ok (.if_icmp .ge 8, 3) ∧ 45 + 3 = 48 ∧ ((45 : Nat) : Int) + 8 = ((53 : Nat) : Int) := ⟨by decide +kernel, rfl, by decide⟩
theorem d_W_takeOut_48 : decode b_W_takeOut 48 = .ok (.aload_n 0, 1) ∧ 48 + 1 = 49 := ⟨by decide +kernel, rfl⟩
theorem d_W_takeOut_49 : decode b_W_takeOut 49 = .ok (.iload_n 1, 1) ∧ 49 + 1 = 50 := ⟨by decide +kernel, rfl⟩
theorem d_W_takeOut_50 : decode b_W_takeOut 50 = .ok (.putfield 15, 3) ∧ 50 + 3 = 53 := ⟨by decide +kernel, rfl⟩
theorem d_W_takeOut_53 : decode b_W_takeOut 53 = .ok (.return_, 1) := by decide +kernel
theorem d_J_fill_0 : decode b_J_fill 0 = .ok (.iconst 0, 1) ∧ 0 + 1 = 1 := ⟨by decide +kernel, rfl⟩
theorem d_J_fill_1 : decode b_J_fill 1 = .ok (.istore_n 2, 1) ∧ 1 + 1 = 2 := ⟨by decide +kernel, rfl⟩
theorem d_J_fill_2 : decode b_J_fill 2 = .ok (.aload_n 0, 1) ∧ 2 + 1 = 3 := ⟨by decide +kernel, rfl⟩
theorem d_J_fill_3 : decode b_J_fill 3 = .ok (.arraylength, 1) ∧ 3 + 1 = 4 := ⟨by decide +kernel, rfl⟩
theorem d_J_fill_4 : decode b_J_fill 4 = .ok (.istore_n 3, 1) ∧ 4 + 1 = 5 := ⟨by decide +kernel, rfl⟩
theorem d_J_fill_5 : decode b_J_fill 5 = .ok (.iload_n 2, 1) ∧ 5 + 1 = 6 := ⟨by decide +kernel, rfl⟩
theorem d_J_fill_6 : decode b_J_fill 6 = .ok (.iload_n 3, 1) ∧ 6 + 1 = 7 := ⟨by decide +kernel, rfl⟩
theorem d_J_fill_7 : decode b_J_fill 7 = .ok (.if_icmp .ge 13, 3) ∧ 7 + 3 = 10 ∧ ((7 : Nat) : Int) + 13 = ((20 : Nat) : Int) := ⟨by decide +kernel, rfl, by decide⟩
theorem d_J_fill_10 : decode b_J_fill 10 = .ok (.aload_n 0, 1) ∧ 10 + 1 = 11 := ⟨by decide +kernel, rfl⟩
theorem d_J_fill_11 : decode b_J_fill 11 = .ok (.iload_n 2, 1) ∧ 11 + 1 = 12 := ⟨by decide +kernel, rfl⟩
theorem d_J_fill_12 : decode b_J_fill 12 = .ok (.iload_n 1, 1) ∧ 12 + 1 = 13 := ⟨by decide +kernel, rfl⟩
theorem d_J_fill_13 : decode b_J_fill 13 = .ok (.iastore, 1) ∧ 13 + 1 = 14 := ⟨by decide +kernel, rfl⟩
theorem d_J_fill_14 : decode b_J_fill 14 = .ok (.iinc 2 1, 3) ∧ 14 + 3 = 17 := ⟨by decide +kernel, rfl⟩
theorem d_J_fill_17 : decode b_J_fill 17 = .ok (.goto (-12), 3) ∧ ((17 : Nat) : Int) + (-12) = ((5 : Nat) : Int) := ⟨by decide +kernel, by decide⟩
theorem d_J_fill_20 : decode b_J_fill 20 = .ok (.return_, 1) := by decide +kernel
end
