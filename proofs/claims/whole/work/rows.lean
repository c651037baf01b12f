section
-- ===== PART A: goes FIRST, ahead of the names: the tables' words, and 'selects' of the private methods out of them =====
/-- a private method of a class that the tables say can be made, by its rows of tables_1 -/
def lw_okq (q : MethodName × Nat) : Prop := (q.1.cls ≠ "java/lang/invoke/MethodHandle" ∧ q.1.cls ≠ "java/lang/invoke/VarHandle") ∧ Cond.instantiable q.1.cls q.2 ∈ tables_1 ∧ Cond.privateMethod q.1 ∈ tables_1 ∧ Cond.instanceMethod q.1 ∈ tables_1
theorem lw_p0 : lw_okq (⟨"ShadowArchive", "filledShelves", "()I"⟩, 14) := ⟨⟨by decide +kernel, by decide +kernel⟩, List.mem_of_getElem? (i := 15) (by decide +kernel), List.mem_of_getElem? (i := 131) (by decide +kernel), List.mem_of_getElem? (i := 132) (by decide +kernel)⟩
theorem lw_p1 : lw_okq (⟨"ShadowArchive", "areOfOnePicture", "(I)Z"⟩, 14) := ⟨⟨by decide +kernel, by decide +kernel⟩, List.mem_of_getElem? (i := 15) (by decide +kernel), List.mem_of_getElem? (i := 135) (by decide +kernel), List.mem_of_getElem? (i := 136) (by decide +kernel)⟩
theorem lw_p2 : lw_okq (⟨"ShadowArchive", "solve", "(I)I"⟩, 14) := ⟨⟨by decide +kernel, by decide +kernel⟩, List.mem_of_getElem? (i := 15) (by decide +kernel), List.mem_of_getElem? (i := 139) (by decide +kernel), List.mem_of_getElem? (i := 140) (by decide +kernel)⟩
theorem lw_p3 : lw_okq (⟨"ShadowArchive$Worksheet", "makeRows", "()V"⟩, 5) := ⟨⟨by decide +kernel, by decide +kernel⟩, List.mem_of_getElem? (i := 62) (by decide +kernel), List.mem_of_getElem? (i := 150) (by decide +kernel), List.mem_of_getElem? (i := 151) (by decide +kernel)⟩
theorem lw_p4 : lw_okq (⟨"ShadowArchive", "lowestReadyShelf", "(I)I"⟩, 14) := ⟨⟨by decide +kernel, by decide +kernel⟩, List.mem_of_getElem? (i := 15) (by decide +kernel), List.mem_of_getElem? (i := 167) (by decide +kernel), List.mem_of_getElem? (i := 168) (by decide +kernel)⟩
theorem lw_p5 : lw_okq (⟨"ShadowArchive", "makeKnown", "(III)V"⟩, 14) := ⟨⟨by decide +kernel, by decide +kernel⟩, List.mem_of_getElem? (i := 15) (by decide +kernel), List.mem_of_getElem? (i := 183) (by decide +kernel), List.mem_of_getElem? (i := 184) (by decide +kernel)⟩
theorem lw_p6 : lw_okq (⟨"ShadowArchive", "lowestWrongShelf", "(I)I"⟩, 14) := ⟨⟨by decide +kernel, by decide +kernel⟩, List.mem_of_getElem? (i := 15) (by decide +kernel), List.mem_of_getElem? (i := 192) (by decide +kernel), List.mem_of_getElem? (i := 193) (by decide +kernel)⟩
theorem lw_p7 : lw_okq (⟨"ShadowArchive$Shelf", "makeBins", "()V"⟩, 7) := ⟨⟨by decide +kernel, by decide +kernel⟩, List.mem_of_getElem? (i := 26) (by decide +kernel), List.mem_of_getElem? (i := 209) (by decide +kernel), List.mem_of_getElem? (i := 210) (by decide +kernel)⟩
theorem lw_p8 : lw_okq (⟨"java/lang/Throwable", "fillInStackTrace", "(I)Ljava/lang/Throwable;"⟩, 6) := ⟨⟨by decide +kernel, by decide +kernel⟩, List.mem_of_getElem? (i := 260) (by decide +kernel), List.mem_of_getElem? (i := 258) (by decide +kernel), List.mem_of_getElem? (i := 259) (by decide +kernel)⟩
theorem lw_p9 : lw_okq (⟨"ShadowArchive", "requirePixel", "(II)V"⟩, 14) := ⟨⟨by decide +kernel, by decide +kernel⟩, List.mem_of_getElem? (i := 15) (by decide +kernel), List.mem_of_getElem? (i := 303) (by decide +kernel), List.mem_of_getElem? (i := 304) (by decide +kernel)⟩
theorem lw_p10 : lw_okq (⟨"ShadowArchive", "anotherHas", "(III)Z"⟩, 14) := ⟨⟨by decide +kernel, by decide +kernel⟩, List.mem_of_getElem? (i := 15) (by decide +kernel), List.mem_of_getElem? (i := 367) (by decide +kernel), List.mem_of_getElem? (i := 368) (by decide +kernel)⟩
theorem lw_p11 : lw_okq (⟨"ShadowArchive", "requireBin", "(II)V"⟩, 14) := ⟨⟨by decide +kernel, by decide +kernel⟩, List.mem_of_getElem? (i := 15) (by decide +kernel), List.mem_of_getElem? (i := 422) (by decide +kernel), List.mem_of_getElem? (i := 423) (by decide +kernel)⟩
theorem lw_p12 : lw_okq (⟨"ShadowArchive", "aimedOf", "(I)I"⟩, 14) := ⟨⟨by decide +kernel, by decide +kernel⟩, List.mem_of_getElem? (i := 15) (by decide +kernel), List.mem_of_getElem? (i := 445) (by decide +kernel), List.mem_of_getElem? (i := 446) (by decide +kernel)⟩
theorem lw_p13 : lw_okq (⟨"ShadowArchive", "areEnough", "(I)Z"⟩, 14) := ⟨⟨by decide +kernel, by decide +kernel⟩, List.mem_of_getElem? (i := 15) (by decide +kernel), List.mem_of_getElem? (i := 449) (by decide +kernel), List.mem_of_getElem? (i := 450) (by decide +kernel)⟩
theorem lw_p14 : lw_okq (⟨"ShadowArchive", "drawGhost", "(I)V"⟩, 14) := ⟨⟨by decide +kernel, by decide +kernel⟩, List.mem_of_getElem? (i := 15) (by decide +kernel), List.mem_of_getElem? (i := 483) (by decide +kernel), List.mem_of_getElem? (i := 484) (by decide +kernel)⟩
theorem lw_p15 : lw_okq (⟨"ShadowArchive", "takeGhostMoved", "(II)V"⟩, 14) := ⟨⟨by decide +kernel, by decide +kernel⟩, List.mem_of_getElem? (i := 15) (by decide +kernel), List.mem_of_getElem? (i := 490) (by decide +kernel), List.mem_of_getElem? (i := 491) (by decide +kernel)⟩
def lw_privs_1 : List (MethodName × Nat) := [(⟨"ShadowArchive", "filledShelves", "()I"⟩, 14), (⟨"ShadowArchive", "areOfOnePicture", "(I)Z"⟩, 14), (⟨"ShadowArchive", "solve", "(I)I"⟩, 14), (⟨"ShadowArchive$Worksheet", "makeRows", "()V"⟩, 5), (⟨"ShadowArchive", "lowestReadyShelf", "(I)I"⟩, 14), (⟨"ShadowArchive", "makeKnown", "(III)V"⟩, 14), (⟨"ShadowArchive", "lowestWrongShelf", "(I)I"⟩, 14), (⟨"ShadowArchive$Shelf", "makeBins", "()V"⟩, 7), (⟨"java/lang/Throwable", "fillInStackTrace", "(I)Ljava/lang/Throwable;"⟩, 6), (⟨"ShadowArchive", "requirePixel", "(II)V"⟩, 14), (⟨"ShadowArchive", "anotherHas", "(III)Z"⟩, 14), (⟨"ShadowArchive", "requireBin", "(II)V"⟩, 14), (⟨"ShadowArchive", "aimedOf", "(I)I"⟩, 14), (⟨"ShadowArchive", "areEnough", "(I)Z"⟩, 14), (⟨"ShadowArchive", "drawGhost", "(I)V"⟩, 14), (⟨"ShadowArchive", "takeGhostMoved", "(II)V"⟩, 14)]
theorem lw_r1 : ∀ q ∈ lw_privs_1, lw_okq q := List.forall_mem_cons.mpr ⟨lw_p0, List.forall_mem_cons.mpr ⟨lw_p1, List.forall_mem_cons.mpr ⟨lw_p2, List.forall_mem_cons.mpr ⟨lw_p3, List.forall_mem_cons.mpr ⟨lw_p4, List.forall_mem_cons.mpr ⟨lw_p5, List.forall_mem_cons.mpr ⟨lw_p6, List.forall_mem_cons.mpr ⟨lw_p7, List.forall_mem_cons.mpr ⟨lw_p8, List.forall_mem_cons.mpr ⟨lw_p9, List.forall_mem_cons.mpr ⟨lw_p10, List.forall_mem_cons.mpr ⟨lw_p11, List.forall_mem_cons.mpr ⟨lw_p12, List.forall_mem_cons.mpr ⟨lw_p13, List.forall_mem_cons.mpr ⟨lw_p14, List.forall_mem_cons.mpr ⟨lw_p15, fun _ h => absurd h List.not_mem_nil⟩⟩⟩⟩⟩⟩⟩⟩⟩⟩⟩⟩⟩⟩⟩⟩
theorem lw_p16 : lw_okq (⟨"ShadowArchiveModel", "throwing", "(ZZ)Z"⟩, 28) := ⟨⟨by decide +kernel, by decide +kernel⟩, List.mem_of_getElem? (i := 510) (by decide +kernel), List.mem_of_getElem? (i := 610) (by decide +kernel), List.mem_of_getElem? (i := 611) (by decide +kernel)⟩
theorem lw_p17 : lw_okq (⟨"ShadowArchiveModel", "isPixel", "(II)Z"⟩, 28) := ⟨⟨by decide +kernel, by decide +kernel⟩, List.mem_of_getElem? (i := 510) (by decide +kernel), List.mem_of_getElem? (i := 618) (by decide +kernel), List.mem_of_getElem? (i := 619) (by decide +kernel)⟩
theorem lw_p18 : lw_okq (⟨"ShadowArchiveModel", "isTaken", "(III)Z"⟩, 28) := ⟨⟨by decide +kernel, by decide +kernel⟩, List.mem_of_getElem? (i := 510) (by decide +kernel), List.mem_of_getElem? (i := 636) (by decide +kernel), List.mem_of_getElem? (i := 637) (by decide +kernel)⟩
theorem lw_p19 : lw_okq (⟨"ShadowArchiveModel", "hasDirection", "(I)Z"⟩, 28) := ⟨⟨by decide +kernel, by decide +kernel⟩, List.mem_of_getElem? (i := 510) (by decide +kernel), List.mem_of_getElem? (i := 644) (by decide +kernel), List.mem_of_getElem? (i := 645) (by decide +kernel)⟩
theorem lw_p20 : lw_okq (⟨"ShadowArchiveModel", "binsOf", "(I)I"⟩, 28) := ⟨⟨by decide +kernel, by decide +kernel⟩, List.mem_of_getElem? (i := 510) (by decide +kernel), List.mem_of_getElem? (i := 648) (by decide +kernel), List.mem_of_getElem? (i := 649) (by decide +kernel)⟩
theorem lw_p21 : lw_okq (⟨"ShadowArchiveModel", "fill", "(I[I)V"⟩, 28) := ⟨⟨by decide +kernel, by decide +kernel⟩, List.mem_of_getElem? (i := 510) (by decide +kernel), List.mem_of_getElem? (i := 659) (by decide +kernel), List.mem_of_getElem? (i := 660) (by decide +kernel)⟩
theorem lw_p22 : lw_okq (⟨"ShadowArchiveModel", "sumUp", "(I[I)V"⟩, 28) := ⟨⟨by decide +kernel, by decide +kernel⟩, List.mem_of_getElem? (i := 510) (by decide +kernel), List.mem_of_getElem? (i := 663) (by decide +kernel), List.mem_of_getElem? (i := 664) (by decide +kernel)⟩
theorem lw_p23 : lw_okq (⟨"ShadowArchiveModel", "binAt", "(III)I"⟩, 28) := ⟨⟨by decide +kernel, by decide +kernel⟩, List.mem_of_getElem? (i := 510) (by decide +kernel), List.mem_of_getElem? (i := 667) (by decide +kernel), List.mem_of_getElem? (i := 668) (by decide +kernel)⟩
theorem lw_p24 : lw_okq (⟨"ShadowArchiveModel", "hasNoBin", "(II)Z"⟩, 28) := ⟨⟨by decide +kernel, by decide +kernel⟩, List.mem_of_getElem? (i := 510) (by decide +kernel), List.mem_of_getElem? (i := 679) (by decide +kernel), List.mem_of_getElem? (i := 680) (by decide +kernel)⟩
theorem lw_p25 : lw_okq (⟨"ShadowArchiveModel", "areEnough", "(I)Z"⟩, 28) := ⟨⟨by decide +kernel, by decide +kernel⟩, List.mem_of_getElem? (i := 510) (by decide +kernel), List.mem_of_getElem? (i := 694) (by decide +kernel), List.mem_of_getElem? (i := 695) (by decide +kernel)⟩
theorem lw_p26 : lw_okq (⟨"ShadowArchiveModel", "isOf", "(II)Z"⟩, 28) := ⟨⟨by decide +kernel, by decide +kernel⟩, List.mem_of_getElem? (i := 510) (by decide +kernel), List.mem_of_getElem? (i := 698) (by decide +kernel), List.mem_of_getElem? (i := 699) (by decide +kernel)⟩
theorem lw_p27 : lw_okq (⟨"ShadowArchiveModel", "comes", "(I)Z"⟩, 28) := ⟨⟨by decide +kernel, by decide +kernel⟩, List.mem_of_getElem? (i := 510) (by decide +kernel), List.mem_of_getElem? (i := 706) (by decide +kernel), List.mem_of_getElem? (i := 707) (by decide +kernel)⟩
theorem lw_p28 : lw_okq (⟨"ShadowArchiveModel", "beginTry", "(I)V"⟩, 28) := ⟨⟨by decide +kernel, by decide +kernel⟩, List.mem_of_getElem? (i := 510) (by decide +kernel), List.mem_of_getElem? (i := 710) (by decide +kernel), List.mem_of_getElem? (i := 711) (by decide +kernel)⟩
theorem lw_p29 : lw_okq (⟨"ShadowArchiveModel", "single", "(I)I"⟩, 28) := ⟨⟨by decide +kernel, by decide +kernel⟩, List.mem_of_getElem? (i := 510) (by decide +kernel), List.mem_of_getElem? (i := 714) (by decide +kernel), List.mem_of_getElem? (i := 715) (by decide +kernel)⟩
theorem lw_p30 : lw_okq (⟨"ShadowArchiveModel", "learnOf", "(II)V"⟩, 28) := ⟨⟨by decide +kernel, by decide +kernel⟩, List.mem_of_getElem? (i := 510) (by decide +kernel), List.mem_of_getElem? (i := 718) (by decide +kernel), List.mem_of_getElem? (i := 719) (by decide +kernel)⟩
theorem lw_p31 : lw_okq (⟨"ShadowArchiveModel", "learn", "(IIII)V"⟩, 28) := ⟨⟨by decide +kernel, by decide +kernel⟩, List.mem_of_getElem? (i := 510) (by decide +kernel), List.mem_of_getElem? (i := 722) (by decide +kernel), List.mem_of_getElem? (i := 723) (by decide +kernel)⟩
def lw_privs_2 : List (MethodName × Nat) := [(⟨"ShadowArchiveModel", "throwing", "(ZZ)Z"⟩, 28), (⟨"ShadowArchiveModel", "isPixel", "(II)Z"⟩, 28), (⟨"ShadowArchiveModel", "isTaken", "(III)Z"⟩, 28), (⟨"ShadowArchiveModel", "hasDirection", "(I)Z"⟩, 28), (⟨"ShadowArchiveModel", "binsOf", "(I)I"⟩, 28), (⟨"ShadowArchiveModel", "fill", "(I[I)V"⟩, 28), (⟨"ShadowArchiveModel", "sumUp", "(I[I)V"⟩, 28), (⟨"ShadowArchiveModel", "binAt", "(III)I"⟩, 28), (⟨"ShadowArchiveModel", "hasNoBin", "(II)Z"⟩, 28), (⟨"ShadowArchiveModel", "areEnough", "(I)Z"⟩, 28), (⟨"ShadowArchiveModel", "isOf", "(II)Z"⟩, 28), (⟨"ShadowArchiveModel", "comes", "(I)Z"⟩, 28), (⟨"ShadowArchiveModel", "beginTry", "(I)V"⟩, 28), (⟨"ShadowArchiveModel", "single", "(I)I"⟩, 28), (⟨"ShadowArchiveModel", "learnOf", "(II)V"⟩, 28), (⟨"ShadowArchiveModel", "learn", "(IIII)V"⟩, 28)]
theorem lw_r2 : ∀ q ∈ lw_privs_2, lw_okq q := List.forall_mem_cons.mpr ⟨lw_p16, List.forall_mem_cons.mpr ⟨lw_p17, List.forall_mem_cons.mpr ⟨lw_p18, List.forall_mem_cons.mpr ⟨lw_p19, List.forall_mem_cons.mpr ⟨lw_p20, List.forall_mem_cons.mpr ⟨lw_p21, List.forall_mem_cons.mpr ⟨lw_p22, List.forall_mem_cons.mpr ⟨lw_p23, List.forall_mem_cons.mpr ⟨lw_p24, List.forall_mem_cons.mpr ⟨lw_p25, List.forall_mem_cons.mpr ⟨lw_p26, List.forall_mem_cons.mpr ⟨lw_p27, List.forall_mem_cons.mpr ⟨lw_p28, List.forall_mem_cons.mpr ⟨lw_p29, List.forall_mem_cons.mpr ⟨lw_p30, List.forall_mem_cons.mpr ⟨lw_p31, fun _ h => absurd h List.not_mem_nil⟩⟩⟩⟩⟩⟩⟩⟩⟩⟩⟩⟩⟩⟩⟩⟩
theorem lw_p32 : lw_okq (⟨"ShadowArchiveModel", "disagrees", "(I)I"⟩, 28) := ⟨⟨by decide +kernel, by decide +kernel⟩, List.mem_of_getElem? (i := 510) (by decide +kernel), List.mem_of_getElem? (i := 726) (by decide +kernel), List.mem_of_getElem? (i := 727) (by decide +kernel)⟩
theorem lw_p33 : lw_okq (⟨"ShadowArchiveModel", "parts", "(I)I"⟩, 28) := ⟨⟨by decide +kernel, by decide +kernel⟩, List.mem_of_getElem? (i := 510) (by decide +kernel), List.mem_of_getElem? (i := 730) (by decide +kernel), List.mem_of_getElem? (i := 731) (by decide +kernel)⟩
theorem lw_p34 : lw_okq (⟨"ShadowArchiveModel", "filledOnes", "()I"⟩, 28) := ⟨⟨by decide +kernel, by decide +kernel⟩, List.mem_of_getElem? (i := 510) (by decide +kernel), List.mem_of_getElem? (i := 742) (by decide +kernel), List.mem_of_getElem? (i := 743) (by decide +kernel)⟩
theorem lw_p35 : lw_okq (⟨"ShadowArchiveModel", "areOfOne", "(I)Z"⟩, 28) := ⟨⟨by decide +kernel, by decide +kernel⟩, List.mem_of_getElem? (i := 510) (by decide +kernel), List.mem_of_getElem? (i := 750) (by decide +kernel), List.mem_of_getElem? (i := 751) (by decide +kernel)⟩
theorem lw_p36 : lw_okq (⟨"ShadowArchiveModel", "moveAway", "(II)V"⟩, 28) := ⟨⟨by decide +kernel, by decide +kernel⟩, List.mem_of_getElem? (i := 510) (by decide +kernel), List.mem_of_getElem? (i := 758) (by decide +kernel), List.mem_of_getElem? (i := 759) (by decide +kernel)⟩
theorem lw_p37 : lw_okq (⟨"ShadowArchiveModel", "lowestColumn", "()I"⟩, 28) := ⟨⟨by decide +kernel, by decide +kernel⟩, List.mem_of_getElem? (i := 510) (by decide +kernel), List.mem_of_getElem? (i := 762) (by decide +kernel), List.mem_of_getElem? (i := 763) (by decide +kernel)⟩
def lw_privs_3 : List (MethodName × Nat) := [(⟨"ShadowArchiveModel", "disagrees", "(I)I"⟩, 28), (⟨"ShadowArchiveModel", "parts", "(I)I"⟩, 28), (⟨"ShadowArchiveModel", "filledOnes", "()I"⟩, 28), (⟨"ShadowArchiveModel", "areOfOne", "(I)Z"⟩, 28), (⟨"ShadowArchiveModel", "moveAway", "(II)V"⟩, 28), (⟨"ShadowArchiveModel", "lowestColumn", "()I"⟩, 28)]
theorem lw_r3 : ∀ q ∈ lw_privs_3, lw_okq q := List.forall_mem_cons.mpr ⟨lw_p32, List.forall_mem_cons.mpr ⟨lw_p33, List.forall_mem_cons.mpr ⟨lw_p34, List.forall_mem_cons.mpr ⟨lw_p35, List.forall_mem_cons.mpr ⟨lw_p36, List.forall_mem_cons.mpr ⟨lw_p37, fun _ h => absurd h List.not_mem_nil⟩⟩⟩⟩⟩⟩
def lw_privs : List (MethodName × Nat) := lw_privs_1 ++ (lw_privs_2 ++ (lw_privs_3))
def lw_tbl : List Cond := k2_sels lw_privs ++ tables_1
theorem lw_privs_ok : ∀ q ∈ lw_privs, lw_okq q := by
  show ∀ q ∈ lw_privs_1 ++ (lw_privs_2 ++ (lw_privs_3)), lw_okq q
  exact List.forall_mem_append.mpr ⟨lw_r1, List.forall_mem_append.mpr ⟨lw_r2, lw_r3⟩⟩
end
section
/-! ===== BEGIN words of one list among another's, by their places ===== -/
theorem goodIn_r {big : List Cond} (ws : List Cond) (ps : List Nat) (hp : ws = ps.filterMap (fun i => big[i]?)) (h : ws.all goodWord = true) : GoodIn big ws := by
  intro w hw
  have h1 := List.all_eq_true.mp h w hw
  rw [hp] at hw
  obtain ⟨i, -, hi⟩ := List.mem_filterMap.mp hw
  have hm : w ∈ big := by first | exact List.mem_of_getElem? hi | exact List.getElem?_mem hi
  exact ⟨hm, good_of_word h1⟩
theorem goodIn_app {big a b : List Cond} (ha : GoodIn big a) (hb : GoodIn big b) : GoodIn big (a ++ b) := fun w h => (List.mem_append.mp h).elim (ha w) (hb w)
theorem goodIn_ca {big a b : List Cond} {c : Cond} (ha : GoodIn big (c :: a)) (hb : GoodIn big b) : GoodIn big (c :: (a ++ b)) := fun w h => (List.mem_cons.mp h).elim (fun e => ha w (List.mem_cons.mpr (Or.inl e))) (fun h => (List.mem_append.mp h).elim (fun h => ha w (List.mem_cons.mpr (Or.inr h))) (hb w))
theorem goodIn_sub {big ws : List Cond} (hm : ∀ w ∈ ws, w ∈ big) (h : ws.all goodWord = true) : GoodIn big ws := fun w hw => ⟨hm w hw, good_of_word (List.all_eq_true.mp h w hw)⟩
/-! ===== END ===== -/

/-! ===== BEGIN exceptions that leave a method, and their catching by the caller (launches without stack traces) ===== -/
section VXA
/-! The laws vx_back, vx_callV, vx_callS, vx_callSW, vx_throw0, vx_throwS follow proofs of the library, with one case more: JvmDerived/Free/Laws.lean (Back.of_free), Shelf42/LK1.lean (callV, callS), Shelf/KitTraced.lean (throwNew0V, throwNewS). -/
/-- where a method has thrown q: the class by its name, the cell, what was written, the world -/
def vx_T (XC : String → State → State → Prop) (st : State) (q : Addr) (t : State) (mc ms : Nat) (free : Addr → Prop) : Prop :=
  ∃ (E : String) (ce : Cell) (L : List Loc), XC E st t ∧ t.heap[q]? = some ce ∧ ce.vm = .none ∧ st.vm.findClass E = some ce.cls ∧ st.WarmedH t.vm ∧ st.sameButNew ({ t with vm := st.vm } : State) L mc ms ∧ ∀ z ∈ L, free z.base
def vx_Q (Qc : Array Value → State → Outcome → State → Prop) (XC : String → State → State → Prop) (mc ms : Nat) (free : Addr → Prop) : Array Value → State → Outcome → State → Prop := fun a st o t =>
  (Qc a st o t ∧ ∃ L, FrameEnd st o t L mc ms ∧ ∀ q ∈ L, free q.base) ∨ ∃ q, o = .threw q ∧ vx_T XC st q t mc ms free
/-- a callee that returns or throws -/
def vx_Met (l : Launch) (y : MethodName) (ws : List Cond) (rm : Room) (Pc : Array Value → State → Prop) (Qc : Array Value → State → Outcome → State → Prop) (XC : String → State → State → Prop) (mc ms : Nat) (free : Addr → Prop) : Prop :=
  MetFree l y (headSpec ws rm) Pc (fun _ _ _ _ _ => True) (vx_Q Qc XC mc ms free)
def vx_Post (XC : String → State → State → Prop) (mc ms : Nat) (free : Addr → Prop) : Pt → Array Value → Addr → Pt → Prop := fun A a q B =>
  ∃ (g : JFrame) (mk : MethodId) (t : State) (L : List Loc) (E : String) (ce : Cell), B.U.heap = t.heap ∧ B.U.vm = t.vm ∧ XC E (A.U.calling g mk a) t ∧ t.heap[q]? = some ce ∧ ce.vm = .none ∧ A.U.vm.findClass E = some ce.cls ∧ B.locs = A.locs ++ L ∧ (∀ z ∈ L, free z.base) ∧ B.cells = A.cells + mc ∧ B.slots = A.slots + ms
def vx_Back (l : Launch) (R : Room) (p : Program) (e : Env) (below : List Frame) (s : State) (sargs : Array Value) (y : MethodName) (len W9 : Nat)
    (Pre : Pt → Array Value → Prop) (Post : Pt → Array Value → Option Value → Pt → Prop) (PostX : Pt → Array Value → Addr → Pt → Prop) : Prop :=
  ∀ (m : MethodId) (meth : Method) (c : Code) (A : Pt) (g : JFrame) (ig : Instr) (mk : MethodId) (a : Array Value),
    Stand p l e R s m sargs below meth c A.U A.locs A.cells A.slots → g.method = m → g.locals.size = c.maxLocals → decode c.code g.pc = .ok (ig, len) →
    2 * g.monitorRoom + (g.stack.map fun v => v.category).sum ≤ W9 → A.U.methodNamed? y = some mk → Pre A a →
    (∃ (v : Option Value) (B : Pt), Stand p l e R s m sargs below meth c B.U B.locs B.cells B.slots ∧ Post A a v B ∧
      Steps p.tables e below (doInvoke e (A.U.setTop g) [] mk a).1 (B.U.setTop { g with pc := g.pc + len, stack := v.toList ++ g.stack })) ∨
    (∃ (q : Addr) (B : Pt), Stand p l e R s m sargs below meth c B.U B.locs B.cells B.slots ∧ PostX A a q B ∧
      Steps p.tables e below (doInvoke e (A.U.setTop g) [] mk a).1 ((B.U.setTop g).pushFrame (.throwing q)))
section Payer
variable {l : Launch} {R : Room} {p : Program} {e : Env} {below : List Frame} {s : State} {sargs : Array Value} {y : MethodName} {len W9 : Nat}
theorem vx_back {ws : List Cond} {rm : Room} {Pc : Array Value → State → Prop} {Qc : Array Value → State → Outcome → State → Prop} {XC : String → State → State → Prop} {mc ms : Nat} {free : Addr → Prop} {bytes : ByteArray} {maxL : Nat} {ret : Option FieldType}
    (hM : vx_Met l y ws rm Pc Qc XC mc ms free) (hblind : FrameBlind Pc) (hrc : rm.cells = mc) (hrs : rm.slots = ms)
    (hframes : rm.frames + 1 ≤ R.frames) (hlocals : W9 + (maxL + 11) + rm.locals ≤ R.locals)
    (hws : ∀ w ∈ ws, ∀ a' U, s.WarmedH U.vm → w.before a' U = true) (hcode : Cond.code y bytes maxL ret ∈ ws) (hinit : ∀ a' U, s.WarmedH U.vm → (Cond.initialized y.cls).before a' U = true) :
    vx_Back l R p e below s sargs y len W9 (PreOf R mc ms Pc) (PostOf Qc mc ms free) (vx_Post XC mc ms free) := by
  intro m meth c A g ig mk a X hg hsize hdg hW hn hp
  have h1 : (headSpec ws rm).pre.before a A.U = true := atoms_intro fun w hw => hws w hw _ _ X.warmed
  have h2 : (Cond.code y bytes maxL ret).before a A.U = true := hws _ hcode _ _ X.warmed
  have h3 : (Cond.initialized y.cls).before a A.U = true := hinit _ _ X.warmed
  have h4 : A.cells + (headSpec ws rm).room.cells ≤ R.cells := by rw [show (headSpec ws rm).room.cells = mc from hrc]; exact hp.1
  have h5 : A.slots + (headSpec ws rm).room.slots ≤ R.slots := by rw [show (headSpec ws rm).room.slots = ms from hrs]; exact hp.2.1
  have hPc : Pc a (A.U.calling g mk a) := hblind _ _ _ _ hp.2.2
  obtain ⟨U, Ls, c0, s0⟩ := A
  dsimp only [Pt.U, Pt.locs, Pt.cells, Pt.slots] at h1 h2 h3 h4 h5 X hn hPc ⊢
  obtain ⟨methY, cY, hmY, hcY, -, hlY, -, -, -, -⟩ := Cond.code_spec hn h2
  obtain ⟨kY, hkY, -⟩ := className_of_methodNamed hn
  have hinitY : kY.init = .initialized := Cond.initialized_spec (findClass_of_methodNamed hn) hkY h3
  have h : At U g.method c below := by rw [hg]; exact X.here
  have hlocals9 : W9 + (maxL + 11) + (headSpec ws rm).room.locals ≤ R.locals := hlocals
  have happ : (headSpec ws rm).appliesLoose y e.platform (U.calling g mk a) = true :=
    Spec.appliesLoose_calling (g := g) h hdg hn hkY hinitY
      (X.room_calling (g := g) (R' := (headSpec ws rm).room) hsize hmY hcY hframes (by rw [hlY]; omega) h4 h5) h1
  obtain ⟨mid, hmid⟩ := h.above
  have hfr : (U.setTop g).frames = (.java g :: mid) ++ below := by rw [State.frames_setTop' g h.top, hmid]; rfl
  obtain ⟨o, s₂, hsteps, -, hend, hq⟩ := Steps.callFree hM p X.admits X.cas X.clock (acts := []) hfr happ hPc trivial
  have hq' : vx_Q Qc XC mc ms free a (U.calling g mk a) o s₂ := hq
  rw [State.frames_setTop' g h.top] at hend
  obtain ⟨g₀, hg0⟩ := Option.isSome_iff_exists.mp h.top
  obtain ⟨r, hr⟩ := State.topJava?_eq_some.mp hg0
  have hr' : (({ U with heap := s₂.heap, slotsUsed := s₂.slotsUsed } : State).setVm s₂.vm).frames = .java g₀ :: r := hr
  rcases hq' with ⟨hqc, L, hfe, hL⟩ | ⟨q, rfl, E, ce, L, hx, hce, hcv, hcl, hW₂, hsm, hL⟩
  · obtain ⟨⟨v, rfl⟩, hW₂, e2, q2, q3, q4, q5, q6⟩ := id hfe
    have e3 : s₂ = ({ (U.calling g mk a).setFrames s₂.frames with heap := s₂.heap, slotsUsed := s₂.slotsUsed } : State).setVm s₂.vm := by
      have : s₂ = ({ s₂ with vm := (U.calling g mk a).vm } : State).setVm s₂.vm := rfl
      rw [e2] at this
      exact this
    obtain ⟨c₂, i₂, len₂, hc₂, hd₂, hf₂⟩ := hend
    have hW' : U.WarmedH s₂.vm := hW₂
    have hcc : c₂ = c := by
      have h1 : s₂.code? g.method = U.code? g.method := by
        rw [State.code?_eq, State.code?_eq, hW'.alike.method?]
      exact Option.some.inj (hc₂.symm.trans (h1.trans h.code))
    subst hcc
    have hlen : len₂ = len := by rw [hdg] at hd₂; cases hd₂; rfl
    subst hlen
    have hs₂ : s₂ = (({ U with heap := s₂.heap, slotsUsed := s₂.slotsUsed } : State).setVm s₂.vm).setTop { g with pc := g.pc + len₂, stack := v.toList ++ g.stack } := by
      refine e3.trans ?_
      rw [hf₂, State.calling_eq h.top, State.setFrames_setFrames, State.setTop_of_frames _ hr', hr]
      rfl
    have hsame : U.sameButNew ({ U with heap := s₂.heap, slotsUsed := s₂.slotsUsed } : State) L mc ms := by
      refine ⟨?_, q2, q3, q4, q5, q6⟩
      obtain ⟨t, ht, -⟩ := State.frames_cons hr
      show ({ U with heap := s₂.heap, slotsUsed := s₂.slotsUsed } : State) = { U.setFrames U.frames with heap := s₂.heap, slotsUsed := s₂.slotsUsed }
      rw [State.setFrames_self ht]
    subst hg
    refine Or.inl ⟨v, ⟨(({ U with heap := s₂.heap, slotsUsed := s₂.slotsUsed } : State).setVm s₂.vm), Ls ++ L, c0 + mc, s0 + ms⟩,
      ⟨X.admits, X.cas, X.clock, X.frames, X.room, X.hears, X.method, X.code, (X.here.setHeapUsed s₂.heap s₂.slotsUsed).setVm hW'.alike, X.tail, State.WarmedH.trans X.warmed hW', X.limits, X.bytes, X.same.trans (hsame.setVm s.vm)⟩,
      ⟨g, mk, s₂, L, rfl, rfl, hqc, rfl, hL, rfl, rfl⟩, ?_⟩
    show Steps p.tables e below _ ((({ U with heap := s₂.heap, slotsUsed := s₂.slotsUsed } : State).setVm s₂.vm).setTop { g with pc := g.pc + len₂, stack := v.toList ++ g.stack })
    rw [← hs₂]
    exact hsteps
  · obtain ⟨e2, q2, q3, q4, q5, q6⟩ := id hsm
    have e3 : s₂ = ({ (U.calling g mk a).setFrames s₂.frames with heap := s₂.heap, slotsUsed := s₂.slotsUsed } : State).setVm s₂.vm := by
      have : s₂ = ({ s₂ with vm := (U.calling g mk a).vm } : State).setVm s₂.vm := rfl
      rw [e2] at this
      exact this
    have hf₂ : s₂.frames = .throwing q :: .java g :: U.frames.tail := hend
    have hW' : U.WarmedH s₂.vm := hW₂
    have hs₂ : s₂ = ((({ U with heap := s₂.heap, slotsUsed := s₂.slotsUsed } : State).setVm s₂.vm).setTop g).pushFrame (.throwing q) := by
      refine e3.trans ?_
      rw [hf₂, State.calling_eq h.top, State.setFrames_setFrames, State.pushFrame, State.frames_setTop _ hr', State.setTop_of_frames _ hr', State.setFrames_setFrames, hr]
      rfl
    have hsame : U.sameButNew ({ U with heap := s₂.heap, slotsUsed := s₂.slotsUsed } : State) L mc ms := by
      refine ⟨?_, q2, q3, q4, q5, q6⟩
      obtain ⟨t, ht, -⟩ := State.frames_cons hr
      show ({ U with heap := s₂.heap, slotsUsed := s₂.slotsUsed } : State) = { U.setFrames U.frames with heap := s₂.heap, slotsUsed := s₂.slotsUsed }
      rw [State.setFrames_self ht]
    subst hg
    refine Or.inr ⟨q, ⟨(({ U with heap := s₂.heap, slotsUsed := s₂.slotsUsed } : State).setVm s₂.vm), Ls ++ L, c0 + mc, s0 + ms⟩,
      ⟨X.admits, X.cas, X.clock, X.frames, X.room, X.hears, X.method, X.code, (X.here.setHeapUsed s₂.heap s₂.slotsUsed).setVm hW'.alike, X.tail, State.WarmedH.trans X.warmed hW', X.limits, X.bytes, X.same.trans (hsame.setVm s.vm)⟩,
      ⟨g, mk, s₂, L, E, ce, rfl, rfl, hx, hce, hcv, hcl, rfl, hL, rfl, rfl⟩, ?_⟩
    show Steps p.tables e below _ (((({ U with heap := s₂.heap, slotsUsed := s₂.slotsUsed } : State).setVm s₂.vm).setTop g).pushFrame (.throwing q))
    rw [← hs₂]
    exact hsteps
end Payer
section Calls
variable {p : Program} {l : Launch} {e : Env} {R : Room} {s : State} {m : MethodId} {args : Array Value} {below : List Frame} {meth : Method} {c : Code} {T : State} {locs : List Loc} {cells slots : Nat}
theorem vx_callV (X : Stand p l e R s m args below meth c T locs cells slots) (hexec : p.tables.exec = Jvm.exec) {own C : String} {index : Nat} {y : MethodName} {bytes : ByteArray} {maxL : Nat} {ret : Option FieldType}
    (hown : s.vm.findClass own = some m.cls) (hlink : (Cond.methodLink own index y).before args s = true) (hinst : (Cond.instanceMethod y).before args s = true) (hsel : (Cond.selects C y y).before args s = true)
    (hcode : (Cond.code y bytes maxL ret).before args s = true) (hy : y.cls ≠ "java/lang/invoke/MethodHandle" ∧ y.cls ≠ "java/lang/invoke/VarHandle")
    {W9 : Nat} {Pre : Pt → Array Value → Prop} {Post : Pt → Array Value → Option Value → Pt → Prop} {PostX : Pt → Array Value → Addr → Pt → Prop} (hK : vx_Back l R p e below s args y 3 W9 Pre Post PostX)
    {b : Addr} {cellB : Cell} (hcell : T.heap[b]? = some cellB) (hobj : cellB.vm.isStatics = false) (hcls : s.vm.findClass C = some cellB.cls)
    {g : JFrame} (hg : g.method = m) (hsize : g.locals.size = c.maxLocals) {argsL rest : List Value} (hlen : ∀ sig, parseMethodDescriptor y.desc = some sig → argsL.length = sig.parameters.length)
    (hstack : g.stack = argsL.reverse ++ .ref b :: rest) (hW : 2 * g.monitorRoom + (rest.map fun v => v.category).sum ≤ W9) (hdg : decode c.code g.pc = .ok (.invokevirtual index, 3))
    (hpre : ∀ vm₁, s.WarmedH vm₁ → Pre ⟨T.setVm vm₁, locs, cells, slots⟩ (Value.ref b :: argsL).toArray) :
    (∃ (v : Option Value) (vm₁ : Vm) (B : Pt), s.WarmedH vm₁ ∧ Stand p l e R s m args below meth c B.U B.locs B.cells B.slots ∧ Post ⟨T.setVm vm₁, locs, cells, slots⟩ (Value.ref b :: argsL).toArray v B ∧
      ∀ target, Steps p.tables e below (B.U.setTop { g with pc := g.pc + 3, stack := v.toList ++ rest }) target → Steps p.tables e below (T.setTop g) target) ∨
    (∃ (q : Addr) (vm₁ : Vm) (B : Pt), s.WarmedH vm₁ ∧ Stand p l e R s m args below meth c B.U B.locs B.cells B.slots ∧ PostX ⟨T.setVm vm₁, locs, cells, slots⟩ (Value.ref b :: argsL).toArray q B ∧
      Steps p.tables e below (T.setTop g) ((B.U.setTop { g with stack := rest }).pushFrame (.throwing q))) := by
  obtain ⟨mk, methM, hnamed, hmethM, hstM, habM⟩ := Cond.instanceMethod_spec hinst
  obtain ⟨methM', cM, hmethM', -, -, -, -, -, -, hsigM⟩ := Cond.code_spec hnamed hcode
  cases hmethM.symm.trans hmethM'
  obtain ⟨c2, r2, m2, q1, q2, q3, q4, kP, hkP, hkPi⟩ := Cond.selects_spec hsel
  cases hcls.symm.trans q1
  cases (State.methodFound?_of_named hnamed hy).symm.trans q2
  cases hnamed.symm.trans q3
  have hselP : selectMethod e.platform s.vm cellB.cls mk = .method mk := by rw [Launch.admits_selectMethod X.admits]; exact q4
  obtain ⟨vm₁, X₁, hstep₁⟩ := X.invokevirtual hexec hown hlink hnamed hmethM hstM hkP hkPi hy (a := b) (cell := cellB) hcell
    (fun z h => by rw [h] at hobj; cases hobj) hselP hmethM habM hkP hkPi (g := g) hg (argsL := argsL) (rest := rest) (hlen _ hsigM) hstack hdg
  rcases hK m meth c ⟨T.setVm vm₁, locs, cells, slots⟩ { g with stack := rest } (.invokevirtual index) mk (Value.ref b :: argsL).toArray X₁ hg hsize hdg hW (X₁.named hnamed) (hpre vm₁ X₁.warmed) with ⟨v, B, X', hpost, hsteps⟩ | ⟨q, B, X', hpost, hsteps⟩
  · exact Or.inl ⟨v, vm₁, B, X₁.warmed, X', hpost, fun target h => hstep₁ _ fun acts => by rw [doInvoke_state]; exact hsteps.trans h⟩
  · exact Or.inr ⟨q, vm₁, B, X₁.warmed, X', hpost, hstep₁ _ fun acts => by rw [doInvoke_state]; exact hsteps⟩
theorem vx_callS (X : Stand p l e R s m args below meth c T locs cells slots) (hexec : p.tables.exec = Jvm.exec) {own : String} {index : Nat} {y : MethodName} {bytes : ByteArray} {maxL : Nat} {ret : Option FieldType}
    (hown : s.vm.findClass own = some m.cls) (hlink : (Cond.methodLink own index y).before args s = true) (hstat : (Cond.static y).before args s = true) (hinit : (Cond.initialized y.cls).before args s = true)
    (hcode : (Cond.code y bytes maxL ret).before args s = true) (hy : y.cls ≠ "java/lang/invoke/MethodHandle" ∧ y.cls ≠ "java/lang/invoke/VarHandle")
    {W9 : Nat} {Pre : Pt → Array Value → Prop} {Post : Pt → Array Value → Option Value → Pt → Prop} {PostX : Pt → Array Value → Addr → Pt → Prop} (hK : vx_Back l R p e below s args y 3 W9 Pre Post PostX)
    {g : JFrame} (hg : g.method = m) (hsize : g.locals.size = c.maxLocals) {argsL rest : List Value} (hlen : ∀ sig, parseMethodDescriptor y.desc = some sig → argsL.length = sig.parameters.length)
    (hstack : g.stack = argsL.reverse ++ rest) (hW : 2 * g.monitorRoom + (rest.map fun v => v.category).sum ≤ W9) (hdg : decode c.code g.pc = .ok (.invokestatic index, 3))
    (hpre : ∀ vm₁, s.WarmedH vm₁ → Pre ⟨T.setVm vm₁, locs, cells, slots⟩ argsL.toArray) :
    (∃ (v : Option Value) (vm₁ : Vm) (B : Pt), s.WarmedH vm₁ ∧ Stand p l e R s m args below meth c B.U B.locs B.cells B.slots ∧ Post ⟨T.setVm vm₁, locs, cells, slots⟩ argsL.toArray v B ∧
      ∀ target, Steps p.tables e below (B.U.setTop { g with pc := g.pc + 3, stack := v.toList ++ rest }) target → Steps p.tables e below (T.setTop g) target) ∨
    (∃ (q : Addr) (vm₁ : Vm) (B : Pt), s.WarmedH vm₁ ∧ Stand p l e R s m args below meth c B.U B.locs B.cells B.slots ∧ PostX ⟨T.setVm vm₁, locs, cells, slots⟩ argsL.toArray q B ∧
      Steps p.tables e below (T.setTop g) ((B.U.setTop { g with stack := rest }).pushFrame (.throwing q))) := by
  obtain ⟨mk, hnamed⟩ := Cond.code_named hcode
  obtain ⟨methM, cM, hmethM, -, -, -, -, -, -, hsigM⟩ := Cond.code_spec hnamed hcode
  have hstatic : methM.isStatic = true := Cond.static_spec hnamed hmethM hstat
  obtain ⟨kP, hkP, -⟩ := className_of_methodNamed hnamed
  have hinitP : kP.init = .initialized := Cond.initialized_spec (findClass_of_methodNamed hnamed) hkP hinit
  obtain ⟨vm₁, X₁, hstep₁⟩ := X.invokestatic hexec hown hlink hnamed hmethM hstatic hkP hinitP hy (g := g) hg (argsL := argsL) (rest := rest) (hlen _ hsigM) hstack hdg
  rcases hK m meth c ⟨T.setVm vm₁, locs, cells, slots⟩ { g with stack := rest } (.invokestatic index) mk argsL.toArray X₁ hg hsize hdg hW (X₁.named hnamed) (hpre vm₁ X₁.warmed) with ⟨v, B, X', hpost, hsteps⟩ | ⟨q, B, X', hpost, hsteps⟩
  · exact Or.inl ⟨v, vm₁, B, X₁.warmed, X', hpost, fun target h => hstep₁ _ fun acts => by rw [doInvoke_state]; exact hsteps.trans h⟩
  · exact Or.inr ⟨q, vm₁, B, X₁.warmed, X', hpost, hstep₁ _ fun acts => by rw [doInvoke_state]; exact hsteps⟩
end Calls
theorem vx_cls {s : State} {T : State} {vm₁ : Vm} {E : String} {k : ClassId} (hW : s.WarmedH vm₁) (h : (T.setVm vm₁).vm.findClass E = some k) : s.vm.findClass E = some k := by
  have h1 : vm₁.findClass E = some k := h
  rw [hW.alike.findClass] at h1
  exact h1
/-- the method's frame g, with q thrown over it -/
def vx_W (p : Program) (l : Launch) (e : Env) (R : Room) (s : State) (m : MethodId) (args : Array Value) (below : List Frame) (meth : Method) (c : Code) (H : Heap) (locs : List Loc) (cells slots : Nat) (Q : State → Prop) (g : JFrame) (q : Addr) : Prop :=
  ∀ T : State, T.heap = H → Stand p l e R s m args below meth c T locs cells slots → ∃ t, Steps p.tables e below ((T.setTop g).pushFrame (.throwing q)) t ∧ Q t
def vx_Run (p : Program) (l : Launch) (e : Env) (R : Room) (s : State) (m : MethodId) (args : Array Value) (below : List Frame) (meth : Method) (c : Code) (H : Heap) (locs : List Loc) (cells slots mc ms : Nat) (g : JFrame) (rest : List Value) (Qa : State → Outcome → State → Prop) (XC : String → State → State → Prop) (free : Addr → Prop) : Prop :=
  ∀ T : State, T.heap = H → Stand p l e R s m args below meth c T locs cells slots →
    (∃ (v : Option Value) (st₀ t T' : State) (L : List Loc), st₀.heap = H ∧ Stand p l e R s m args below meth c T' (locs ++ L) (cells + mc) (slots + ms) ∧ (∀ q ∈ L, free q.base) ∧ T'.heap = t.heap ∧ T'.vm = t.vm ∧ Qa st₀ (.returned v) t ∧
      Goes p e below T g T' { g with pc := g.pc + 3, stack := v.toList ++ rest }) ∨
    (∃ (q : Addr) (st₀ t T' : State) (L : List Loc) (E : String) (ce : Cell), st₀.heap = H ∧ Stand p l e R s m args below meth c T' (locs ++ L) (cells + mc) (slots + ms) ∧ (∀ z ∈ L, free z.base) ∧ T'.heap = t.heap ∧ T'.vm = t.vm ∧ XC E st₀ t ∧ t.heap[q]? = some ce ∧ ce.vm = .none ∧ s.vm.findClass E = some ce.cls ∧
      Steps p.tables e below (T.setTop g) ((T'.setTop { g with stack := rest }).pushFrame (.throwing q)))
def vx_X {S : Type} (px : S → Prop) (B : String → S → State → Prop) (A : Nat → Prop) : String → State → State → Prop := fun E st t => ∃ u : S, px u ∧ B E u t ∧ va_F A st t
section Runs
variable {p : Program} {l : Launch} {e : Env} {R : Room} {s : State} {m : MethodId} {args : Array Value} {below : List Frame} {meth : Method} {c : Code} {H : Heap} {locs : List Loc} {cells slots : Nat}
variable {y : MethodName} {bytes cc : ByteArray} {maxL nL mc ms n index : Nat} {ret : Option FieldType} {ws : List Cond} {rm : Room} {Pc : Array Value → State → Prop} {Qc : Array Value → State → Outcome → State → Prop} {XC : String → State → State → Prop} {free : Addr → Prop} {Ts : List Cond} {own C : String} {b : Addr} {As rest : List Value} {g : JFrame}
theorem vx_callBack (cb : CallB R s args own index y bytes maxL ret ws rm mc ms n) (hM : vx_Met l y ws rm Pc Qc XC mc ms free) (hbl : FrameBlind Pc) : vx_Back l R p e below s args y 3 8 (PreOf R mc ms Pc) (PostOf Qc mc ms free) (vx_Post XC mc ms free) := by
  obtain ⟨hrc, hrs, hfr, hlo, hws, hcw, -, hini, -⟩ := cb
  exact vx_back (bytes := bytes) (maxL := maxL) (ret := ret) hM hbl hrc hrs hfr hlo hws hcw (fun a' U hW => word_at hW (Or.inl (by first | rfl | simp [Cond.onTables, Cond.keeps, Cond.steady])) hini)
theorem vx_runV (S : CallFix p m c cc nL s args Ts own) (hM : vx_Met l y ws rm Pc Qc XC mc ms free) (cw : CallW R s args own C index y bytes maxL ret ws rm mc ms n) (hp : PreV s H C b Pc As)
    (hg : g.method = m) (hn : As.length = n) (hsize : g.locals.size = nL) (hstack : g.stack = As.reverse ++ .ref b :: rest) (hW : 2 * g.monitorRoom + (rest.map fun v => v.category).sum ≤ 8) (hdg : decode cc g.pc = .ok (.invokevirtual index, 3)) (hf : cells + mc ≤ R.cells ∧ slots + ms ≤ R.slots) :
    vx_Run p l e R s m args below meth c H locs cells slots mc ms g rest (Qc (Value.ref b :: As).toArray) XC free := by
  have hK : vx_Back l R p e below s args y 3 8 (PreOf R mc ms Pc) (PostOf Qc mc ms free) (vx_Post XC mc ms free) := vx_callBack cw.1 hM hp.1
  obtain ⟨⟨-, -, -, -, -, -, hcode, -, hy, hlen, hl⟩, hin, hse⟩ := cw
  obtain ⟨hx, hb, hml, ho, -⟩ := S
  obtain ⟨-, ⟨cellB, hcB, hoB, hclB⟩, hPc⟩ := hp
  intro T hT X
  rcases vx_callV X hx (C := C) (bytes := bytes) (maxL := maxL) (ret := ret) ho hl hin hse hcode hy hK (by rw [hT]; exact hcB) hoB hclB hg (hsize.trans hml.symm) (argsL := As) (rest := rest) (fun sig h => hn.trans (hlen sig h)) hstack hW (by rw [hb]; exact hdg)
    (fun vm₁ hW₁ => ⟨hf.1, hf.2, hPc (T.setVm vm₁) hT hW₁⟩) with ⟨v, vm₁, ⟨U', l2, c2, s2⟩, hW₁, X', ⟨g', mk, t, L, e1, e2, hq, h1, hL, h2, h3⟩, st⟩ | ⟨q, vm₁, ⟨U', l2, c2, s2⟩, hW₁, X', ⟨g', mk, t, L, E, ce, e1, e2, hq, hce, hcv, hcl, h1, hL, h2, h3⟩, st⟩
  · dsimp only [Pt.U, Pt.locs, Pt.cells, Pt.slots] at X' e1 e2 h1 h2 h3 st
    subst h1; subst h2; subst h3
    exact Or.inl ⟨v, (T.setVm vm₁).calling g' mk (Value.ref b :: As).toArray, t, U', L, hT, X', hL, e1, e2, hq, st⟩
  · dsimp only [Pt.U, Pt.locs, Pt.cells, Pt.slots] at X' e1 e2 h1 h2 h3 st hcl
    subst h1; subst h2; subst h3
    exact Or.inr ⟨q, (T.setVm vm₁).calling g' mk (Value.ref b :: As).toArray, t, U', L, E, ce, hT, X', hL, e1, e2, hq, hce, hcv, vx_cls hW₁ hcl, st⟩
theorem vx_runS (S : CallFix p m c cc nL s args Ts own) (hM : vx_Met l y ws rm Pc Qc XC mc ms free) (cw : CallB R s args own index y bytes maxL ret ws rm mc ms n ∧ (Cond.static y).before args s = true) (hp : PreS s H Pc As)
    (hg : g.method = m) (hn : As.length = n) (hsize : g.locals.size = nL) (hstack : g.stack = As.reverse ++ rest) (hW : 2 * g.monitorRoom + (rest.map fun v => v.category).sum ≤ 8) (hdg : decode cc g.pc = .ok (.invokestatic index, 3)) (hf : cells + mc ≤ R.cells ∧ slots + ms ≤ R.slots) :
    vx_Run p l e R s m args below meth c H locs cells slots mc ms g rest (Qc As.toArray) XC free := by
  have hK : vx_Back l R p e below s args y 3 8 (PreOf R mc ms Pc) (PostOf Qc mc ms free) (vx_Post XC mc ms free) := vx_callBack cw.1 hM hp.1
  obtain ⟨⟨-, -, -, -, -, -, hcode, hini, hy, hlen, hl⟩, hstt⟩ := cw
  obtain ⟨hx, hb, hml, ho, -⟩ := S
  intro T hT X
  rcases vx_callS X hx (bytes := bytes) (maxL := maxL) (ret := ret) ho hl hstt hini hcode hy hK hg (hsize.trans hml.symm) (argsL := As) (rest := rest) (fun sig h => hn.trans (hlen sig h)) hstack hW (by rw [hb]; exact hdg)
    (fun vm₁ hW₁ => ⟨hf.1, hf.2, hp.2 (T.setVm vm₁) hT hW₁⟩) with ⟨v, vm₁, ⟨U', l2, c2, s2⟩, hW₁, X', ⟨g', mk, t, L, e1, e2, hq, h1, hL, h2, h3⟩, st⟩ | ⟨q, vm₁, ⟨U', l2, c2, s2⟩, hW₁, X', ⟨g', mk, t, L, E, ce, e1, e2, hq, hce, hcv, hcl, h1, hL, h2, h3⟩, st⟩
  · dsimp only [Pt.U, Pt.locs, Pt.cells, Pt.slots] at X' e1 e2 h1 h2 h3 st
    subst h1; subst h2; subst h3
    exact Or.inl ⟨v, (T.setVm vm₁).calling g' mk As.toArray, t, U', L, hT, X', hL, e1, e2, hq, st⟩
  · dsimp only [Pt.U, Pt.locs, Pt.cells, Pt.slots] at X' e1 e2 h1 h2 h3 st hcl
    subst h1; subst h2; subst h3
    exact Or.inr ⟨q, (T.setVm vm₁).calling g' mk As.toArray, t, U', L, E, ce, hT, X', hL, e1, e2, hq, hce, hcv, vx_cls hW₁ hcl, st⟩
end Runs
section Rows
variable {p : Program} {l : Launch} {e : Env} {R : Room} {s : State} {m : MethodId} {args : Array Value} {below : List Frame} {meth : Method} {c : Code} {H : Heap} {locs : List Loc} {cells slots : Nat} {Q : State → Prop}
variable {mc ms : Nat} {free : Addr → Prop} {A0 A1 : Nat → Prop} {H0 : Heap} {a : Array Value} {pc : Nat} {ls : Array Slot} {st0 rest : List Value}
theorem vx_keep {st₀ t T' : State} {L : List Loc} (h0 : st₀.heap = H) (e1 : T'.heap = t.heap) (hS : va_S A0 H0 H locs) (hA : ∀ q, q < H.size → A1 q → A0 q) (hf : ∀ q, free q → A0 q) (hL : ∀ q ∈ L, free q.base) (hF : va_F A1 st₀ t) :
    H.size ≤ T'.heap.size ∧ (∀ q : Nat, q < H.size → ¬ A1 q → T'.heap[q]? = H[q]?) ∧ va_S A0 H0 T'.heap (locs ++ L) := by
  obtain ⟨hz, hk⟩ := hF
  rw [h0] at hz hk
  exact ⟨by rw [e1]; exact hz, fun q h1 h2 => by rw [e1]; exact hk q h1 h2,
    ⟨Nat.le_trans hS.1 (by rw [e1]; exact hz), fun q h1 h2 => by rw [e1, hk q (Nat.lt_of_lt_of_le h1 hS.1) (fun z => h2 (hA q (Nat.lt_of_lt_of_le h1 hS.1) z))]; exact hS.2.1 q h1 h2, fun q hq => by
      rcases List.mem_append.mp hq with h | h
      · exact hS.2.2 q h
      · exact hf _ (hL q h)⟩⟩
theorem vx_calli {S SX : Type} {post : Int32 → S → Prop} {px : SX → Prop} {B : S → State → Prop} {BX : String → SX → State → Prop} {AX : Nat → Prop} (hr : vx_Run p l e R s m args below meth c H locs cells slots mc ms (F0 m pc ls st0) rest (va_Qi post B A1 a) (vx_X px BX AX) free) (hS : va_S A0 H0 H locs) (hA : ∀ q, q < H.size → A1 q → A0 q) (hf : ∀ q, free q → A0 q) (hAX : ∀ q, q < H.size → AX q → A0 q)
    (kx : ∀ (E : String) (ce : Cell) (q9 : Addr) (u : SX) (t : State) (H1 : Heap) (locs1 : List Loc), t.heap = H1 → s.vm.Alike t.vm → px u → BX E u t → H.size ≤ H1.size → (∀ q : Nat, q < H.size → ¬ AX q → H1[q]? = H[q]?) → va_S A0 H0 H1 locs1 → H1[q9]? = some ce → ce.vm = .none → s.vm.findClass E = some ce.cls → vx_W p l e R s m args below meth c H1 locs1 (cells + mc) (slots + ms) Q (F0 m pc ls rest) q9)
    (kk : ∀ (r : Int32) (u : S) (t : State) (H1 : Heap) (locs1 : List Loc), t.heap = H1 → s.vm.Alike t.vm → post r u → B u t → H.size ≤ H1.size → (∀ q : Nat, q < H.size → ¬ A1 q → H1[q]? = H[q]?) → va_S A0 H0 H1 locs1 → W p l e R s m args below meth c H1 locs1 (cells + mc) (slots + ms) Q (F0 m (pc + 3) ls (.int r :: rest))) : W p l e R s m args below meth c H locs cells slots Q (F0 m pc ls st0) := by
  intro T hT X
  rcases hr T hT X with ⟨v, st₀, t, T', L, h0, X', hL, e1, e2, ⟨⟨r, u, hv, hp, hb⟩, hF⟩, st⟩ | ⟨q, st₀, t, T', L, E, ce, h0, X', hL, e1, e2, ⟨u, hp, hb, hF⟩, hce, hcv, hcl, st⟩
  · cases hv
    obtain ⟨k1, k2, k3⟩ := vx_keep h0 e1 hS hA hf hL hF
    obtain ⟨t2, a1, b1⟩ := kk r u t T'.heap (locs ++ L) e1.symm (by rw [← e2]; exact X'.warmed.alike) hp hb k1 k2 k3 T' rfl X'
    exact ⟨t2, st t2 a1, b1⟩
  · obtain ⟨k1, k2, k3⟩ := vx_keep h0 e1 hS hAX hf hL hF
    obtain ⟨t2, a1, b1⟩ := kx E ce q u t T'.heap (locs ++ L) e1.symm (by rw [← e2]; exact X'.warmed.alike) hp hb k1 k2 k3 (by rw [e1]; exact hce) hcv hcl T' rfl X'
    exact ⟨t2, st.trans a1, b1⟩
theorem vx_calll {S SX : Type} {post : Int64 → S → Prop} {px : SX → Prop} {B : S → State → Prop} {BX : String → SX → State → Prop} {AX : Nat → Prop} (hr : vx_Run p l e R s m args below meth c H locs cells slots mc ms (F0 m pc ls st0) rest (va_Ql post B A1 a) (vx_X px BX AX) free) (hS : va_S A0 H0 H locs) (hA : ∀ q, q < H.size → A1 q → A0 q) (hf : ∀ q, free q → A0 q) (hAX : ∀ q, q < H.size → AX q → A0 q)
    (kx : ∀ (E : String) (ce : Cell) (q9 : Addr) (u : SX) (t : State) (H1 : Heap) (locs1 : List Loc), t.heap = H1 → s.vm.Alike t.vm → px u → BX E u t → H.size ≤ H1.size → (∀ q : Nat, q < H.size → ¬ AX q → H1[q]? = H[q]?) → va_S A0 H0 H1 locs1 → H1[q9]? = some ce → ce.vm = .none → s.vm.findClass E = some ce.cls → vx_W p l e R s m args below meth c H1 locs1 (cells + mc) (slots + ms) Q (F0 m pc ls rest) q9)
    (kk : ∀ (r : Int64) (u : S) (t : State) (H1 : Heap) (locs1 : List Loc), t.heap = H1 → s.vm.Alike t.vm → post r u → B u t → H.size ≤ H1.size → (∀ q : Nat, q < H.size → ¬ A1 q → H1[q]? = H[q]?) → va_S A0 H0 H1 locs1 → W p l e R s m args below meth c H1 locs1 (cells + mc) (slots + ms) Q (F0 m (pc + 3) ls (.long r :: rest))) : W p l e R s m args below meth c H locs cells slots Q (F0 m pc ls st0) := by
  intro T hT X
  rcases hr T hT X with ⟨v, st₀, t, T', L, h0, X', hL, e1, e2, ⟨⟨r, u, hv, hp, hb⟩, hF⟩, st⟩ | ⟨q, st₀, t, T', L, E, ce, h0, X', hL, e1, e2, ⟨u, hp, hb, hF⟩, hce, hcv, hcl, st⟩
  · cases hv
    obtain ⟨k1, k2, k3⟩ := vx_keep h0 e1 hS hA hf hL hF
    obtain ⟨t2, a1, b1⟩ := kk r u t T'.heap (locs ++ L) e1.symm (by rw [← e2]; exact X'.warmed.alike) hp hb k1 k2 k3 T' rfl X'
    exact ⟨t2, st t2 a1, b1⟩
  · obtain ⟨k1, k2, k3⟩ := vx_keep h0 e1 hS hAX hf hL hF
    obtain ⟨t2, a1, b1⟩ := kx E ce q u t T'.heap (locs ++ L) e1.symm (by rw [← e2]; exact X'.warmed.alike) hp hb k1 k2 k3 (by rw [e1]; exact hce) hcv hcl T' rfl X'
    exact ⟨t2, st.trans a1, b1⟩
theorem vx_callf {S SX : Type} {post : UInt32 → S → Prop} {px : SX → Prop} {B : S → State → Prop} {BX : String → SX → State → Prop} {AX : Nat → Prop} (hr : vx_Run p l e R s m args below meth c H locs cells slots mc ms (F0 m pc ls st0) rest (va_Qf post B A1 a) (vx_X px BX AX) free) (hS : va_S A0 H0 H locs) (hA : ∀ q, q < H.size → A1 q → A0 q) (hf : ∀ q, free q → A0 q) (hAX : ∀ q, q < H.size → AX q → A0 q)
    (kx : ∀ (E : String) (ce : Cell) (q9 : Addr) (u : SX) (t : State) (H1 : Heap) (locs1 : List Loc), t.heap = H1 → s.vm.Alike t.vm → px u → BX E u t → H.size ≤ H1.size → (∀ q : Nat, q < H.size → ¬ AX q → H1[q]? = H[q]?) → va_S A0 H0 H1 locs1 → H1[q9]? = some ce → ce.vm = .none → s.vm.findClass E = some ce.cls → vx_W p l e R s m args below meth c H1 locs1 (cells + mc) (slots + ms) Q (F0 m pc ls rest) q9)
    (kk : ∀ (r : UInt32) (u : S) (t : State) (H1 : Heap) (locs1 : List Loc), t.heap = H1 → s.vm.Alike t.vm → post r u → B u t → H.size ≤ H1.size → (∀ q : Nat, q < H.size → ¬ A1 q → H1[q]? = H[q]?) → va_S A0 H0 H1 locs1 → W p l e R s m args below meth c H1 locs1 (cells + mc) (slots + ms) Q (F0 m (pc + 3) ls (.float r :: rest))) : W p l e R s m args below meth c H locs cells slots Q (F0 m pc ls st0) := by
  intro T hT X
  rcases hr T hT X with ⟨v, st₀, t, T', L, h0, X', hL, e1, e2, ⟨⟨r, u, hv, hp, hb⟩, hF⟩, st⟩ | ⟨q, st₀, t, T', L, E, ce, h0, X', hL, e1, e2, ⟨u, hp, hb, hF⟩, hce, hcv, hcl, st⟩
  · cases hv
    obtain ⟨k1, k2, k3⟩ := vx_keep h0 e1 hS hA hf hL hF
    obtain ⟨t2, a1, b1⟩ := kk r u t T'.heap (locs ++ L) e1.symm (by rw [← e2]; exact X'.warmed.alike) hp hb k1 k2 k3 T' rfl X'
    exact ⟨t2, st t2 a1, b1⟩
  · obtain ⟨k1, k2, k3⟩ := vx_keep h0 e1 hS hAX hf hL hF
    obtain ⟨t2, a1, b1⟩ := kx E ce q u t T'.heap (locs ++ L) e1.symm (by rw [← e2]; exact X'.warmed.alike) hp hb k1 k2 k3 (by rw [e1]; exact hce) hcv hcl T' rfl X'
    exact ⟨t2, st.trans a1, b1⟩
theorem vx_calld {S SX : Type} {post : UInt64 → S → Prop} {px : SX → Prop} {B : S → State → Prop} {BX : String → SX → State → Prop} {AX : Nat → Prop} (hr : vx_Run p l e R s m args below meth c H locs cells slots mc ms (F0 m pc ls st0) rest (va_Qd post B A1 a) (vx_X px BX AX) free) (hS : va_S A0 H0 H locs) (hA : ∀ q, q < H.size → A1 q → A0 q) (hf : ∀ q, free q → A0 q) (hAX : ∀ q, q < H.size → AX q → A0 q)
    (kx : ∀ (E : String) (ce : Cell) (q9 : Addr) (u : SX) (t : State) (H1 : Heap) (locs1 : List Loc), t.heap = H1 → s.vm.Alike t.vm → px u → BX E u t → H.size ≤ H1.size → (∀ q : Nat, q < H.size → ¬ AX q → H1[q]? = H[q]?) → va_S A0 H0 H1 locs1 → H1[q9]? = some ce → ce.vm = .none → s.vm.findClass E = some ce.cls → vx_W p l e R s m args below meth c H1 locs1 (cells + mc) (slots + ms) Q (F0 m pc ls rest) q9)
    (kk : ∀ (r : UInt64) (u : S) (t : State) (H1 : Heap) (locs1 : List Loc), t.heap = H1 → s.vm.Alike t.vm → post r u → B u t → H.size ≤ H1.size → (∀ q : Nat, q < H.size → ¬ A1 q → H1[q]? = H[q]?) → va_S A0 H0 H1 locs1 → W p l e R s m args below meth c H1 locs1 (cells + mc) (slots + ms) Q (F0 m (pc + 3) ls (.double r :: rest))) : W p l e R s m args below meth c H locs cells slots Q (F0 m pc ls st0) := by
  intro T hT X
  rcases hr T hT X with ⟨v, st₀, t, T', L, h0, X', hL, e1, e2, ⟨⟨r, u, hv, hp, hb⟩, hF⟩, st⟩ | ⟨q, st₀, t, T', L, E, ce, h0, X', hL, e1, e2, ⟨u, hp, hb, hF⟩, hce, hcv, hcl, st⟩
  · cases hv
    obtain ⟨k1, k2, k3⟩ := vx_keep h0 e1 hS hA hf hL hF
    obtain ⟨t2, a1, b1⟩ := kk r u t T'.heap (locs ++ L) e1.symm (by rw [← e2]; exact X'.warmed.alike) hp hb k1 k2 k3 T' rfl X'
    exact ⟨t2, st t2 a1, b1⟩
  · obtain ⟨k1, k2, k3⟩ := vx_keep h0 e1 hS hAX hf hL hF
    obtain ⟨t2, a1, b1⟩ := kx E ce q u t T'.heap (locs ++ L) e1.symm (by rw [← e2]; exact X'.warmed.alike) hp hb k1 k2 k3 (by rw [e1]; exact hce) hcv hcl T' rfl X'
    exact ⟨t2, st.trans a1, b1⟩
theorem vx_callv {S SX : Type} {post : S → Prop} {px : SX → Prop} {B : S → State → Prop} {BX : String → SX → State → Prop} {AX : Nat → Prop} (hr : vx_Run p l e R s m args below meth c H locs cells slots mc ms (F0 m pc ls st0) rest (va_Qv post B A1 a) (vx_X px BX AX) free) (hS : va_S A0 H0 H locs) (hA : ∀ q, q < H.size → A1 q → A0 q) (hf : ∀ q, free q → A0 q) (hAX : ∀ q, q < H.size → AX q → A0 q)
    (kx : ∀ (E : String) (ce : Cell) (q9 : Addr) (u : SX) (t : State) (H1 : Heap) (locs1 : List Loc), t.heap = H1 → s.vm.Alike t.vm → px u → BX E u t → H.size ≤ H1.size → (∀ q : Nat, q < H.size → ¬ AX q → H1[q]? = H[q]?) → va_S A0 H0 H1 locs1 → H1[q9]? = some ce → ce.vm = .none → s.vm.findClass E = some ce.cls → vx_W p l e R s m args below meth c H1 locs1 (cells + mc) (slots + ms) Q (F0 m pc ls rest) q9)
    (kk : ∀ (u : S) (t : State) (H1 : Heap) (locs1 : List Loc), t.heap = H1 → s.vm.Alike t.vm → post u → B u t → H.size ≤ H1.size → (∀ q : Nat, q < H.size → ¬ A1 q → H1[q]? = H[q]?) → va_S A0 H0 H1 locs1 → W p l e R s m args below meth c H1 locs1 (cells + mc) (slots + ms) Q (F0 m (pc + 3) ls (rest))) : W p l e R s m args below meth c H locs cells slots Q (F0 m pc ls st0) := by
  intro T hT X
  rcases hr T hT X with ⟨v, st₀, t, T', L, h0, X', hL, e1, e2, ⟨⟨u, hv, hp, hb⟩, hF⟩, st⟩ | ⟨q, st₀, t, T', L, E, ce, h0, X', hL, e1, e2, ⟨u, hp, hb, hF⟩, hce, hcv, hcl, st⟩
  · cases hv
    obtain ⟨k1, k2, k3⟩ := vx_keep h0 e1 hS hA hf hL hF
    obtain ⟨t2, a1, b1⟩ := kk u t T'.heap (locs ++ L) e1.symm (by rw [← e2]; exact X'.warmed.alike) hp hb k1 k2 k3 T' rfl X'
    exact ⟨t2, st t2 a1, b1⟩
  · obtain ⟨k1, k2, k3⟩ := vx_keep h0 e1 hS hAX hf hL hF
    obtain ⟨t2, a1, b1⟩ := kx E ce q u t T'.heap (locs ++ L) e1.symm (by rw [← e2]; exact X'.warmed.alike) hp hb k1 k2 k3 (by rw [e1]; exact hce) hcv hcl T' rfl X'
    exact ⟨t2, st.trans a1, b1⟩
/-- caught by the row x of this method's table; the rows ahead don't take it -/
theorem vx_catch {own name : String} {E : String} {ce : Cell} {q : Addr} (hown : s.vm.findClass own = some m.cls) (pre : List ExceptionTableEntry) (x : ExceptionTableEntry) (suf : List ExceptionTableEntry) (hsplit : c.exceptionTable.toList = pre ++ x :: suf)
    (hpass : ∀ z ∈ pre, covers z pc = false ∨ (z.catchType ≠ 0 ∧ ∃ nm : String, (Cond.classLink own z.catchType nm).before args s = true ∧ va_Nc E nm s)) (hx : covers x pc = true) (h0 : x.catchType ≠ 0)
    (hlink : (Cond.classLink own x.catchType name).before args s = true) (hcast : (Cond.castable E name).before args s = true) (hcell : H[q]? = some ce) (hv : ce.vm = .none) (hcl : s.vm.findClass E = some ce.cls)
    (kk : W p l e R s m args below meth c H locs cells slots Q (F0 m x.handlerPc ls [.ref q])) : vx_W p l e R s m args below meth c H locs cells slots Q (F0 m pc ls rest) q := by
  intro T hT X
  have hpl : e.platform.magicAccessors = ({} : Platform).magicAccessors := by rw [X.admits.platform]
  obtain ⟨c3, c4, hc3, hc4, hasg⟩ := Cond.castable_spec hcast
  cases Option.some.inj (hc3.symm.trans hcl)
  obtain ⟨c5, hc5, hcl5⟩ := Cond.classLink_spec hown hlink e.platform hpl
  cases Option.some.inj (hc4.symm.trans hc5)
  obtain ⟨vm', X', st⟩ := X.thenCaughtThrough q (g := F0 m pc ls rest) rfl (Steps.refl _) (by rw [hT]; exact hcell) (by rw [hv]; rfl) (by obtain ⟨k9, h9, -⟩ := Vm.findClass_spec hcl; exact ⟨k9, h9⟩) pre x suf hsplit
    (fun z hz => by
      rcases hpass z hz with h | ⟨hz0, nm, hl1, hn1⟩
      · exact Or.inl h
      · obtain ⟨c6, hc6, hcl6⟩ := Cond.classLink_spec hown hl1 e.platform hpl
        obtain ⟨a8, b8, h1, h2, h3⟩ := hn1
        cases Option.some.inj (h1.symm.trans hcl)
        cases Option.some.inj (h2.symm.trans hc6)
        exact Or.inr ⟨hz0, _, hcl6, h3⟩) hx (Or.inr ⟨h0, c4, hcl5, hasg⟩)
  obtain ⟨t, a1, b1⟩ := kk (T.setVm vm') hT X'
  exact ⟨t, st.trans a1, b1⟩
end Rows
section Ends
variable {p : Program} {l : Launch} {e : Env} {R : Room} {s : State} {m : MethodId} {args : Array Value} {below : List Frame} {meth : Method} {c : Code} {H : Heap} {locs : List Loc} {cells slots : Nat} {Q : State → Prop}
variable {mc ms : Nat} {free : Addr → Prop} {A0 A1 : Nat → Prop} {H0 : Heap} {a : Array Value} {ls : Array Slot} {st0 rest : List Value}
variable {Qc : Array Value → State → Outcome → State → Prop} {XC : String → State → State → Prop}
/-- what a body that may throw owes at its end -/
def vx_MQ (below : List Frame) (Qc : Array Value → State → Outcome → State → Prop) (XC : String → State → State → Prop) (a : Array Value) (s : State) (mc ms : Nat) (free : Addr → Prop) : State → Prop := fun t =>
  ∃ o, t.status = .running ∧ Ended t below o ∧ vx_Q Qc XC mc ms free a s o t
theorem vx_ret {g : JFrame} {mc ms : Nat} (k : W p l e R s m args below meth c H locs cells slots (MQ below Qc args s mc ms free) g) : W p l e R s m args below meth c H locs cells slots (vx_MQ below Qc XC args s mc ms free) g := by
  intro T hT X
  obtain ⟨t, a1, o, b1, b2, b3, b4⟩ := k T hT X
  exact ⟨t, a1, o, b1, b2, Or.inl ⟨b3, b4⟩⟩
/-- not caught here: it goes on to the caller -/
theorem vx_widen {g : JFrame} {q : Addr} {k n : Nat} (h1 : cells ≤ k) (h2 : slots ≤ n) (kk : vx_W p l e R s m args below meth c H locs k n Q g q) : vx_W p l e R s m args below meth c H locs cells slots Q g q := fun T hT X => kk T hT (stand_widen X h1 h2)
theorem vx_out {pc : Nat} {E : String} {ce : Cell} {q : Addr} {mc ms : Nat} (hout : ∀ x ∈ c.exceptionTable.toList, covers x pc = false) (hlocks : meth.locks = false) (hcell : H[q]? = some ce) (hv : ce.vm = .none) (hcl : s.vm.findClass E = some ce.cls)
    (hx : ∀ t : State, t.heap = H → s.vm.Alike t.vm → XC E s t) (hf : ∀ z ∈ locs, free z.base) (hc : cells ≤ mc) (hs : slots ≤ ms) :
    vx_W p l e R s m args below meth c H locs cells slots (vx_MQ below Qc XC args s mc ms free) (F0 m pc ls rest) q := by
  intro T hT X
  obtain ⟨st1, hrun, hend, hW, hsm⟩ := X.leaveThrown q (g := F0 m pc ls rest) rfl rfl rfl hout hlocks
  have hcell9 : (T.setFrames (.throwing q :: below)).heap[q]? = some ce := by
    show T.heap[q]? = some ce
    rw [hT]; exact hcell
  exact ⟨_, st1, .threw q, hrun, hend, Or.inr ⟨q, rfl, E, ce, locs, hx _ hT hW.alike, hcell9, hv, hcl, hW, hsm.mono hc hs, hf⟩⟩
theorem vx_frame {U : State} {k n : Nat} (h : s.sameButNew ({ U with vm := s.vm } : State) locs k n) : s.heap.size ≤ U.heap.size ∧ ∀ q : Nat, q < s.heap.size → (∀ z ∈ locs, z.base ≠ q) → U.heap[q]? = s.heap[q]? := by
  obtain ⟨-, h2, -, -, -, h6⟩ := h
  refine ⟨h2, fun q hq hz => ?_⟩
  obtain ⟨c9, e1, e2, e3, e4⟩ := h6 q _ (Array.getElem?_eq_getElem hq)
  have hs : c9.slots = (s.heap[q]).slots := Array.ext_getElem? fun i => e4 i fun hm => hz _ hm rfl
  have h9 : c9 = s.heap[q] := by
    rw [hs] at e2
    exact e2
  have e5 : U.heap[q]? = some c9 := e1
  rw [e5, h9, Array.getElem?_eq_getElem hq]
/-- the words of a throw but the four that speak of the heap -/
def vx_no (w : Cond) : Bool := decide (w ≠ .isRef (.static Bundle.tN "UNASSIGNED_STACK" Bundle.steD)) && decide (w ≠ .isRef (.static Bundle.tN "SUPPRESSED_SENTINEL" Bundle.listD)) && decide (w ≠ .laysStatic Bundle.tN "UNASSIGNED_STACK" Bundle.steD) && decide (w ≠ .laysStatic Bundle.tN "SUPPRESSED_SENTINEL" Bundle.listD)
def vx_at0 (own : String) (ic : Nat) (X : String) (names : List String) : List Cond := (Bundle.ownAtoms0 own ic X names).filter vx_no
def vx_atS (own : String) (ic : Nat) (X : String) (names : List String) : List Cond := (Bundle.ownAtoms own ic X names).filter vx_no
/-- a word that the tables alone decide, or a good one -/
def vx_ot (w : Cond) : Bool := w.onTables || goodWord w
theorem vx_ot_at {args a' : Array Value} {s U : State} {w : Cond} (hW : s.WarmedH U.vm) (hvm : s.vm = U.vm) (hg : vx_ot w = true) (h : w.before args s = true) : w.before a' U = true := by
  simp only [vx_ot, Bool.or_eq_true] at hg
  rcases hg with hg | hg
  · exact va_tabs hg hvm h
  · exact word_at hW (good_of_word hg) h
/-- a list's words: the good ones out of the method's own list, the others by premises of their own -/
theorem vx_hat {args : Array Value} {s : State} {L B : List Cond} (h1 : ∀ w ∈ L.filter goodWord, w.before args s = true) (h2 : ∀ w ∈ L.filter (fun w => !goodWord w), w ∈ B) (h3 : ∀ w ∈ B, w.before args s = true) : ∀ w ∈ L, w.before args s = true := by
  intro w hw
  by_cases g : goodWord w = true
  · exact h1 w (List.mem_filter.mpr ⟨hw, g⟩)
  · refine h3 w (h2 w (List.mem_filter.mpr ⟨hw, ?_⟩))
    show (!goodWord w) = true
    cases hgw : goodWord w
    · rfl
    · exact absurd hgw g
theorem vx_c {args : Array Value} {s : State} {w : Cond} {B : List Cond} (h : w.before args s = true) (t : ∀ w ∈ B, w.before args s = true) : ∀ w' ∈ w :: B, w'.before args s = true := fun w' h' => (List.mem_cons.mp h').elim (fun e => by rw [e]; exact h) (t w')
theorem vx_n {args : Array Value} {s : State} : ∀ w ∈ ([] : List Cond), w.before args s = true := fun _ h => nomatch h
theorem vx_own {args : Array Value} {s : State} {L : List Cond} (h1 : ∀ w ∈ L.filter vx_no, w.before args s = true)
    (hU : (Cond.isRef (.static Bundle.tN "UNASSIGNED_STACK" Bundle.steD)).before args s = true) (hN : (Cond.isRef (.static Bundle.tN "SUPPRESSED_SENTINEL" Bundle.listD)).before args s = true)
    (lU : (Cond.laysStatic Bundle.tN "UNASSIGNED_STACK" Bundle.steD).before args s = true) (lN : (Cond.laysStatic Bundle.tN "SUPPRESSED_SENTINEL" Bundle.listD).before args s = true) : ∀ w ∈ L, w.before args s = true := by
  intro w hw
  by_cases e1 : w = .isRef (.static Bundle.tN "UNASSIGNED_STACK" Bundle.steD)
  · rw [e1]; exact hU
  · by_cases e2 : w = .isRef (.static Bundle.tN "SUPPRESSED_SENTINEL" Bundle.listD)
    · rw [e2]; exact hN
    · by_cases e3 : w = .laysStatic Bundle.tN "UNASSIGNED_STACK" Bundle.steD
      · rw [e3]; exact lU
      · by_cases e4 : w = .laysStatic Bundle.tN "SUPPRESSED_SENTINEL" Bundle.listD
        · rw [e4]; exact lN
        · exact h1 w (List.mem_filter.mpr ⟨hw, by unfold vx_no; rw [decide_eq_true e1, decide_eq_true e2, decide_eq_true e3, decide_eq_true e4]; rfl⟩)
/-- where a static field lies, its class's statics cell in H -/
def vx_L (C n d : String) (A : Nat → Prop) (U : State) (H : Heap) : Prop := ∃ (c : ClassId) (k : Class) (i : Nat) (f : Field) (a : Nat) (cell : Cell), U.vm.findClass C = some c ∧ U.fieldFound? C n d = some (c, k, i, f) ∧ f.isStatic = true ∧ k.statics = some a ∧ H[a]? = some cell ∧ cell.vm.isStatics = true ∧ cell.cls = c ∧ f.slot < cell.slots.size ∧ k.staticTypes[f.slot]? = some f.type ∧ ¬ A a
theorem vx_L.moved {C n d : String} {A : Nat → Prop} {u U : State} {H : Heap} (hvm : u.vm.Alike U.vm) (h : vx_L C n d A u H) : vx_L C n d A U H := by
  obtain ⟨c, k, i, f, a, cell, h1, h2, h3, h4, h5, h6, h7, h8, h9, h10⟩ := h
  obtain ⟨k', hi', he⟩ := State.fieldFound?_setVm hvm h2
  exact ⟨c, k', i, f, a, cell, by rw [hvm.findClass]; exact h1, hi', h3, by rw [he]; exact h4, h5, h6, h7, h8, by rw [he]; exact h9, h10⟩
theorem vx_L.kept {C n d : String} {A : Nat → Prop} {U : State} {H H1 : Heap} (h : vx_L C n d A U H) (hq : ∀ a : Nat, a < H.size → ¬ A a → H1[a]? = H[a]?) : vx_L C n d A U H1 := by
  obtain ⟨c, k, i, f, a, cell, h1, h2, h3, h4, h5, h6, h7, h8, h9, h10⟩ := h
  exact ⟨c, k, i, f, a, cell, h1, h2, h3, h4, by rw [hq a (Array.getElem?_eq_some_iff.mp h5).1 h10]; exact h5, h6, h7, h8, h9, h10⟩
theorem vx_L.narrow {C n d : String} {A B : Nat → Prop} {U : State} {H : Heap} (h : vx_L C n d A U H) (hAB : ∀ q, B q → A q) : vx_L C n d B U H := by
  obtain ⟨c, k, i, f, a, cell, h1, h2, h3, h4, h5, h6, h7, h8, h9, h10⟩ := h
  exact ⟨c, k, i, f, a, cell, h1, h2, h3, h4, h5, h6, h7, h8, h9, fun z => h10 (hAB _ z)⟩
theorem vx_L.word {C n d : String} {A : Nat → Prop} {s : State} {args : Array Value} (h : vx_L C n d A s s.heap) : (Cond.laysStatic C n d).before args s = true := by
  obtain ⟨c, k, i, f, a, cell, h1, h2, h3, h4, h5, h6, h7, h8, h9, -⟩ := h
  show (Cond.laysStatic C n d).holds args s none s [] = true
  exact Cond.laysStatic_of h1 h2 h3 h4 h5 h6 h7 h8 h9
/-- .. and what it holds: null or some reference -/
def vx_Zq (C n d : String) (A : Nat → Prop) (U : State) (H : Heap) : Prop := va_Zq C n d A U H ∧ vx_L C n d A U H
theorem vx_Zq.moved {C n d : String} {A : Nat → Prop} {u U : State} {H : Heap} (hvm : u.vm.Alike U.vm) (h : vx_Zq C n d A u H) : vx_Zq C n d A U H := ⟨va_Zq.moved hvm h.1, vx_L.moved hvm h.2⟩
theorem vx_Zq.kept {C n d : String} {A : Nat → Prop} {U : State} {H H1 : Heap} (h : vx_Zq C n d A U H) (hq : ∀ a : Nat, a < H.size → ¬ A a → H1[a]? = H[a]?) : vx_Zq C n d A U H1 := ⟨va_Zq.kept h.1 hq, vx_L.kept h.2 hq⟩
theorem vx_Zq.narrow {C n d : String} {A B : Nat → Prop} {U : State} {H : Heap} (h : vx_Zq C n d A U H) (hAB : ∀ q, B q → A q) : vx_Zq C n d B U H := ⟨va_Zq.narrow h.1 hAB, vx_L.narrow h.2 hAB⟩
theorem vx_Zqof {args : Array Value} {s : State} {C n d : String} {A : Nat → Prop} (hl : (Cond.laysStatic C n d).before args s = true) (hini : (Cond.initialized C).before args s = true) (h : (Cond.isRef (.static C n d)).before args s = true) (hA : ∀ a : Nat, a < s.heap.size → ¬ A a) : vx_Zq C n d A s s.heap := by
  refine ⟨va_Zqof hl hini h hA, ?_⟩
  obtain ⟨c, k, i, f, a, cell, h1, h2, h3, h4, h5, h6, h7, h8, h9⟩ := Cond.laysStatic_spec hl
  exact ⟨c, k, i, f, a, cell, h1, h2, h3, h4, h5, h6, h7, h8, h9, hA a (Array.getElem?_eq_some_iff.mp h5).1⟩
theorem vx_isRef {C n d : String} {v : Value} {A : Nat → Prop} {s : State} {args : Array Value} (h : va_Z C n d v A s s.heap) (hv : v.isRef = true) : (Cond.isRef (.static C n d)).before args s = true := by
  obtain ⟨cf, kf, fi, f, a, cell, h1, h2, h3, h4, h5, h6, h7, -⟩ := h
  have he : (Term.static C n d).eval args s none [] s = some v := by
    simp [Term.eval, State.fieldNamed?, h1, h2, h4, h5, h6, h7]
  simp only [Cond.before, Cond.holds, Cond.value, he]
  cases v <;> simp_all [Value.isRef]
theorem vx_isRefq {C n d : String} {A : Nat → Prop} {s : State} {args : Array Value} (h : va_Zq C n d A s s.heap) : (Cond.isRef (.static C n d)).before args s = true := by
  rcases h with h | ⟨t, h⟩
  · exact vx_isRef h rfl
  · exact vx_isRef h rfl
/-- the same frame, seen from here: as if the method were called anew in this heap -/
theorem vx_rebase {T : State} (X : Stand p l e R s m args below meth c T locs cells slots) {R' : Room} (hf : R'.frames ≤ R.frames) (hl : R'.locals ≤ R.locals) (hc : cells + R'.cells ≤ R.cells) (hs : slots + R'.slots ≤ R.slots) :
    Stand p l e R' ((T.setVm s.vm).setFrames (.invoking m args :: below)) m args below meth c T [] 0 0 := by
  have htop : (T.setVm s.vm).topJava?.isSome := X.here.top
  have hF : ((T.setVm s.vm).setFrames (.invoking m args :: below)).frames = .invoking m args :: below := State.frames_setFrames _ (State.cur_lt_of_top htop)
  obtain ⟨g₀, hg0⟩ := Option.isSome_iff_exists.mp htop
  obtain ⟨r, hr⟩ := State.topJava?_eq_some.mp hg0
  have hl9 : e.platform.stackLimits (T.setVm s.vm).me = e.platform.stackLimits s.me := X.limits
  have hb9 : (T.setVm s.vm).me.stackBytes = s.me.stackBytes := X.bytes
  refine ⟨X.admits, X.cas, X.clock, hF, ?_, X.hears, X.method, X.code, X.here, X.tail, X.warmed, ?_, ?_, ?_⟩
  · have h := X.room
    have hU : ((T.setVm s.vm).setFrames (.invoking m args :: below)).localsInUse = s.localsInUse := by
      rw [State.localsInUse_invoking hF (meth := meth) (c := c) X.method X.code, State.localsInUse_invoking X.frames X.method X.code]
    simp only [State.hasRoom, Bool.and_eq_true, decide_eq_true_eq] at h ⊢
    obtain ⟨⟨⟨⟨h1, h2, h3, h4, h5, h6⟩, h7⟩, h8⟩, h9⟩ := h
    rw [X.frames, List.length_cons] at h2 h3
    have q1 := X.heapSize
    have q2 := X.used
    simp only [hF, hU, List.length_cons, State.stackLimits_setFrames, State.stackBytes_setFrames, hl9, hb9]
    refine ⟨⟨⟨⟨by omega, by omega, by omega, by omega, by omega, h6⟩, ?_⟩, ?_⟩, X.book⟩
    · show T.heap.size + R'.cells ≤ e.platform.maxCells
      omega
    · show T.slotsUsed + R'.slots ≤ e.platform.maxSlots
      omega
  · rw [State.stackLimits_setFrames]; rfl
  · rw [State.stackBytes_setFrames]; rfl
  · refine ⟨?_, Nat.le_refl _, Nat.le_refl _, ?_, ?_, fun a c9 h9 => ⟨c9, h9, rfl, rfl, fun _ _ => rfl⟩⟩
    · obtain ⟨t, ht, -⟩ := State.frames_cons hr
      show T.setVm s.vm = { ((T.setVm s.vm).setFrames (.invoking m args :: below)).setFrames (T.setVm s.vm).frames with heap := T.heap, slotsUsed := T.slotsUsed }
      rw [State.setFrames_setFrames, State.setFrames_self ht]
      rfl
    · show T.slotsUsed = T.slotsUsed + ((T.heap.toList.drop T.heap.size).map (·.slots.size)).sum
      rw [List.drop_eq_nil_of_le (Nat.le_of_eq Array.length_toList)]
      rfl
    · show ((T.heap.toList.drop T.heap.size).map (·.slots.size)).sum ≤ 0
      rw [List.drop_eq_nil_of_le (Nat.le_of_eq Array.length_toList)]
      exact Nat.le_refl _
/-- 'throw new E()': new; dup; invokespecial; athrow -/
theorem vx_throw0 {cc : ByteArray} {pc : Nat} (hexec : p.tables.exec = Jvm.exec) (hb : c.code = cc) (hl : l.stackTraces = false) {own cls : String} {names : List String} {ik ic mc ms : Nat} {A : Nat → Prop}
    (hown : s.vm.findClass own = some m.cls) (hcls : Bundle.fit cls = true) (hnames : ∀ n ∈ names, Bundle.fit n = true)
    (hk : (Cond.classLink own ik cls).before args s = true) (hini : (Cond.initialized cls).before args s = true) (hat : ∀ w ∈ vx_at0 own ic cls names, w.before args s = true)
    (hgood : ∀ w ∈ Cond.classLink own ik cls :: Cond.initialized cls :: vx_at0 own ic cls names, vx_ot w = true)
    (hU : vx_Zq Bundle.tN "UNASSIGNED_STACK" Bundle.steD A s s.heap) (hN : vx_Zq Bundle.tN "SUPPRESSED_SENTINEL" Bundle.listD A s s.heap) (hS : va_S A s.heap H locs) (hsize : ls.size = c.maxLocals)
    (d0 : decode cc pc = .ok (.new ik, 3)) (d3 : decode cc (pc + 3) = .ok (.dup, 1)) (d4 : decode cc (pc + 4) = .ok (.invokespecial ic, 3)) (d7 : decode cc (pc + 7) = .ok (.athrow, 1))
    (hout : ∀ x ∈ c.exceptionTable.toList, covers x (pc + 7) = false)
    (hRframes : names.length + 3 < R.frames) (hRlocals : (rest.map fun v => v.category).sum + (13 * (names.length + 1) + 42) ≤ R.locals) (hRcells : cells + 1 ≤ R.cells) (hRslots : slots + 6 ≤ R.slots) (hlocks : meth.locks = false)
    (hx : ∀ t : State, s.vm.Alike t.vm → H.size ≤ t.heap.size → (∀ q : Nat, q < H.size → t.heap[q]? = H[q]?) → XC cls s t)
    (hf : ∀ z ∈ locs, free z.base) (hc : cells + 1 ≤ mc) (hs : slots + 6 ≤ ms) :
    W p l e R s m args below meth c H locs cells slots (vx_MQ below Qc XC args s mc ms free) (F0 m pc ls rest) := by
  intro T hT X
  have htr : e.platform.stackTraces = false := (show e.platform.stackTraces = l.stackTraces by rw [X.admits.platform]).trans hl
  have Y := vx_rebase X (R' := { frames := R.frames, locals := R.locals, cells := 1, slots := 6 }) (Nat.le_refl _) (Nat.le_refl _) hRcells hRslots
  obtain ⟨s', hA⟩ : ∃ z, z = (T.setVm s.vm).setFrames (.invoking m args :: below) := ⟨_, rfl⟩
  rw [← hA] at Y
  have hvm : s'.vm = s.vm := by rw [hA]; rfl
  have hhp : s'.heap = H := by rw [hA]; exact hT
  have hW0 : s.WarmedH s'.vm := by rw [hvm]; exact State.WarmedH.refl s
  have hat' : ∀ w ∈ vx_at0 own ic cls names, w.before args s' = true := fun w hw => vx_ot_at hW0 hvm.symm (hgood w (List.mem_cons_of_mem _ (List.mem_cons_of_mem _ hw))) (hat w hw)
  have hk' : (Cond.classLink own ik cls).before args s' = true := vx_ot_at hW0 hvm.symm (hgood _ List.mem_cons_self) hk
  have hini' : (Cond.initialized cls).before args s' = true := vx_ot_at hW0 hvm.symm (hgood _ (List.mem_cons_of_mem _ List.mem_cons_self)) hini
  have hU' : vx_Zq Bundle.tN "UNASSIGNED_STACK" Bundle.steD A s' s'.heap := by rw [hhp]; exact vx_Zq.moved hW0.alike (hU.kept hS.2.1)
  have hN' : vx_Zq Bundle.tN "SUPPRESSED_SENTINEL" Bundle.listD A s' s'.heap := by rw [hhp]; exact vx_Zq.moved hW0.alike (hN.kept hS.2.1)
  have h : ∀ w ∈ Bundle.ownAtoms0 own ic cls names, w.before args s' = true := vx_own hat' (vx_isRefq hU'.1) (vx_isRefq hN'.1) hU'.2.word hN'.2.word
  have hown' : s'.vm.findClass own = some m.cls := by rw [hvm]; exact hown
  have hins : (Cond.instantiable cls 6).before args s' = true := h _ (by simp [Bundle.ownAtoms0])
  obtain ⟨vm₁, cX, kX, hfX, hkX, -, -, X₁, st1⟩ := Y.newCold hexec (own := own) (C := cls) (index := ik) (n := 6) hown' hk' hins hini'
    (g := F0 m pc ls rest) rfl (by rw [hb]; exact d0) (Nat.le_refl _) (Nat.le_refl _)
  generalize hT1 : (T.setVm vm₁).pushCell { cls := cX, slots := kX.instanceTypes.map defaultValue, vm := .none } = T1 at X₁ st1
  have hcat : (Value.ref T.heap.size).category = 1 := rfl
  have hcellA : T1.heap[T.heap.size]? = some (freshCell cX kX) := by rw [← hT1]; exact State.heap_pushCell_size _ _
  have d3' : decode c.code (pc + 3) = .ok (.dup, 1) := by rw [hb]; exact d3
  obtain ⟨U, hsteps, hrun, hend, hW, hsame, ce, hce, hO⟩ := X₁.ctorThrow0 hexec htr (own := own) (cls := cls) (names := names) (ic := ic) hown' hcls hnames h (fun x hx => nomatch hx) hfX hkX hcellA (by rw [hhp, hT]; exact Nat.le_refl _)
    (g := { method := m, pc := pc + 4, locals := ls, stack := .ref T.heap.size :: .ref T.heap.size :: rest, locked := none }) rfl hsize rfl rfl (rest := rest) rfl
    (by rw [hb]; exact d4) (by rw [hb]; exact d7) hout hRframes (by simp only [List.map_cons, List.sum_cons, hcat]; omega) hlocks
  obtain ⟨f1, f2⟩ := vx_frame hsame
  rw [hhp] at f1 f2
  have hWs : s.WarmedH U.vm := State.WarmedH.trans hW0 hW
  have hcl : s.vm.findClass cls = some ce.cls := by
    have h9 := hO.cls
    rw [hvm] at h9
    exact h9
  have hall : s.sameButNew ({ U with vm := s.vm } : State) locs mc ms := by
    subst hA
    obtain ⟨e1, e2⟩ := hsame
    rw [State.setFrames_setFrames] at e1
    have h2 : (T.setVm s.vm).sameButNew ({ U with vm := s.vm } : State) [] (0 + 1) (0 + 6) := ⟨e1, e2⟩
    have h3 := X.same.trans h2
    rw [List.append_nil] at h3
    exact h3.mono hc hs
  refine ⟨U, ?_, .threw T.heap.size, hrun, hend, Or.inr ⟨T.heap.size, rfl, cls, ce, locs, hx U hWs.alike f1 (fun q hq => f2 q hq (fun z hz => nomatch hz)), hce, hO.vm, hcl, hWs, hall, hf⟩⟩
  refine st1 _ ?_
  show Steps p.tables e below (T1.setTop { method := m, pc := pc + 3, locals := ls, stack := .ref T.heap.size :: rest, locked := none }) _
  jvm_step X₁.here [X₁.here.top, hexec, d3', Value.category]
  exact hsteps
/-- 'throw new E("text")': new; dup; ldc; invokespecial; athrow -/
theorem vx_throwS {cc : ByteArray} {pc : Nat} (hexec : p.tables.exec = Jvm.exec) (hb : c.code = cc) (hl : l.stackTraces = false) {own cls text : String} {names : List String} {ik is ic mc ms sa : Nat} {A : Nat → Prop}
    (hown : s.vm.findClass own = some m.cls) (hcls : Bundle.fit cls = true) (hnames : ∀ n ∈ names, Bundle.fit n = true)
    (hk : (Cond.classLink own ik cls).before args s = true) (hini : (Cond.initialized cls).before args s = true) (hstr : vk_R own is text sa s) (hat : ∀ w ∈ vx_atS own ic cls names, w.before args s = true)
    (hgood : ∀ w ∈ Cond.classLink own ik cls :: Cond.initialized cls :: vx_atS own ic cls names, vx_ot w = true)
    (hU : vx_Zq Bundle.tN "UNASSIGNED_STACK" Bundle.steD A s s.heap) (hN : vx_Zq Bundle.tN "SUPPRESSED_SENTINEL" Bundle.listD A s s.heap) (hS : va_S A s.heap H locs) (hsize : ls.size = c.maxLocals)
    (d0 : decode cc pc = .ok (.new ik, 3)) (d3 : decode cc (pc + 3) = .ok (.dup, 1)) (d4 : decode cc (pc + 4) = .ok (.ldc is, 2)) (d6 : decode cc (pc + 6) = .ok (.invokespecial ic, 3)) (d9 : decode cc (pc + 9) = .ok (.athrow, 1))
    (hout : ∀ x ∈ c.exceptionTable.toList, covers x (pc + 9) = false)
    (hRframes : names.length + 3 < R.frames) (hRlocals : (rest.map fun v => v.category).sum + (13 * (names.length + 1) + 43) ≤ R.locals) (hRcells : cells + 1 ≤ R.cells) (hRslots : slots + 6 ≤ R.slots) (hlocks : meth.locks = false)
    (hx : ∀ t : State, s.vm.Alike t.vm → H.size ≤ t.heap.size → (∀ q : Nat, q < H.size → t.heap[q]? = H[q]?) → XC cls s t)
    (hf : ∀ z ∈ locs, free z.base) (hc : cells + 1 ≤ mc) (hs : slots + 6 ≤ ms) :
    W p l e R s m args below meth c H locs cells slots (vx_MQ below Qc XC args s mc ms free) (F0 m pc ls rest) := by
  intro T hT X
  have htr : e.platform.stackTraces = false := (show e.platform.stackTraces = l.stackTraces by rw [X.admits.platform]).trans hl
  have Y := vx_rebase X (R' := { frames := R.frames, locals := R.locals, cells := 1, slots := 6 }) (Nat.le_refl _) (Nat.le_refl _) hRcells hRslots
  obtain ⟨s', hA⟩ : ∃ z, z = (T.setVm s.vm).setFrames (.invoking m args :: below) := ⟨_, rfl⟩
  rw [← hA] at Y
  have hvm : s'.vm = s.vm := by rw [hA]; rfl
  have hhp : s'.heap = H := by rw [hA]; exact hT
  have hW0 : s.WarmedH s'.vm := by rw [hvm]; exact State.WarmedH.refl s
  have hat' : ∀ w ∈ vx_atS own ic cls names, w.before args s' = true := fun w hw => vx_ot_at hW0 hvm.symm (hgood w (List.mem_cons_of_mem _ (List.mem_cons_of_mem _ hw))) (hat w hw)
  have hk' : (Cond.classLink own ik cls).before args s' = true := vx_ot_at hW0 hvm.symm (hgood _ List.mem_cons_self) hk
  have hini' : (Cond.initialized cls).before args s' = true := vx_ot_at hW0 hvm.symm (hgood _ (List.mem_cons_of_mem _ List.mem_cons_self)) hini
  have hU' : vx_Zq Bundle.tN "UNASSIGNED_STACK" Bundle.steD A s' s'.heap := by rw [hhp]; exact vx_Zq.moved hW0.alike (hU.kept hS.2.1)
  have hN' : vx_Zq Bundle.tN "SUPPRESSED_SENTINEL" Bundle.listD A s' s'.heap := by rw [hhp]; exact vx_Zq.moved hW0.alike (hN.kept hS.2.1)
  have h : ∀ w ∈ Bundle.ownAtoms own ic cls names, w.before args s' = true := vx_own hat' (vx_isRefq hU'.1) (vx_isRefq hN'.1) hU'.2.word hN'.2.word
  have hown' : s'.vm.findClass own = some m.cls := by rw [hvm]; exact hown
  have hins : (Cond.instantiable cls 6).before args s' = true := h _ (by simp [Bundle.ownAtoms])
  obtain ⟨vm₁, cX, kX, hfX, hkX, -, -, X₁, st1⟩ := Y.newCold hexec (own := own) (C := cls) (index := ik) (n := 6) hown' hk' hins hini'
    (g := F0 m pc ls rest) rfl (by rw [hb]; exact d0) (Nat.le_refl _) (Nat.le_refl _)
  generalize hT1 : (T.setVm vm₁).pushCell { cls := cX, slots := kX.instanceTypes.map defaultValue, vm := .none } = T1 at X₁ st1
  have hcat : (Value.ref T.heap.size).category = 1 := rfl
  have hcellA : T1.heap[T.heap.size]? = some (freshCell cX kX) := by rw [← hT1]; exact State.heap_pushCell_size _ _
  have d3' : decode c.code (pc + 3) = .ok (.dup, 1) := by rw [hb]; exact d3
  have d4' : decode c.code (pc + 4) = .ok (.ldc is, 2) := by rw [hb]; exact d4
  have hstr' : vk_R own is text sa s' := vk_R.warm hW0 hstr
  obtain ⟨U, hsteps, hrun, hend, hW, hsame, ce, hce, hO⟩ := X₁.ctorThrowS hexec htr (own := own) (cls := cls) (names := names) (ic := ic) hown' hcls hnames h (fun x hx => nomatch hx) hfX hkX hcellA (by rw [hhp, hT]; exact Nat.le_refl _) (msg := .ref sa) rfl
    (g := { method := m, pc := pc + 6, locals := ls, stack := .ref sa :: .ref T.heap.size :: .ref T.heap.size :: rest, locked := none }) rfl hsize rfl rfl (rest := rest) rfl
    (by rw [hb]; exact d6) (by rw [hb]; exact d9) hout hRframes (by simp only [List.map_cons, List.sum_cons, hcat]; omega) hlocks
  obtain ⟨f1, f2⟩ := vx_frame hsame
  rw [hhp] at f1 f2
  have hWs : s.WarmedH U.vm := State.WarmedH.trans hW0 hW
  have hcl : s.vm.findClass cls = some ce.cls := by
    have h9 := hO.cls
    rw [hvm] at h9
    exact h9
  have hall : s.sameButNew ({ U with vm := s.vm } : State) locs mc ms := by
    subst hA
    obtain ⟨e1, e2⟩ := hsame
    rw [State.setFrames_setFrames] at e1
    have h2 : (T.setVm s.vm).sameButNew ({ U with vm := s.vm } : State) [] (0 + 1) (0 + 6) := ⟨e1, e2⟩
    have h3 := X.same.trans h2
    rw [List.append_nil] at h3
    exact h3.mono hc hs
  refine ⟨U, ?_, .threw T.heap.size, hrun, hend, Or.inr ⟨T.heap.size, rfl, cls, ce, locs, hx U hWs.alike f1 (fun q hq => f2 q hq (fun z hz => nomatch hz)), hce, hO.vm, hcl, hWs, hall, hf⟩⟩
  refine st1 _ ?_
  show Steps p.tables e below (T1.setTop { method := m, pc := pc + 3, locals := ls, stack := .ref T.heap.size :: rest, locked := none }) _
  jvm_step X₁.here [X₁.here.top, hexec, d3', Value.category]
  exact X₁.ldcString hexec (own := own) (text := text) (index := is) (a := sa) hown' hstr'.1 hstr'.2
    (g := { method := m, pc := pc + 4, locals := ls, stack := .ref T.heap.size :: .ref T.heap.size :: rest, locked := none }) rfl d4' _ hsteps
/-- 'throw new E("text")', the text by a wide index -/
theorem vx_throwSW {cc : ByteArray} {pc : Nat} (hexec : p.tables.exec = Jvm.exec) (hb : c.code = cc) (hl : l.stackTraces = false) {own cls text : String} {names : List String} {ik is ic mc ms sa : Nat} {A : Nat → Prop}
    (hown : s.vm.findClass own = some m.cls) (hcls : Bundle.fit cls = true) (hnames : ∀ n ∈ names, Bundle.fit n = true)
    (hk : (Cond.classLink own ik cls).before args s = true) (hini : (Cond.initialized cls).before args s = true) (hstr : vk_R own is text sa s) (hat : ∀ w ∈ vx_atS own ic cls names, w.before args s = true)
    (hgood : ∀ w ∈ Cond.classLink own ik cls :: Cond.initialized cls :: vx_atS own ic cls names, vx_ot w = true)
    (hU : vx_Zq Bundle.tN "UNASSIGNED_STACK" Bundle.steD A s s.heap) (hN : vx_Zq Bundle.tN "SUPPRESSED_SENTINEL" Bundle.listD A s s.heap) (hS : va_S A s.heap H locs) (hsize : ls.size = c.maxLocals)
    (d0 : decode cc pc = .ok (.new ik, 3)) (d3 : decode cc (pc + 3) = .ok (.dup, 1)) (d4 : decode cc (pc + 4) = .ok (.ldc_w is, 3)) (d7 : decode cc (pc + 7) = .ok (.invokespecial ic, 3)) (d10 : decode cc (pc + 10) = .ok (.athrow, 1))
    (hout : ∀ x ∈ c.exceptionTable.toList, covers x (pc + 10) = false)
    (hRframes : names.length + 3 < R.frames) (hRlocals : (rest.map fun v => v.category).sum + (13 * (names.length + 1) + 43) ≤ R.locals) (hRcells : cells + 1 ≤ R.cells) (hRslots : slots + 6 ≤ R.slots) (hlocks : meth.locks = false)
    (hx : ∀ t : State, s.vm.Alike t.vm → H.size ≤ t.heap.size → (∀ q : Nat, q < H.size → t.heap[q]? = H[q]?) → XC cls s t)
    (hf : ∀ z ∈ locs, free z.base) (hc : cells + 1 ≤ mc) (hs : slots + 6 ≤ ms) :
    W p l e R s m args below meth c H locs cells slots (vx_MQ below Qc XC args s mc ms free) (F0 m pc ls rest) := by
  intro T hT X
  have htr : e.platform.stackTraces = false := (show e.platform.stackTraces = l.stackTraces by rw [X.admits.platform]).trans hl
  have Y := vx_rebase X (R' := { frames := R.frames, locals := R.locals, cells := 1, slots := 6 }) (Nat.le_refl _) (Nat.le_refl _) hRcells hRslots
  obtain ⟨s', hA⟩ : ∃ z, z = (T.setVm s.vm).setFrames (.invoking m args :: below) := ⟨_, rfl⟩
  rw [← hA] at Y
  have hvm : s'.vm = s.vm := by rw [hA]; rfl
  have hhp : s'.heap = H := by rw [hA]; exact hT
  have hW0 : s.WarmedH s'.vm := by rw [hvm]; exact State.WarmedH.refl s
  have hat' : ∀ w ∈ vx_atS own ic cls names, w.before args s' = true := fun w hw => vx_ot_at hW0 hvm.symm (hgood w (List.mem_cons_of_mem _ (List.mem_cons_of_mem _ hw))) (hat w hw)
  have hk' : (Cond.classLink own ik cls).before args s' = true := vx_ot_at hW0 hvm.symm (hgood _ List.mem_cons_self) hk
  have hini' : (Cond.initialized cls).before args s' = true := vx_ot_at hW0 hvm.symm (hgood _ (List.mem_cons_of_mem _ List.mem_cons_self)) hini
  have hU' : vx_Zq Bundle.tN "UNASSIGNED_STACK" Bundle.steD A s' s'.heap := by rw [hhp]; exact vx_Zq.moved hW0.alike (hU.kept hS.2.1)
  have hN' : vx_Zq Bundle.tN "SUPPRESSED_SENTINEL" Bundle.listD A s' s'.heap := by rw [hhp]; exact vx_Zq.moved hW0.alike (hN.kept hS.2.1)
  have h : ∀ w ∈ Bundle.ownAtoms own ic cls names, w.before args s' = true := vx_own hat' (vx_isRefq hU'.1) (vx_isRefq hN'.1) hU'.2.word hN'.2.word
  have hown' : s'.vm.findClass own = some m.cls := by rw [hvm]; exact hown
  have hins : (Cond.instantiable cls 6).before args s' = true := h _ (by simp [Bundle.ownAtoms])
  obtain ⟨vm₁, cX, kX, hfX, hkX, -, -, X₁, st1⟩ := Y.newCold hexec (own := own) (C := cls) (index := ik) (n := 6) hown' hk' hins hini'
    (g := F0 m pc ls rest) rfl (by rw [hb]; exact d0) (Nat.le_refl _) (Nat.le_refl _)
  generalize hT1 : (T.setVm vm₁).pushCell { cls := cX, slots := kX.instanceTypes.map defaultValue, vm := .none } = T1 at X₁ st1
  have hcat : (Value.ref T.heap.size).category = 1 := rfl
  have hcellA : T1.heap[T.heap.size]? = some (freshCell cX kX) := by rw [← hT1]; exact State.heap_pushCell_size _ _
  have d3' : decode c.code (pc + 3) = .ok (.dup, 1) := by rw [hb]; exact d3
  have d4' : decode c.code (pc + 4) = .ok (.ldc_w is, 3) := by rw [hb]; exact d4
  have hstr' : vk_R own is text sa s' := vk_R.warm hW0 hstr
  obtain ⟨U, hsteps, hrun, hend, hW, hsame, ce, hce, hO⟩ := X₁.ctorThrowS hexec htr (own := own) (cls := cls) (names := names) (ic := ic) hown' hcls hnames h (fun x hx => nomatch hx) hfX hkX hcellA (by rw [hhp, hT]; exact Nat.le_refl _) (msg := .ref sa) rfl
    (g := { method := m, pc := pc + 7, locals := ls, stack := .ref sa :: .ref T.heap.size :: .ref T.heap.size :: rest, locked := none }) rfl hsize rfl rfl (rest := rest) rfl
    (by rw [hb]; exact d7) (by rw [hb]; exact d10) hout hRframes (by simp only [List.map_cons, List.sum_cons, hcat]; omega) hlocks
  obtain ⟨f1, f2⟩ := vx_frame hsame
  rw [hhp] at f1 f2
  have hWs : s.WarmedH U.vm := State.WarmedH.trans hW0 hW
  have hcl : s.vm.findClass cls = some ce.cls := by
    have h9 := hO.cls
    rw [hvm] at h9
    exact h9
  have hall : s.sameButNew ({ U with vm := s.vm } : State) locs mc ms := by
    subst hA
    obtain ⟨e1, e2⟩ := hsame
    rw [State.setFrames_setFrames] at e1
    have h2 : (T.setVm s.vm).sameButNew ({ U with vm := s.vm } : State) [] (0 + 1) (0 + 6) := ⟨e1, e2⟩
    have h3 := X.same.trans h2
    rw [List.append_nil] at h3
    exact h3.mono hc hs
  refine ⟨U, ?_, .threw T.heap.size, hrun, hend, Or.inr ⟨T.heap.size, rfl, cls, ce, locs, hx U hWs.alike f1 (fun q hq => f2 q hq (fun z hz => nomatch hz)), hce, hO.vm, hcl, hWs, hall, hf⟩⟩
  refine st1 _ ?_
  show Steps p.tables e below (T1.setTop { method := m, pc := pc + 3, locals := ls, stack := .ref T.heap.size :: rest, locked := none }) _
  jvm_step X₁.here [X₁.here.top, hexec, d3', Value.category]
  exact X₁.ldcStringW hexec (own := own) (text := text) (index := is) (a := sa) hown' hstr'.1 hstr'.2
    (g := { method := m, pc := pc + 4, locals := ls, stack := .ref T.heap.size :: .ref T.heap.size :: rest, locked := none }) rfl d4' _ hsteps
end Ends
section Bodies
variable {l : Launch}
theorem vx_ofW {y : MethodName} {ws ws' : List Cond} {rm : Room} {Pc : Array Value → State → Prop} {Qc : Array Value → State → Outcome → State → Prop} {XC : String → State → State → Prop} {mc ms : Nat} {free : Addr → Prop} {cc : ByteArray} {maxL : Nat} {ret : Option FieldType}
    (hy : plainName y.cls = true) (hw : ws = Cond.code y cc maxL ret :: ws')
    (body : ∀ p e s m args below meth c s₁, BodyLoose p l y (headSpec ws rm) cc maxL ret e s m args below meth c s₁ → c.maxLocals = maxL → (∀ x ∈ c.exceptionTable.toList, False) → Pc args s →
      W p l e (headSpec ws rm).room s m args below meth c s.heap [] 0 0 (vx_MQ below Qc XC args s mc ms free) (entryFrame m args maxL)) : vx_Met l y ws rm Pc Qc XC mc ms free := by
  refine MetFree.of_bodyS (code := cc) (maxLocals := maxL) (ret := ret) hy ?_ ?_
  · intro args s m h hn
    obtain ⟨meth, c, h1, h2, h3, h4, h5, h6, -, -⟩ := Cond.code_spec hn (atoms_spec (ws := ws) h _ (by rw [hw]; exact List.mem_cons_self))
    exact ⟨meth, c, h1, h2, h3, h4, h5, h6⟩
  · intro p e s m args below meth c s₁ B hml hP _
    have hh0 : s₁.heap = s.heap := by rw [B.state]; rfl
    have ht : ∀ x ∈ c.exceptionTable.toList, False := by
      obtain ⟨meth9, c9, h1, h2, -, -, -, -, h7, -⟩ := Cond.code_spec B.named (atoms_spec (ws := ws) B.pre _ (by rw [hw]; exact List.mem_cons_self))
      cases Option.some.inj (h1.symm.trans B.method)
      cases Option.some.inj (h2.symm.trans (Stand.of_body B).code)
      intro x hx
      rw [Array.isEmpty_iff.mp h7] at hx
      cases hx
    obtain ⟨t, a1, o, b1, b2, b3⟩ := body p e s m args below meth c s₁ B hml ht hP s₁ hh0 (Stand.of_body B)
    exact ⟨t, o, a1, b1, b2, b3⟩
/-- the table of a body with handlers -/
theorem vx_table {p : Program} {x y : MethodName} {S : Spec} {cc bytes : ByteArray} {maxL maxL' : Nat} {ret ret' : Option FieldType} {e : Env} {s s₁ : State} {m : MethodId} {args : Array Value} {below : List Frame} {meth : Method} {c : Code} {hh : List (Nat × Nat × Nat × Nat)}
    (B : BodyLoose p l y S cc maxL ret e s m args below meth c s₁) (h : (Cond.codeWith y bytes maxL' ret' hh).before args s = true) : c.exceptionTable.toList = tableOf hh := by
  obtain ⟨m9, meth9, c9, hn9, h1, h2, -, -, h6, -⟩ := Cond.codeWith_spec h
  cases Option.some.inj (hn9.symm.trans B.named)
  cases Option.some.inj (h1.symm.trans B.method)
  cases Option.some.inj (h2.symm.trans (Stand.of_body B).code)
  rw [← h6, table_eq]
end Bodies
end VXA
/-! ===== END ===== -/
/-! ===== BEGIN a static call of a method with an exception table ===== -/
section VXS
variable {p : Program} {l : Launch} {e : Env} {R : Room} {s : State} {m : MethodId} {args : Array Value} {below : List Frame} {meth : Method} {c : Code} {T : State} {H : Heap} {locs : List Loc} {cells slots : Nat}
abbrev vx_CSW (R : Room) (s : State) (args : Array Value) (own : String) (index : Nat) (y : MethodName) (bytes : ByteArray) (maxL : Nat) (ret : Option FieldType) (hh : List (Nat × Nat × Nat × Nat)) (ws : List Cond) (rm : Room) (mc ms n : Nat) : Prop :=
  (rm.cells = mc ∧ rm.slots = ms ∧ rm.frames + 1 ≤ R.frames ∧ 8 + (maxL + 11) + rm.locals ≤ R.locals ∧ (∀ w ∈ ws, ∀ (a' : Array Value) (U : State), s.WarmedH U.vm → w.before a' U = true) ∧ Cond.codeWith y bytes maxL ret hh ∈ ws) ∧
  (Cond.codeWith y bytes maxL ret hh).before args s = true ∧ (Cond.initialized y.cls).before args s = true ∧ (y.cls ≠ "java/lang/invoke/MethodHandle" ∧ y.cls ≠ "java/lang/invoke/VarHandle") ∧
  (∀ sig, parseMethodDescriptor y.desc = some sig → n = sig.parameters.length) ∧ (Cond.methodLink own index y).before args s = true ∧ (Cond.static y).before args s = true
theorem vx_cwSW {own : String} {index maxL mc ms : Nat} {y : MethodName} {bytes : ByteArray} {ret : Option FieldType} {hh : List (Nat × Nat × Nat × Nat)} {Ts ws ws' : List Cond} {rm : Room} (n : Nat) (ht : ∀ w ∈ Ts, w.before args s = true) (hT : GoodIn Ts (va_wsS own index y ws)) (hw : ws = Cond.codeWith y bytes maxL ret hh :: ws') (hrc : rm.cells = mc) (hrs : rm.slots = ms)
    (hd : y.cls ≠ "java/lang/invoke/MethodHandle" ∧ y.cls ≠ "java/lang/invoke/VarHandle" ∧ (parseMethodDescriptor y.desc).map (fun d => d.parameters.length) = some n) (hR : rm.frames + 1 ≤ R.frames ∧ 8 + (maxL + 11) + rm.locals ≤ R.locals) :
    vx_CSW R s args own index y bytes maxL ret hh ws rm mc ms n := by
  have ok : ∀ w ∈ va_wsS own index y ws, w.before args s = true := fun w h => ht w (hT w h).1
  have hG : GoodIn Ts ws := fun w h => hT w (by unfold va_wsS; exact List.mem_append_right _ h)
  have hc : Cond.codeWith y bytes maxL ret hh ∈ ws := by rw [hw]; exact List.mem_cons_self
  refine ⟨⟨hrc, hrs, hR.1, hR.2, pay_in ht hG, hc⟩, ht _ (hG _ hc).1, ok _ (by simp [va_wsS]), ⟨hd.1, hd.2.1⟩, fun sig h => ?_, ok _ (by simp [va_wsS]), ok _ (by simp [va_wsS])⟩
  have h2 := hd.2.2
  rw [h] at h2
  exact (Option.some.inj h2).symm
theorem vx_callSW (X : Stand p l e R s m args below meth c T locs cells slots) (hexec : p.tables.exec = Jvm.exec) {own : String} {index : Nat} {y : MethodName} {bytes : ByteArray} {maxL : Nat} {ret : Option FieldType} {hh : List (Nat × Nat × Nat × Nat)}
    (hown : s.vm.findClass own = some m.cls) (hlink : (Cond.methodLink own index y).before args s = true) (hstat : (Cond.static y).before args s = true) (hinit : (Cond.initialized y.cls).before args s = true)
    (hcode : (Cond.codeWith y bytes maxL ret hh).before args s = true) (hy : y.cls ≠ "java/lang/invoke/MethodHandle" ∧ y.cls ≠ "java/lang/invoke/VarHandle")
    {W9 : Nat} {Pre : Pt → Array Value → Prop} {Post : Pt → Array Value → Option Value → Pt → Prop} (hK : Back l R p e below s args y 3 W9 Pre Post)
    {g : JFrame} (hg : g.method = m) (hsize : g.locals.size = c.maxLocals) {argsL rest : List Value} (hlen : ∀ sig, parseMethodDescriptor y.desc = some sig → argsL.length = sig.parameters.length)
    (hstack : g.stack = argsL.reverse ++ rest) (hW : 2 * g.monitorRoom + (rest.map fun v => v.category).sum ≤ W9) (hdg : decode c.code g.pc = .ok (.invokestatic index, 3))
    (hpre : ∀ vm₁, s.WarmedH vm₁ → Pre ⟨T.setVm vm₁, locs, cells, slots⟩ argsL.toArray) :
    ∃ (v : Option Value) (vm₁ : Vm) (B : Pt), s.WarmedH vm₁ ∧ Stand p l e R s m args below meth c B.U B.locs B.cells B.slots ∧ Post ⟨T.setVm vm₁, locs, cells, slots⟩ argsL.toArray v B ∧
      ∀ target, Steps p.tables e below (B.U.setTop { g with pc := g.pc + 3, stack := v.toList ++ rest }) target → Steps p.tables e below (T.setTop g) target := by
  obtain ⟨mk, methM, cM, hnamed, hmethM, -, -, -, -, -, -, hsigM⟩ := Cond.codeWith_spec hcode
  have hstatic : methM.isStatic = true := Cond.static_spec hnamed hmethM hstat
  obtain ⟨kP, hkP, -⟩ := className_of_methodNamed hnamed
  have hinitP : kP.init = .initialized := Cond.initialized_spec (findClass_of_methodNamed hnamed) hkP hinit
  obtain ⟨vm₁, X₁, hstep₁⟩ := X.invokestatic hexec hown hlink hnamed hmethM hstatic hkP hinitP hy (g := g) hg (argsL := argsL) (rest := rest) (hlen _ hsigM) hstack hdg
  obtain ⟨v, B, X', hpost, hsteps⟩ := hK m meth c ⟨T.setVm vm₁, locs, cells, slots⟩ { g with stack := rest } (.invokestatic index) mk argsL.toArray X₁ hg hsize hdg hW (X₁.named hnamed) (hpre vm₁ X₁.warmed)
  exact ⟨v, vm₁, B, X₁.warmed, X', hpost, fun target h => hstep₁ _ fun acts => by rw [doInvoke_state]; exact hsteps.trans h⟩
theorem vx_runSW {y : MethodName} {bytes cc : ByteArray} {maxL nL mc ms n index : Nat} {ret : Option FieldType} {hh : List (Nat × Nat × Nat × Nat)} {ws : List Cond} {rm : Room} {Pc : Array Value → State → Prop} {Qc : Array Value → State → Outcome → State → Prop} {free : Addr → Prop} {Ts : List Cond} {own : String} {As rest : List Value} {g : JFrame}
    (S : CallFix p m c cc nL s args Ts own) (hM : Met l y ws rm Pc Qc mc ms free) (cw : vx_CSW R s args own index y bytes maxL ret hh ws rm mc ms n) (hp : PreS s H Pc As)
    (hg : g.method = m) (hn : As.length = n) (hsize : g.locals.size = nL) (hstack : g.stack = As.reverse ++ rest) (hW : 2 * g.monitorRoom + (rest.map fun v => v.category).sum ≤ 8) (hdg : decode cc g.pc = .ok (.invokestatic index, 3)) (hf : cells + mc ≤ R.cells ∧ slots + ms ≤ R.slots) :
    va_Run p l e R s m args below meth c H locs cells slots mc ms g rest (Qc As.toArray) (free) := by
  obtain ⟨⟨hrc, hrs, hfr, hlo, hws, hcw⟩, hcode, hini, hy, hlen, hl, hstt⟩ := cw
  have hK : Back l R p e below s args y 3 8 (PreOf R mc ms Pc) (PostOf Qc mc ms free) := va_backW (hh := hh) (bytes := bytes) (maxL := maxL) (ret := ret) hM hp.1 hrc hrs hfr hlo hws hcw (fun a' U hW => word_at hW (Or.inl (by first | rfl | simp [Cond.onTables, Cond.keeps, Cond.steady])) hini)
  obtain ⟨hx, hb, hml, ho, -⟩ := S
  intro T hT X
  obtain ⟨v, vm₁, ⟨U', l2, c2, s2⟩, hW₁, X', ⟨g', mk, t, L, e1, e2, hq, h1, hL, h2, h3⟩, st⟩ := vx_callSW X hx (hh := hh) (bytes := bytes) (maxL := maxL) (ret := ret) ho hl hstt hini hcode hy hK hg (hsize.trans hml.symm) (argsL := As) (rest := rest) (fun sig h => hn.trans (hlen sig h)) hstack hW (by rw [hb]; exact hdg)
    (fun vm₁ hW₁ => ⟨hf.1, hf.2, hp.2 (T.setVm vm₁) hT hW₁⟩)
  dsimp only [Pt.U, Pt.locs, Pt.cells, Pt.slots] at X' e1 e2 h1 h2 h3 st
  subst h1; subst h2; subst h3
  exact ⟨v, (T.setVm vm₁).calling g' mk As.toArray, t, U', L, hT, X', hL, e1, e2, hq, st⟩
/-- not caught here, past rows that name other classes: it goes on to the caller -/
theorem vx_outP {p : Program} {l : Launch} {e : Env} {R : Room} {s : State} {m : MethodId} {args : Array Value} {below : List Frame} {meth : Method} {c : Code} {H : Heap} {locs : List Loc} {cells slots : Nat} {free : Addr → Prop} {ls : Array Slot} {rest : List Value} {Qc : Array Value → State → Outcome → State → Prop} {XC : String → State → State → Prop}
    {pc : Nat} {own E : String} {ce : Cell} {q : Addr} {mc ms : Nat} (hown : s.vm.findClass own = some m.cls) (hlocks : meth.locks = false)
    (hpass : ∀ z ∈ c.exceptionTable.toList, covers z pc = false ∨ (z.catchType ≠ 0 ∧ ∃ nm : String, (Cond.classLink own z.catchType nm).before args s = true ∧ va_Nc E nm s)) (hcell : H[q]? = some ce) (hv : ce.vm = .none) (hcl : s.vm.findClass E = some ce.cls)
    (hx : ∀ t : State, t.heap = H → s.vm.Alike t.vm → XC E s t) (hf : ∀ z ∈ locs, free z.base) (hc : cells ≤ mc) (hs : slots ≤ ms) :
    vx_W p l e R s m args below meth c H locs cells slots (vx_MQ below Qc XC args s mc ms free) (F0 m pc ls rest) q := by
  intro T hT X
  have hpl : e.platform.magicAccessors = ({} : Platform).magicAccessors := by rw [X.admits.platform]
  obtain ⟨vm', hW', X', st⟩ := X.outThrough hlocks q (g := F0 m pc ls rest) rfl rfl rfl (cell := ce) (by rw [hT]; exact hcell) (by rw [hv]; rfl)
    (by obtain ⟨k9, h9, -⟩ := Vm.findClass_spec hcl; exact ⟨k9, h9⟩) (fun z hz => by
      rcases hpass z hz with h | ⟨hz0, nm, hl1, hn1⟩
      · exact Or.inl h
      · obtain ⟨c6, hc6, hcl6⟩ := Cond.classLink_spec hown hl1 e.platform hpl
        obtain ⟨a8, b8, h1, h2, h3⟩ := hn1
        cases Option.some.inj (h1.symm.trans hcl)
        cases Option.some.inj (h2.symm.trans hc6)
        exact Or.inr ⟨hz0, _, hcl6, h3⟩)
  obtain ⟨g₀, hfr⟩ := X'.frames_eq
  have hcell9 : ((T.setVm vm').setFrames (.throwing q :: below)).heap[q]? = some ce := by
    show T.heap[q]? = some ce
    rw [hT]; exact hcell
  have hend : Ended ((T.setVm vm').setFrames (.throwing q :: below)) below (.threw q) := State.frames_setFrames _ (State.cur_lt_of_frames hfr)
  refine ⟨(T.setVm vm').setFrames (.throwing q :: below), ?_, .threw q, X'.here.running, hend, Or.inr ⟨q, rfl, E, ce, locs, hx _ hT (X'.ends _).1.alike, hcell9, hv, hcl, (X'.ends _).1, (X'.ends _).2.mono hc hs, hf⟩⟩
  rw [X.pushThrowing_eq]
  exact st
/-- a thing of a world lies in the heap -/
theorem vx_lt {D : va_G} {cl : List vw_C} {ws : va_W} {H1 : Heap} (h : va_P D cl ws H1) {k : Nat} {q : Nat × va_E} (hk : ws[k]? = some q) : q.1 < H1.size := (h k q hk).lt
end VXS
/-! ===== END ===== -/
/-! ===== BEGIN methods with a table of their own: called by a name, returning or throwing ===== -/
section VXH
/-! vx_backW, vx_callVX, vx_callSX, vx_callVW, vx_runVW, vx_runVX, vx_runSX, vx_ofWH follow the same proofs as their sisters above (Free/Laws.lean, Shelf42/LK1.lean); vx_outP calls Shelf42/NT130.lean (outThrough). -/
section
variable {l : Launch} {R : Room} {p : Program} {e : Env} {below : List Frame} {s : State} {sargs : Array Value} {y : MethodName} {len W9 : Nat}
theorem vx_backW {ws : List Cond} {rm : Room} {Pc : Array Value → State → Prop} {Qc : Array Value → State → Outcome → State → Prop} {XC : String → State → State → Prop} {mc ms : Nat} {free : Addr → Prop} {bytes : ByteArray} {maxL : Nat} {ret : Option FieldType} {hh : List (Nat × Nat × Nat × Nat)}
    (hM : vx_Met l y ws rm Pc Qc XC mc ms free) (hblind : FrameBlind Pc) (hrc : rm.cells = mc) (hrs : rm.slots = ms)
    (hframes : rm.frames + 1 ≤ R.frames) (hlocals : W9 + (maxL + 11) + rm.locals ≤ R.locals)
    (hws : ∀ w ∈ ws, ∀ a' U, s.WarmedH U.vm → w.before a' U = true) (hcode : Cond.codeWith y bytes maxL ret hh ∈ ws) (hinit : ∀ a' U, s.WarmedH U.vm → (Cond.initialized y.cls).before a' U = true) :
    vx_Back l R p e below s sargs y len W9 (PreOf R mc ms Pc) (PostOf Qc mc ms free) (vx_Post XC mc ms free) := by
  intro m meth c A g ig mk a X hg hsize hdg hW hn hp
  have h1 : (headSpec ws rm).pre.before a A.U = true := atoms_intro fun w hw => hws w hw _ _ X.warmed
  have h2 : (Cond.codeWith y bytes maxL ret hh).before a A.U = true := hws _ hcode _ _ X.warmed
  have h3 : (Cond.initialized y.cls).before a A.U = true := hinit _ _ X.warmed
  have h4 : A.cells + (headSpec ws rm).room.cells ≤ R.cells := by rw [show (headSpec ws rm).room.cells = mc from hrc]; exact hp.1
  have h5 : A.slots + (headSpec ws rm).room.slots ≤ R.slots := by rw [show (headSpec ws rm).room.slots = ms from hrs]; exact hp.2.1
  have hPc : Pc a (A.U.calling g mk a) := hblind _ _ _ _ hp.2.2
  obtain ⟨U, Ls, c0, s0⟩ := A
  dsimp only [Pt.U, Pt.locs, Pt.cells, Pt.slots] at h1 h2 h3 h4 h5 X hn hPc ⊢
  obtain ⟨m9, methY, cY, hn9, hmY, hcY, -, hlY, -⟩ := Cond.codeWith_spec h2
  cases Option.some.inj (hn9.symm.trans hn)
  obtain ⟨kY, hkY, -⟩ := className_of_methodNamed hn
  have hinitY : kY.init = .initialized := Cond.initialized_spec (findClass_of_methodNamed hn) hkY h3
  have h : At U g.method c below := by rw [hg]; exact X.here
  have hlocals9 : W9 + (maxL + 11) + (headSpec ws rm).room.locals ≤ R.locals := hlocals
  have happ : (headSpec ws rm).appliesLoose y e.platform (U.calling g mk a) = true :=
    Spec.appliesLoose_calling (g := g) h hdg hn hkY hinitY
      (X.room_calling (g := g) (R' := (headSpec ws rm).room) hsize hmY hcY hframes (by rw [hlY]; omega) h4 h5) h1
  obtain ⟨mid, hmid⟩ := h.above
  have hfr : (U.setTop g).frames = (.java g :: mid) ++ below := by rw [State.frames_setTop' g h.top, hmid]; rfl
  obtain ⟨o, s₂, hsteps, -, hend, hq⟩ := Steps.callFree hM p X.admits X.cas X.clock (acts := []) hfr happ hPc trivial
  have hq' : vx_Q Qc XC mc ms free a (U.calling g mk a) o s₂ := hq
  rw [State.frames_setTop' g h.top] at hend
  obtain ⟨g₀, hg0⟩ := Option.isSome_iff_exists.mp h.top
  obtain ⟨r, hr⟩ := State.topJava?_eq_some.mp hg0
  have hr' : (({ U with heap := s₂.heap, slotsUsed := s₂.slotsUsed } : State).setVm s₂.vm).frames = .java g₀ :: r := hr
  rcases hq' with ⟨hqc, L, hfe, hL⟩ | ⟨q, rfl, E, ce, L, hx, hce, hcv, hcl, hW₂, hsm, hL⟩
  · obtain ⟨⟨v, rfl⟩, hW₂, e2, q2, q3, q4, q5, q6⟩ := id hfe
    have e3 : s₂ = ({ (U.calling g mk a).setFrames s₂.frames with heap := s₂.heap, slotsUsed := s₂.slotsUsed } : State).setVm s₂.vm := by
      have : s₂ = ({ s₂ with vm := (U.calling g mk a).vm } : State).setVm s₂.vm := rfl
      rw [e2] at this
      exact this
    obtain ⟨c₂, i₂, len₂, hc₂, hd₂, hf₂⟩ := hend
    have hW' : U.WarmedH s₂.vm := hW₂
    have hcc : c₂ = c := by
      have h1 : s₂.code? g.method = U.code? g.method := by
        rw [State.code?_eq, State.code?_eq, hW'.alike.method?]
      exact Option.some.inj (hc₂.symm.trans (h1.trans h.code))
    subst hcc
    have hlen : len₂ = len := by rw [hdg] at hd₂; cases hd₂; rfl
    subst hlen
    have hs₂ : s₂ = (({ U with heap := s₂.heap, slotsUsed := s₂.slotsUsed } : State).setVm s₂.vm).setTop { g with pc := g.pc + len₂, stack := v.toList ++ g.stack } := by
      refine e3.trans ?_
      rw [hf₂, State.calling_eq h.top, State.setFrames_setFrames, State.setTop_of_frames _ hr', hr]
      rfl
    have hsame : U.sameButNew ({ U with heap := s₂.heap, slotsUsed := s₂.slotsUsed } : State) L mc ms := by
      refine ⟨?_, q2, q3, q4, q5, q6⟩
      obtain ⟨t, ht, -⟩ := State.frames_cons hr
      show ({ U with heap := s₂.heap, slotsUsed := s₂.slotsUsed } : State) = { U.setFrames U.frames with heap := s₂.heap, slotsUsed := s₂.slotsUsed }
      rw [State.setFrames_self ht]
    subst hg
    refine Or.inl ⟨v, ⟨(({ U with heap := s₂.heap, slotsUsed := s₂.slotsUsed } : State).setVm s₂.vm), Ls ++ L, c0 + mc, s0 + ms⟩,
      ⟨X.admits, X.cas, X.clock, X.frames, X.room, X.hears, X.method, X.code, (X.here.setHeapUsed s₂.heap s₂.slotsUsed).setVm hW'.alike, X.tail, State.WarmedH.trans X.warmed hW', X.limits, X.bytes, X.same.trans (hsame.setVm s.vm)⟩,
      ⟨g, mk, s₂, L, rfl, rfl, hqc, rfl, hL, rfl, rfl⟩, ?_⟩
    show Steps p.tables e below _ ((({ U with heap := s₂.heap, slotsUsed := s₂.slotsUsed } : State).setVm s₂.vm).setTop { g with pc := g.pc + len₂, stack := v.toList ++ g.stack })
    rw [← hs₂]
    exact hsteps
  · obtain ⟨e2, q2, q3, q4, q5, q6⟩ := id hsm
    have e3 : s₂ = ({ (U.calling g mk a).setFrames s₂.frames with heap := s₂.heap, slotsUsed := s₂.slotsUsed } : State).setVm s₂.vm := by
      have : s₂ = ({ s₂ with vm := (U.calling g mk a).vm } : State).setVm s₂.vm := rfl
      rw [e2] at this
      exact this
    have hf₂ : s₂.frames = .throwing q :: .java g :: U.frames.tail := hend
    have hW' : U.WarmedH s₂.vm := hW₂
    have hs₂ : s₂ = ((({ U with heap := s₂.heap, slotsUsed := s₂.slotsUsed } : State).setVm s₂.vm).setTop g).pushFrame (.throwing q) := by
      refine e3.trans ?_
      rw [hf₂, State.calling_eq h.top, State.setFrames_setFrames, State.pushFrame, State.frames_setTop _ hr', State.setTop_of_frames _ hr', State.setFrames_setFrames, hr]
      rfl
    have hsame : U.sameButNew ({ U with heap := s₂.heap, slotsUsed := s₂.slotsUsed } : State) L mc ms := by
      refine ⟨?_, q2, q3, q4, q5, q6⟩
      obtain ⟨t, ht, -⟩ := State.frames_cons hr
      show ({ U with heap := s₂.heap, slotsUsed := s₂.slotsUsed } : State) = { U.setFrames U.frames with heap := s₂.heap, slotsUsed := s₂.slotsUsed }
      rw [State.setFrames_self ht]
    subst hg
    refine Or.inr ⟨q, ⟨(({ U with heap := s₂.heap, slotsUsed := s₂.slotsUsed } : State).setVm s₂.vm), Ls ++ L, c0 + mc, s0 + ms⟩,
      ⟨X.admits, X.cas, X.clock, X.frames, X.room, X.hears, X.method, X.code, (X.here.setHeapUsed s₂.heap s₂.slotsUsed).setVm hW'.alike, X.tail, State.WarmedH.trans X.warmed hW', X.limits, X.bytes, X.same.trans (hsame.setVm s.vm)⟩,
      ⟨g, mk, s₂, L, E, ce, rfl, rfl, hx, hce, hcv, hcl, rfl, hL, rfl, rfl⟩, ?_⟩
    show Steps p.tables e below _ (((({ U with heap := s₂.heap, slotsUsed := s₂.slotsUsed } : State).setVm s₂.vm).setTop g).pushFrame (.throwing q))
    rw [← hs₂]
    exact hsteps
end
variable {p : Program} {l : Launch} {e : Env} {R : Room} {s : State} {m : MethodId} {args : Array Value} {below : List Frame} {meth : Method} {c : Code} {T : State} {H : Heap} {locs : List Loc} {cells slots : Nat}
theorem vx_callVX (X : Stand p l e R s m args below meth c T locs cells slots) (hexec : p.tables.exec = Jvm.exec) {own C : String} {index : Nat} {y : MethodName} {bytes : ByteArray} {maxL : Nat} {ret : Option FieldType} {hh : List (Nat × Nat × Nat × Nat)}
    (hown : s.vm.findClass own = some m.cls) (hlink : (Cond.methodLink own index y).before args s = true) (hinst : (Cond.instanceMethod y).before args s = true) (hsel : (Cond.selects C y y).before args s = true)
    (hcode : (Cond.codeWith y bytes maxL ret hh).before args s = true) (hy : y.cls ≠ "java/lang/invoke/MethodHandle" ∧ y.cls ≠ "java/lang/invoke/VarHandle")
    {W9 : Nat} {Pre : Pt → Array Value → Prop} {Post : Pt → Array Value → Option Value → Pt → Prop} {PostX : Pt → Array Value → Addr → Pt → Prop} (hK : vx_Back l R p e below s args y 3 W9 Pre Post PostX)
    {b : Addr} {cellB : Cell} (hcell : T.heap[b]? = some cellB) (hobj : cellB.vm.isStatics = false) (hcls : s.vm.findClass C = some cellB.cls)
    {g : JFrame} (hg : g.method = m) (hsize : g.locals.size = c.maxLocals) {argsL rest : List Value} (hlen : ∀ sig, parseMethodDescriptor y.desc = some sig → argsL.length = sig.parameters.length)
    (hstack : g.stack = argsL.reverse ++ .ref b :: rest) (hW : 2 * g.monitorRoom + (rest.map fun v => v.category).sum ≤ W9) (hdg : decode c.code g.pc = .ok (.invokevirtual index, 3))
    (hpre : ∀ vm₁, s.WarmedH vm₁ → Pre ⟨T.setVm vm₁, locs, cells, slots⟩ (Value.ref b :: argsL).toArray) :
    (∃ (v : Option Value) (vm₁ : Vm) (B : Pt), s.WarmedH vm₁ ∧ Stand p l e R s m args below meth c B.U B.locs B.cells B.slots ∧ Post ⟨T.setVm vm₁, locs, cells, slots⟩ (Value.ref b :: argsL).toArray v B ∧
      ∀ target, Steps p.tables e below (B.U.setTop { g with pc := g.pc + 3, stack := v.toList ++ rest }) target → Steps p.tables e below (T.setTop g) target) ∨
    (∃ (q : Addr) (vm₁ : Vm) (B : Pt), s.WarmedH vm₁ ∧ Stand p l e R s m args below meth c B.U B.locs B.cells B.slots ∧ PostX ⟨T.setVm vm₁, locs, cells, slots⟩ (Value.ref b :: argsL).toArray q B ∧
      Steps p.tables e below (T.setTop g) ((B.U.setTop { g with stack := rest }).pushFrame (.throwing q))) := by
  obtain ⟨mk, methM, hnamed, hmethM, hstM, habM⟩ := Cond.instanceMethod_spec hinst
  obtain ⟨m8, methM', cM, hn8, hmethM', -, -, -, -, -, -, hsigM⟩ := Cond.codeWith_spec hcode
  cases Option.some.inj (hn8.symm.trans hnamed)
  cases hmethM.symm.trans hmethM'
  obtain ⟨c2, r2, m2, q1, q2, q3, q4, kP, hkP, hkPi⟩ := Cond.selects_spec hsel
  cases hcls.symm.trans q1
  cases (State.methodFound?_of_named hnamed hy).symm.trans q2
  cases hnamed.symm.trans q3
  have hselP : selectMethod e.platform s.vm cellB.cls mk = .method mk := by rw [Launch.admits_selectMethod X.admits]; exact q4
  obtain ⟨vm₁, X₁, hstep₁⟩ := X.invokevirtual hexec hown hlink hnamed hmethM hstM hkP hkPi hy (a := b) (cell := cellB) hcell
    (fun z h => by rw [h] at hobj; cases hobj) hselP hmethM habM hkP hkPi (g := g) hg (argsL := argsL) (rest := rest) (hlen _ hsigM) hstack hdg
  rcases hK m meth c ⟨T.setVm vm₁, locs, cells, slots⟩ { g with stack := rest } (.invokevirtual index) mk (Value.ref b :: argsL).toArray X₁ hg hsize hdg hW (X₁.named hnamed) (hpre vm₁ X₁.warmed) with ⟨v, B, X', hpost, hsteps⟩ | ⟨q, B, X', hpost, hsteps⟩
  · exact Or.inl ⟨v, vm₁, B, X₁.warmed, X', hpost, fun target h => hstep₁ _ fun acts => by rw [doInvoke_state]; exact hsteps.trans h⟩
  · exact Or.inr ⟨q, vm₁, B, X₁.warmed, X', hpost, hstep₁ _ fun acts => by rw [doInvoke_state]; exact hsteps⟩
theorem vx_callSX (X : Stand p l e R s m args below meth c T locs cells slots) (hexec : p.tables.exec = Jvm.exec) {own : String} {index : Nat} {y : MethodName} {bytes : ByteArray} {maxL : Nat} {ret : Option FieldType} {hh : List (Nat × Nat × Nat × Nat)}
    (hown : s.vm.findClass own = some m.cls) (hlink : (Cond.methodLink own index y).before args s = true) (hstat : (Cond.static y).before args s = true) (hinit : (Cond.initialized y.cls).before args s = true)
    (hcode : (Cond.codeWith y bytes maxL ret hh).before args s = true) (hy : y.cls ≠ "java/lang/invoke/MethodHandle" ∧ y.cls ≠ "java/lang/invoke/VarHandle")
    {W9 : Nat} {Pre : Pt → Array Value → Prop} {Post : Pt → Array Value → Option Value → Pt → Prop} {PostX : Pt → Array Value → Addr → Pt → Prop} (hK : vx_Back l R p e below s args y 3 W9 Pre Post PostX)
    {g : JFrame} (hg : g.method = m) (hsize : g.locals.size = c.maxLocals) {argsL rest : List Value} (hlen : ∀ sig, parseMethodDescriptor y.desc = some sig → argsL.length = sig.parameters.length)
    (hstack : g.stack = argsL.reverse ++ rest) (hW : 2 * g.monitorRoom + (rest.map fun v => v.category).sum ≤ W9) (hdg : decode c.code g.pc = .ok (.invokestatic index, 3))
    (hpre : ∀ vm₁, s.WarmedH vm₁ → Pre ⟨T.setVm vm₁, locs, cells, slots⟩ argsL.toArray) :
    (∃ (v : Option Value) (vm₁ : Vm) (B : Pt), s.WarmedH vm₁ ∧ Stand p l e R s m args below meth c B.U B.locs B.cells B.slots ∧ Post ⟨T.setVm vm₁, locs, cells, slots⟩ argsL.toArray v B ∧
      ∀ target, Steps p.tables e below (B.U.setTop { g with pc := g.pc + 3, stack := v.toList ++ rest }) target → Steps p.tables e below (T.setTop g) target) ∨
    (∃ (q : Addr) (vm₁ : Vm) (B : Pt), s.WarmedH vm₁ ∧ Stand p l e R s m args below meth c B.U B.locs B.cells B.slots ∧ PostX ⟨T.setVm vm₁, locs, cells, slots⟩ argsL.toArray q B ∧
      Steps p.tables e below (T.setTop g) ((B.U.setTop { g with stack := rest }).pushFrame (.throwing q))) := by
  obtain ⟨mk, methM, cM, hnamed, hmethM, -, -, -, -, -, -, hsigM⟩ := Cond.codeWith_spec hcode
  have hstatic : methM.isStatic = true := Cond.static_spec hnamed hmethM hstat
  obtain ⟨kP, hkP, -⟩ := className_of_methodNamed hnamed
  have hinitP : kP.init = .initialized := Cond.initialized_spec (findClass_of_methodNamed hnamed) hkP hinit
  obtain ⟨vm₁, X₁, hstep₁⟩ := X.invokestatic hexec hown hlink hnamed hmethM hstatic hkP hinitP hy (g := g) hg (argsL := argsL) (rest := rest) (hlen _ hsigM) hstack hdg
  rcases hK m meth c ⟨T.setVm vm₁, locs, cells, slots⟩ { g with stack := rest } (.invokestatic index) mk argsL.toArray X₁ hg hsize hdg hW (X₁.named hnamed) (hpre vm₁ X₁.warmed) with ⟨v, B, X', hpost, hsteps⟩ | ⟨q, B, X', hpost, hsteps⟩
  · exact Or.inl ⟨v, vm₁, B, X₁.warmed, X', hpost, fun target h => hstep₁ _ fun acts => by rw [doInvoke_state]; exact hsteps.trans h⟩
  · exact Or.inr ⟨q, vm₁, B, X₁.warmed, X', hpost, hstep₁ _ fun acts => by rw [doInvoke_state]; exact hsteps⟩
theorem vx_callVW (X : Stand p l e R s m args below meth c T locs cells slots) (hexec : p.tables.exec = Jvm.exec) {own C : String} {index : Nat} {y : MethodName} {bytes : ByteArray} {maxL : Nat} {ret : Option FieldType} {hh : List (Nat × Nat × Nat × Nat)}
    (hown : s.vm.findClass own = some m.cls) (hlink : (Cond.methodLink own index y).before args s = true) (hinst : (Cond.instanceMethod y).before args s = true) (hsel : (Cond.selects C y y).before args s = true)
    (hcode : (Cond.codeWith y bytes maxL ret hh).before args s = true) (hy : y.cls ≠ "java/lang/invoke/MethodHandle" ∧ y.cls ≠ "java/lang/invoke/VarHandle")
    {W9 : Nat} {Pre : Pt → Array Value → Prop} {Post : Pt → Array Value → Option Value → Pt → Prop} (hK : Back l R p e below s args y 3 W9 Pre Post)
    {b : Addr} {cellB : Cell} (hcell : T.heap[b]? = some cellB) (hobj : cellB.vm.isStatics = false) (hcls : s.vm.findClass C = some cellB.cls)
    {g : JFrame} (hg : g.method = m) (hsize : g.locals.size = c.maxLocals) {argsL rest : List Value} (hlen : ∀ sig, parseMethodDescriptor y.desc = some sig → argsL.length = sig.parameters.length)
    (hstack : g.stack = argsL.reverse ++ .ref b :: rest) (hW : 2 * g.monitorRoom + (rest.map fun v => v.category).sum ≤ W9) (hdg : decode c.code g.pc = .ok (.invokevirtual index, 3))
    (hpre : ∀ vm₁, s.WarmedH vm₁ → Pre ⟨T.setVm vm₁, locs, cells, slots⟩ (Value.ref b :: argsL).toArray) :
    ∃ (v : Option Value) (vm₁ : Vm) (B : Pt), s.WarmedH vm₁ ∧ Stand p l e R s m args below meth c B.U B.locs B.cells B.slots ∧ Post ⟨T.setVm vm₁, locs, cells, slots⟩ (Value.ref b :: argsL).toArray v B ∧
      ∀ target, Steps p.tables e below (B.U.setTop { g with pc := g.pc + 3, stack := v.toList ++ rest }) target → Steps p.tables e below (T.setTop g) target := by
  obtain ⟨mk, methM, hnamed, hmethM, hstM, habM⟩ := Cond.instanceMethod_spec hinst
  obtain ⟨m8, methM', cM, hn8, hmethM', -, -, -, -, -, -, hsigM⟩ := Cond.codeWith_spec hcode
  cases Option.some.inj (hn8.symm.trans hnamed)
  cases hmethM.symm.trans hmethM'
  obtain ⟨c2, r2, m2, q1, q2, q3, q4, kP, hkP, hkPi⟩ := Cond.selects_spec hsel
  cases hcls.symm.trans q1
  cases (State.methodFound?_of_named hnamed hy).symm.trans q2
  cases hnamed.symm.trans q3
  have hselP : selectMethod e.platform s.vm cellB.cls mk = .method mk := by rw [Launch.admits_selectMethod X.admits]; exact q4
  obtain ⟨vm₁, X₁, hstep₁⟩ := X.invokevirtual hexec hown hlink hnamed hmethM hstM hkP hkPi hy (a := b) (cell := cellB) hcell
    (fun z h => by rw [h] at hobj; cases hobj) hselP hmethM habM hkP hkPi (g := g) hg (argsL := argsL) (rest := rest) (hlen _ hsigM) hstack hdg
  obtain ⟨v, B, X', hpost, hsteps⟩ := hK m meth c ⟨T.setVm vm₁, locs, cells, slots⟩ { g with stack := rest } (.invokevirtual index) mk (Value.ref b :: argsL).toArray X₁ hg hsize hdg hW (X₁.named hnamed) (hpre vm₁ X₁.warmed)
  exact ⟨v, vm₁, B, X₁.warmed, X', hpost, fun target h => hstep₁ _ fun acts => by rw [doInvoke_state]; exact hsteps.trans h⟩
abbrev vx_CVW (R : Room) (s : State) (args : Array Value) (own C : String) (index : Nat) (y : MethodName) (bytes : ByteArray) (maxL : Nat) (ret : Option FieldType) (hh : List (Nat × Nat × Nat × Nat)) (ws : List Cond) (rm : Room) (mc ms n : Nat) : Prop :=
  (rm.cells = mc ∧ rm.slots = ms ∧ rm.frames + 1 ≤ R.frames ∧ 8 + (maxL + 11) + rm.locals ≤ R.locals ∧ (∀ w ∈ ws, ∀ (a' : Array Value) (U : State), s.WarmedH U.vm → w.before a' U = true) ∧ Cond.codeWith y bytes maxL ret hh ∈ ws) ∧
  (Cond.codeWith y bytes maxL ret hh).before args s = true ∧ (Cond.initialized y.cls).before args s = true ∧ (y.cls ≠ "java/lang/invoke/MethodHandle" ∧ y.cls ≠ "java/lang/invoke/VarHandle") ∧
  (∀ sig, parseMethodDescriptor y.desc = some sig → n = sig.parameters.length) ∧ (Cond.methodLink own index y).before args s = true ∧ (Cond.instanceMethod y).before args s = true ∧ (Cond.selects C y y).before args s = true
theorem vx_cwVW {own C : String} {index maxL mc ms : Nat} {y : MethodName} {bytes : ByteArray} {ret : Option FieldType} {hh : List (Nat × Nat × Nat × Nat)} {Ts ws ws' : List Cond} {rm : Room} (n : Nat) (ht : ∀ w ∈ Ts, w.before args s = true) (hT : GoodIn Ts (wsV own index C y ws)) (hw : ws = Cond.codeWith y bytes maxL ret hh :: ws') (hrc : rm.cells = mc) (hrs : rm.slots = ms)
    (hd : y.cls = C ∧ y.cls ≠ "java/lang/invoke/MethodHandle" ∧ y.cls ≠ "java/lang/invoke/VarHandle" ∧ (parseMethodDescriptor y.desc).map (fun d => d.parameters.length) = some n) (hR : rm.frames + 1 ≤ R.frames ∧ 8 + (maxL + 11) + rm.locals ≤ R.locals) :
    vx_CVW R s args own C index y bytes maxL ret hh ws rm mc ms n := by
  obtain ⟨hC, hd⟩ := hd
  subst hC
  have ok : ∀ w ∈ wsV own index y.cls y ws, w.before args s = true := fun w h => ht w (hT w h).1
  have hG : GoodIn Ts ws := fun w h => hT w (by unfold wsV; exact List.mem_append_right _ h)
  have hc : Cond.codeWith y bytes maxL ret hh ∈ ws := by rw [hw]; exact List.mem_cons_self
  refine ⟨⟨hrc, hrs, hR.1, hR.2, pay_in ht hG, hc⟩, ht _ (hG _ hc).1, ok _ (by simp [wsV]), ⟨hd.1, hd.2.1⟩, fun sig h => ?_, ok _ (by simp [wsV]), ok _ (by simp [wsV]), ok _ (by simp [wsV])⟩
  have h2 := hd.2.2
  rw [h] at h2
  exact (Option.some.inj h2).symm
theorem vx_runVW {y : MethodName} {bytes cc : ByteArray} {maxL nL mc ms n index : Nat} {ret : Option FieldType} {hh : List (Nat × Nat × Nat × Nat)} {ws : List Cond} {rm : Room} {Pc : Array Value → State → Prop} {Qc : Array Value → State → Outcome → State → Prop} {free : Addr → Prop} {Ts : List Cond} {own C : String} {b : Addr} {As rest : List Value} {g : JFrame}
    (S : CallFix p m c cc nL s args Ts own) (hM : Met l y ws rm Pc Qc mc ms free) (cw : vx_CVW R s args own C index y bytes maxL ret hh ws rm mc ms n) (hp : PreV s H C b Pc As)
    (hg : g.method = m) (hn : As.length = n) (hsize : g.locals.size = nL) (hstack : g.stack = As.reverse ++ .ref b :: rest) (hW : 2 * g.monitorRoom + (rest.map fun v => v.category).sum ≤ 8) (hdg : decode cc g.pc = .ok (.invokevirtual index, 3)) (hf : cells + mc ≤ R.cells ∧ slots + ms ≤ R.slots) :
    va_Run p l e R s m args below meth c H locs cells slots mc ms g rest (Qc (Value.ref b :: As).toArray) free := by
  obtain ⟨⟨hrc, hrs, hfr, hlo, hws, hcw⟩, hcode, hini, hy, hlen, hl, hin, hse⟩ := cw
  have hK : Back l R p e below s args y 3 8 (PreOf R mc ms Pc) (PostOf Qc mc ms free) := va_backW (hh := hh) (bytes := bytes) (maxL := maxL) (ret := ret) hM hp.1 hrc hrs hfr hlo hws hcw (fun a' U hW => word_at hW (Or.inl (by first | rfl | simp [Cond.onTables, Cond.keeps, Cond.steady])) hini)
  obtain ⟨hx, hb, hml, ho, -⟩ := S
  obtain ⟨-, ⟨cellB, hcB, hoB, hclB⟩, hPc⟩ := hp
  intro T hT X
  obtain ⟨v, vm₁, ⟨U', l2, c2, s2⟩, hW₁, X', ⟨g', mk, t, L, e1, e2, hq, h1, hL, h2, h3⟩, st⟩ := vx_callVW X hx (C := C) (hh := hh) (bytes := bytes) (maxL := maxL) (ret := ret) ho hl hin hse hcode hy hK (by rw [hT]; exact hcB) hoB hclB hg (hsize.trans hml.symm) (argsL := As) (rest := rest) (fun sig h => hn.trans (hlen sig h)) hstack hW (by rw [hb]; exact hdg)
    (fun vm₁ hW₁ => ⟨hf.1, hf.2, hPc (T.setVm vm₁) hT hW₁⟩)
  dsimp only [Pt.U, Pt.locs, Pt.cells, Pt.slots] at X' e1 e2 h1 h2 h3 st
  subst h1; subst h2; subst h3
  exact ⟨v, (T.setVm vm₁).calling g' mk (Value.ref b :: As).toArray, t, U', L, hT, X', hL, e1, e2, hq, st⟩
section
variable {y : MethodName} {bytes cc : ByteArray} {maxL nL mc ms n index : Nat} {ret : Option FieldType} {ws : List Cond} {rm : Room} {Pc : Array Value → State → Prop} {Qc : Array Value → State → Outcome → State → Prop} {XC : String → State → State → Prop} {free : Addr → Prop} {Ts : List Cond} {own C : String} {b : Addr} {As rest : List Value} {g : JFrame}
theorem vx_runVX {hh : List (Nat × Nat × Nat × Nat)} (S : CallFix p m c cc nL s args Ts own) (hM : vx_Met l y ws rm Pc Qc XC mc ms free) (cw : vx_CVW R s args own C index y bytes maxL ret hh ws rm mc ms n) (hp : PreV s H C b Pc As)
    (hg : g.method = m) (hn : As.length = n) (hsize : g.locals.size = nL) (hstack : g.stack = As.reverse ++ .ref b :: rest) (hW : 2 * g.monitorRoom + (rest.map fun v => v.category).sum ≤ 8) (hdg : decode cc g.pc = .ok (.invokevirtual index, 3)) (hf : cells + mc ≤ R.cells ∧ slots + ms ≤ R.slots) :
    vx_Run p l e R s m args below meth c H locs cells slots mc ms g rest (Qc (Value.ref b :: As).toArray) XC free := by
  obtain ⟨⟨hrc, hrs, hfr, hlo, hws, hcw⟩, hcode, hini, hy, hlen, hl, hin, hse⟩ := cw
  have hK : vx_Back l R p e below s args y 3 8 (PreOf R mc ms Pc) (PostOf Qc mc ms free) (vx_Post XC mc ms free) := vx_backW (hh := hh) (bytes := bytes) (maxL := maxL) (ret := ret) hM hp.1 hrc hrs hfr hlo hws hcw (fun a' U hW => word_at hW (Or.inl (by first | rfl | simp [Cond.onTables, Cond.keeps, Cond.steady])) hini)
  obtain ⟨hx, hb, hml, ho, -⟩ := S
  obtain ⟨-, ⟨cellB, hcB, hoB, hclB⟩, hPc⟩ := hp
  intro T hT X
  rcases vx_callVX X hx (C := C) (hh := hh) (bytes := bytes) (maxL := maxL) (ret := ret) ho hl hin hse hcode hy hK (by rw [hT]; exact hcB) hoB hclB hg (hsize.trans hml.symm) (argsL := As) (rest := rest) (fun sig h => hn.trans (hlen sig h)) hstack hW (by rw [hb]; exact hdg)
    (fun vm₁ hW₁ => ⟨hf.1, hf.2, hPc (T.setVm vm₁) hT hW₁⟩) with ⟨v, vm₁, ⟨U', l2, c2, s2⟩, hW₁, X', ⟨g', mk, t, L, e1, e2, hq, h1, hL, h2, h3⟩, st⟩ | ⟨q, vm₁, ⟨U', l2, c2, s2⟩, hW₁, X', ⟨g', mk, t, L, E, ce, e1, e2, hq, hce, hcv, hcl, h1, hL, h2, h3⟩, st⟩
  · dsimp only [Pt.U, Pt.locs, Pt.cells, Pt.slots] at X' e1 e2 h1 h2 h3 st
    subst h1; subst h2; subst h3
    exact Or.inl ⟨v, (T.setVm vm₁).calling g' mk (Value.ref b :: As).toArray, t, U', L, hT, X', hL, e1, e2, hq, st⟩
  · dsimp only [Pt.U, Pt.locs, Pt.cells, Pt.slots] at X' e1 e2 h1 h2 h3 st hcl
    subst h1; subst h2; subst h3
    exact Or.inr ⟨q, (T.setVm vm₁).calling g' mk (Value.ref b :: As).toArray, t, U', L, E, ce, hT, X', hL, e1, e2, hq, hce, hcv, vx_cls hW₁ hcl, st⟩
theorem vx_runSX {hh : List (Nat × Nat × Nat × Nat)} (S : CallFix p m c cc nL s args Ts own) (hM : vx_Met l y ws rm Pc Qc XC mc ms free) (cw : vx_CSW R s args own index y bytes maxL ret hh ws rm mc ms n) (hp : PreS s H Pc As)
    (hg : g.method = m) (hn : As.length = n) (hsize : g.locals.size = nL) (hstack : g.stack = As.reverse ++ rest) (hW : 2 * g.monitorRoom + (rest.map fun v => v.category).sum ≤ 8) (hdg : decode cc g.pc = .ok (.invokestatic index, 3)) (hf : cells + mc ≤ R.cells ∧ slots + ms ≤ R.slots) :
    vx_Run p l e R s m args below meth c H locs cells slots mc ms g rest (Qc As.toArray) XC free := by
  obtain ⟨⟨hrc, hrs, hfr, hlo, hws, hcw⟩, hcode, hini, hy, hlen, hl, hstt⟩ := cw
  have hK : vx_Back l R p e below s args y 3 8 (PreOf R mc ms Pc) (PostOf Qc mc ms free) (vx_Post XC mc ms free) := vx_backW (hh := hh) (bytes := bytes) (maxL := maxL) (ret := ret) hM hp.1 hrc hrs hfr hlo hws hcw (fun a' U hW => word_at hW (Or.inl (by first | rfl | simp [Cond.onTables, Cond.keeps, Cond.steady])) hini)
  obtain ⟨hx, hb, hml, ho, -⟩ := S
  intro T hT X
  rcases vx_callSX X hx (hh := hh) (bytes := bytes) (maxL := maxL) (ret := ret) ho hl hstt hini hcode hy hK hg (hsize.trans hml.symm) (argsL := As) (rest := rest) (fun sig h => hn.trans (hlen sig h)) hstack hW (by rw [hb]; exact hdg)
    (fun vm₁ hW₁ => ⟨hf.1, hf.2, hp.2 (T.setVm vm₁) hT hW₁⟩) with ⟨v, vm₁, ⟨U', l2, c2, s2⟩, hW₁, X', ⟨g', mk, t, L, e1, e2, hq, h1, hL, h2, h3⟩, st⟩ | ⟨q, vm₁, ⟨U', l2, c2, s2⟩, hW₁, X', ⟨g', mk, t, L, E, ce, e1, e2, hq, hce, hcv, hcl, h1, hL, h2, h3⟩, st⟩
  · dsimp only [Pt.U, Pt.locs, Pt.cells, Pt.slots] at X' e1 e2 h1 h2 h3 st
    subst h1; subst h2; subst h3
    exact Or.inl ⟨v, (T.setVm vm₁).calling g' mk As.toArray, t, U', L, hT, X', hL, e1, e2, hq, st⟩
  · dsimp only [Pt.U, Pt.locs, Pt.cells, Pt.slots] at X' e1 e2 h1 h2 h3 st hcl
    subst h1; subst h2; subst h3
    exact Or.inr ⟨q, (T.setVm vm₁).calling g' mk As.toArray, t, U', L, E, ce, hT, X', hL, e1, e2, hq, hce, hcv, vx_cls hW₁ hcl, st⟩
end
end VXH
theorem vx_ofWH {l : Launch} {y : MethodName} {ws ws' : List Cond} {rm : Room} {Pc : Array Value → State → Prop} {Qc : Array Value → State → Outcome → State → Prop} {XC : String → State → State → Prop} {mc ms : Nat} {free : Addr → Prop} {cc : ByteArray} {maxL : Nat} {ret : Option FieldType} {hh : List (Nat × Nat × Nat × Nat)}
    (hy : plainName y.cls = true) (hw : ws = Cond.codeWith y cc maxL ret hh :: ws')
    (body : ∀ p e s m args below meth c s₁, BodyLoose p l y (headSpec ws rm) cc maxL ret e s m args below meth c s₁ → c.maxLocals = maxL → Pc args s →
      W p l e (headSpec ws rm).room s m args below meth c s.heap [] 0 0 (vx_MQ below Qc XC args s mc ms free) (entryFrame m args maxL)) : vx_Met l y ws rm Pc Qc XC mc ms free := by
  refine MetFree.of_bodyS (code := cc) (maxLocals := maxL) (ret := ret) hy ?_ ?_
  · intro args s m h hn
    obtain ⟨m9, meth, c, hn9, h1, h2, h3, h4, -, h5, h6, -⟩ := Cond.codeWith_spec (atoms_spec (ws := ws) h _ (by rw [hw]; exact List.mem_cons_self))
    cases hn.symm.trans hn9
    exact ⟨meth, c, h1, h2, h3, h4, h5, h6⟩
  · intro p e s m args below meth c s₁ B hml hP _
    have hh0 : s₁.heap = s.heap := by rw [B.state]; rfl
    obtain ⟨t, a1, o, b1, b2, b3⟩ := body p e s m args below meth c s₁ B hml hP s₁ hh0 (Stand.of_body B)
    exact ⟨t, o, a1, b1, b2, b3⟩
/-! ===== END ===== -/
end
section
theorem va_arrN {s : State} {c9 : ClassId} {ty : FieldType} (h : va_RA s c9 ty) : s.vm.findClass ("[" ++ ty.toString) = some c9 := by
  cases ty with
  | object C =>
    obtain ⟨_, _, _, _, _, h4⟩ := h
    exact h4
  | _ => exact h
theorem va_arrU {D : va_G} {cl : List vw_C} {tys : List (ClassId × FieldType)} {s : State} {a b : ClassId} {ty : FieldType} (h : va_K D cl tys s) (ha : (a, ty) ∈ tys) (hb : (b, ty) ∈ tys) : a = b := by
  obtain ⟨i, hi⟩ := List.getElem?_of_mem ha
  obtain ⟨j, hj⟩ := List.getElem?_of_mem hb
  have h1 := va_arrN (h.2 i _ hi).2
  have h2 := va_arrN (h.2 j _ hj).2
  exact Option.some.inj (h1.symm.trans h2)
/-! worlds by roles: the cell of role r lies at ad r and holds g r; kV: the machine at pc, with these locals, stack and world, comes to Q -/
def wl (N : Nat) (ad : Nat → Nat) (g : Nat → va_E) : va_W := (List.range N).map (fun r => (ad r, g r))
theorem wl_get {N : Nat} {ad : Nat → Nat} {g : Nat → va_E} {r : Nat} (h : r < N) : (wl N ad g)[r]? = some (ad r, g r) := by
  simp [wl, h]
theorem wl_of {N : Nat} {ad : Nat → Nat} {g : Nat → va_E} {k : Nat} {q : Nat × va_E} (h : (wl N ad g)[k]? = some q) : k < N ∧ q = (ad k, g k) := by
  simp only [wl, List.getElem?_map] at h
  by_cases hk : k < N
  · rw [List.getElem?_range hk] at h
    exact ⟨hk, (Option.some.inj h).symm⟩
  · rw [List.getElem?_eq_none (by rw [List.length_range]; omega)] at h
    cases h
theorem wl_len {N : Nat} {ad : Nat → Nat} {g : Nat → va_E} : (wl N ad g).length = N := by simp [wl]
theorem wl_set {N : Nat} {ad : Nat → Nat} {g : Nat → va_E} {r : Nat} {e : va_E} (h : r < N) : (wl N ad g).set r (ad r, e) = wl N ad (va_up g r e) := by
  apply List.ext_getElem?
  intro j
  by_cases hj : j = r
  · subst hj
    rw [List.getElem?_set_self (by rw [wl_len]; exact h), wl_get h, va_up_self]
  · rw [List.getElem?_set_ne (Ne.symm hj)]
    by_cases hN : j < N
    · rw [wl_get hN, wl_get hN, va_up_ne _ _ hj]
    · rw [List.getElem?_eq_none (by rw [wl_len]; omega), List.getElem?_eq_none (by rw [wl_len]; omega)]
theorem wl_succ {N : Nat} {ad : Nat → Nat} {g : Nat → va_E} {a : Nat} {e : va_E} : wl N ad g ++ [(a, e)] = wl (N + 1) (va_up ad N a) (va_up g N e) := by
  apply List.ext_getElem?
  intro j
  by_cases h1 : j < N
  · rw [List.getElem?_append_left (by rw [wl_len]; exact h1), wl_get h1, wl_get (by omega), va_up_ne _ _ (by omega), va_up_ne _ _ (by omega)]
  · rw [List.getElem?_append_right (by rw [wl_len]; omega), wl_len]
    by_cases h2 : j = N
    · subst h2
      rw [wl_get (by omega), va_up_self, va_up_self, Nat.sub_self]
      rfl
    · rw [List.getElem?_eq_none (l := wl (N + 1) _ _) (by rw [wl_len]; omega), List.getElem?_eq_none (by simp; omega)]
/-- a role gets a new cell -/
theorem wl_new {D : va_G} {cl : List vw_C} {A : Nat → Prop} {N : Nat} {ad : Nat → Nat} {g : Nat → va_E} {r a : Nat} {e : va_E} {H : Heap} (hP : va_P D cl (wl N ad g ++ [(a, e)]) H) (hD : va_D A (wl N ad g ++ [(a, e)])) : va_P D cl (wl N (va_up ad r a) (va_up g r e)) H ∧ va_D A (wl N (va_up ad r a) (va_up g r e)) := by
  have hlast : (wl N ad g ++ [(a, e)])[N]? = some (a, e) := by
    rw [List.getElem?_append_right (by rw [wl_len]; exact Nat.le_refl _), wl_len, Nat.sub_self]; rfl
  have hold : ∀ k, k < N → (wl N ad g ++ [(a, e)])[k]? = some (ad k, g k) := fun k hk => by
    rw [List.getElem?_append_left (by rw [wl_len]; exact hk), wl_get hk]
  refine ⟨fun k q hk => ?_, fun i j x y hi hj hxy => ?_, fun k q hk => ?_⟩
  · obtain ⟨h1, rfl⟩ := wl_of hk
    by_cases hr : k = r
    · subst hr; rw [va_up_self, va_up_self]; exact hP _ _ hlast
    · rw [va_up_ne _ _ hr, va_up_ne _ _ hr]; exact hP _ _ (hold k h1)
  · obtain ⟨h1, rfl⟩ := wl_of hi
    obtain ⟨h2, rfl⟩ := wl_of hj
    by_cases hr : i = r
    · by_cases hr2 : j = r
      · omega
      · exfalso
        have h3 : va_up ad r a i = va_up ad r a j := hxy
        rw [hr, va_up_self, va_up_ne _ _ hr2] at h3
        have := hD.1 N j _ _ hlast (hold j h2) h3
        omega
    · by_cases hr2 : j = r
      · exfalso
        have h3 : va_up ad r a i = va_up ad r a j := hxy
        rw [hr2, va_up_self, va_up_ne _ _ hr] at h3
        have := hD.1 i N _ _ (hold i h1) hlast h3
        omega
      · have h3 : va_up ad r a i = va_up ad r a j := hxy
        rw [va_up_ne _ _ hr2, va_up_ne _ _ hr] at h3
        exact hD.1 i j _ _ (hold i h1) (hold j h2) h3
  · obtain ⟨h1, rfl⟩ := wl_of hk
    show A (va_up ad r a k)
    by_cases hr : k = r
    · subst hr; rw [va_up_self]; exact hD.2 _ _ hlast
    · rw [va_up_ne _ _ hr]; exact hD.2 _ _ (hold k h1)
/-! ints as whole numbers -/
def iI (z : Int) : Int32 := Int32.ofInt z
def bI (b : Bool) : Int32 := if b = true then 1 else 0
theorem iI_add (a b : Int) : iI a + iI b = iI (a + b) := (Int32.ofInt_add a b).symm
theorem iI_sub (a b : Int) : iI a - iI b = iI (a - b) := (Int32.ofInt_sub a b).symm
theorem iI_mul (a b : Int) : iI a * iI b = iI (a * b) := (Int32.ofInt_mul a b).symm
theorem iI_neg (a : Int) : -iI a = iI (-a) := (Int32.ofInt_neg a).symm
theorem iI_of (x : Int32) : iI x.toInt = x := Int32.ofInt_toInt x
theorem iI_nat (n : Nat) : iI (n : Int) = nI n := Int32.ofInt_eq_ofNat
theorem iI_toInt {z : Int} (h1 : -2147483648 ≤ z) (h2 : z < 2147483648) : (iI z).toInt = z := Int32.toInt_ofInt_of_le (by omega) (by omega)
theorem iI_lo (x : Int32) : -2147483648 ≤ x.toInt := by have := Int32.minValue_le_toInt x; rw [Int32.toInt_minValue] at this; omega
theorem iI_hi (x : Int32) : x.toInt < 2147483648 := by have := Int32.toInt_lt x; omega
theorem iI_lt {a b : Int} (a1 : -2147483648 ≤ a) (a2 : a < 2147483648) (b1 : -2147483648 ≤ b) (b2 : b < 2147483648) : iI a < iI b ↔ a < b := by
  rw [Int32.lt_iff_toInt_lt, iI_toInt a1 a2, iI_toInt b1 b2]
theorem iI_le {a b : Int} (a1 : -2147483648 ≤ a) (a2 : a < 2147483648) (b1 : -2147483648 ≤ b) (b2 : b < 2147483648) : iI a ≤ iI b ↔ a ≤ b := by
  rw [Int32.le_iff_toInt_le, iI_toInt a1 a2, iI_toInt b1 b2]
theorem iI_eq {a b : Int} (a1 : -2147483648 ≤ a) (a2 : a < 2147483648) (b1 : -2147483648 ≤ b) (b2 : b < 2147483648) : iI a = iI b ↔ a = b := by
  rw [← Int32.toInt_inj, iI_toInt a1 a2, iI_toInt b1 b2]
theorem iI_0 : iI 0 = 0 := rfl
theorem iI_in {z : Int} {n j : Nat} (hz : z = (j : Int)) (hj : j < n) (hn : n < 2147483648) : vp_in (iI z) n := by
  subst hz; rw [iI_nat]; exact vp_in_nI hj (by omega)
theorem iI_cl {z : Int} {j : Nat} (hz : z = (j : Int)) (hj : j < 2147483648) : (iI z).toNatClampNeg = j := by
  subst hz; rw [iI_nat]; exact nI_clamp (by omega)
theorem bI_0 (b : Bool) : bI b = 0 ↔ b = false := by cases b <;> simp [bI]
theorem bI_1 (b : Bool) : bI b = 1 ↔ b = true := by cases b <;> simp [bI]
theorem bI_nar (b : Bool) : vp_nar .boolean (bI b) = bI b := by cases b <;> rfl
theorem bI_n (b : Bool) : narrow .boolean (.int (bI b)) = .int (bI b) := by cases b <;> rfl
theorem bI_f (b : Bool) : fits .boolean (.int (bI b)) = true := by cases b <;> rfl
/-- all that is at or above B is ours -/
def aB (B : Nat) : Nat → Prop := fun q => B ≤ q
abbrev ZT : Type := State → Heap → Prop
/-- what the start gives for good: it stays as long as nothing below B is written -/
def Zmov (B : Nat) (Z : ZT) : Prop := (∀ (s U : State) (H H1 : Heap), s.WarmedH U.vm → H.size ≤ H1.size → (∀ a : Nat, a < H.size → ¬ aB B a → H1[a]? = H[a]?) → Z s H → Z U H1) ∧ ∀ (U U' : State) (H : Heap), U.vm = U'.vm → Z U H → Z U' H
def Cx (p : Program) (m : MethodId) (c : Code) (s : State) (args : Array Value) (cc : ByteArray) (nL : Nat) (own : String) (Ts : List Cond) (H0 : Heap) (B : Nat) (D : va_G) (cl : List vw_C) (tys : List (ClassId × FieldType)) (Z : ZT) : Prop :=
  CallFix p m c cc nL s args Ts own ∧ va_K D cl tys s ∧ B ≤ H0.size ∧ Z s H0 ∧ Zmov B Z
def kV (p : Program) (l : Launch) (e : Env) (R : Room) (s : State) (m : MethodId) (args : Array Value) (below : List Frame) (meth : Method) (c : Code) (Q : State → Prop) (H0 : Heap) (B : Nat) (D : va_G) (cl : List vw_C) (nL N cells slots : Nat) (ad : Nat → Nat) (g : Nat → va_E) (lv : List (Nat × Value)) (st : List Value) (pc : Nat) : Prop :=
  ∀ (H : Heap) (locs : List Loc) (ls : Array Slot), lv_has ls nL lv → va_P D cl (wl N ad g) H → va_D (aB B) (wl N ad g) → va_S (aB B) H0 H locs → W p l e R s m args below meth c H locs cells slots Q (F0 m pc ls st)
section VR
variable {p : Program} {l : Launch} {e : Env} {R : Room} {s : State} {m : MethodId} {args : Array Value} {below : List Frame} {meth : Method} {c : Code} {Q : State → Prop} {H0 : Heap} {B : Nat} {D : va_G} {cl : List vw_C} {tys : List (ClassId × FieldType)} {Z : ZT} {cc : ByteArray} {nL N : Nat} {own : String} {Ts : List Cond} {cells slots : Nat} {ad : Nat → Nat} {g : Nat → va_E} {lv lv' : List (Nat × Value)} {st : List Value} {pc pc2 : Nat}
theorem Cx.hA (C : Cx p m c s args cc nL own Ts H0 B D cl tys Z) : ∀ q, H0.size ≤ q → aB B q := fun q h => Nat.le_trans C.2.2.1 h
theorem v_iconst {n : Int} (C : Cx p m c s args cc nL own Ts H0 B D cl tys Z) (hd : decode cc pc = .ok (.iconst n, 1) ∧ pc + 1 = pc2)  (k : kV p l e R s m args below meth c Q H0 B D cl nL N cells slots ad g lv (.int (iI n) :: st) pc2) : kV p l e R s m args below meth c Q H0 B D cl nL N cells slots ad g lv (st) pc := fun H locs ls hl hP hD hS => by
  obtain ⟨hd, rfl⟩ := hd
  exact lv_iconst (v := iI n) C.1.1 C.1.2.1 hd rfl (k H locs ls hl hP hD hS)
theorem v_bipush {n : Int} (C : Cx p m c s args cc nL own Ts H0 B D cl tys Z) (hd : decode cc pc = .ok (.bipush n, 2) ∧ pc + 2 = pc2) (hv : (Int8.ofInt n).toInt32 = iI n) (k : kV p l e R s m args below meth c Q H0 B D cl nL N cells slots ad g lv (.int (iI n) :: st) pc2) : kV p l e R s m args below meth c Q H0 B D cl nL N cells slots ad g lv (st) pc := fun H locs ls hl hP hD hS => by
  obtain ⟨hd, rfl⟩ := hd
  exact lv_bipush C.1.1 C.1.2.1 hd hv (k H locs ls hl hP hD hS)
theorem v_sipush {n : Int} (C : Cx p m c s args cc nL own Ts H0 B D cl tys Z) (hd : decode cc pc = .ok (.sipush n, 3) ∧ pc + 3 = pc2) (hv : (Int16.ofInt n).toInt32 = iI n) (k : kV p l e R s m args below meth c Q H0 B D cl nL N cells slots ad g lv (.int (iI n) :: st) pc2) : kV p l e R s m args below meth c Q H0 B D cl nL N cells slots ad g lv (st) pc := fun H locs ls hl hP hD hS => by
  obtain ⟨hd, rfl⟩ := hd
  exact lv_sipush C.1.1 C.1.2.1 hd hv (k H locs ls hl hP hD hS)
theorem v_lconst {n : Fin 2} {v : Int64} (C : Cx p m c s args cc nL own Ts H0 B D cl tys Z) (hd : decode cc pc = .ok (.lconst n, 1) ∧ pc + 1 = pc2) (hv : Int64.ofNat (n : Nat) = v) (k : kV p l e R s m args below meth c Q H0 B D cl nL N cells slots ad g lv (.long v :: st) pc2) : kV p l e R s m args below meth c Q H0 B D cl nL N cells slots ad g lv (st) pc := fun H locs ls hl hP hD hS => by
  obtain ⟨hd, rfl⟩ := hd
  exact lv_lconst C.1.1 C.1.2.1 hd hv (k H locs ls hl hP hD hS)
theorem v_iload_n {k9 : Fin 4} {i : Nat} {x : Int32} (C : Cx p m c s args cc nL own Ts H0 B D cl tys Z) (hd : decode cc pc = .ok (.iload_n k9, 1) ∧ pc + 1 = pc2) (hi : (k9 : Nat) = i) (j : Nat) (hj : lv[j]? = some (i, .int x)) (k : kV p l e R s m args below meth c Q H0 B D cl nL N cells slots ad g lv (.int x :: st) pc2) : kV p l e R s m args below meth c Q H0 B D cl nL N cells slots ad g lv (st) pc := fun H locs ls hl hP hD hS => by
  obtain ⟨hd, rfl⟩ := hd
  exact lv_iload_n C.1.1 C.1.2.1 hd hi (lv_at hl j hj) (k H locs ls hl hP hD hS)
theorem v_iload {i : Nat} {x : Int32} (C : Cx p m c s args cc nL own Ts H0 B D cl tys Z) (hd : decode cc pc = .ok (.iload i, 2) ∧ pc + 2 = pc2) (j : Nat) (hj : lv[j]? = some (i, .int x)) (k : kV p l e R s m args below meth c Q H0 B D cl nL N cells slots ad g lv (.int x :: st) pc2) : kV p l e R s m args below meth c Q H0 B D cl nL N cells slots ad g lv (st) pc := fun H locs ls hl hP hD hS => by
  obtain ⟨hd, rfl⟩ := hd
  exact lv_iload C.1.1 C.1.2.1 hd (lv_at hl j hj) (k H locs ls hl hP hD hS)
theorem v_aload_n {k9 : Fin 4} {i : Nat} {x : Nat} (C : Cx p m c s args cc nL own Ts H0 B D cl tys Z) (hd : decode cc pc = .ok (.aload_n k9, 1) ∧ pc + 1 = pc2) (hi : (k9 : Nat) = i) (j : Nat) (hj : lv[j]? = some (i, .ref x)) (k : kV p l e R s m args below meth c Q H0 B D cl nL N cells slots ad g lv (.ref x :: st) pc2) : kV p l e R s m args below meth c Q H0 B D cl nL N cells slots ad g lv (st) pc := fun H locs ls hl hP hD hS => by
  obtain ⟨hd, rfl⟩ := hd
  exact lv_aload_n C.1.1 C.1.2.1 hd hi (lv_at hl j hj) (k H locs ls hl hP hD hS)
theorem v_aload {i : Nat} {x : Nat} (C : Cx p m c s args cc nL own Ts H0 B D cl tys Z) (hd : decode cc pc = .ok (.aload i, 2) ∧ pc + 2 = pc2) (j : Nat) (hj : lv[j]? = some (i, .ref x)) (k : kV p l e R s m args below meth c Q H0 B D cl nL N cells slots ad g lv (.ref x :: st) pc2) : kV p l e R s m args below meth c Q H0 B D cl nL N cells slots ad g lv (st) pc := fun H locs ls hl hP hD hS => by
  obtain ⟨hd, rfl⟩ := hd
  exact lv_aload C.1.1 C.1.2.1 hd (lv_at hl j hj) (k H locs ls hl hP hD hS)
theorem v_lload_n {k9 : Fin 4} {i : Nat} {x : Int64} (C : Cx p m c s args cc nL own Ts H0 B D cl tys Z) (hd : decode cc pc = .ok (.lload_n k9, 1) ∧ pc + 1 = pc2) (hi : (k9 : Nat) = i) (j : Nat) (hj : lv[j]? = some (i, .long x)) (k : kV p l e R s m args below meth c Q H0 B D cl nL N cells slots ad g lv (.long x :: st) pc2) : kV p l e R s m args below meth c Q H0 B D cl nL N cells slots ad g lv (st) pc := fun H locs ls hl hP hD hS => by
  obtain ⟨hd, rfl⟩ := hd
  exact lv_lload_n C.1.1 C.1.2.1 hd hi (lv_at hl j hj) (k H locs ls hl hP hD hS)
theorem v_lload {i : Nat} {x : Int64} (C : Cx p m c s args cc nL own Ts H0 B D cl tys Z) (hd : decode cc pc = .ok (.lload i, 2) ∧ pc + 2 = pc2) (j : Nat) (hj : lv[j]? = some (i, .long x)) (k : kV p l e R s m args below meth c Q H0 B D cl nL N cells slots ad g lv (.long x :: st) pc2) : kV p l e R s m args below meth c Q H0 B D cl nL N cells slots ad g lv (st) pc := fun H locs ls hl hP hD hS => by
  obtain ⟨hd, rfl⟩ := hd
  exact lv_lload C.1.1 C.1.2.1 hd (lv_at hl j hj) (k H locs ls hl hP hD hS)
theorem v_istore_n {k9 : Fin 4} {i : Nat} {x : Int32} (C : Cx p m c s args cc nL own Ts H0 B D cl tys Z) (hd : decode cc pc = .ok (.istore_n k9, 1) ∧ pc + 1 = pc2) (hi : (k9 : Nat) = i) (hn : i < nL) (hf : (i, Value.int x) :: lv.filter (fun q => !(q.1 == i) && !(q.1 + 1 == i && q.2.category == 2)) = lv') (k : kV p l e R s m args below meth c Q H0 B D cl nL N cells slots ad g lv' (st) pc2) : kV p l e R s m args below meth c Q H0 B D cl nL N cells slots ad g lv (.int x :: st) pc := fun H locs ls hl hP hD hS => by
  obtain ⟨hd, rfl⟩ := hd
  exact lv_istore_n C.1.1 C.1.2.1 hd hi hl hn hf (fun ls' hl' => k H locs ls' hl' hP hD hS)
theorem v_istore {i : Nat} {x : Int32} (C : Cx p m c s args cc nL own Ts H0 B D cl tys Z) (hd : decode cc pc = .ok (.istore i, 2) ∧ pc + 2 = pc2) (hn : i < nL) (hf : (i, Value.int x) :: lv.filter (fun q => !(q.1 == i) && !(q.1 + 1 == i && q.2.category == 2)) = lv') (k : kV p l e R s m args below meth c Q H0 B D cl nL N cells slots ad g lv' (st) pc2) : kV p l e R s m args below meth c Q H0 B D cl nL N cells slots ad g lv (.int x :: st) pc := fun H locs ls hl hP hD hS => by
  obtain ⟨hd, rfl⟩ := hd
  exact lv_istore C.1.1 C.1.2.1 hd hl hn hf (fun ls' hl' => k H locs ls' hl' hP hD hS)
theorem v_astore_n {k9 : Fin 4} {i : Nat} {x : Nat} (C : Cx p m c s args cc nL own Ts H0 B D cl tys Z) (hd : decode cc pc = .ok (.astore_n k9, 1) ∧ pc + 1 = pc2) (hi : (k9 : Nat) = i) (hn : i < nL) (hf : (i, Value.ref x) :: lv.filter (fun q => !(q.1 == i) && !(q.1 + 1 == i && q.2.category == 2)) = lv') (k : kV p l e R s m args below meth c Q H0 B D cl nL N cells slots ad g lv' (st) pc2) : kV p l e R s m args below meth c Q H0 B D cl nL N cells slots ad g lv (.ref x :: st) pc := fun H locs ls hl hP hD hS => by
  obtain ⟨hd, rfl⟩ := hd
  exact lv_astore_n C.1.1 C.1.2.1 hd hi hl hn hf (fun ls' hl' => k H locs ls' hl' hP hD hS)
theorem v_astore {i : Nat} {x : Nat} (C : Cx p m c s args cc nL own Ts H0 B D cl tys Z) (hd : decode cc pc = .ok (.astore i, 2) ∧ pc + 2 = pc2) (hn : i < nL) (hf : (i, Value.ref x) :: lv.filter (fun q => !(q.1 == i) && !(q.1 + 1 == i && q.2.category == 2)) = lv') (k : kV p l e R s m args below meth c Q H0 B D cl nL N cells slots ad g lv' (st) pc2) : kV p l e R s m args below meth c Q H0 B D cl nL N cells slots ad g lv (.ref x :: st) pc := fun H locs ls hl hP hD hS => by
  obtain ⟨hd, rfl⟩ := hd
  exact lv_astore C.1.1 C.1.2.1 hd hl hn hf (fun ls' hl' => k H locs ls' hl' hP hD hS)
theorem v_iinc {i : Nat} {n z : Int} (C : Cx p m c s args cc nL own Ts H0 B D cl tys Z) (hd : decode cc pc = .ok (.iinc i n, 3) ∧ pc + 3 = pc2) (j : Nat) (hj : lv[j]? = some (i, .int (iI z))) (hn : i < nL) (hf : (i, Value.int (iI (z + n))) :: lv.filter (fun q => !(q.1 == i) && !(q.1 + 1 == i && q.2.category == 2)) = lv') (k : kV p l e R s m args below meth c Q H0 B D cl nL N cells slots ad g lv' (st) pc2) : kV p l e R s m args below meth c Q H0 B D cl nL N cells slots ad g lv (st) pc := fun H locs ls hl hP hD hS => by
  obtain ⟨hd, rfl⟩ := hd
  exact lv_iinc C.1.1 C.1.2.1 hd hl hj (iI_add z n) hn hf (fun ls' hl' => k H locs ls' hl' hP hD hS)
/-- fewer locals, by their places -/
theorem v_lv (ks : List Nat) (h : lv_pick lv ks = lv') (k : kV p l e R s m args below meth c Q H0 B D cl nL N cells slots ad g lv' (st) pc) : kV p l e R s m args below meth c Q H0 B D cl nL N cells slots ad g lv (st) pc := fun H locs ls hl hP hD hS => k H locs ls (lv_sub hl ks h) hP hD hS
theorem v_iadd {x y : Int32} (C : Cx p m c s args cc nL own Ts H0 B D cl tys Z) (hd : decode cc pc = .ok (.iadd, 1) ∧ pc + 1 = pc2)  (k : kV p l e R s m args below meth c Q H0 B D cl nL N cells slots ad g lv (.int (x + y) :: st) pc2) : kV p l e R s m args below meth c Q H0 B D cl nL N cells slots ad g lv (.int y :: .int x :: st) pc := fun H locs ls hl hP hD hS => by
  obtain ⟨hd, rfl⟩ := hd
  exact lv_iadd C.1.1 C.1.2.1 hd  (k H locs ls hl hP hD hS)
theorem v_isub {x y : Int32} (C : Cx p m c s args cc nL own Ts H0 B D cl tys Z) (hd : decode cc pc = .ok (.isub, 1) ∧ pc + 1 = pc2)  (k : kV p l e R s m args below meth c Q H0 B D cl nL N cells slots ad g lv (.int (x - y) :: st) pc2) : kV p l e R s m args below meth c Q H0 B D cl nL N cells slots ad g lv (.int y :: .int x :: st) pc := fun H locs ls hl hP hD hS => by
  obtain ⟨hd, rfl⟩ := hd
  exact lv_isub C.1.1 C.1.2.1 hd  (k H locs ls hl hP hD hS)
theorem v_imul {x y : Int32} (C : Cx p m c s args cc nL own Ts H0 B D cl tys Z) (hd : decode cc pc = .ok (.imul, 1) ∧ pc + 1 = pc2)  (k : kV p l e R s m args below meth c Q H0 B D cl nL N cells slots ad g lv (.int (x * y) :: st) pc2) : kV p l e R s m args below meth c Q H0 B D cl nL N cells slots ad g lv (.int y :: .int x :: st) pc := fun H locs ls hl hP hD hS => by
  obtain ⟨hd, rfl⟩ := hd
  exact lv_imul C.1.1 C.1.2.1 hd  (k H locs ls hl hP hD hS)
theorem v_iand {x y : Int32} (C : Cx p m c s args cc nL own Ts H0 B D cl tys Z) (hd : decode cc pc = .ok (.iand, 1) ∧ pc + 1 = pc2)  (k : kV p l e R s m args below meth c Q H0 B D cl nL N cells slots ad g lv (.int (x &&& y) :: st) pc2) : kV p l e R s m args below meth c Q H0 B D cl nL N cells slots ad g lv (.int y :: .int x :: st) pc := fun H locs ls hl hP hD hS => by
  obtain ⟨hd, rfl⟩ := hd
  exact lv_iand C.1.1 C.1.2.1 hd  (k H locs ls hl hP hD hS)
theorem v_ior {x y : Int32} (C : Cx p m c s args cc nL own Ts H0 B D cl tys Z) (hd : decode cc pc = .ok (.ior, 1) ∧ pc + 1 = pc2)  (k : kV p l e R s m args below meth c Q H0 B D cl nL N cells slots ad g lv (.int (x ||| y) :: st) pc2) : kV p l e R s m args below meth c Q H0 B D cl nL N cells slots ad g lv (.int y :: .int x :: st) pc := fun H locs ls hl hP hD hS => by
  obtain ⟨hd, rfl⟩ := hd
  exact lv_ior C.1.1 C.1.2.1 hd  (k H locs ls hl hP hD hS)
theorem v_ixor {x y : Int32} (C : Cx p m c s args cc nL own Ts H0 B D cl tys Z) (hd : decode cc pc = .ok (.ixor, 1) ∧ pc + 1 = pc2)  (k : kV p l e R s m args below meth c Q H0 B D cl nL N cells slots ad g lv (.int (x ^^^ y) :: st) pc2) : kV p l e R s m args below meth c Q H0 B D cl nL N cells slots ad g lv (.int y :: .int x :: st) pc := fun H locs ls hl hP hD hS => by
  obtain ⟨hd, rfl⟩ := hd
  exact lv_ixor C.1.1 C.1.2.1 hd  (k H locs ls hl hP hD hS)
theorem v_ishl {x y : Int32} (C : Cx p m c s args cc nL own Ts H0 B D cl tys Z) (hd : decode cc pc = .ok (.ishl, 1) ∧ pc + 1 = pc2)  (k : kV p l e R s m args below meth c Q H0 B D cl nL N cells slots ad g lv (.int (x <<< (y &&& 31)) :: st) pc2) : kV p l e R s m args below meth c Q H0 B D cl nL N cells slots ad g lv (.int y :: .int x :: st) pc := fun H locs ls hl hP hD hS => by
  obtain ⟨hd, rfl⟩ := hd
  exact lv_ishl C.1.1 C.1.2.1 hd  (k H locs ls hl hP hD hS)
theorem v_ishr {x y : Int32} (C : Cx p m c s args cc nL own Ts H0 B D cl tys Z) (hd : decode cc pc = .ok (.ishr, 1) ∧ pc + 1 = pc2)  (k : kV p l e R s m args below meth c Q H0 B D cl nL N cells slots ad g lv (.int (x >>> (y &&& 31)) :: st) pc2) : kV p l e R s m args below meth c Q H0 B D cl nL N cells slots ad g lv (.int y :: .int x :: st) pc := fun H locs ls hl hP hD hS => by
  obtain ⟨hd, rfl⟩ := hd
  exact lv_ishr C.1.1 C.1.2.1 hd  (k H locs ls hl hP hD hS)
theorem v_idiv {x y : Int32} (C : Cx p m c s args cc nL own Ts H0 B D cl tys Z) (hd : decode cc pc = .ok (.idiv, 1) ∧ pc + 1 = pc2) (hne : ¬ y = 0) (k : kV p l e R s m args below meth c Q H0 B D cl nL N cells slots ad g lv (.int (x / y) :: st) pc2) : kV p l e R s m args below meth c Q H0 B D cl nL N cells slots ad g lv (.int y :: .int x :: st) pc := fun H locs ls hl hP hD hS => by
  obtain ⟨hd, rfl⟩ := hd
  exact lv_idiv C.1.1 C.1.2.1 hd hne (k H locs ls hl hP hD hS)
theorem v_irem {x y : Int32} (C : Cx p m c s args cc nL own Ts H0 B D cl tys Z) (hd : decode cc pc = .ok (.irem, 1) ∧ pc + 1 = pc2) (hne : ¬ y = 0) (k : kV p l e R s m args below meth c Q H0 B D cl nL N cells slots ad g lv (.int (x - x / y * y) :: st) pc2) : kV p l e R s m args below meth c Q H0 B D cl nL N cells slots ad g lv (.int y :: .int x :: st) pc := fun H locs ls hl hP hD hS => by
  obtain ⟨hd, rfl⟩ := hd
  exact lv_irem C.1.1 C.1.2.1 hd hne (k H locs ls hl hP hD hS)
theorem v_ineg {x : Int32} (C : Cx p m c s args cc nL own Ts H0 B D cl tys Z) (hd : decode cc pc = .ok (.ineg, 1) ∧ pc + 1 = pc2)  (k : kV p l e R s m args below meth c Q H0 B D cl nL N cells slots ad g lv (.int (-x) :: st) pc2) : kV p l e R s m args below meth c Q H0 B D cl nL N cells slots ad g lv (.int x :: st) pc := fun H locs ls hl hP hD hS => by
  obtain ⟨hd, rfl⟩ := hd
  exact lv_ineg C.1.1 C.1.2.1 hd  (k H locs ls hl hP hD hS)
theorem v_iaddI {a b : Int} (C : Cx p m c s args cc nL own Ts H0 B D cl tys Z) (hd : decode cc pc = .ok (.iadd, 1) ∧ pc + 1 = pc2) (k : kV p l e R s m args below meth c Q H0 B D cl nL N cells slots ad g lv (.int (iI (a + b)) :: st) pc2) : kV p l e R s m args below meth c Q H0 B D cl nL N cells slots ad g lv (.int (iI b) :: .int (iI a) :: st) pc := v_iadd C hd (by rw [iI_add]; exact k)
theorem v_isubI {a b : Int} (C : Cx p m c s args cc nL own Ts H0 B D cl tys Z) (hd : decode cc pc = .ok (.isub, 1) ∧ pc + 1 = pc2) (k : kV p l e R s m args below meth c Q H0 B D cl nL N cells slots ad g lv (.int (iI (a - b)) :: st) pc2) : kV p l e R s m args below meth c Q H0 B D cl nL N cells slots ad g lv (.int (iI b) :: .int (iI a) :: st) pc := v_isub C hd (by rw [iI_sub]; exact k)
theorem v_imulI {a b : Int} (C : Cx p m c s args cc nL own Ts H0 B D cl tys Z) (hd : decode cc pc = .ok (.imul, 1) ∧ pc + 1 = pc2) (k : kV p l e R s m args below meth c Q H0 B D cl nL N cells slots ad g lv (.int (iI (a * b)) :: st) pc2) : kV p l e R s m args below meth c Q H0 B D cl nL N cells slots ad g lv (.int (iI b) :: .int (iI a) :: st) pc := v_imul C hd (by rw [iI_mul]; exact k)
theorem v_inegI {a : Int} (C : Cx p m c s args cc nL own Ts H0 B D cl tys Z) (hd : decode cc pc = .ok (.ineg, 1) ∧ pc + 1 = pc2) (k : kV p l e R s m args below meth c Q H0 B D cl nL N cells slots ad g lv (.int (iI (-a)) :: st) pc2) : kV p l e R s m args below meth c Q H0 B D cl nL N cells slots ad g lv (.int (iI a) :: st) pc := v_ineg C hd (by rw [iI_neg]; exact k)
theorem v_i2l {x : Int32} (C : Cx p m c s args cc nL own Ts H0 B D cl tys Z) (hd : decode cc pc = .ok (.i2l, 1) ∧ pc + 1 = pc2)  (k : kV p l e R s m args below meth c Q H0 B D cl nL N cells slots ad g lv (.long x.toInt64 :: st) pc2) : kV p l e R s m args below meth c Q H0 B D cl nL N cells slots ad g lv (.int x :: st) pc := fun H locs ls hl hP hD hS => by
  obtain ⟨hd, rfl⟩ := hd
  exact lv_i2l C.1.1 C.1.2.1 hd rfl (k H locs ls hl hP hD hS)
theorem v_lcmp {x y : Int64} (C : Cx p m c s args cc nL own Ts H0 B D cl tys Z) (hd : decode cc pc = .ok (.lcmp, 1) ∧ pc + 1 = pc2)  (k : kV p l e R s m args below meth c Q H0 B D cl nL N cells slots ad g lv (.int (lg_cmp x y) :: st) pc2) : kV p l e R s m args below meth c Q H0 B D cl nL N cells slots ad g lv (.long y :: .long x :: st) pc := fun H locs ls hl hP hD hS => by
  obtain ⟨hd, rfl⟩ := hd
  exact W.lcmp C.1.1 C.1.2.1 hd  (k H locs ls hl hP hD hS)
theorem v_dup {va : Value} (C : Cx p m c s args cc nL own Ts H0 B D cl tys Z) (hd : decode cc pc = .ok (.dup, 1) ∧ pc + 1 = pc2) (h1 : va.category = 1) (k : kV p l e R s m args below meth c Q H0 B D cl nL N cells slots ad g lv (va :: va :: st) pc2) : kV p l e R s m args below meth c Q H0 B D cl nL N cells slots ad g lv (va :: st) pc := fun H locs ls hl hP hD hS => by
  obtain ⟨hd, rfl⟩ := hd
  exact lv_dup C.1.1 C.1.2.1 hd h1 (k H locs ls hl hP hD hS)
theorem v_pop {va : Value} (C : Cx p m c s args cc nL own Ts H0 B D cl tys Z) (hd : decode cc pc = .ok (.pop, 1) ∧ pc + 1 = pc2) (h1 : va.category = 1) (k : kV p l e R s m args below meth c Q H0 B D cl nL N cells slots ad g lv (st) pc2) : kV p l e R s m args below meth c Q H0 B D cl nL N cells slots ad g lv (va :: st) pc := fun H locs ls hl hP hD hS => by
  obtain ⟨hd, rfl⟩ := hd
  exact lv_pop C.1.1 C.1.2.1 hd h1 (k H locs ls hl hP hD hS)
theorem v_dup_x1 {va vb : Value} (C : Cx p m c s args cc nL own Ts H0 B D cl tys Z) (hd : decode cc pc = .ok (.dup_x1, 1) ∧ pc + 1 = pc2) (h1 : va.category = 1) (h2 : vb.category = 1) (k : kV p l e R s m args below meth c Q H0 B D cl nL N cells slots ad g lv (va :: vb :: va :: st) pc2) : kV p l e R s m args below meth c Q H0 B D cl nL N cells slots ad g lv (va :: vb :: st) pc := fun H locs ls hl hP hD hS => by
  obtain ⟨hd, rfl⟩ := hd
  exact lv_dup_x1 C.1.1 C.1.2.1 hd h1 h2 (k H locs ls hl hP hD hS)
theorem v_dup_x2 {va vb vd : Value} (C : Cx p m c s args cc nL own Ts H0 B D cl tys Z) (hd : decode cc pc = .ok (.dup_x2, 1) ∧ pc + 1 = pc2) (h1 : va.category = 1) (h2 : vb.category = 1) (h3 : vd.category = 1) (k : kV p l e R s m args below meth c Q H0 B D cl nL N cells slots ad g lv (va :: vb :: vd :: va :: st) pc2) : kV p l e R s m args below meth c Q H0 B D cl nL N cells slots ad g lv (va :: vb :: vd :: st) pc := fun H locs ls hl hP hD hS => by
  obtain ⟨hd, rfl⟩ := hd
  exact lv_dup_x2 C.1.1 C.1.2.1 hd h1 h2 h3 (k H locs ls hl hP hD hS)
theorem v_dup2 {va vb : Value} (C : Cx p m c s args cc nL own Ts H0 B D cl tys Z) (hd : decode cc pc = .ok (.dup2, 1) ∧ pc + 1 = pc2) (h1 : va.category = 1) (h2 : vb.category = 1) (k : kV p l e R s m args below meth c Q H0 B D cl nL N cells slots ad g lv (va :: vb :: va :: vb :: st) pc2) : kV p l e R s m args below meth c Q H0 B D cl nL N cells slots ad g lv (va :: vb :: st) pc := fun H locs ls hl hP hD hS => by
  obtain ⟨hd, rfl⟩ := hd
  exact lv_dup2_11 C.1.1 C.1.2.1 hd h1 h2 (k H locs ls hl hP hD hS)
theorem v_if_eq {x : Int32} {off : Int} {tgt : Nat} (C : Cx p m c s args cc nL own Ts H0 B D cl tys Z) (hd : decode cc pc = .ok (.ifCond .eq off, 3) ∧ pc + 3 = pc2 ∧ (pc : Int) + off = (tgt : Int)) (kt : x = 0 → kV p l e R s m args below meth c Q H0 B D cl nL N cells slots ad g lv (st) tgt) (kf : ¬ x = 0 → kV p l e R s m args below meth c Q H0 B D cl nL N cells slots ad g lv (st) pc2) : kV p l e R s m args below meth c Q H0 B D cl nL N cells slots ad g lv (.int x :: st) pc := fun H locs ls hl hP hD hS => by
  obtain ⟨hd, rfl, ht⟩ := hd
  exact lv_if_eq C.1.1 C.1.2.1 hd ht (fun h => kt h H locs ls hl hP hD hS) (fun h => kf h H locs ls hl hP hD hS)
theorem v_if_ne {x : Int32} {off : Int} {tgt : Nat} (C : Cx p m c s args cc nL own Ts H0 B D cl tys Z) (hd : decode cc pc = .ok (.ifCond .ne off, 3) ∧ pc + 3 = pc2 ∧ (pc : Int) + off = (tgt : Int)) (kt : ¬ x = 0 → kV p l e R s m args below meth c Q H0 B D cl nL N cells slots ad g lv (st) tgt) (kf : x = 0 → kV p l e R s m args below meth c Q H0 B D cl nL N cells slots ad g lv (st) pc2) : kV p l e R s m args below meth c Q H0 B D cl nL N cells slots ad g lv (.int x :: st) pc := fun H locs ls hl hP hD hS => by
  obtain ⟨hd, rfl, ht⟩ := hd
  exact lv_if_ne C.1.1 C.1.2.1 hd ht (fun h => kt h H locs ls hl hP hD hS) (fun h => kf h H locs ls hl hP hD hS)
theorem v_if_lt {x : Int32} {off : Int} {tgt : Nat} (C : Cx p m c s args cc nL own Ts H0 B D cl tys Z) (hd : decode cc pc = .ok (.ifCond .lt off, 3) ∧ pc + 3 = pc2 ∧ (pc : Int) + off = (tgt : Int)) (kt : x < 0 → kV p l e R s m args below meth c Q H0 B D cl nL N cells slots ad g lv (st) tgt) (kf : ¬ x < 0 → kV p l e R s m args below meth c Q H0 B D cl nL N cells slots ad g lv (st) pc2) : kV p l e R s m args below meth c Q H0 B D cl nL N cells slots ad g lv (.int x :: st) pc := fun H locs ls hl hP hD hS => by
  obtain ⟨hd, rfl, ht⟩ := hd
  exact lv_if_lt C.1.1 C.1.2.1 hd ht (fun h => kt h H locs ls hl hP hD hS) (fun h => kf h H locs ls hl hP hD hS)
theorem v_if_ge {x : Int32} {off : Int} {tgt : Nat} (C : Cx p m c s args cc nL own Ts H0 B D cl tys Z) (hd : decode cc pc = .ok (.ifCond .ge off, 3) ∧ pc + 3 = pc2 ∧ (pc : Int) + off = (tgt : Int)) (kt : 0 ≤ x → kV p l e R s m args below meth c Q H0 B D cl nL N cells slots ad g lv (st) tgt) (kf : ¬ 0 ≤ x → kV p l e R s m args below meth c Q H0 B D cl nL N cells slots ad g lv (st) pc2) : kV p l e R s m args below meth c Q H0 B D cl nL N cells slots ad g lv (.int x :: st) pc := fun H locs ls hl hP hD hS => by
  obtain ⟨hd, rfl, ht⟩ := hd
  exact lv_if_ge C.1.1 C.1.2.1 hd ht (fun h => kt h H locs ls hl hP hD hS) (fun h => kf h H locs ls hl hP hD hS)
theorem v_if_gt {x : Int32} {off : Int} {tgt : Nat} (C : Cx p m c s args cc nL own Ts H0 B D cl tys Z) (hd : decode cc pc = .ok (.ifCond .gt off, 3) ∧ pc + 3 = pc2 ∧ (pc : Int) + off = (tgt : Int)) (kt : 0 < x → kV p l e R s m args below meth c Q H0 B D cl nL N cells slots ad g lv (st) tgt) (kf : ¬ 0 < x → kV p l e R s m args below meth c Q H0 B D cl nL N cells slots ad g lv (st) pc2) : kV p l e R s m args below meth c Q H0 B D cl nL N cells slots ad g lv (.int x :: st) pc := fun H locs ls hl hP hD hS => by
  obtain ⟨hd, rfl, ht⟩ := hd
  exact lv_if_gt C.1.1 C.1.2.1 hd ht (fun h => kt h H locs ls hl hP hD hS) (fun h => kf h H locs ls hl hP hD hS)
theorem v_if_le {x : Int32} {off : Int} {tgt : Nat} (C : Cx p m c s args cc nL own Ts H0 B D cl tys Z) (hd : decode cc pc = .ok (.ifCond .le off, 3) ∧ pc + 3 = pc2 ∧ (pc : Int) + off = (tgt : Int)) (kt : x ≤ 0 → kV p l e R s m args below meth c Q H0 B D cl nL N cells slots ad g lv (st) tgt) (kf : ¬ x ≤ 0 → kV p l e R s m args below meth c Q H0 B D cl nL N cells slots ad g lv (st) pc2) : kV p l e R s m args below meth c Q H0 B D cl nL N cells slots ad g lv (.int x :: st) pc := fun H locs ls hl hP hD hS => by
  obtain ⟨hd, rfl, ht⟩ := hd
  exact lv_if_le C.1.1 C.1.2.1 hd ht (fun h => kt h H locs ls hl hP hD hS) (fun h => kf h H locs ls hl hP hD hS)
theorem v_icmp_eq {x y : Int32} {off : Int} {tgt : Nat} (C : Cx p m c s args cc nL own Ts H0 B D cl tys Z) (hd : decode cc pc = .ok (.if_icmp .eq off, 3) ∧ pc + 3 = pc2 ∧ (pc : Int) + off = (tgt : Int)) (kt : x = y → kV p l e R s m args below meth c Q H0 B D cl nL N cells slots ad g lv (st) tgt) (kf : ¬ x = y → kV p l e R s m args below meth c Q H0 B D cl nL N cells slots ad g lv (st) pc2) : kV p l e R s m args below meth c Q H0 B D cl nL N cells slots ad g lv (.int y :: .int x :: st) pc := fun H locs ls hl hP hD hS => by
  obtain ⟨hd, rfl, ht⟩ := hd
  exact lv_icmp_eq C.1.1 C.1.2.1 hd ht (fun h => kt h H locs ls hl hP hD hS) (fun h => kf h H locs ls hl hP hD hS)
theorem v_icmp_ne {x y : Int32} {off : Int} {tgt : Nat} (C : Cx p m c s args cc nL own Ts H0 B D cl tys Z) (hd : decode cc pc = .ok (.if_icmp .ne off, 3) ∧ pc + 3 = pc2 ∧ (pc : Int) + off = (tgt : Int)) (kt : ¬ x = y → kV p l e R s m args below meth c Q H0 B D cl nL N cells slots ad g lv (st) tgt) (kf : x = y → kV p l e R s m args below meth c Q H0 B D cl nL N cells slots ad g lv (st) pc2) : kV p l e R s m args below meth c Q H0 B D cl nL N cells slots ad g lv (.int y :: .int x :: st) pc := fun H locs ls hl hP hD hS => by
  obtain ⟨hd, rfl, ht⟩ := hd
  exact lv_icmp_ne C.1.1 C.1.2.1 hd ht (fun h => kt h H locs ls hl hP hD hS) (fun h => kf h H locs ls hl hP hD hS)
theorem v_icmp_lt {x y : Int32} {off : Int} {tgt : Nat} (C : Cx p m c s args cc nL own Ts H0 B D cl tys Z) (hd : decode cc pc = .ok (.if_icmp .lt off, 3) ∧ pc + 3 = pc2 ∧ (pc : Int) + off = (tgt : Int)) (kt : x < y → kV p l e R s m args below meth c Q H0 B D cl nL N cells slots ad g lv (st) tgt) (kf : ¬ x < y → kV p l e R s m args below meth c Q H0 B D cl nL N cells slots ad g lv (st) pc2) : kV p l e R s m args below meth c Q H0 B D cl nL N cells slots ad g lv (.int y :: .int x :: st) pc := fun H locs ls hl hP hD hS => by
  obtain ⟨hd, rfl, ht⟩ := hd
  exact lv_icmp_lt C.1.1 C.1.2.1 hd ht (fun h => kt h H locs ls hl hP hD hS) (fun h => kf h H locs ls hl hP hD hS)
theorem v_icmp_ge {x y : Int32} {off : Int} {tgt : Nat} (C : Cx p m c s args cc nL own Ts H0 B D cl tys Z) (hd : decode cc pc = .ok (.if_icmp .ge off, 3) ∧ pc + 3 = pc2 ∧ (pc : Int) + off = (tgt : Int)) (kt : y ≤ x → kV p l e R s m args below meth c Q H0 B D cl nL N cells slots ad g lv (st) tgt) (kf : ¬ y ≤ x → kV p l e R s m args below meth c Q H0 B D cl nL N cells slots ad g lv (st) pc2) : kV p l e R s m args below meth c Q H0 B D cl nL N cells slots ad g lv (.int y :: .int x :: st) pc := fun H locs ls hl hP hD hS => by
  obtain ⟨hd, rfl, ht⟩ := hd
  exact lv_icmp_ge C.1.1 C.1.2.1 hd ht (fun h => kt h H locs ls hl hP hD hS) (fun h => kf h H locs ls hl hP hD hS)
theorem v_icmp_gt {x y : Int32} {off : Int} {tgt : Nat} (C : Cx p m c s args cc nL own Ts H0 B D cl tys Z) (hd : decode cc pc = .ok (.if_icmp .gt off, 3) ∧ pc + 3 = pc2 ∧ (pc : Int) + off = (tgt : Int)) (kt : y < x → kV p l e R s m args below meth c Q H0 B D cl nL N cells slots ad g lv (st) tgt) (kf : ¬ y < x → kV p l e R s m args below meth c Q H0 B D cl nL N cells slots ad g lv (st) pc2) : kV p l e R s m args below meth c Q H0 B D cl nL N cells slots ad g lv (.int y :: .int x :: st) pc := fun H locs ls hl hP hD hS => by
  obtain ⟨hd, rfl, ht⟩ := hd
  exact lv_icmp_gt C.1.1 C.1.2.1 hd ht (fun h => kt h H locs ls hl hP hD hS) (fun h => kf h H locs ls hl hP hD hS)
theorem v_icmp_le {x y : Int32} {off : Int} {tgt : Nat} (C : Cx p m c s args cc nL own Ts H0 B D cl tys Z) (hd : decode cc pc = .ok (.if_icmp .le off, 3) ∧ pc + 3 = pc2 ∧ (pc : Int) + off = (tgt : Int)) (kt : x ≤ y → kV p l e R s m args below meth c Q H0 B D cl nL N cells slots ad g lv (st) tgt) (kf : ¬ x ≤ y → kV p l e R s m args below meth c Q H0 B D cl nL N cells slots ad g lv (st) pc2) : kV p l e R s m args below meth c Q H0 B D cl nL N cells slots ad g lv (.int y :: .int x :: st) pc := fun H locs ls hl hP hD hS => by
  obtain ⟨hd, rfl, ht⟩ := hd
  exact lv_icmp_le C.1.1 C.1.2.1 hd ht (fun h => kt h H locs ls hl hP hD hS) (fun h => kf h H locs ls hl hP hD hS)
theorem v_if_eqI {a : Int} {off : Int} {tgt : Nat} (C : Cx p m c s args cc nL own Ts H0 B D cl tys Z) (hd : decode cc pc = .ok (.ifCond .eq off, 3) ∧ pc + 3 = pc2 ∧ (pc : Int) + off = (tgt : Int)) (a1 : -2147483648 ≤ a) (a2 : a < 2147483648) (kt : a = 0 → kV p l e R s m args below meth c Q H0 B D cl nL N cells slots ad g lv (st) tgt) (kf : a ≠ 0 → kV p l e R s m args below meth c Q H0 B D cl nL N cells slots ad g lv (st) pc2) : kV p l e R s m args below meth c Q H0 B D cl nL N cells slots ad g lv (.int (iI a) :: st) pc := by
  have hu := (iI_eq (a := a) (b := 0) a1 a2 (by omega) (by omega))
  rw [iI_0] at hu
  refine v_if_eq C hd (fun h => kt (by rw [hu] at h; omega)) (fun h => kf (by rw [hu] at h; omega))
theorem v_if_neI {a : Int} {off : Int} {tgt : Nat} (C : Cx p m c s args cc nL own Ts H0 B D cl tys Z) (hd : decode cc pc = .ok (.ifCond .ne off, 3) ∧ pc + 3 = pc2 ∧ (pc : Int) + off = (tgt : Int)) (a1 : -2147483648 ≤ a) (a2 : a < 2147483648) (kt : a ≠ 0 → kV p l e R s m args below meth c Q H0 B D cl nL N cells slots ad g lv (st) tgt) (kf : a = 0 → kV p l e R s m args below meth c Q H0 B D cl nL N cells slots ad g lv (st) pc2) : kV p l e R s m args below meth c Q H0 B D cl nL N cells slots ad g lv (.int (iI a) :: st) pc := by
  have hu := (iI_eq (a := a) (b := 0) a1 a2 (by omega) (by omega))
  rw [iI_0] at hu
  refine v_if_ne C hd (fun h => kt (by rw [hu] at h; omega)) (fun h => kf (by rw [hu] at h; omega))
theorem v_if_ltI {a : Int} {off : Int} {tgt : Nat} (C : Cx p m c s args cc nL own Ts H0 B D cl tys Z) (hd : decode cc pc = .ok (.ifCond .lt off, 3) ∧ pc + 3 = pc2 ∧ (pc : Int) + off = (tgt : Int)) (a1 : -2147483648 ≤ a) (a2 : a < 2147483648) (kt : a < 0 → kV p l e R s m args below meth c Q H0 B D cl nL N cells slots ad g lv (st) tgt) (kf : 0 ≤ a → kV p l e R s m args below meth c Q H0 B D cl nL N cells slots ad g lv (st) pc2) : kV p l e R s m args below meth c Q H0 B D cl nL N cells slots ad g lv (.int (iI a) :: st) pc := by
  have hu := (iI_lt (a := a) (b := 0) a1 a2 (by omega) (by omega))
  rw [iI_0] at hu
  refine v_if_lt C hd (fun h => kt (by rw [hu] at h; omega)) (fun h => kf (by rw [hu] at h; omega))
theorem v_if_geI {a : Int} {off : Int} {tgt : Nat} (C : Cx p m c s args cc nL own Ts H0 B D cl tys Z) (hd : decode cc pc = .ok (.ifCond .ge off, 3) ∧ pc + 3 = pc2 ∧ (pc : Int) + off = (tgt : Int)) (a1 : -2147483648 ≤ a) (a2 : a < 2147483648) (kt : 0 ≤ a → kV p l e R s m args below meth c Q H0 B D cl nL N cells slots ad g lv (st) tgt) (kf : a < 0 → kV p l e R s m args below meth c Q H0 B D cl nL N cells slots ad g lv (st) pc2) : kV p l e R s m args below meth c Q H0 B D cl nL N cells slots ad g lv (.int (iI a) :: st) pc := by
  have hu := (iI_le (a := 0) (b := a) (by omega) (by omega) a1 a2)
  rw [iI_0] at hu
  refine v_if_ge C hd (fun h => kt (by rw [hu] at h; omega)) (fun h => kf (by rw [hu] at h; omega))
theorem v_if_gtI {a : Int} {off : Int} {tgt : Nat} (C : Cx p m c s args cc nL own Ts H0 B D cl tys Z) (hd : decode cc pc = .ok (.ifCond .gt off, 3) ∧ pc + 3 = pc2 ∧ (pc : Int) + off = (tgt : Int)) (a1 : -2147483648 ≤ a) (a2 : a < 2147483648) (kt : 0 < a → kV p l e R s m args below meth c Q H0 B D cl nL N cells slots ad g lv (st) tgt) (kf : a ≤ 0 → kV p l e R s m args below meth c Q H0 B D cl nL N cells slots ad g lv (st) pc2) : kV p l e R s m args below meth c Q H0 B D cl nL N cells slots ad g lv (.int (iI a) :: st) pc := by
  have hu := (iI_lt (a := 0) (b := a) (by omega) (by omega) a1 a2)
  rw [iI_0] at hu
  refine v_if_gt C hd (fun h => kt (by rw [hu] at h; omega)) (fun h => kf (by rw [hu] at h; omega))
theorem v_if_leI {a : Int} {off : Int} {tgt : Nat} (C : Cx p m c s args cc nL own Ts H0 B D cl tys Z) (hd : decode cc pc = .ok (.ifCond .le off, 3) ∧ pc + 3 = pc2 ∧ (pc : Int) + off = (tgt : Int)) (a1 : -2147483648 ≤ a) (a2 : a < 2147483648) (kt : a ≤ 0 → kV p l e R s m args below meth c Q H0 B D cl nL N cells slots ad g lv (st) tgt) (kf : 0 < a → kV p l e R s m args below meth c Q H0 B D cl nL N cells slots ad g lv (st) pc2) : kV p l e R s m args below meth c Q H0 B D cl nL N cells slots ad g lv (.int (iI a) :: st) pc := by
  have hu := (iI_le (a := a) (b := 0) a1 a2 (by omega) (by omega))
  rw [iI_0] at hu
  refine v_if_le C hd (fun h => kt (by rw [hu] at h; omega)) (fun h => kf (by rw [hu] at h; omega))
theorem v_icmp_eqI {a b : Int} {off : Int} {tgt : Nat} (C : Cx p m c s args cc nL own Ts H0 B D cl tys Z) (hd : decode cc pc = .ok (.if_icmp .eq off, 3) ∧ pc + 3 = pc2 ∧ (pc : Int) + off = (tgt : Int)) (a1 : -2147483648 ≤ a) (a2 : a < 2147483648) (b1 : -2147483648 ≤ b) (b2 : b < 2147483648) (kt : a = b → kV p l e R s m args below meth c Q H0 B D cl nL N cells slots ad g lv (st) tgt) (kf : a ≠ b → kV p l e R s m args below meth c Q H0 B D cl nL N cells slots ad g lv (st) pc2) : kV p l e R s m args below meth c Q H0 B D cl nL N cells slots ad g lv (.int (iI b) :: .int (iI a) :: st) pc := by
  have hu := (iI_eq a1 a2 b1 b2)
  refine v_icmp_eq C hd (fun h => kt (by rw [hu] at h; omega)) (fun h => kf (by rw [hu] at h; omega))
theorem v_icmp_neI {a b : Int} {off : Int} {tgt : Nat} (C : Cx p m c s args cc nL own Ts H0 B D cl tys Z) (hd : decode cc pc = .ok (.if_icmp .ne off, 3) ∧ pc + 3 = pc2 ∧ (pc : Int) + off = (tgt : Int)) (a1 : -2147483648 ≤ a) (a2 : a < 2147483648) (b1 : -2147483648 ≤ b) (b2 : b < 2147483648) (kt : a ≠ b → kV p l e R s m args below meth c Q H0 B D cl nL N cells slots ad g lv (st) tgt) (kf : a = b → kV p l e R s m args below meth c Q H0 B D cl nL N cells slots ad g lv (st) pc2) : kV p l e R s m args below meth c Q H0 B D cl nL N cells slots ad g lv (.int (iI b) :: .int (iI a) :: st) pc := by
  have hu := (iI_eq a1 a2 b1 b2)
  refine v_icmp_ne C hd (fun h => kt (by rw [hu] at h; omega)) (fun h => kf (by rw [hu] at h; omega))
theorem v_icmp_ltI {a b : Int} {off : Int} {tgt : Nat} (C : Cx p m c s args cc nL own Ts H0 B D cl tys Z) (hd : decode cc pc = .ok (.if_icmp .lt off, 3) ∧ pc + 3 = pc2 ∧ (pc : Int) + off = (tgt : Int)) (a1 : -2147483648 ≤ a) (a2 : a < 2147483648) (b1 : -2147483648 ≤ b) (b2 : b < 2147483648) (kt : a < b → kV p l e R s m args below meth c Q H0 B D cl nL N cells slots ad g lv (st) tgt) (kf : b ≤ a → kV p l e R s m args below meth c Q H0 B D cl nL N cells slots ad g lv (st) pc2) : kV p l e R s m args below meth c Q H0 B D cl nL N cells slots ad g lv (.int (iI b) :: .int (iI a) :: st) pc := by
  have hu := (iI_lt a1 a2 b1 b2)
  refine v_icmp_lt C hd (fun h => kt (by rw [hu] at h; omega)) (fun h => kf (by rw [hu] at h; omega))
theorem v_icmp_geI {a b : Int} {off : Int} {tgt : Nat} (C : Cx p m c s args cc nL own Ts H0 B D cl tys Z) (hd : decode cc pc = .ok (.if_icmp .ge off, 3) ∧ pc + 3 = pc2 ∧ (pc : Int) + off = (tgt : Int)) (a1 : -2147483648 ≤ a) (a2 : a < 2147483648) (b1 : -2147483648 ≤ b) (b2 : b < 2147483648) (kt : b ≤ a → kV p l e R s m args below meth c Q H0 B D cl nL N cells slots ad g lv (st) tgt) (kf : a < b → kV p l e R s m args below meth c Q H0 B D cl nL N cells slots ad g lv (st) pc2) : kV p l e R s m args below meth c Q H0 B D cl nL N cells slots ad g lv (.int (iI b) :: .int (iI a) :: st) pc := by
  have hu := (iI_le b1 b2 a1 a2)
  refine v_icmp_ge C hd (fun h => kt (by rw [hu] at h; omega)) (fun h => kf (by rw [hu] at h; omega))
theorem v_icmp_gtI {a b : Int} {off : Int} {tgt : Nat} (C : Cx p m c s args cc nL own Ts H0 B D cl tys Z) (hd : decode cc pc = .ok (.if_icmp .gt off, 3) ∧ pc + 3 = pc2 ∧ (pc : Int) + off = (tgt : Int)) (a1 : -2147483648 ≤ a) (a2 : a < 2147483648) (b1 : -2147483648 ≤ b) (b2 : b < 2147483648) (kt : b < a → kV p l e R s m args below meth c Q H0 B D cl nL N cells slots ad g lv (st) tgt) (kf : a ≤ b → kV p l e R s m args below meth c Q H0 B D cl nL N cells slots ad g lv (st) pc2) : kV p l e R s m args below meth c Q H0 B D cl nL N cells slots ad g lv (.int (iI b) :: .int (iI a) :: st) pc := by
  have hu := (iI_lt b1 b2 a1 a2)
  refine v_icmp_gt C hd (fun h => kt (by rw [hu] at h; omega)) (fun h => kf (by rw [hu] at h; omega))
theorem v_icmp_leI {a b : Int} {off : Int} {tgt : Nat} (C : Cx p m c s args cc nL own Ts H0 B D cl tys Z) (hd : decode cc pc = .ok (.if_icmp .le off, 3) ∧ pc + 3 = pc2 ∧ (pc : Int) + off = (tgt : Int)) (a1 : -2147483648 ≤ a) (a2 : a < 2147483648) (b1 : -2147483648 ≤ b) (b2 : b < 2147483648) (kt : a ≤ b → kV p l e R s m args below meth c Q H0 B D cl nL N cells slots ad g lv (st) tgt) (kf : b < a → kV p l e R s m args below meth c Q H0 B D cl nL N cells slots ad g lv (st) pc2) : kV p l e R s m args below meth c Q H0 B D cl nL N cells slots ad g lv (.int (iI b) :: .int (iI a) :: st) pc := by
  have hu := (iI_le a1 a2 b1 b2)
  refine v_icmp_le C hd (fun h => kt (by rw [hu] at h; omega)) (fun h => kf (by rw [hu] at h; omega))
theorem v_if_eqB {b : Bool} {off : Int} {tgt : Nat} (C : Cx p m c s args cc nL own Ts H0 B D cl tys Z) (hd : decode cc pc = .ok (.ifCond .eq off, 3) ∧ pc + 3 = pc2 ∧ (pc : Int) + off = (tgt : Int)) (kt : b = false → kV p l e R s m args below meth c Q H0 B D cl nL N cells slots ad g lv (st) tgt) (kf : b = true → kV p l e R s m args below meth c Q H0 B D cl nL N cells slots ad g lv (st) pc2) : kV p l e R s m args below meth c Q H0 B D cl nL N cells slots ad g lv (.int (bI b) :: st) pc := by
  refine v_if_eq C hd (fun h => kt (by revert h; cases b <;> simp [bI])) (fun h => kf (by revert h; cases b <;> simp [bI]))
theorem v_if_neB {b : Bool} {off : Int} {tgt : Nat} (C : Cx p m c s args cc nL own Ts H0 B D cl tys Z) (hd : decode cc pc = .ok (.ifCond .ne off, 3) ∧ pc + 3 = pc2 ∧ (pc : Int) + off = (tgt : Int)) (kt : b = true → kV p l e R s m args below meth c Q H0 B D cl nL N cells slots ad g lv (st) tgt) (kf : b = false → kV p l e R s m args below meth c Q H0 B D cl nL N cells slots ad g lv (st) pc2) : kV p l e R s m args below meth c Q H0 B D cl nL N cells slots ad g lv (.int (bI b) :: st) pc := by
  refine v_if_ne C hd (fun h => kt (by revert h; cases b <;> simp [bI])) (fun h => kf (by revert h; cases b <;> simp [bI]))
theorem v_goto {off : Int} {tgt : Nat} (C : Cx p m c s args cc nL own Ts H0 B D cl tys Z) (hd : decode cc pc = .ok (.goto off, 3) ∧ (pc : Int) + off = (tgt : Int)) (k : kV p l e R s m args below meth c Q H0 B D cl nL N cells slots ad g lv (st) tgt) : kV p l e R s m args below meth c Q H0 B D cl nL N cells slots ad g lv (st) pc := fun H locs ls hl hP hD hS => lv_goto C.1.1 C.1.2.1 hd.1 hd.2 (k H locs ls hl hP hD hS)
theorem v_get {ref C0 : String} {T : u_T} {M ci index r : Nat} (C : Cx p m c s args cc nL own Ts H0 B D cl tys Z) (hin : ∀ w ∈ u_ws C0 T M, w ∈ Ts) (hr : r < N) {fs : List Value} (hg : g r = .inr (ci, fs)) (hc : cl[ci]? = some (C0, T, M)) (j : Nat) (hj : j < M) (hlink : Cond.fieldLink own index ref (T j).2.1 (T j).2.2.1 ∈ Ts) (hsame : (T j).1 = ref) {v : Value} (hv : fs[j]? = some v) (hd : decode cc pc = .ok (.getfield index, 3) ∧ pc + 3 = pc2) (k : kV p l e R s m args below meth c Q H0 B D cl nL N cells slots ad g lv (v :: st) pc2) : kV p l e R s m args below meth c Q H0 B D cl nL N cells slots ad g lv (.ref (ad r) :: st) pc := fun H locs ls hl hP hD hS => by
  obtain ⟨hd, rfl⟩ := hd
  exact va_get C.1.1 C.1.2.1 C.1.2.2.2.2 hin C.1.2.2.2.1 C.2.1 hP r ((wl_get hr).trans (by rw [hg])) hc j hj (C.1.2.2.2.2 _ hlink) (fun x hx => by rw [← hsame]; exact hx) hv hd (k H locs ls hl hP hD hS)
theorem v_put {ref C0 : String} {T : u_T} {M ci index r : Nat} (C : Cx p m c s args cc nL own Ts H0 B D cl tys Z) (hin : ∀ w ∈ u_ws C0 T M, w ∈ Ts) (ty0 : Nat → FieldType) (hty : ∀ k, k < M → parseFieldDescriptor (T k).2.2.1 = some (ty0 k)) (hnm : ∀ a, a < M → ∀ b, b < M → a ≠ b → (T a).2.1 ≠ (T b).2.1) (hr : r < N) {fs fs' : List Value} (hg : g r = .inr (ci, fs)) (hc : cl[ci]? = some (C0, T, M)) (j : Nat) (hj : j < M) (hlink : Cond.fieldLink own index ref (T j).2.1 (T j).2.2.1 ∈ Ts) (hsame : (T j).1 = ref) (hfin : (T j).2.2.2 = false) {ty : FieldType} {v : Value} (hdp : parseFieldDescriptor (T j).2.2.1 = some ty) (hn : narrow ty v = v) (hfit : fits ty v = true) (hlen : j < fs.length) (hfs : fs.set j v = fs') (hd : decode cc pc = .ok (.putfield index, 3) ∧ pc + 3 = pc2) (k : ∀ g1 : Nat → va_E, g1 r = .inr (ci, fs') → (∀ r1, r1 ≠ r → g1 r1 = g r1) → kV p l e R s m args below meth c Q H0 B D cl nL N cells slots ad g1 lv (st) pc2) : kV p l e R s m args below meth c Q H0 B D cl nL N cells slots ad g lv (v :: .ref (ad r) :: st) pc := fun H locs ls hl hP hD hS => by
  obtain ⟨hd, rfl⟩ := hd
  refine va_put C.1.1 C.1.2.1 C.1.2.2.2.2 hin ty0 hty hnm C.1.2.2.2.1 C.2.1 hP hD hS r ((wl_get hr).trans (by rw [hg])) hc j hj (C.1.2.2.2.2 _ hlink) (fun x hx => by rw [← hsame]; exact hx) hfin hdp hn hfit hlen hd (fun H1 locs1 hP hD hS => ?_)
  rw [wl_set hr, hfs] at hP hD
  exact k _ (va_up_self _ _ _) (fun r1 h1 => va_up_ne _ _ h1) H1 locs1 ls hl hP hD hS
theorem v_putF {C0 : String} {T : u_T} {M ci index r : Nat} (C : Cx p m c s args cc nL own Ts H0 B D cl tys Z) (hin : ∀ w ∈ u_ws C0 T M, w ∈ Ts) (ty0 : Nat → FieldType) (hty : ∀ k, k < M → parseFieldDescriptor (T k).2.2.1 = some (ty0 k)) (hnm : ∀ a, a < M → ∀ b, b < M → a ≠ b → (T a).2.1 ≠ (T b).2.1) (hr : r < N) {fs fs' : List Value} (hg : g r = .inr (ci, fs)) (hc : cl[ci]? = some (C0, T, M)) (j : Nat) (hj : j < M) (hlink : Cond.fieldLink own index own (T j).2.1 (T j).2.2.1 ∈ Ts) (hsame : (T j).1 = own) (hfin : (T j).2.2.2 = true) (hin2 : meth.name = "<init>") {ty : FieldType} {v : Value} (hdp : parseFieldDescriptor (T j).2.2.1 = some ty) (hn : narrow ty v = v) (hfit : fits ty v = true) (hlen : j < fs.length) (hfs : fs.set j v = fs') (hd : decode cc pc = .ok (.putfield index, 3) ∧ pc + 3 = pc2) (k : ∀ g1 : Nat → va_E, g1 r = .inr (ci, fs') → (∀ r1, r1 ≠ r → g1 r1 = g r1) → kV p l e R s m args below meth c Q H0 B D cl nL N cells slots ad g1 lv (st) pc2) : kV p l e R s m args below meth c Q H0 B D cl nL N cells slots ad g lv (v :: .ref (ad r) :: st) pc := fun H locs ls hl hP hD hS => by
  obtain ⟨hd, rfl⟩ := hd
  refine va_putF (ref := own) C.1.1 C.1.2.1 C.1.2.2.2.2 hin ty0 hty hnm C.1.2.2.2.1 C.2.1 hP hD hS r ((wl_get hr).trans (by rw [hg])) hc j hj (C.1.2.2.2.2 _ hlink) (fun x hx => by rw [← hsame]; exact hx) hfin hin2 hsame hdp hn hfit hlen hd (fun H1 locs1 hP hD hS => ?_)
  rw [wl_set hr, hfs] at hP hD
  exact k _ (va_up_self _ _ _) (fun r1 h1 => va_up_ne _ _ h1) H1 locs1 ls hl hP hD hS
theorem v_iald {r n : Nat} {f : Nat → Int32} (C : Cx p m c s args cc nL own Ts H0 B D cl tys Z) (t0 : Nat) {cA : ClassId} (hr : r < N) (hg : g r = .inl (cA, n, .inl f)) (ht : tys[t0]? = some (cA, .int)) {z : Int} (i0 : Nat) (hz : z = (i0 : Int)) (hi0 : i0 < n) (hn9 : n < 2147483648) (hd : decode cc pc = .ok (.iaload, 1) ∧ pc + 1 = pc2) (k : kV p l e R s m args below meth c Q H0 B D cl nL N cells slots ad g lv (.int (f i0) :: st) pc2) : kV p l e R s m args below meth c Q H0 B D cl nL N cells slots ad g lv (.int (iI z) :: .ref (ad r) :: st) pc := fun H locs ls hl hP hD hS => by
  obtain ⟨hd, rfl⟩ := hd
  refine va_iald C.1.1 C.1.2.1 C.2.1 hP r t0 ((wl_get hr).trans (by rw [hg])) ht (iI_in hz hi0 hn9) hd ?_
  rw [iI_cl hz (by omega)]
  exact k H locs ls hl hP hD hS
theorem v_zald {r n : Nat} {f : Nat → Int32} (C : Cx p m c s args cc nL own Ts H0 B D cl tys Z) (t0 : Nat) {cA : ClassId} (hr : r < N) (hg : g r = .inl (cA, n, .inl f)) (ht : tys[t0]? = some (cA, .boolean)) {z : Int} (i0 : Nat) (hz : z = (i0 : Int)) (hi0 : i0 < n) (hn9 : n < 2147483648) (hd : decode cc pc = .ok (.baload, 1) ∧ pc + 1 = pc2) (k : kV p l e R s m args below meth c Q H0 B D cl nL N cells slots ad g lv (.int (f i0) :: st) pc2) : kV p l e R s m args below meth c Q H0 B D cl nL N cells slots ad g lv (.int (iI z) :: .ref (ad r) :: st) pc := fun H locs ls hl hP hD hS => by
  obtain ⟨hd, rfl⟩ := hd
  refine va_zald C.1.1 C.1.2.1 C.2.1 hP r t0 ((wl_get hr).trans (by rw [hg])) ht (iI_in hz hi0 hn9) hd ?_
  rw [iI_cl hz (by omega)]
  exact k H locs ls hl hP hD hS
theorem v_lald {r n : Nat} {f : Nat → Int64} (C : Cx p m c s args cc nL own Ts H0 B D cl tys Z) (t0 : Nat) {cA : ClassId} (hr : r < N) (hg : g r = .inl (cA, n, .inr (.inl f))) (ht : tys[t0]? = some (cA, .long)) {z : Int} (i0 : Nat) (hz : z = (i0 : Int)) (hi0 : i0 < n) (hn9 : n < 2147483648) (hd : decode cc pc = .ok (.laload, 1) ∧ pc + 1 = pc2) (k : kV p l e R s m args below meth c Q H0 B D cl nL N cells slots ad g lv (.long (f i0) :: st) pc2) : kV p l e R s m args below meth c Q H0 B D cl nL N cells slots ad g lv (.int (iI z) :: .ref (ad r) :: st) pc := fun H locs ls hl hP hD hS => by
  obtain ⟨hd, rfl⟩ := hd
  refine va_lald C.1.1 C.1.2.1 C.2.1 hP r t0 ((wl_get hr).trans (by rw [hg])) ht (iI_in hz hi0 hn9) hd ?_
  rw [iI_cl hz (by omega)]
  exact k H locs ls hl hP hD hS
theorem v_iast {r n : Nat} {f : Nat → Int32} {x : Int32} (C : Cx p m c s args cc nL own Ts H0 B D cl tys Z) (t0 : Nat) {cA : ClassId} (hr : r < N) (hg : g r = .inl (cA, n, .inl f)) (ht : tys[t0]? = some (cA, .int)) {z : Int} (i0 : Nat) (hz : z = (i0 : Int)) (hi0 : i0 < n) (hn9 : n < 2147483648) (hd : decode cc pc = .ok (.iastore, 1) ∧ pc + 1 = pc2) (k : ∀ g1 : Nat → va_E, g1 r = .inl (cA, n, .inl (upd f i0 x)) → (∀ r1, r1 ≠ r → g1 r1 = g r1) → kV p l e R s m args below meth c Q H0 B D cl nL N cells slots ad g1 lv (st) pc2) : kV p l e R s m args below meth c Q H0 B D cl nL N cells slots ad g lv (.int x :: .int (iI z) :: .ref (ad r) :: st) pc := fun H locs ls hl hP hD hS => by
  obtain ⟨hd, rfl⟩ := hd
  refine va_iast C.1.1 C.1.2.1 C.2.1 hP hD hS r t0 ((wl_get hr).trans (by rw [hg])) ht (iI_in hz hi0 hn9) hd (fun H1 locs1 hP hD hS => ?_)
  rw [iI_cl hz (by omega), wl_set hr] at hP hD
  exact k _ (va_up_self _ _ _) (fun r1 h1 => va_up_ne _ _ h1) H1 locs1 ls hl hP hD hS
theorem v_zast {r n : Nat} {f : Nat → Int32} {x : Int32} (C : Cx p m c s args cc nL own Ts H0 B D cl tys Z) (t0 : Nat) {cA : ClassId} (hr : r < N) (hg : g r = .inl (cA, n, .inl f)) (ht : tys[t0]? = some (cA, .boolean)) {z : Int} (i0 : Nat) (hz : z = (i0 : Int)) (hi0 : i0 < n) (hn9 : n < 2147483648) (hd : decode cc pc = .ok (.bastore, 1) ∧ pc + 1 = pc2) (k : ∀ g1 : Nat → va_E, g1 r = .inl (cA, n, .inl (upd f i0 (vp_nar .boolean x))) → (∀ r1, r1 ≠ r → g1 r1 = g r1) → kV p l e R s m args below meth c Q H0 B D cl nL N cells slots ad g1 lv (st) pc2) : kV p l e R s m args below meth c Q H0 B D cl nL N cells slots ad g lv (.int x :: .int (iI z) :: .ref (ad r) :: st) pc := fun H locs ls hl hP hD hS => by
  obtain ⟨hd, rfl⟩ := hd
  refine va_zast C.1.1 C.1.2.1 C.2.1 hP hD hS r t0 ((wl_get hr).trans (by rw [hg])) ht (iI_in hz hi0 hn9) hd (fun H1 locs1 hP hD hS => ?_)
  rw [iI_cl hz (by omega), wl_set hr] at hP hD
  exact k _ (va_up_self _ _ _) (fun r1 h1 => va_up_ne _ _ h1) H1 locs1 ls hl hP hD hS
theorem v_last {r n : Nat} {f : Nat → Int64} {x : Int64} (C : Cx p m c s args cc nL own Ts H0 B D cl tys Z) (t0 : Nat) {cA : ClassId} (hr : r < N) (hg : g r = .inl (cA, n, .inr (.inl f))) (ht : tys[t0]? = some (cA, .long)) {z : Int} (i0 : Nat) (hz : z = (i0 : Int)) (hi0 : i0 < n) (hn9 : n < 2147483648) (hd : decode cc pc = .ok (.lastore, 1) ∧ pc + 1 = pc2) (k : ∀ g1 : Nat → va_E, g1 r = .inl (cA, n, .inr (.inl (vp_updL f i0 x))) → (∀ r1, r1 ≠ r → g1 r1 = g r1) → kV p l e R s m args below meth c Q H0 B D cl nL N cells slots ad g1 lv (st) pc2) : kV p l e R s m args below meth c Q H0 B D cl nL N cells slots ad g lv (.long x :: .int (iI z) :: .ref (ad r) :: st) pc := fun H locs ls hl hP hD hS => by
  obtain ⟨hd, rfl⟩ := hd
  refine va_last C.1.1 C.1.2.1 C.2.1 hP hD hS r t0 ((wl_get hr).trans (by rw [hg])) ht (iI_in hz hi0 hn9) hd (fun H1 locs1 hP hD hS => ?_)
  rw [iI_cl hz (by omega), wl_set hr] at hP hD
  exact k _ (va_up_self _ _ _) (fun r1 h1 => va_up_ne _ _ h1) H1 locs1 ls hl hP hD hS
theorem v_alen {r n : Nat} {x : _} (C : Cx p m c s args cc nL own Ts H0 B D cl tys Z) (t0 : Nat) {cA : ClassId} {ty : FieldType} (hr : r < N) (hg : g r = .inl (cA, n, x)) (ht : tys[t0]? = some (cA, ty)) (hd : decode cc pc = .ok (.arraylength, 1) ∧ pc + 1 = pc2) (k : kV p l e R s m args below meth c Q H0 B D cl nL N cells slots ad g lv (.int (iI (n : Int)) :: st) pc2) : kV p l e R s m args below meth c Q H0 B D cl nL N cells slots ad g lv (.ref (ad r) :: st) pc := fun H locs ls hl hP hD hS => by
  obtain ⟨hd, rfl⟩ := hd
  exact va_alen (x := (n, x)) C.1.1 C.1.2.1 C.2.1 hP r t0 ((wl_get hr).trans (by rw [hg])) ht (v := iI (n : Int)) (iI_nat n).symm hd (k H locs ls hl hP hD hS)
theorem v_aald {r n : Nat} {f : Nat → Option Nat} (C : Cx p m c s args cc nL own Ts H0 B D cl tys Z) (t0 : Nat) {cA : ClassId} {C0 : String} (hr : r < N) (hg : g r = .inl (cA, n, .inr (.inr (.inr (.inr f))))) (ht : tys[t0]? = some (cA, .object C0)) {z : Int} (i0 : Nat) (hz : z = (i0 : Int)) (hi0 : i0 < n) (hn9 : n < 2147483648) {a : Nat} (ha : f i0 = some a) (hd : decode cc pc = .ok (.aaload, 1) ∧ pc + 1 = pc2) (k : kV p l e R s m args below meth c Q H0 B D cl nL N cells slots ad g lv (.ref a :: st) pc2) : kV p l e R s m args below meth c Q H0 B D cl nL N cells slots ad g lv (.int (iI z) :: .ref (ad r) :: st) pc := fun H locs ls hl hP hD hS => by
  obtain ⟨hd, rfl⟩ := hd
  refine va_aldq C.1.1 C.1.2.1 C.2.1 hP r t0 ((wl_get hr).trans (by rw [hg])) ht (iI_in hz hi0 hn9) hd ?_
  rw [iI_cl hz (by omega), ha]
  exact k H locs ls hl hP hD hS
theorem v_aast {r n r2 : Nat} {f : Nat → Option Nat} (C : Cx p m c s args cc nL own Ts H0 B D cl tys Z) (t0 ci : Nat) {cA : ClassId} {q : vw_C} {vs : List Value} (hr : r < N) (hg : g r = .inl (cA, n, .inr (.inr (.inr (.inr f))))) (ht : tys[t0]? = some (cA, .object q.1)) (hr2 : r2 < N) (hg2 : g r2 = .inr (ci, vs)) (hc : cl[ci]? = some q) {z : Int} (i0 : Nat) (hz : z = (i0 : Int)) (hi0 : i0 < n) (hn9 : n < 2147483648) (hd : decode cc pc = .ok (.aastore, 1) ∧ pc + 1 = pc2) (k : ∀ g1 : Nat → va_E, g1 r = .inl (cA, n, .inr (.inr (.inr (.inr (va_up f i0 (some (ad r2))))))) → (∀ r1, r1 ≠ r → g1 r1 = g r1) → kV p l e R s m args below meth c Q H0 B D cl nL N cells slots ad g1 lv (st) pc2) : kV p l e R s m args below meth c Q H0 B D cl nL N cells slots ad g lv (.ref (ad r2) :: .int (iI z) :: .ref (ad r) :: st) pc := fun H locs ls hl hP hD hS => by
  obtain ⟨hd, rfl⟩ := hd
  refine va_astq C.1.1 C.1.2.1 C.2.1 hP hD hS r t0 r2 ci ((wl_get hr).trans (by rw [hg])) ht ((wl_get hr2).trans (by rw [hg2])) hc (iI_in hz hi0 hn9) hd (fun H1 locs1 hP hD hS => ?_)
  rw [iI_cl hz (by omega), wl_set hr] at hP hD
  exact k _ (va_up_self _ _ _) (fun r1 h1 => va_up_ne _ _ h1) H1 locs1 ls hl hP hD hS
theorem v_newaR {r : Nat} (C : Cx p m c s args cc nL own Ts H0 B D cl tys Z) {atype : ArrayType} (harr : Cond.arrayClass (newarray.typeOf atype) ∈ Ts) {ty : FieldType} (hty : newarray.typeOf atype = ty) (t0 : Nat) {cA : ClassId} (ht : tys[t0]? = some (cA, ty)) {z : Int} {n : Nat} {a0 : vp_A} (hz : z = (n : Int)) (hn9 : n < 65536) (ha : ∀ cA : ClassId, vp_cell cA a0 = arrV cA n (fun _ => defaultValue ty)) (hbytes : n * componentBytes ty ≤ 536870912) (hcells : cells + 1 ≤ R.cells) (hslots : slots + n ≤ R.slots) (hd : decode cc pc = .ok (.newarray atype, 2) ∧ pc + 2 = pc2) (k : ∀ (ad1 : Nat → Nat) (g1 : Nat → va_E), (∀ r1, r1 ≠ r → ad1 r1 = ad r1) → g1 r = .inl (cA, a0) → (∀ r1, r1 ≠ r → g1 r1 = g r1) → kV p l e R s m args below meth c Q H0 B D cl nL N (cells + 1) (slots + n) ad1 g1 lv (.ref (ad1 r) :: st) pc2) : kV p l e R s m args below meth c Q H0 B D cl nL N cells slots ad g lv (.int (iI z) :: st) pc := fun H locs ls hl hP hD hS => by
  obtain ⟨hd, rfl⟩ := hd
  have hz0 : ¬ iI z < 0 := by subst hz; rw [iI_nat]; exact nI_pos (by omega)
  refine va_newa C.1.1 C.1.2.1 (C.1.2.2.2.2 _ harr) hty C.2.1 hP hD hS C.hA ha hz0 (iI_cl hz (by omega)) hbytes hcells hslots hd (fun q cA1 H1 hK hP hD hS => ?_)
  have hcA : cA1 = cA := va_arrU hK (by simp) (List.mem_append_left _ (List.mem_of_getElem? ht))
  subst hcA
  obtain ⟨hP, hD⟩ := wl_new (r := r) hP hD
  have h3 := k (va_up ad r q) (va_up g r (.inl (cA1, a0))) (fun r1 h1 => va_up_ne _ _ h1) (va_up_self _ _ _) (fun r1 h1 => va_up_ne _ _ h1) H1 locs ls hl hP hD hS
  rw [va_up_self] at h3
  exact h3
theorem v_newaP (C : Cx p m c s args cc nL own Ts H0 B D cl tys Z) {atype : ArrayType} (harr : Cond.arrayClass (newarray.typeOf atype) ∈ Ts) {ty : FieldType} (hty : newarray.typeOf atype = ty) (t0 : Nat) {cA : ClassId} (ht : tys[t0]? = some (cA, ty)) {z : Int} {n : Nat} {a0 : vp_A} (hz : z = (n : Int)) (hn9 : n < 65536) (ha : ∀ cA : ClassId, vp_cell cA a0 = arrV cA n (fun _ => defaultValue ty)) (hbytes : n * componentBytes ty ≤ 536870912) (hcells : cells + 1 ≤ R.cells) (hslots : slots + n ≤ R.slots) (hd : decode cc pc = .ok (.newarray atype, 2) ∧ pc + 2 = pc2) (k : ∀ (ad1 : Nat → Nat) (g1 : Nat → va_E), (∀ r1, r1 ≠ N → ad1 r1 = ad r1) → g1 N = .inl (cA, a0) → (∀ r1, r1 ≠ N → g1 r1 = g r1) → kV p l e R s m args below meth c Q H0 B D cl nL (N + 1) (cells + 1) (slots + n) ad1 g1 lv (.ref (ad1 N) :: st) pc2) : kV p l e R s m args below meth c Q H0 B D cl nL N cells slots ad g lv (.int (iI z) :: st) pc := fun H locs ls hl hP hD hS => by
  obtain ⟨hd, rfl⟩ := hd
  have hz0 : ¬ iI z < 0 := by subst hz; rw [iI_nat]; exact nI_pos (by omega)
  refine va_newa C.1.1 C.1.2.1 (C.1.2.2.2.2 _ harr) hty C.2.1 hP hD hS C.hA ha hz0 (iI_cl hz (by omega)) hbytes hcells hslots hd (fun q cA1 H1 hK hP hD hS => ?_)
  have hcA : cA1 = cA := va_arrU hK (by simp) (List.mem_append_left _ (List.mem_of_getElem? ht))
  subst hcA
  rw [wl_succ] at hP hD
  have h3 := k (va_up ad N q) (va_up g N (.inl (cA1, a0))) (fun r1 h1 => va_up_ne _ _ h1) (va_up_self _ _ _) (fun r1 h1 => va_up_ne _ _ h1) H1 locs ls hl hP hD hS
  rw [va_up_self] at h3
  exact h3
end VR
end
section
abbrev WT : Type := (Nat → Nat) × (Nat → va_E)
/-- a call's start: the words of the start, and the world -/
def wPc (B : Nat) (D : va_G) (cl : List vw_C) (tys : List (ClassId × FieldType)) (Z : ZT) (N : Nat) (as : List Value) (ad : Nat → Nat) (g : Nat → va_E) : Array Value → State → Prop := va_Pc as (fun U => B ≤ U.heap.size ∧ va_K D cl tys U ∧ Z U U.heap ∧ Zmov B Z ∧ va_P D cl (wl N ad g) U.heap ∧ va_D (aB B) (wl N ad g))
def wB (B : Nat) (D : va_G) (cl : List vw_C) (N : Nat) (u : WT) (t : State) : Prop := va_P D cl (wl N u.1 u.2) t.heap ∧ va_D (aB B) (wl N u.1 u.2)
abbrev QI (B : Nat) (D : va_G) (cl : List vw_C) (N : Nat) (post : Int32 → (Nat → Nat) → (Nat → va_E) → Prop) : Array Value → State → Outcome → State → Prop := va_Qi (fun r (u : WT) => post r u.1 u.2) (wB B D cl N) (aB B)
abbrev QV (B : Nat) (D : va_G) (cl : List vw_C) (N : Nat) (post : (Nat → Nat) → (Nat → va_E) → Prop) : Array Value → State → Outcome → State → Prop := va_Qv (fun (u : WT) => post u.1 u.2) (wB B D cl N) (aB B)
/-- where it throws: which class, and the world is as it was -/
abbrev QX (B : Nat) (D : va_G) (cl : List vw_C) (N : Nat) (xp : String → Prop) (ad : Nat → Nat) (g : Nat → va_E) : String → State → State → Prop := vx_X (fun _ : Unit => True) (fun E _ t => xp E ∧ wB B D cl N (ad, g) t) (aB B)
def kX (p : Program) (l : Launch) (e : Env) (R : Room) (s : State) (m : MethodId) (args : Array Value) (below : List Frame) (meth : Method) (c : Code) (Q : State → Prop) (H0 : Heap) (B : Nat) (D : va_G) (cl : List vw_C) (nL N cells slots : Nat) (ad : Nat → Nat) (g : Nat → va_E) (lv : List (Nat × Value)) (st : List Value) (pc : Nat) (E : String) : Prop :=
  ∀ (H : Heap) (locs : List Loc) (ls : Array Slot), lv_has ls nL lv → va_P D cl (wl N ad g) H → va_D (aB B) (wl N ad g) → va_S (aB B) H0 H locs → ∀ (q : Addr) (ce : Cell), H[q]? = some ce → ce.vm = .none → s.vm.findClass E = some ce.cls → vx_W p l e R s m args below meth c H locs cells slots Q (F0 m pc ls st) q
section CT
variable {p : Program} {l : Launch} {e : Env} {R : Room} {s : State} {m : MethodId} {args : Array Value} {below : List Frame} {meth : Method} {c : Code} {Q : State → Prop} {H0 : Heap} {B : Nat} {D : va_G} {cl : List vw_C} {tys : List (ClassId × FieldType)} {Z : ZT} {cc : ByteArray} {nL N N2 : Nat} {own : String} {Ts : List Cond} {cells slots : Nat} {ad : Nat → Nat} {g : Nat → va_E} {lv : List (Nat × Value)} {st st0 : List Value} {pc pc2 : Nat}
variable {y : MethodName} {bytes : ByteArray} {maxL mc ms n index : Nat} {ret : Option FieldType} {ws : List Cond} {rm : Room} {As : List Value} {C0 host : String} {xp : String → Prop}
theorem wPc_blind : FrameBlind (wPc B D cl tys Z N As ad g) := fun a U g9 mk q => by
  obtain ⟨q0, q1, q2, q3, q4, q5, q6⟩ := q
  exact ⟨q0, q1, va_K.moved (u := U) (U := U.calling g9 mk a) (Vm.Alike.refl U.vm) q2, q4.2 U _ _ rfl q3, q4, q5, q6⟩
theorem wPre (C : Cx p m c s args cc nL own Ts H0 B D cl tys Z) {H : Heap} {locs : List Loc} (hP : va_P D cl (wl N ad g) H) (hD : va_D (aB B) (wl N ad g)) (hS : va_S (aB B) H0 H locs) (U : State) (hU : U.heap = H) (hW : s.WarmedH U.vm) : wPc B D cl tys Z N As ad g As.toArray U :=
  ⟨rfl, by rw [hU]; exact Nat.le_trans C.2.2.1 hS.1, va_K.moved hW.alike C.2.1, by rw [hU]; exact C.2.2.2.2.1 s U H0 H hW hS.1 hS.2.1 C.2.2.2.1, C.2.2.2.2, by rw [hU]; exact hP, hD⟩
theorem wRecv (C : Cx p m c s args cc nL own Ts H0 B D cl tys Z) {H : Heap} (hP : va_P D cl (wl N ad g) H) {r ci : Nat} {q : vw_C} {fs : List Value} (hr : r < N) (hg : g r = .inr (ci, fs)) (hc : cl[ci]? = some q) : ∃ cell : Cell, H[ad r]? = some cell ∧ cell.vm.isStatics = false ∧ s.vm.findClass q.1 = some cell.cls :=
  va_recv C.2.1 hP hc (q0 := r) (fs := fs) ((wl_get hr).trans (by rw [hg]))
theorem ofI {post : Int32 → (Nat → Nat) → (Nat → va_E) → Prop} (hy : plainName y.cls = true) (hown : y.cls = own) (hlen : (lg_sl As).length ≤ maxL)
    (body : ∀ (p : Program) (e : Env) (s : State) (m : MethodId) (below : List Frame) (meth : Method) (c : Code) (Q : State → Prop), Cx p m c s As.toArray cc maxL own Ts s.heap B D cl tys Z → meth.name = y.name → (∀ (cells slots : Nat) (ad1 : Nat → Nat) (g1 : Nat → va_E) (lv : List (Nat × Value)) (v : Int32) (pc : Nat), cells ≤ mc → slots ≤ ms → decode cc pc = .ok (.ireturn, 1) → post v ad1 g1 → kV p l e rm s m As.toArray below meth c Q s.heap B D cl maxL N2 cells slots ad1 g1 lv [.int v] pc) → kV p l e rm s m As.toArray below meth c Q s.heap B D cl maxL N 0 0 ad g (lv_args 0 As) [] 0) : Met l y (Cond.code y cc maxL (some .int) :: Ts) rm (wPc B D cl tys Z N As ad g) (QI B D cl N2 post) mc ms (aB B) := by
  refine Met.ofW (cc := cc) (maxL := maxL) (ret := some .int) hy rfl ?_
  intro p e s m args below meth c s₁ B9 hml hv
  obtain ⟨rfl, hsz, hK, hZ, hZm, hP, hD⟩ := hv
  have hx := B9.exec
  have hb := B9.bytes
  have hr := B9.returns
  have hlocks := B9.notSynchronized
  have hts := atoms_spec (ws := Cond.code y cc maxL (some .int) :: Ts) B9.pre
  rw [lg_entry_eq]
  refine body p e s m below meth c _ ⟨⟨hx, hb, hml, by rw [← hown]; exact findClass_of_methodNamed B9.named, fun w hw => hts w (List.mem_cons_of_mem _ hw)⟩, hK, hsz, hZ, hZm⟩ (name_of_methodNamed B9.named B9.method).1 (fun cells slots ad1 g1 lv v pc h1 h2 hd hp H locs ls hl hP hD hS => ?_) s.heap [] _ (lv_entry As hlen) hP hD va_S.rf
  refine W.widen h1 h2 ?_
  exact W.iret hx hb hr (fun t ht hW => ⟨⟨v, (ad1, g1), rfl, hp, by rw [ht]; exact hP, hD⟩, hS.F ht⟩) hS.2.2 hd
theorem ofZ {post : Bool → (Nat → Nat) → (Nat → va_E) → Prop} (hy : plainName y.cls = true) (hown : y.cls = own) (hlen : (lg_sl As).length ≤ maxL)
    (body : ∀ (p : Program) (e : Env) (s : State) (m : MethodId) (below : List Frame) (meth : Method) (c : Code) (Q : State → Prop), Cx p m c s As.toArray cc maxL own Ts s.heap B D cl tys Z → meth.name = y.name → (∀ (cells slots : Nat) (ad1 : Nat → Nat) (g1 : Nat → va_E) (lv : List (Nat × Value)) (v : Bool) (pc : Nat), cells ≤ mc → slots ≤ ms → decode cc pc = .ok (.ireturn, 1) → post v ad1 g1 → kV p l e rm s m As.toArray below meth c Q s.heap B D cl maxL N2 cells slots ad1 g1 lv [.int (bI v)] pc) → kV p l e rm s m As.toArray below meth c Q s.heap B D cl maxL N 0 0 ad g (lv_args 0 As) [] 0) : Met l y (Cond.code y cc maxL (some .boolean) :: Ts) rm (wPc B D cl tys Z N As ad g) (QI B D cl N2 (fun v ad1 g1 => ∃ b, v = bI b ∧ post b ad1 g1)) mc ms (aB B) := by
  refine Met.ofW (cc := cc) (maxL := maxL) (ret := some .boolean) hy rfl ?_
  intro p e s m args below meth c s₁ B9 hml hv
  obtain ⟨rfl, hsz, hK, hZ, hZm, hP, hD⟩ := hv
  have hx := B9.exec
  have hb := B9.bytes
  have hr := B9.returns
  have hlocks := B9.notSynchronized
  have hts := atoms_spec (ws := Cond.code y cc maxL (some .boolean) :: Ts) B9.pre
  rw [lg_entry_eq]
  refine body p e s m below meth c _ ⟨⟨hx, hb, hml, by rw [← hown]; exact findClass_of_methodNamed B9.named, fun w hw => hts w (List.mem_cons_of_mem _ hw)⟩, hK, hsz, hZ, hZm⟩ (name_of_methodNamed B9.named B9.method).1 (fun cells slots ad1 g1 lv v pc h1 h2 hd hp H locs ls hl hP hD hS => ?_) s.heap [] _ (lv_entry As hlen) hP hD va_S.rf
  refine W.widen h1 h2 ?_
  exact W.zret hx hb hr (bI_n v) (fun t ht hW => ⟨⟨bI v, (ad1, g1), rfl, ⟨v, rfl, hp⟩, by rw [ht]; exact hP, hD⟩, hS.F ht⟩) hS.2.2 hd
theorem ofV {post : (Nat → Nat) → (Nat → va_E) → Prop} (hy : plainName y.cls = true) (hown : y.cls = own) (hlen : (lg_sl As).length ≤ maxL)
    (body : ∀ (p : Program) (e : Env) (s : State) (m : MethodId) (below : List Frame) (meth : Method) (c : Code) (Q : State → Prop), Cx p m c s As.toArray cc maxL own Ts s.heap B D cl tys Z → meth.name = y.name → (∀ (cells slots : Nat) (ad1 : Nat → Nat) (g1 : Nat → va_E) (lv : List (Nat × Value)) (pc : Nat), cells ≤ mc → slots ≤ ms → decode cc pc = .ok (.return_, 1) → post ad1 g1 → kV p l e rm s m As.toArray below meth c Q s.heap B D cl maxL N2 cells slots ad1 g1 lv [] pc) → kV p l e rm s m As.toArray below meth c Q s.heap B D cl maxL N 0 0 ad g (lv_args 0 As) [] 0) : Met l y (Cond.code y cc maxL (none) :: Ts) rm (wPc B D cl tys Z N As ad g) (QV B D cl N2 post) mc ms (aB B) := by
  refine Met.ofW (cc := cc) (maxL := maxL) (ret := none) hy rfl ?_
  intro p e s m args below meth c s₁ B9 hml hv
  obtain ⟨rfl, hsz, hK, hZ, hZm, hP, hD⟩ := hv
  have hx := B9.exec
  have hb := B9.bytes
  have hr := B9.returns
  have hlocks := B9.notSynchronized
  have hts := atoms_spec (ws := Cond.code y cc maxL (none) :: Ts) B9.pre
  rw [lg_entry_eq]
  refine body p e s m below meth c _ ⟨⟨hx, hb, hml, by rw [← hown]; exact findClass_of_methodNamed B9.named, fun w hw => hts w (List.mem_cons_of_mem _ hw)⟩, hK, hsz, hZ, hZm⟩ (name_of_methodNamed B9.named B9.method).1 (fun cells slots ad1 g1 lv pc h1 h2 hd hp H locs ls hl hP hD hS => ?_) s.heap [] _ (lv_entry As hlen) hP hD va_S.rf
  refine W.widen h1 h2 ?_
  exact W.vret hx hb hr (fun t ht hW => ⟨⟨(ad1, g1), rfl, hp, by rw [ht]; exact hP, hD⟩, hS.F ht⟩) hS.2.2 hd
theorem ofXI {post : Int32 → (Nat → Nat) → (Nat → va_E) → Prop} (hy : plainName y.cls = true) (hown : y.cls = own) (hlen : (lg_sl As).length ≤ maxL)
    (body : ∀ (p : Program) (e : Env) (s : State) (m : MethodId) (below : List Frame) (meth : Method) (c : Code) (Q : State → Prop), Cx p m c s As.toArray cc maxL own Ts s.heap B D cl tys Z → meth.locks = false → (∀ x ∈ c.exceptionTable.toList, False) → Q = vx_MQ below (QI B D cl N2 post) (QX B D cl N xp ad g) As.toArray s mc ms (aB B) → (∀ (cells slots : Nat) (ad1 : Nat → Nat) (g1 : Nat → va_E) (lv : List (Nat × Value)) (v : Int32) (pc : Nat), cells ≤ mc → slots ≤ ms → decode cc pc = .ok (.ireturn, 1) → post v ad1 g1 → kV p l e rm s m As.toArray below meth c Q s.heap B D cl maxL N2 cells slots ad1 g1 lv [.int v] pc) → (∀ (E : String) (cells slots : Nat) (lv : List (Nat × Value)) (st : List Value) (pc : Nat), xp E → cells ≤ mc → slots ≤ ms → kX p l e rm s m As.toArray below meth c Q s.heap B D cl maxL N cells slots ad g lv st pc E) → kV p l e rm s m As.toArray below meth c Q s.heap B D cl maxL N 0 0 ad g (lv_args 0 As) [] 0) : vx_Met l y (Cond.code y cc maxL (some .int) :: Ts) rm (wPc B D cl tys Z N As ad g) (QI B D cl N2 post) (QX B D cl N xp ad g) mc ms (aB B) := by
  refine vx_ofW (cc := cc) (maxL := maxL) (ret := some .int) hy rfl ?_
  intro p e s m args below meth c s₁ B9 hml htab hv
  obtain ⟨rfl, hsz, hK, hZ, hZm, hP, hD⟩ := hv
  have hx := B9.exec
  have hb := B9.bytes
  have hr := B9.returns
  have hlocks := B9.notSynchronized
  have hts := atoms_spec (ws := Cond.code y cc maxL (some .int) :: Ts) B9.pre
  rw [lg_entry_eq]
  refine body p e s m below meth c _ ⟨⟨hx, hb, hml, by rw [← hown]; exact findClass_of_methodNamed B9.named, fun w hw => hts w (List.mem_cons_of_mem _ hw)⟩, hK, hsz, hZ, hZm⟩ hlocks htab rfl (fun cells slots ad1 g1 lv v pc h1 h2 hd hp H locs ls hl hP hD hS => ?_) (fun E cells slots lv st pc hE h1 h2 H locs ls hl hP hD hS q ce hce hcv hcl => ?_) s.heap [] _ (lv_entry As hlen) hP hD va_S.rf
  · refine W.widen h1 h2 (vx_ret ?_)
    exact W.iret hx hb hr (fun t ht hW => ⟨⟨v, (ad1, g1), rfl, hp, by rw [ht]; exact hP, hD⟩, hS.F ht⟩) hS.2.2 hd
  · exact vx_out (fun x hx => (htab x hx).elim) hlocks hce hcv hcl (fun t ht ha => ⟨(), trivial, ⟨hE, by rw [ht]; exact hP, hD⟩, hS.F ht⟩) hS.2.2 h1 h2
theorem ofXZ {post : Bool → (Nat → Nat) → (Nat → va_E) → Prop} (hy : plainName y.cls = true) (hown : y.cls = own) (hlen : (lg_sl As).length ≤ maxL)
    (body : ∀ (p : Program) (e : Env) (s : State) (m : MethodId) (below : List Frame) (meth : Method) (c : Code) (Q : State → Prop), Cx p m c s As.toArray cc maxL own Ts s.heap B D cl tys Z → meth.locks = false → (∀ x ∈ c.exceptionTable.toList, False) → Q = vx_MQ below (QI B D cl N2 (fun v ad1 g1 => ∃ b, v = bI b ∧ post b ad1 g1)) (QX B D cl N xp ad g) As.toArray s mc ms (aB B) → (∀ (cells slots : Nat) (ad1 : Nat → Nat) (g1 : Nat → va_E) (lv : List (Nat × Value)) (v : Bool) (pc : Nat), cells ≤ mc → slots ≤ ms → decode cc pc = .ok (.ireturn, 1) → post v ad1 g1 → kV p l e rm s m As.toArray below meth c Q s.heap B D cl maxL N2 cells slots ad1 g1 lv [.int (bI v)] pc) → (∀ (E : String) (cells slots : Nat) (lv : List (Nat × Value)) (st : List Value) (pc : Nat), xp E → cells ≤ mc → slots ≤ ms → kX p l e rm s m As.toArray below meth c Q s.heap B D cl maxL N cells slots ad g lv st pc E) → kV p l e rm s m As.toArray below meth c Q s.heap B D cl maxL N 0 0 ad g (lv_args 0 As) [] 0) : vx_Met l y (Cond.code y cc maxL (some .boolean) :: Ts) rm (wPc B D cl tys Z N As ad g) (QI B D cl N2 (fun v ad1 g1 => ∃ b, v = bI b ∧ post b ad1 g1)) (QX B D cl N xp ad g) mc ms (aB B) := by
  refine vx_ofW (cc := cc) (maxL := maxL) (ret := some .boolean) hy rfl ?_
  intro p e s m args below meth c s₁ B9 hml htab hv
  obtain ⟨rfl, hsz, hK, hZ, hZm, hP, hD⟩ := hv
  have hx := B9.exec
  have hb := B9.bytes
  have hr := B9.returns
  have hlocks := B9.notSynchronized
  have hts := atoms_spec (ws := Cond.code y cc maxL (some .boolean) :: Ts) B9.pre
  rw [lg_entry_eq]
  refine body p e s m below meth c _ ⟨⟨hx, hb, hml, by rw [← hown]; exact findClass_of_methodNamed B9.named, fun w hw => hts w (List.mem_cons_of_mem _ hw)⟩, hK, hsz, hZ, hZm⟩ hlocks htab rfl (fun cells slots ad1 g1 lv v pc h1 h2 hd hp H locs ls hl hP hD hS => ?_) (fun E cells slots lv st pc hE h1 h2 H locs ls hl hP hD hS q ce hce hcv hcl => ?_) s.heap [] _ (lv_entry As hlen) hP hD va_S.rf
  · refine W.widen h1 h2 (vx_ret ?_)
    exact W.zret hx hb hr (bI_n v) (fun t ht hW => ⟨⟨bI v, (ad1, g1), rfl, ⟨v, rfl, hp⟩, by rw [ht]; exact hP, hD⟩, hS.F ht⟩) hS.2.2 hd
  · exact vx_out (fun x hx => (htab x hx).elim) hlocks hce hcv hcl (fun t ht ha => ⟨(), trivial, ⟨hE, by rw [ht]; exact hP, hD⟩, hS.F ht⟩) hS.2.2 h1 h2
theorem ofXV {post : (Nat → Nat) → (Nat → va_E) → Prop} (hy : plainName y.cls = true) (hown : y.cls = own) (hlen : (lg_sl As).length ≤ maxL)
    (body : ∀ (p : Program) (e : Env) (s : State) (m : MethodId) (below : List Frame) (meth : Method) (c : Code) (Q : State → Prop), Cx p m c s As.toArray cc maxL own Ts s.heap B D cl tys Z → meth.locks = false → (∀ x ∈ c.exceptionTable.toList, False) → Q = vx_MQ below (QV B D cl N2 post) (QX B D cl N xp ad g) As.toArray s mc ms (aB B) → (∀ (cells slots : Nat) (ad1 : Nat → Nat) (g1 : Nat → va_E) (lv : List (Nat × Value)) (pc : Nat), cells ≤ mc → slots ≤ ms → decode cc pc = .ok (.return_, 1) → post ad1 g1 → kV p l e rm s m As.toArray below meth c Q s.heap B D cl maxL N2 cells slots ad1 g1 lv [] pc) → (∀ (E : String) (cells slots : Nat) (lv : List (Nat × Value)) (st : List Value) (pc : Nat), xp E → cells ≤ mc → slots ≤ ms → kX p l e rm s m As.toArray below meth c Q s.heap B D cl maxL N cells slots ad g lv st pc E) → kV p l e rm s m As.toArray below meth c Q s.heap B D cl maxL N 0 0 ad g (lv_args 0 As) [] 0) : vx_Met l y (Cond.code y cc maxL (none) :: Ts) rm (wPc B D cl tys Z N As ad g) (QV B D cl N2 post) (QX B D cl N xp ad g) mc ms (aB B) := by
  refine vx_ofW (cc := cc) (maxL := maxL) (ret := none) hy rfl ?_
  intro p e s m args below meth c s₁ B9 hml htab hv
  obtain ⟨rfl, hsz, hK, hZ, hZm, hP, hD⟩ := hv
  have hx := B9.exec
  have hb := B9.bytes
  have hr := B9.returns
  have hlocks := B9.notSynchronized
  have hts := atoms_spec (ws := Cond.code y cc maxL (none) :: Ts) B9.pre
  rw [lg_entry_eq]
  refine body p e s m below meth c _ ⟨⟨hx, hb, hml, by rw [← hown]; exact findClass_of_methodNamed B9.named, fun w hw => hts w (List.mem_cons_of_mem _ hw)⟩, hK, hsz, hZ, hZm⟩ hlocks htab rfl (fun cells slots ad1 g1 lv pc h1 h2 hd hp H locs ls hl hP hD hS => ?_) (fun E cells slots lv st pc hE h1 h2 H locs ls hl hP hD hS q ce hce hcv hcl => ?_) s.heap [] _ (lv_entry As hlen) hP hD va_S.rf
  · refine W.widen h1 h2 (vx_ret ?_)
    exact W.vret hx hb hr (fun t ht hW => ⟨⟨(ad1, g1), rfl, hp, by rw [ht]; exact hP, hD⟩, hS.F ht⟩) hS.2.2 hd
  · exact vx_out (fun x hx => (htab x hx).elim) hlocks hce hcv hcl (fun t ht ha => ⟨(), trivial, ⟨hE, by rw [ht]; exact hP, hD⟩, hS.F ht⟩) hS.2.2 h1 h2
theorem v_callSI {post : Int32 → (Nat → Nat) → (Nat → va_E) → Prop} (C : Cx p m c s args cc nL own Ts H0 B D cl tys Z) (hM : Met l y ws rm (wPc B D cl tys Z N (As) ad g) (QI B D cl N2 post) mc ms (aB B)) (cw : CallB R s args own index y bytes maxL ret ws rm mc ms n ∧ (Cond.static y).before args s = true) (hAs : As.length = n) (hst : st0 = As.reverse ++ st) (hW : (st.map fun v => v.category).sum ≤ 8) (hd : decode cc pc = .ok (.invokestatic index, 3) ∧ pc + 3 = pc2) (hf : cells + mc ≤ R.cells ∧ slots + ms ≤ R.slots) (k : ∀ (v : Int32) (ad1 : Nat → Nat) (g1 : Nat → va_E), post v ad1 g1 → kV p l e R s m args below meth c Q H0 B D cl nL N2 (cells + mc) (slots + ms) ad1 g1 lv (.int v :: st) pc2) : kV p l e R s m args below meth c Q H0 B D cl nL N cells slots ad g lv st0 pc := fun H locs ls hl hP hD hS => by
  obtain ⟨hd, rfl⟩ := hd
  refine va_calli (va_runS (As := As) (rest := st) C.1 hM cw ⟨wPc_blind, wPre C hP hD hS⟩ rfl hAs hl.1 hst (lv_room hW) hd hf) hS (fun q _ h => h) (fun q h => h) (fun v u t H1 locs1 ht hvm hp hB hz hk hS1 => ?_)
  obtain ⟨hP1, hD1⟩ := hB
  rw [ht] at hP1
  exact k v u.1 u.2 hp H1 locs1 ls hl hP1 hD1 hS1
theorem v_callSV {post : (Nat → Nat) → (Nat → va_E) → Prop} (C : Cx p m c s args cc nL own Ts H0 B D cl tys Z) (hM : Met l y ws rm (wPc B D cl tys Z N (As) ad g) (QV B D cl N2 post) mc ms (aB B)) (cw : CallB R s args own index y bytes maxL ret ws rm mc ms n ∧ (Cond.static y).before args s = true) (hAs : As.length = n) (hst : st0 = As.reverse ++ st) (hW : (st.map fun v => v.category).sum ≤ 8) (hd : decode cc pc = .ok (.invokestatic index, 3) ∧ pc + 3 = pc2) (hf : cells + mc ≤ R.cells ∧ slots + ms ≤ R.slots) (k : ∀ (ad1 : Nat → Nat) (g1 : Nat → va_E), post ad1 g1 → kV p l e R s m args below meth c Q H0 B D cl nL N2 (cells + mc) (slots + ms) ad1 g1 lv st pc2) : kV p l e R s m args below meth c Q H0 B D cl nL N cells slots ad g lv st0 pc := fun H locs ls hl hP hD hS => by
  obtain ⟨hd, rfl⟩ := hd
  refine va_callv (va_runS (As := As) (rest := st) C.1 hM cw ⟨wPc_blind, wPre C hP hD hS⟩ rfl hAs hl.1 hst (lv_room hW) hd hf) hS (fun q _ h => h) (fun q h => h) (fun u t H1 locs1 ht hvm hp hB hz hk hS1 => ?_)
  obtain ⟨hP1, hD1⟩ := hB
  rw [ht] at hP1
  exact k u.1 u.2 hp H1 locs1 ls hl hP1 hD1 hS1
theorem v_callSNI {post : Int32 → (Nat → Nat) → (Nat → va_E) → Prop} (C : Cx p m c s args cc nL own Ts H0 B D cl tys Z) (hM : Met l y ws rm (wPc B D cl tys Z N (As) ad g) (QI B D cl N2 post) mc ms (aB B)) (cw : va_CN R s args own index y host bytes maxL ret ws rm mc ms n ∧ (Cond.static y).before args s = true ∧ True) (hAs : As.length = n) (hst : st0 = As.reverse ++ st) (hW : (st.map fun v => v.category).sum ≤ 8) (hd : decode cc pc = .ok (.invokestatic index, 3) ∧ pc + 3 = pc2) (hf : cells + mc ≤ R.cells ∧ slots + ms ≤ R.slots) (k : ∀ (v : Int32) (ad1 : Nat → Nat) (g1 : Nat → va_E), post v ad1 g1 → kV p l e R s m args below meth c Q H0 B D cl nL N2 (cells + mc) (slots + ms) ad1 g1 lv (.int v :: st) pc2) : kV p l e R s m args below meth c Q H0 B D cl nL N cells slots ad g lv st0 pc := fun H locs ls hl hP hD hS => by
  obtain ⟨hd, rfl⟩ := hd
  refine va_calli (va_runSN (As := As) (rest := st) C.1 hM cw ⟨wPc_blind, wPre C hP hD hS⟩ rfl hAs hl.1 hst (lv_room hW) hd hf) hS (fun q _ h => h) (fun q h => h) (fun v u t H1 locs1 ht hvm hp hB hz hk hS1 => ?_)
  obtain ⟨hP1, hD1⟩ := hB
  rw [ht] at hP1
  exact k v u.1 u.2 hp H1 locs1 ls hl hP1 hD1 hS1
theorem v_callSNV {post : (Nat → Nat) → (Nat → va_E) → Prop} (C : Cx p m c s args cc nL own Ts H0 B D cl tys Z) (hM : Met l y ws rm (wPc B D cl tys Z N (As) ad g) (QV B D cl N2 post) mc ms (aB B)) (cw : va_CN R s args own index y host bytes maxL ret ws rm mc ms n ∧ (Cond.static y).before args s = true ∧ True) (hAs : As.length = n) (hst : st0 = As.reverse ++ st) (hW : (st.map fun v => v.category).sum ≤ 8) (hd : decode cc pc = .ok (.invokestatic index, 3) ∧ pc + 3 = pc2) (hf : cells + mc ≤ R.cells ∧ slots + ms ≤ R.slots) (k : ∀ (ad1 : Nat → Nat) (g1 : Nat → va_E), post ad1 g1 → kV p l e R s m args below meth c Q H0 B D cl nL N2 (cells + mc) (slots + ms) ad1 g1 lv st pc2) : kV p l e R s m args below meth c Q H0 B D cl nL N cells slots ad g lv st0 pc := fun H locs ls hl hP hD hS => by
  obtain ⟨hd, rfl⟩ := hd
  refine va_callv (va_runSN (As := As) (rest := st) C.1 hM cw ⟨wPc_blind, wPre C hP hD hS⟩ rfl hAs hl.1 hst (lv_room hW) hd hf) hS (fun q _ h => h) (fun q h => h) (fun u t H1 locs1 ht hvm hp hB hz hk hS1 => ?_)
  obtain ⟨hP1, hD1⟩ := hB
  rw [ht] at hP1
  exact k u.1 u.2 hp H1 locs1 ls hl hP1 hD1 hS1
theorem v_callVI {post : Int32 → (Nat → Nat) → (Nat → va_E) → Prop} {r0 ci : Nat} {q0 : vw_C} {fs : List Value} (hr : r0 < N) (hg : g r0 = .inr (ci, fs)) (hcl : cl[ci]? = some q0) (hC0 : q0.1 = C0) (C : Cx p m c s args cc nL own Ts H0 B D cl tys Z) (hM : Met l y ws rm (wPc B D cl tys Z N (.ref (ad r0) :: As) ad g) (QI B D cl N2 post) mc ms (aB B)) (cw : CallW R s args own C0 index y bytes maxL ret ws rm mc ms n) (hAs : As.length = n) (hst : st0 = As.reverse ++ .ref (ad r0) :: st) (hW : (st.map fun v => v.category).sum ≤ 8) (hd : decode cc pc = .ok (.invokevirtual index, 3) ∧ pc + 3 = pc2) (hf : cells + mc ≤ R.cells ∧ slots + ms ≤ R.slots) (k : ∀ (v : Int32) (ad1 : Nat → Nat) (g1 : Nat → va_E), post v ad1 g1 → kV p l e R s m args below meth c Q H0 B D cl nL N2 (cells + mc) (slots + ms) ad1 g1 lv (.int v :: st) pc2) : kV p l e R s m args below meth c Q H0 B D cl nL N cells slots ad g lv st0 pc := fun H locs ls hl hP hD hS => by
  obtain ⟨hd, rfl⟩ := hd
  refine va_calli (va_runV (As := As) (rest := st) C.1 hM cw ⟨wPc_blind, by rw [← hC0]; exact wRecv C hP hr hg hcl, wPre C hP hD hS⟩ rfl hAs hl.1 hst (lv_room hW) hd hf) hS (fun q _ h => h) (fun q h => h) (fun v u t H1 locs1 ht hvm hp hB hz hk hS1 => ?_)
  obtain ⟨hP1, hD1⟩ := hB
  rw [ht] at hP1
  exact k v u.1 u.2 hp H1 locs1 ls hl hP1 hD1 hS1
theorem v_callVV {post : (Nat → Nat) → (Nat → va_E) → Prop} {r0 ci : Nat} {q0 : vw_C} {fs : List Value} (hr : r0 < N) (hg : g r0 = .inr (ci, fs)) (hcl : cl[ci]? = some q0) (hC0 : q0.1 = C0) (C : Cx p m c s args cc nL own Ts H0 B D cl tys Z) (hM : Met l y ws rm (wPc B D cl tys Z N (.ref (ad r0) :: As) ad g) (QV B D cl N2 post) mc ms (aB B)) (cw : CallW R s args own C0 index y bytes maxL ret ws rm mc ms n) (hAs : As.length = n) (hst : st0 = As.reverse ++ .ref (ad r0) :: st) (hW : (st.map fun v => v.category).sum ≤ 8) (hd : decode cc pc = .ok (.invokevirtual index, 3) ∧ pc + 3 = pc2) (hf : cells + mc ≤ R.cells ∧ slots + ms ≤ R.slots) (k : ∀ (ad1 : Nat → Nat) (g1 : Nat → va_E), post ad1 g1 → kV p l e R s m args below meth c Q H0 B D cl nL N2 (cells + mc) (slots + ms) ad1 g1 lv st pc2) : kV p l e R s m args below meth c Q H0 B D cl nL N cells slots ad g lv st0 pc := fun H locs ls hl hP hD hS => by
  obtain ⟨hd, rfl⟩ := hd
  refine va_callv (va_runV (As := As) (rest := st) C.1 hM cw ⟨wPc_blind, by rw [← hC0]; exact wRecv C hP hr hg hcl, wPre C hP hD hS⟩ rfl hAs hl.1 hst (lv_room hW) hd hf) hS (fun q _ h => h) (fun q h => h) (fun u t H1 locs1 ht hvm hp hB hz hk hS1 => ?_)
  obtain ⟨hP1, hD1⟩ := hB
  rw [ht] at hP1
  exact k u.1 u.2 hp H1 locs1 ls hl hP1 hD1 hS1
theorem v_callVNI {post : Int32 → (Nat → Nat) → (Nat → va_E) → Prop} {r0 ci : Nat} {q0 : vw_C} {fs : List Value} (hr : r0 < N) (hg : g r0 = .inr (ci, fs)) (hcl : cl[ci]? = some q0) (hC0 : q0.1 = C0) (C : Cx p m c s args cc nL own Ts H0 B D cl tys Z) (hM : Met l y ws rm (wPc B D cl tys Z N (.ref (ad r0) :: As) ad g) (QI B D cl N2 post) mc ms (aB B)) (cw : va_CN R s args own index y host bytes maxL ret ws rm mc ms n ∧ (Cond.instanceMethod y).before args s = true ∧ (Cond.selects C0 y y).before args s = true) (hAs : As.length = n) (hst : st0 = As.reverse ++ .ref (ad r0) :: st) (hW : (st.map fun v => v.category).sum ≤ 8) (hd : decode cc pc = .ok (.invokevirtual index, 3) ∧ pc + 3 = pc2) (hf : cells + mc ≤ R.cells ∧ slots + ms ≤ R.slots) (k : ∀ (v : Int32) (ad1 : Nat → Nat) (g1 : Nat → va_E), post v ad1 g1 → kV p l e R s m args below meth c Q H0 B D cl nL N2 (cells + mc) (slots + ms) ad1 g1 lv (.int v :: st) pc2) : kV p l e R s m args below meth c Q H0 B D cl nL N cells slots ad g lv st0 pc := fun H locs ls hl hP hD hS => by
  obtain ⟨hd, rfl⟩ := hd
  refine va_calli (va_runVN (As := As) (rest := st) C.1 hM cw ⟨wPc_blind, by rw [← hC0]; exact wRecv C hP hr hg hcl, wPre C hP hD hS⟩ rfl hAs hl.1 hst (lv_room hW) hd hf) hS (fun q _ h => h) (fun q h => h) (fun v u t H1 locs1 ht hvm hp hB hz hk hS1 => ?_)
  obtain ⟨hP1, hD1⟩ := hB
  rw [ht] at hP1
  exact k v u.1 u.2 hp H1 locs1 ls hl hP1 hD1 hS1
theorem v_callVNV {post : (Nat → Nat) → (Nat → va_E) → Prop} {r0 ci : Nat} {q0 : vw_C} {fs : List Value} (hr : r0 < N) (hg : g r0 = .inr (ci, fs)) (hcl : cl[ci]? = some q0) (hC0 : q0.1 = C0) (C : Cx p m c s args cc nL own Ts H0 B D cl tys Z) (hM : Met l y ws rm (wPc B D cl tys Z N (.ref (ad r0) :: As) ad g) (QV B D cl N2 post) mc ms (aB B)) (cw : va_CN R s args own index y host bytes maxL ret ws rm mc ms n ∧ (Cond.instanceMethod y).before args s = true ∧ (Cond.selects C0 y y).before args s = true) (hAs : As.length = n) (hst : st0 = As.reverse ++ .ref (ad r0) :: st) (hW : (st.map fun v => v.category).sum ≤ 8) (hd : decode cc pc = .ok (.invokevirtual index, 3) ∧ pc + 3 = pc2) (hf : cells + mc ≤ R.cells ∧ slots + ms ≤ R.slots) (k : ∀ (ad1 : Nat → Nat) (g1 : Nat → va_E), post ad1 g1 → kV p l e R s m args below meth c Q H0 B D cl nL N2 (cells + mc) (slots + ms) ad1 g1 lv st pc2) : kV p l e R s m args below meth c Q H0 B D cl nL N cells slots ad g lv st0 pc := fun H locs ls hl hP hD hS => by
  obtain ⟨hd, rfl⟩ := hd
  refine va_callv (va_runVN (As := As) (rest := st) C.1 hM cw ⟨wPc_blind, by rw [← hC0]; exact wRecv C hP hr hg hcl, wPre C hP hD hS⟩ rfl hAs hl.1 hst (lv_room hW) hd hf) hS (fun q _ h => h) (fun q h => h) (fun u t H1 locs1 ht hvm hp hB hz hk hS1 => ?_)
  obtain ⟨hP1, hD1⟩ := hB
  rw [ht] at hP1
  exact k u.1 u.2 hp H1 locs1 ls hl hP1 hD1 hS1
theorem v_callIV {post : (Nat → Nat) → (Nat → va_E) → Prop} {r0 : Nat} (C : Cx p m c s args cc nL own Ts H0 B D cl tys Z) (hM : Met l y ws rm (wPc B D cl tys Z N (.ref (ad r0) :: As) ad g) (QV B D cl N2 post) mc ms (aB B)) (cw : CallB R s args own index y bytes maxL none ws rm mc ms n ∧ y.name = "<init>" ∧ (Cond.instanceMethod y).before args s = true) (hAs : As.length = n) (hst : st0 = As.reverse ++ .ref (ad r0) :: st) (hW : (st.map fun v => v.category).sum ≤ 8) (hd : decode cc pc = .ok (.invokespecial index, 3) ∧ pc + 3 = pc2) (hf : cells + mc ≤ R.cells ∧ slots + ms ≤ R.slots) (k : ∀ (ad1 : Nat → Nat) (g1 : Nat → va_E), post ad1 g1 → kV p l e R s m args below meth c Q H0 B D cl nL N2 (cells + mc) (slots + ms) ad1 g1 lv st pc2) : kV p l e R s m args below meth c Q H0 B D cl nL N cells slots ad g lv st0 pc := fun H locs ls hl hP hD hS => by
  obtain ⟨hd, rfl⟩ := hd
  refine va_callv (va_runI (As := As) (rest := st) C.1 hM cw ⟨wPc_blind, wPre C hP hD hS⟩ rfl hAs hl.1 hst (lv_room hW) hd hf) hS (fun q _ h => h) (fun q h => h) (fun u t H1 locs1 ht hvm hp hB hz hk hS1 => ?_)
  obtain ⟨hP1, hD1⟩ := hB
  rw [ht] at hP1
  exact k u.1 u.2 hp H1 locs1 ls hl hP1 hD1 hS1
theorem v_callINV {post : (Nat → Nat) → (Nat → va_E) → Prop} {r0 : Nat} (C : Cx p m c s args cc nL own Ts H0 B D cl tys Z) (hM : Met l y ws rm (wPc B D cl tys Z N (.ref (ad r0) :: As) ad g) (QV B D cl N2 post) mc ms (aB B)) (cw : va_CN R s args own index y host bytes maxL none ws rm mc ms n ∧ y.name = "<init>" ∧ (Cond.instanceMethod y).before args s = true) (hAs : As.length = n) (hst : st0 = As.reverse ++ .ref (ad r0) :: st) (hW : (st.map fun v => v.category).sum ≤ 8) (hd : decode cc pc = .ok (.invokespecial index, 3) ∧ pc + 3 = pc2) (hf : cells + mc ≤ R.cells ∧ slots + ms ≤ R.slots) (k : ∀ (ad1 : Nat → Nat) (g1 : Nat → va_E), post ad1 g1 → kV p l e R s m args below meth c Q H0 B D cl nL N2 (cells + mc) (slots + ms) ad1 g1 lv st pc2) : kV p l e R s m args below meth c Q H0 B D cl nL N cells slots ad g lv st0 pc := fun H locs ls hl hP hD hS => by
  obtain ⟨hd, rfl⟩ := hd
  refine va_callv (va_runIN (As := As) (rest := st) C.1 hM cw ⟨wPc_blind, wPre C hP hD hS⟩ rfl hAs hl.1 hst (lv_room hW) hd hf) hS (fun q _ h => h) (fun q h => h) (fun u t H1 locs1 ht hvm hp hB hz hk hS1 => ?_)
  obtain ⟨hP1, hD1⟩ := hB
  rw [ht] at hP1
  exact k u.1 u.2 hp H1 locs1 ls hl hP1 hD1 hS1
theorem v_xcallSI {post : Int32 → (Nat → Nat) → (Nat → va_E) → Prop} (C : Cx p m c s args cc nL own Ts H0 B D cl tys Z) (hM : vx_Met l y ws rm (wPc B D cl tys Z N (As) ad g) (QI B D cl N2 post) (QX B D cl N xp ad g) mc ms (aB B)) (cw : CallB R s args own index y bytes maxL ret ws rm mc ms n ∧ (Cond.static y).before args s = true) (hAs : As.length = n) (hst : st0 = As.reverse ++ st) (hW : (st.map fun v => v.category).sum ≤ 8) (hd : decode cc pc = .ok (.invokestatic index, 3) ∧ pc + 3 = pc2) (hf : cells + mc ≤ R.cells ∧ slots + ms ≤ R.slots) (kx : ∀ E : String, xp E → kX p l e R s m args below meth c Q H0 B D cl nL N (cells + mc) (slots + ms) ad g lv st pc E) (k : ∀ (v : Int32) (ad1 : Nat → Nat) (g1 : Nat → va_E), post v ad1 g1 → kV p l e R s m args below meth c Q H0 B D cl nL N2 (cells + mc) (slots + ms) ad1 g1 lv (.int v :: st) pc2) : kV p l e R s m args below meth c Q H0 B D cl nL N cells slots ad g lv st0 pc := fun H locs ls hl hP hD hS => by
  obtain ⟨hd, rfl⟩ := hd
  refine vx_calli (vx_runS (As := As) (rest := st) C.1 hM cw ⟨wPc_blind, wPre C hP hD hS⟩ rfl hAs hl.1 hst (lv_room hW) hd hf) hS (fun q _ h => h) (fun q h => h) (fun q _ h => h) (fun E ce q9 u t H1 locs1 ht hvm hpx hB hz hk hS1 hce hcv hcl9 => ?_) (fun v u t H1 locs1 ht hvm hp hB hz hk hS1 => ?_)
  · obtain ⟨hE, hP1, hD1⟩ := hB
    rw [ht] at hP1
    exact kx E hE H1 locs1 ls hl hP1 hD1 hS1 q9 ce hce hcv hcl9
  · obtain ⟨hP1, hD1⟩ := hB
    rw [ht] at hP1
    exact k v u.1 u.2 hp H1 locs1 ls hl hP1 hD1 hS1
theorem v_xcallSV {post : (Nat → Nat) → (Nat → va_E) → Prop} (C : Cx p m c s args cc nL own Ts H0 B D cl tys Z) (hM : vx_Met l y ws rm (wPc B D cl tys Z N (As) ad g) (QV B D cl N2 post) (QX B D cl N xp ad g) mc ms (aB B)) (cw : CallB R s args own index y bytes maxL ret ws rm mc ms n ∧ (Cond.static y).before args s = true) (hAs : As.length = n) (hst : st0 = As.reverse ++ st) (hW : (st.map fun v => v.category).sum ≤ 8) (hd : decode cc pc = .ok (.invokestatic index, 3) ∧ pc + 3 = pc2) (hf : cells + mc ≤ R.cells ∧ slots + ms ≤ R.slots) (kx : ∀ E : String, xp E → kX p l e R s m args below meth c Q H0 B D cl nL N (cells + mc) (slots + ms) ad g lv st pc E) (k : ∀ (ad1 : Nat → Nat) (g1 : Nat → va_E), post ad1 g1 → kV p l e R s m args below meth c Q H0 B D cl nL N2 (cells + mc) (slots + ms) ad1 g1 lv st pc2) : kV p l e R s m args below meth c Q H0 B D cl nL N cells slots ad g lv st0 pc := fun H locs ls hl hP hD hS => by
  obtain ⟨hd, rfl⟩ := hd
  refine vx_callv (vx_runS (As := As) (rest := st) C.1 hM cw ⟨wPc_blind, wPre C hP hD hS⟩ rfl hAs hl.1 hst (lv_room hW) hd hf) hS (fun q _ h => h) (fun q h => h) (fun q _ h => h) (fun E ce q9 u t H1 locs1 ht hvm hpx hB hz hk hS1 hce hcv hcl9 => ?_) (fun u t H1 locs1 ht hvm hp hB hz hk hS1 => ?_)
  · obtain ⟨hE, hP1, hD1⟩ := hB
    rw [ht] at hP1
    exact kx E hE H1 locs1 ls hl hP1 hD1 hS1 q9 ce hce hcv hcl9
  · obtain ⟨hP1, hD1⟩ := hB
    rw [ht] at hP1
    exact k u.1 u.2 hp H1 locs1 ls hl hP1 hD1 hS1
theorem v_xcallVI {post : Int32 → (Nat → Nat) → (Nat → va_E) → Prop} {r0 ci : Nat} {q0 : vw_C} {fs : List Value} (hr : r0 < N) (hg : g r0 = .inr (ci, fs)) (hcl : cl[ci]? = some q0) (hC0 : q0.1 = C0) (C : Cx p m c s args cc nL own Ts H0 B D cl tys Z) (hM : vx_Met l y ws rm (wPc B D cl tys Z N (.ref (ad r0) :: As) ad g) (QI B D cl N2 post) (QX B D cl N xp ad g) mc ms (aB B)) (cw : CallW R s args own C0 index y bytes maxL ret ws rm mc ms n) (hAs : As.length = n) (hst : st0 = As.reverse ++ .ref (ad r0) :: st) (hW : (st.map fun v => v.category).sum ≤ 8) (hd : decode cc pc = .ok (.invokevirtual index, 3) ∧ pc + 3 = pc2) (hf : cells + mc ≤ R.cells ∧ slots + ms ≤ R.slots) (kx : ∀ E : String, xp E → kX p l e R s m args below meth c Q H0 B D cl nL N (cells + mc) (slots + ms) ad g lv st pc E) (k : ∀ (v : Int32) (ad1 : Nat → Nat) (g1 : Nat → va_E), post v ad1 g1 → kV p l e R s m args below meth c Q H0 B D cl nL N2 (cells + mc) (slots + ms) ad1 g1 lv (.int v :: st) pc2) : kV p l e R s m args below meth c Q H0 B D cl nL N cells slots ad g lv st0 pc := fun H locs ls hl hP hD hS => by
  obtain ⟨hd, rfl⟩ := hd
  refine vx_calli (vx_runV (As := As) (rest := st) C.1 hM cw ⟨wPc_blind, by rw [← hC0]; exact wRecv C hP hr hg hcl, wPre C hP hD hS⟩ rfl hAs hl.1 hst (lv_room hW) hd hf) hS (fun q _ h => h) (fun q h => h) (fun q _ h => h) (fun E ce q9 u t H1 locs1 ht hvm hpx hB hz hk hS1 hce hcv hcl9 => ?_) (fun v u t H1 locs1 ht hvm hp hB hz hk hS1 => ?_)
  · obtain ⟨hE, hP1, hD1⟩ := hB
    rw [ht] at hP1
    exact kx E hE H1 locs1 ls hl hP1 hD1 hS1 q9 ce hce hcv hcl9
  · obtain ⟨hP1, hD1⟩ := hB
    rw [ht] at hP1
    exact k v u.1 u.2 hp H1 locs1 ls hl hP1 hD1 hS1
theorem v_xcallVV {post : (Nat → Nat) → (Nat → va_E) → Prop} {r0 ci : Nat} {q0 : vw_C} {fs : List Value} (hr : r0 < N) (hg : g r0 = .inr (ci, fs)) (hcl : cl[ci]? = some q0) (hC0 : q0.1 = C0) (C : Cx p m c s args cc nL own Ts H0 B D cl tys Z) (hM : vx_Met l y ws rm (wPc B D cl tys Z N (.ref (ad r0) :: As) ad g) (QV B D cl N2 post) (QX B D cl N xp ad g) mc ms (aB B)) (cw : CallW R s args own C0 index y bytes maxL ret ws rm mc ms n) (hAs : As.length = n) (hst : st0 = As.reverse ++ .ref (ad r0) :: st) (hW : (st.map fun v => v.category).sum ≤ 8) (hd : decode cc pc = .ok (.invokevirtual index, 3) ∧ pc + 3 = pc2) (hf : cells + mc ≤ R.cells ∧ slots + ms ≤ R.slots) (kx : ∀ E : String, xp E → kX p l e R s m args below meth c Q H0 B D cl nL N (cells + mc) (slots + ms) ad g lv st pc E) (k : ∀ (ad1 : Nat → Nat) (g1 : Nat → va_E), post ad1 g1 → kV p l e R s m args below meth c Q H0 B D cl nL N2 (cells + mc) (slots + ms) ad1 g1 lv st pc2) : kV p l e R s m args below meth c Q H0 B D cl nL N cells slots ad g lv st0 pc := fun H locs ls hl hP hD hS => by
  obtain ⟨hd, rfl⟩ := hd
  refine vx_callv (vx_runV (As := As) (rest := st) C.1 hM cw ⟨wPc_blind, by rw [← hC0]; exact wRecv C hP hr hg hcl, wPre C hP hD hS⟩ rfl hAs hl.1 hst (lv_room hW) hd hf) hS (fun q _ h => h) (fun q h => h) (fun q _ h => h) (fun E ce q9 u t H1 locs1 ht hvm hpx hB hz hk hS1 hce hcv hcl9 => ?_) (fun u t H1 locs1 ht hvm hp hB hz hk hS1 => ?_)
  · obtain ⟨hE, hP1, hD1⟩ := hB
    rw [ht] at hP1
    exact kx E hE H1 locs1 ls hl hP1 hD1 hS1 q9 ce hce hcv hcl9
  · obtain ⟨hP1, hD1⟩ := hB
    rw [ht] at hP1
    exact k u.1 u.2 hp H1 locs1 ls hl hP1 hD1 hS1
end CT
end
section
def R_A : String := "ShadowArchive"
def F_A : u_T := fun k => match k with
  | 0 => ("ShadowArchive", "w", "I", false)
  | 1 => ("ShadowArchive", "h", "I", false)
  | 2 => ("ShadowArchive", "picture", "[I", true)
  | 3 => ("ShadowArchive", "shelves", "[LShadowArchive$Shelf;", true)
  | 4 => ("ShadowArchive", "hasKept", "Z", false)
  | 5 => ("ShadowArchive", "kept", "[I", true)
  | 6 => ("ShadowArchive", "keptShelves", "[LShadowArchive$Shelf;", true)
  | 7 => ("ShadowArchive", "hasRebuilt", "Z", false)
  | 8 => ("ShadowArchive", "rebuilt", "[I", true)
  | 9 => ("ShadowArchive", "steps", "I", false)
  | 10 => ("ShadowArchive", "wrongBin", "I", false)
  | 11 => ("ShadowArchive", "draft", "[I", true)
  | 12 => ("ShadowArchive", "sheets", "[LShadowArchive$Worksheet;", true)
  | _ => ("ShadowArchive", "ghostCells", "[I", true)
def t_A : Nat → FieldType := fun k => match k with
  | 0 => .int
  | 1 => .int
  | 2 => .array .int
  | 3 => .array (.object "ShadowArchive$Shelf")
  | 4 => .boolean
  | 5 => .array .int
  | 6 => .array (.object "ShadowArchive$Shelf")
  | 7 => .boolean
  | 8 => .array .int
  | 9 => .int
  | 10 => .int
  | 11 => .array .int
  | 12 => .array (.object "ShadowArchive$Worksheet")
  | _ => .array .int
theorem n_A : ∀ a, a < 14 → ∀ b, b < 14 → a ≠ b → (F_A a).2.1 ≠ (F_A b).2.1 := by decide +kernel
theorem t_A_ok : ∀ k, k < 14 → parseFieldDescriptor (F_A k).2.2.1 = some (t_A k) := by decide +kernel
def R_S : String := "ShadowArchive$Shelf"
def F_S : u_T := fun k => match k with
  | 0 => ("ShadowArchive$Shelf", "aimed", "Z", false)
  | 1 => ("ShadowArchive$Shelf", "filled", "Z", false)
  | 2 => ("ShadowArchive$Shelf", "p", "I", false)
  | 3 => ("ShadowArchive$Shelf", "q", "I", false)
  | 4 => ("ShadowArchive$Shelf", "least", "I", false)
  | 5 => ("ShadowArchive$Shelf", "count", "I", false)
  | _ => ("ShadowArchive$Shelf", "bins", "[I", false)
def t_S : Nat → FieldType := fun k => match k with
  | 0 => .boolean
  | 1 => .boolean
  | 2 => .int
  | 3 => .int
  | 4 => .int
  | 5 => .int
  | _ => .array .int
theorem n_S : ∀ a, a < 7 → ∀ b, b < 7 → a ≠ b → (F_S a).2.1 ≠ (F_S b).2.1 := by decide +kernel
theorem t_S_ok : ∀ k, k < 7 → parseFieldDescriptor (F_S k).2.2.1 = some (t_S k) := by decide +kernel
def R_W : String := "ShadowArchive$Worksheet"
def F_W : u_T := fun k => match k with
  | 0 => ("ShadowArchive$Worksheet", "count", "I", false)
  | 1 => ("ShadowArchive$Worksheet", "lowest", "I", false)
  | 2 => ("ShadowArchive$Worksheet", "unknown", "[I", false)
  | 3 => ("ShadowArchive$Worksheet", "unknownCells", "[I", false)
  | _ => ("ShadowArchive$Worksheet", "rest", "[I", false)
def t_W : Nat → FieldType := fun k => match k with
  | 0 => .int
  | 1 => .int
  | 2 => .array .int
  | 3 => .array .int
  | _ => .array .int
theorem n_W : ∀ a, a < 5 → ∀ b, b < 5 → a ≠ b → (F_W a).2.1 ≠ (F_W b).2.1 := by decide +kernel
theorem t_W_ok : ∀ k, k < 5 → parseFieldDescriptor (F_W k).2.2.1 = some (t_W k) := by decide +kernel
def R_M : String := "ShadowArchiveModel"
def F_M : u_T := fun k => match k with
  | 0 => ("ShadowArchiveModel", "thrown", "I", false)
  | 1 => ("ShadowArchiveModel", "w", "I", false)
  | 2 => ("ShadowArchiveModel", "h", "I", false)
  | 3 => ("ShadowArchiveModel", "picture", "[I", true)
  | 4 => ("ShadowArchiveModel", "kept", "[I", true)
  | 5 => ("ShadowArchiveModel", "rebuilt", "[I", true)
  | 6 => ("ShadowArchiveModel", "tried", "[I", true)
  | 7 => ("ShadowArchiveModel", "known", "[Z", true)
  | 8 => ("ShadowArchiveModel", "keeps", "Z", false)
  | 9 => ("ShadowArchiveModel", "hasRebuilt", "Z", false)
  | 10 => ("ShadowArchiveModel", "told", "[Z", true)
  | 11 => ("ShadowArchiveModel", "right", "[I", true)
  | 12 => ("ShadowArchiveModel", "down", "[I", true)
  | 13 => ("ShadowArchiveModel", "filled", "[Z", true)
  | 14 => ("ShadowArchiveModel", "bins", "[I", true)
  | 15 => ("ShadowArchiveModel", "keptTold", "[Z", true)
  | 16 => ("ShadowArchiveModel", "keptRight", "[I", true)
  | 17 => ("ShadowArchiveModel", "keptDown", "[I", true)
  | 18 => ("ShadowArchiveModel", "keptFilled", "[Z", true)
  | 19 => ("ShadowArchiveModel", "keptBins", "[I", true)
  | 20 => ("ShadowArchiveModel", "unknown", "[I", true)
  | 21 => ("ShadowArchiveModel", "left", "[I", true)
  | 22 => ("ShadowArchiveModel", "tries", "I", false)
  | 23 => ("ShadowArchiveModel", "sums", "[I", true)
  | 24 => ("ShadowArchiveModel", "steps", "I", false)
  | 25 => ("ShadowArchiveModel", "wrongBin", "I", false)
  | 26 => ("ShadowArchiveModel", "spread", "[I", true)
  | _ => ("ShadowArchiveModel", "spreading", "[I", true)
def t_M : Nat → FieldType := fun k => match k with
  | 0 => .int
  | 1 => .int
  | 2 => .int
  | 3 => .array .int
  | 4 => .array .int
  | 5 => .array .int
  | 6 => .array .int
  | 7 => .array .boolean
  | 8 => .boolean
  | 9 => .boolean
  | 10 => .array .boolean
  | 11 => .array .int
  | 12 => .array .int
  | 13 => .array .boolean
  | 14 => .array .int
  | 15 => .array .boolean
  | 16 => .array .int
  | 17 => .array .int
  | 18 => .array .boolean
  | 19 => .array .int
  | 20 => .array .int
  | 21 => .array .int
  | 22 => .int
  | 23 => .array .int
  | 24 => .int
  | 25 => .int
  | 26 => .array .int
  | _ => .array .int
theorem n_M : ∀ a, a < 28 → ∀ b, b < 28 → a ≠ b → (F_M a).2.1 ≠ (F_M b).2.1 := by decide +kernel
theorem t_M_ok : ∀ k, k < 28 → parseFieldDescriptor (F_M k).2.2.1 = some (t_M k) := by decide +kernel
def R_L : String := "ShadowArchiveLaw"
abbrev classes : List vw_C := [(R_A, F_A, 14), (R_S, F_S, 7), (R_W, F_W, 5), (R_M, F_M, 28)]
abbrev b_A_about : ByteArray := prog_1_method_13_code
def y_A_about : MethodName := ⟨"ShadowArchive", "about", "(I)I"⟩
abbrev b_A_add : ByteArray := prog_1_method_18_code
def y_A_add : MethodName := ⟨"ShadowArchive", "add", "(Z)I"⟩
abbrev b_A_addEach : ByteArray := prog_1_method_38_code
def y_A_addEach : MethodName := ⟨"ShadowArchive", "addEach", "([I[IIZ)V"⟩
abbrev b_A_aimedOf : ByteArray := prog_1_method_28_code
def y_A_aimedOf : MethodName := ⟨"ShadowArchive", "aimedOf", "(I)I"⟩
abbrev b_A_anotherHas : ByteArray := prog_1_method_27_code
def y_A_anotherHas : MethodName := ⟨"ShadowArchive", "anotherHas", "(III)Z"⟩
abbrev b_A_areEnough : ByteArray := prog_1_method_30_code
def y_A_areEnough : MethodName := ⟨"ShadowArchive", "areEnough", "(I)Z"⟩
abbrev b_A_areOfOnePicture : ByteArray := prog_1_method_31_code
def y_A_areOfOnePicture : MethodName := ⟨"ShadowArchive", "areOfOnePicture", "(I)Z"⟩
abbrev b_A_audit : ByteArray := prog_1_method_15_code
def y_A_audit : MethodName := ⟨"ShadowArchive", "audit", "()I"⟩
abbrev b_A_bin : ByteArray := prog_1_method_9_code
def y_A_bin : MethodName := ⟨"ShadowArchive", "bin", "(II)I"⟩
abbrev b_A_cellAt : ByteArray := prog_1_method_24_code
def y_A_cellAt : MethodName := ⟨"ShadowArchive", "cellAt", "(II)I"⟩
abbrev b_A_direction : ByteArray := prog_1_method_5_code
def y_A_direction : MethodName := ⟨"ShadowArchive", "direction", "(III)V"⟩
abbrev b_A_drawGhost : ByteArray := prog_1_method_36_code
def y_A_drawGhost : MethodName := ⟨"ShadowArchive", "drawGhost", "(I)V"⟩
abbrev b_A_drop : ByteArray := prog_1_method_8_code
def y_A_drop : MethodName := ⟨"ShadowArchive", "drop", "(I)Z"⟩
abbrev b_A_enough : ByteArray := prog_1_method_11_code
def y_A_enough : MethodName := ⟨"ShadowArchive", "enough", "(I)Z"⟩
abbrev b_A_filledShelves : ByteArray := prog_1_method_29_code
def y_A_filledShelves : MethodName := ⟨"ShadowArchive", "filledShelves", "()I"⟩
abbrev b_A_ghost : ByteArray := prog_1_method_16_code
def y_A_ghost : MethodName := ⟨"ShadowArchive", "ghost", "(III)I"⟩
abbrev b_A_init : ByteArray := prog_1_method_1_code
def y_A_init : MethodName := ⟨"ShadowArchive", "<init>", "()V"⟩
abbrev b_A_isDirection : ByteArray := prog_1_method_26_code
def y_A_isDirection : MethodName := ⟨"ShadowArchive", "isDirection", "(II)Z"⟩
abbrev b_A_isIn : ByteArray := prog_1_method_25_code
def y_A_isIn : MethodName := ⟨"ShadowArchive", "isIn", "(II)Z"⟩
abbrev b_A_keep : ByteArray := prog_1_method_17_code
def y_A_keep : MethodName := ⟨"ShadowArchive", "keep", "()V"⟩
abbrev b_A_look : ByteArray := prog_1_method_4_code
def y_A_look : MethodName := ⟨"ShadowArchive", "look", "(III)I"⟩
abbrev b_A_lowestReadyShelf : ByteArray := prog_1_method_33_code
def y_A_lowestReadyShelf : MethodName := ⟨"ShadowArchive", "lowestReadyShelf", "(I)I"⟩
abbrev b_A_lowestWrongShelf : ByteArray := prog_1_method_35_code
def y_A_lowestWrongShelf : MethodName := ⟨"ShadowArchive", "lowestWrongShelf", "(I)I"⟩
abbrev b_A_makeKnown : ByteArray := prog_1_method_34_code
def y_A_makeKnown : MethodName := ⟨"ShadowArchive", "makeKnown", "(III)V"⟩
abbrev b_A_pixel : ByteArray := prog_1_method_3_code
def y_A_pixel : MethodName := ⟨"ShadowArchive", "pixel", "(III)I"⟩
abbrev b_A_project : ByteArray := prog_1_method_7_code
def y_A_project : MethodName := ⟨"ShadowArchive", "project", "(I)V"⟩
abbrev b_A_put : ByteArray := prog_1_method_10_code
def y_A_put : MethodName := ⟨"ShadowArchive", "put", "(III)I"⟩
abbrev b_A_rebuild : ByteArray := prog_1_method_12_code
def y_A_rebuild : MethodName := ⟨"ShadowArchive", "rebuild", "(I)I"⟩
abbrev b_A_regenerate : ByteArray := prog_1_method_14_code
def y_A_regenerate : MethodName := ⟨"ShadowArchive", "regenerate", "(I)Z"⟩
abbrev b_A_requireBin : ByteArray := prog_1_method_21_code
def y_A_requireBin : MethodName := ⟨"ShadowArchive", "requireBin", "(II)V"⟩
abbrev b_A_requireMask : ByteArray := prog_1_method_22_code
def y_A_requireMask : MethodName := ⟨"ShadowArchive", "requireMask", "(I)V"⟩
abbrev b_A_requirePixel : ByteArray := prog_1_method_19_code
def y_A_requirePixel : MethodName := ⟨"ShadowArchive", "requirePixel", "(II)V"⟩
abbrev b_A_requireShelf : ByteArray := prog_1_method_20_code
def y_A_requireShelf : MethodName := ⟨"ShadowArchive", "requireShelf", "(I)V"⟩
abbrev b_A_requireState : ByteArray := prog_1_method_23_code
def y_A_requireState : MethodName := ⟨"ShadowArchive", "requireState", "(Z)V"⟩
abbrev b_A_shelf : ByteArray := prog_1_method_6_code
def y_A_shelf : MethodName := ⟨"ShadowArchive", "shelf", "(II)I"⟩
abbrev b_A_size : ByteArray := prog_1_method_2_code
def y_A_size : MethodName := ⟨"ShadowArchive", "size", "(II)V"⟩
abbrev b_A_solve : ByteArray := prog_1_method_32_code
def y_A_solve : MethodName := ⟨"ShadowArchive", "solve", "(I)I"⟩
abbrev b_A_takeGhostMoved : ByteArray := prog_1_method_37_code
def y_A_takeGhostMoved : MethodName := ⟨"ShadowArchive", "takeGhostMoved", "(II)V"⟩
abbrev b_J_fill : ByteArray := prog_15_method_103_code
def y_J_fill : MethodName := ⟨"java/util/Arrays", "fill", "([II)V"⟩
abbrev b_L_about : ByteArray := method_14_code
def y_L_about : MethodName := ⟨"ShadowArchiveLaw", "about", "(LShadowArchive;I[J)I"⟩
abbrev b_L_add : ByteArray := method_17_code
def y_L_add : MethodName := ⟨"ShadowArchiveLaw", "add", "(LShadowArchive;Z[J)I"⟩
abbrev b_L_bin : ByteArray := method_10_code
def y_L_bin : MethodName := ⟨"ShadowArchiveLaw", "bin", "(LShadowArchive;II[J)I"⟩
abbrev b_L_direction : ByteArray := method_6_code
def y_L_direction : MethodName := ⟨"ShadowArchiveLaw", "direction", "(LShadowArchive;III)I"⟩
abbrev b_L_drop : ByteArray := method_9_code
def y_L_drop : MethodName := ⟨"ShadowArchiveLaw", "drop", "(LShadowArchive;I[J)I"⟩
abbrev b_L_enough : ByteArray := method_12_code
def y_L_enough : MethodName := ⟨"ShadowArchiveLaw", "enough", "(LShadowArchive;I[J)I"⟩
abbrev b_L_ghost : ByteArray := method_16_code
def y_L_ghost : MethodName := ⟨"ShadowArchiveLaw", "ghost", "(LShadowArchive;III[J)I"⟩
abbrev b_L_law : ByteArray := code
def y_L_law : MethodName := ⟨"ShadowArchiveLaw", "law", "([I)Z"⟩
abbrev b_L_look : ByteArray := method_5_code
def y_L_look : MethodName := ⟨"ShadowArchiveLaw", "look", "(LShadowArchive;III[J)I"⟩
abbrev b_L_pixel : ByteArray := method_4_code
def y_L_pixel : MethodName := ⟨"ShadowArchiveLaw", "pixel", "(LShadowArchive;III[J)I"⟩
abbrev b_L_project : ByteArray := method_8_code
def y_L_project : MethodName := ⟨"ShadowArchiveLaw", "project", "(LShadowArchive;I)I"⟩
abbrev b_L_put : ByteArray := method_11_code
def y_L_put : MethodName := ⟨"ShadowArchiveLaw", "put", "(LShadowArchive;III[J)I"⟩
abbrev b_L_rebuild : ByteArray := method_13_code
def y_L_rebuild : MethodName := ⟨"ShadowArchiveLaw", "rebuild", "(LShadowArchive;I[J)I"⟩
abbrev b_L_regenerate : ByteArray := method_15_code
def y_L_regenerate : MethodName := ⟨"ShadowArchiveLaw", "regenerate", "(LShadowArchive;I[J)I"⟩
abbrev b_L_shelf : ByteArray := method_7_code
def y_L_shelf : MethodName := ⟨"ShadowArchiveLaw", "shelf", "(LShadowArchive;II[J)I"⟩
abbrev b_L_size : ByteArray := method_3_code
def y_L_size : MethodName := ⟨"ShadowArchiveLaw", "size", "(LShadowArchive;II)I"⟩
abbrev b_M_about : ByteArray := prog_5_method_37_code
def y_M_about : MethodName := ⟨"ShadowArchiveModel", "about", "(I)I"⟩
abbrev b_M_add : ByteArray := prog_5_method_45_code
def y_M_add : MethodName := ⟨"ShadowArchiveModel", "add", "(Z)I"⟩
abbrev b_M_areEnough : ByteArray := prog_5_method_27_code
def y_M_areEnough : MethodName := ⟨"ShadowArchiveModel", "areEnough", "(I)Z"⟩
abbrev b_M_areOfOne : ByteArray := prog_5_method_39_code
def y_M_areOfOne : MethodName := ⟨"ShadowArchiveModel", "areOfOne", "(I)Z"⟩
abbrev b_M_audit : ByteArray := prog_5_method_40_code
def y_M_audit : MethodName := ⟨"ShadowArchiveModel", "audit", "()I"⟩
abbrev b_M_beginTry : ByteArray := prog_5_method_29_code
def y_M_beginTry : MethodName := ⟨"ShadowArchiveModel", "beginTry", "(I)V"⟩
abbrev b_M_bin : ByteArray := prog_5_method_22_code
def y_M_bin : MethodName := ⟨"ShadowArchiveModel", "bin", "(II)I"⟩
abbrev b_M_binAt : ByteArray := prog_5_method_15_code
def y_M_binAt : MethodName := ⟨"ShadowArchiveModel", "binAt", "(III)I"⟩
abbrev b_M_binsOf : ByteArray := prog_5_method_14_code
def y_M_binsOf : MethodName := ⟨"ShadowArchiveModel", "binsOf", "(I)I"⟩
abbrev b_M_comes : ByteArray := prog_5_method_33_code
def y_M_comes : MethodName := ⟨"ShadowArchiveModel", "comes", "(I)Z"⟩
abbrev b_M_direction : ByteArray := prog_5_method_12_code
def y_M_direction : MethodName := ⟨"ShadowArchiveModel", "direction", "(III)V"⟩
abbrev b_M_disagrees : ByteArray := prog_5_method_35_code
def y_M_disagrees : MethodName := ⟨"ShadowArchiveModel", "disagrees", "(I)I"⟩
abbrev b_M_drop : ByteArray := prog_5_method_20_code
def y_M_drop : MethodName := ⟨"ShadowArchiveModel", "drop", "(I)Z"⟩
abbrev b_M_enough : ByteArray := prog_5_method_28_code
def y_M_enough : MethodName := ⟨"ShadowArchiveModel", "enough", "(I)Z"⟩
abbrev b_M_fill : ByteArray := prog_5_method_18_code
def y_M_fill : MethodName := ⟨"ShadowArchiveModel", "fill", "(I[I)V"⟩
abbrev b_M_filledOnes : ByteArray := prog_5_method_26_code
def y_M_filledOnes : MethodName := ⟨"ShadowArchiveModel", "filledOnes", "()I"⟩
abbrev b_M_ghost : ByteArray := prog_5_method_43_code
def y_M_ghost : MethodName := ⟨"ShadowArchiveModel", "ghost", "(III)I"⟩
abbrev b_M_hasDirection : ByteArray := prog_5_method_6_code
def y_M_hasDirection : MethodName := ⟨"ShadowArchiveModel", "hasDirection", "(I)Z"⟩
abbrev b_M_hasNoBin : ByteArray := prog_5_method_21_code
def y_M_hasNoBin : MethodName := ⟨"ShadowArchiveModel", "hasNoBin", "(II)Z"⟩
abbrev b_M_haveFactor : ByteArray := prog_5_method_10_code
def y_M_haveFactor : MethodName := ⟨"ShadowArchiveModel", "haveFactor", "(II)Z"⟩
abbrev b_M_init : ByteArray := prog_5_method_1_code
def y_M_init : MethodName := ⟨"ShadowArchiveModel", "<init>", "()V"⟩
abbrev b_M_isMask : ByteArray := prog_5_method_24_code
def y_M_isMask : MethodName := ⟨"ShadowArchiveModel", "isMask", "(I)Z"⟩
abbrev b_M_isOf : ByteArray := prog_5_method_25_code
def y_M_isOf : MethodName := ⟨"ShadowArchiveModel", "isOf", "(II)Z"⟩
abbrev b_M_isPixel : ByteArray := prog_5_method_5_code
def y_M_isPixel : MethodName := ⟨"ShadowArchiveModel", "isPixel", "(II)Z"⟩
abbrev b_M_isShelf : ByteArray := prog_5_method_4_code
def y_M_isShelf : MethodName := ⟨"ShadowArchiveModel", "isShelf", "(I)Z"⟩
abbrev b_M_isTaken : ByteArray := prog_5_method_11_code
def y_M_isTaken : MethodName := ⟨"ShadowArchiveModel", "isTaken", "(III)Z"⟩
abbrev b_M_keep : ByteArray := prog_5_method_44_code
def y_M_keep : MethodName := ⟨"ShadowArchiveModel", "keep", "()V"⟩
abbrev b_M_learn : ByteArray := prog_5_method_31_code
def y_M_learn : MethodName := ⟨"ShadowArchiveModel", "learn", "(IIII)V"⟩
abbrev b_M_learnOf : ByteArray := prog_5_method_32_code
def y_M_learnOf : MethodName := ⟨"ShadowArchiveModel", "learnOf", "(II)V"⟩
abbrev b_M_look : ByteArray := prog_5_method_9_code
def y_M_look : MethodName := ⟨"ShadowArchiveModel", "look", "(III)I"⟩
abbrev b_M_lowestColumn : ByteArray := prog_5_method_42_code
def y_M_lowestColumn : MethodName := ⟨"ShadowArchiveModel", "lowestColumn", "()I"⟩
abbrev b_M_moveAway : ByteArray := prog_5_method_41_code
def y_M_moveAway : MethodName := ⟨"ShadowArchiveModel", "moveAway", "(II)V"⟩
abbrev b_M_parts : ByteArray := prog_5_method_34_code
def y_M_parts : MethodName := ⟨"ShadowArchiveModel", "parts", "(I)I"⟩
abbrev b_M_pixel : ByteArray := prog_5_method_8_code
def y_M_pixel : MethodName := ⟨"ShadowArchiveModel", "pixel", "(III)I"⟩
abbrev b_M_project : ByteArray := prog_5_method_19_code
def y_M_project : MethodName := ⟨"ShadowArchiveModel", "project", "(I)V"⟩
abbrev b_M_put : ByteArray := prog_5_method_23_code
def y_M_put : MethodName := ⟨"ShadowArchiveModel", "put", "(III)I"⟩
abbrev b_M_rebuild : ByteArray := prog_5_method_36_code
def y_M_rebuild : MethodName := ⟨"ShadowArchiveModel", "rebuild", "(I)I"⟩
abbrev b_M_regenerate : ByteArray := prog_5_method_38_code
def y_M_regenerate : MethodName := ⟨"ShadowArchiveModel", "regenerate", "(I)Z"⟩
abbrev b_M_shelf : ByteArray := prog_5_method_16_code
def y_M_shelf : MethodName := ⟨"ShadowArchiveModel", "shelf", "(II)I"⟩
abbrev b_M_single : ByteArray := prog_5_method_30_code
def y_M_single : MethodName := ⟨"ShadowArchiveModel", "single", "(I)I"⟩
abbrev b_M_size : ByteArray := prog_5_method_7_code
def y_M_size : MethodName := ⟨"ShadowArchiveModel", "size", "(II)V"⟩
abbrev b_M_sizeOf : ByteArray := prog_5_method_13_code
def y_M_sizeOf : MethodName := ⟨"ShadowArchiveModel", "sizeOf", "(I)I"⟩
abbrev b_M_sumUp : ByteArray := prog_5_method_17_code
def y_M_sumUp : MethodName := ⟨"ShadowArchiveModel", "sumUp", "(I[I)V"⟩
abbrev b_M_throwing : ByteArray := prog_5_method_3_code
def y_M_throwing : MethodName := ⟨"ShadowArchiveModel", "throwing", "(ZZ)Z"⟩
abbrev b_M_thrown : ByteArray := prog_5_method_2_code
def y_M_thrown : MethodName := ⟨"ShadowArchiveModel", "thrown", "()I"⟩
abbrev b_S_addShelf : ByteArray := prog_2_method_9_code
def y_S_addShelf : MethodName := ⟨"ShadowArchive$Shelf", "addShelf", "(LShadowArchive$Shelf;Z)V"⟩
abbrev b_S_aim : ByteArray := prog_2_method_3_code
def y_S_aim : MethodName := ⟨"ShadowArchive$Shelf", "aim", "(IIII)V"⟩
abbrev b_S_binAt : ByteArray := prog_2_method_6_code
def y_S_binAt : MethodName := ⟨"ShadowArchive$Shelf", "binAt", "(II)I"⟩
abbrev b_S_copyFrom : ByteArray := prog_2_method_8_code
def y_S_copyFrom : MethodName := ⟨"ShadowArchive$Shelf", "copyFrom", "(LShadowArchive$Shelf;)V"⟩
abbrev b_S_fillFrom : ByteArray := prog_2_method_7_code
def y_S_fillFrom : MethodName := ⟨"ShadowArchive$Shelf", "fillFrom", "([III)V"⟩
abbrev b_S_goesAlong : ByteArray := prog_2_method_5_code
def y_S_goesAlong : MethodName := ⟨"ShadowArchive$Shelf", "goesAlong", "(II)Z"⟩
abbrev b_S_init : ByteArray := prog_2_method_1_code
def y_S_init : MethodName := ⟨"ShadowArchive$Shelf", "<init>", "()V"⟩
abbrev b_S_makeBins : ByteArray := prog_2_method_4_code
def y_S_makeBins : MethodName := ⟨"ShadowArchive$Shelf", "makeBins", "()V"⟩
abbrev b_S_unaim : ByteArray := prog_2_method_2_code
def y_S_unaim : MethodName := ⟨"ShadowArchive$Shelf", "unaim", "()V"⟩
abbrev b_W_begin : ByteArray := prog_3_method_2_code
def y_W_begin : MethodName := ⟨"ShadowArchive$Worksheet", "begin", "(LShadowArchive$Shelf;II)V"⟩
abbrev b_W_findReadyBin : ByteArray := prog_3_method_4_code
def y_W_findReadyBin : MethodName := ⟨"ShadowArchive$Worksheet", "findReadyBin", "()Z"⟩
abbrev b_W_init : ByteArray := prog_3_method_1_code
def y_W_init : MethodName := ⟨"ShadowArchive$Worksheet", "<init>", "()V"⟩
abbrev b_W_lowestWrongBin : ByteArray := prog_3_method_8_code
def y_W_lowestWrongBin : MethodName := ⟨"ShadowArchive$Worksheet", "lowestWrongBin", "()I"⟩
abbrev b_W_makeRows : ByteArray := prog_3_method_3_code
def y_W_makeRows : MethodName := ⟨"ShadowArchive$Worksheet", "makeRows", "()V"⟩
abbrev b_W_readyCell : ByteArray := prog_3_method_5_code
def y_W_readyCell : MethodName := ⟨"ShadowArchive$Worksheet", "readyCell", "()I"⟩
abbrev b_W_readyNumber : ByteArray := prog_3_method_6_code
def y_W_readyNumber : MethodName := ⟨"ShadowArchive$Worksheet", "readyNumber", "()I"⟩
abbrev b_W_takeOut : ByteArray := prog_3_method_7_code
def y_W_takeOut : MethodName := ⟨"ShadowArchive$Worksheet", "takeOut", "(III)V"⟩
/-- the words that go with every call -/
def wG : List Cond := lw_tbl.filter goodWord
theorem wG_good {L : List Cond} (h : ∀ w ∈ L, w ∈ wG) : GoodIn wG L := fun w hw => ⟨h w hw, good_of_word (List.mem_filter.mp (h w hw)).2⟩
theorem wG_cons {L : List Cond} {w : Cond} (h1 : w ∈ wG) (h2 : ∀ w ∈ L, w ∈ wG) : ∀ w' ∈ w :: L, w' ∈ wG := fun w' h => (List.mem_cons.mp h).elim (fun e => by rw [e]; exact h1) (h2 w')
theorem wG_self : ∀ w ∈ wG, w ∈ wG := fun _ h => h
theorem wG_1 {w : Cond} (i : Nat) (h : tables_1_1[i]? = some w) (hg : goodWord w = true) : w ∈ wG := List.mem_filter.mpr ⟨List.mem_append_right _ (List.mem_append_left _ (List.mem_of_getElem? h)), hg⟩
theorem wG_2 {w : Cond} (i : Nat) (h : tables_1_2[i]? = some w) (hg : goodWord w = true) : w ∈ wG := List.mem_filter.mpr ⟨List.mem_append_right _ (List.mem_append_right _ (List.mem_append_left _ (List.mem_of_getElem? h))), hg⟩
theorem wG_3 {w : Cond} (i : Nat) (h : tables_1_3[i]? = some w) (hg : goodWord w = true) : w ∈ wG := List.mem_filter.mpr ⟨List.mem_append_right _ (List.mem_append_right _ (List.mem_append_right _ (List.mem_append_left _ (List.mem_of_getElem? h)))), hg⟩
theorem wG_4 {w : Cond} (i : Nat) (h : tables_1_4[i]? = some w) (hg : goodWord w = true) : w ∈ wG := List.mem_filter.mpr ⟨List.mem_append_right _ (List.mem_append_right _ (List.mem_append_right _ (List.mem_append_right _ (List.mem_of_getElem? h)))), hg⟩
theorem wG_s {w : Cond} (h : w ∈ k2_sels lw_privs) (hg : goodWord w = true) : w ∈ wG := List.mem_filter.mpr ⟨List.mem_append_left _ h, hg⟩
theorem in_L : (Cond.initialized "ShadowArchiveLaw") ∈ wG := wG_1 0 (by decide +kernel) (by decide +kernel)
theorem in_A : (Cond.initialized "ShadowArchive") ∈ wG := wG_1 1 (by decide +kernel) (by decide +kernel)
theorem in_S : (Cond.initialized "ShadowArchive$Shelf") ∈ wG := wG_1 2 (by decide +kernel) (by decide +kernel)
theorem in_W : (Cond.initialized "ShadowArchive$Worksheet") ∈ wG := wG_1 3 (by decide +kernel) (by decide +kernel)
theorem in_M : (Cond.initialized "ShadowArchiveModel") ∈ wG := wG_1 4 (by decide +kernel) (by decide +kernel)
theorem in_IllegalArgumentException : (Cond.initialized "java/lang/IllegalArgumentException") ∈ wG := wG_1 8 (by decide +kernel) (by decide +kernel)
theorem in_J : (Cond.initialized "java/util/Arrays") ∈ wG := wG_1 9 (by decide +kernel) (by decide +kernel)
theorem in_IndexOutOfBoundsException : (Cond.initialized "java/lang/IndexOutOfBoundsException") ∈ wG := wG_1 10 (by decide +kernel) (by decide +kernel)
theorem in_IllegalStateException : (Cond.initialized "java/lang/IllegalStateException") ∈ wG := wG_1 11 (by decide +kernel) (by decide +kernel)
theorem in_H : (Cond.initialized "java/lang/Math") ∈ wG := wG_1 12 (by decide +kernel) (by decide +kernel)
theorem in_Y : (Cond.initialized "java/lang/System") ∈ wG := wG_1 13 (by decide +kernel) (by decide +kernel)
theorem kl_L_8 : (Cond.classLink "ShadowArchiveLaw" 8 "ShadowArchive") ∈ wG := wG_1 14 (by decide +kernel) (by decide +kernel)
theorem ia_A : (Cond.instantiable "ShadowArchive" 14) ∈ wG := wG_1 15 (by decide +kernel) (by decide +kernel)
theorem ml_L_68 : (Cond.methodLink "ShadowArchiveLaw" 68 y_A_init) ∈ wG := wG_1 16 (by decide +kernel) (by decide +kernel)
theorem im_A_init : (Cond.instanceMethod y_A_init) ∈ wG := wG_1 17 (by decide +kernel) (by decide +kernel)
theorem co_A_init : (Cond.code y_A_init prog_1_method_1_code 2 none) ∈ wG := wG_1 18 (by decide +kernel) (by decide +kernel)
theorem ml_A_3 : (Cond.methodLink "ShadowArchive" 3 objectInit) ∈ wG := wG_1 19 (by decide +kernel) (by decide +kernel)
theorem im_objectInit : (Cond.instanceMethod objectInit) ∈ wG := wG_1 20 (by decide +kernel) (by decide +kernel)
theorem co_objectInit : (Cond.code objectInit ⟨#[0xb1]⟩ 1 none) ∈ wG := wG_1 21 (by decide +kernel) (by decide +kernel)
theorem kl_A_20 : (Cond.classLink "ShadowArchive" 20 "ShadowArchive$Shelf") ∈ wG := wG_1 22 (by decide +kernel) (by decide +kernel)
theorem kl_A_51 : (Cond.classLink "ShadowArchive" 51 "ShadowArchive$Worksheet") ∈ wG := wG_1 24 (by decide +kernel) (by decide +kernel)
theorem ia_S : (Cond.instantiable "ShadowArchive$Shelf" 7) ∈ wG := wG_1 26 (by decide +kernel) (by decide +kernel)
theorem im_S_init : (Cond.instanceMethod y_S_init) ∈ wG := wG_1 28 (by decide +kernel) (by decide +kernel)
theorem co_S_init : (Cond.code y_S_init prog_2_method_1_code 1 none) ∈ wG := wG_1 29 (by decide +kernel) (by decide +kernel)
theorem ml_S_3 : (Cond.methodLink "ShadowArchive$Shelf" 3 objectInit) ∈ wG := wG_1 30 (by decide +kernel) (by decide +kernel)
theorem fl_S_9 : (Cond.fieldLink "ShadowArchive$Shelf" 9 "ShadowArchive$Shelf" "aimed" "Z") ∈ wG := wG_1 31 (by decide +kernel) (by decide +kernel)
theorem fl_A_117 : (Cond.fieldLink "ShadowArchive" 117 "ShadowArchive$Shelf" "aimed" "Z") ∈ wG := wG_1 32 (by decide +kernel) (by decide +kernel)
theorem fl_S_15 : (Cond.fieldLink "ShadowArchive$Shelf" 15 "ShadowArchive$Shelf" "filled" "Z") ∈ wG := wG_1 33 (by decide +kernel) (by decide +kernel)
theorem fl_A_129 : (Cond.fieldLink "ShadowArchive" 129 "ShadowArchive$Shelf" "filled" "Z") ∈ wG := wG_1 34 (by decide +kernel) (by decide +kernel)
theorem fl_S_18 : (Cond.fieldLink "ShadowArchive$Shelf" 18 "ShadowArchive$Shelf" "p" "I") ∈ wG := wG_1 35 (by decide +kernel) (by decide +kernel)
theorem fl_A_120 : (Cond.fieldLink "ShadowArchive" 120 "ShadowArchive$Shelf" "p" "I") ∈ wG := wG_1 36 (by decide +kernel) (by decide +kernel)
theorem fl_S_22 : (Cond.fieldLink "ShadowArchive$Shelf" 22 "ShadowArchive$Shelf" "q" "I") ∈ wG := wG_1 37 (by decide +kernel) (by decide +kernel)
theorem fl_A_123 : (Cond.fieldLink "ShadowArchive" 123 "ShadowArchive$Shelf" "q" "I") ∈ wG := wG_1 38 (by decide +kernel) (by decide +kernel)
theorem fl_S_25 : (Cond.fieldLink "ShadowArchive$Shelf" 25 "ShadowArchive$Shelf" "least" "I") ∈ wG := wG_1 39 (by decide +kernel) (by decide +kernel)
theorem fl_S_28 : (Cond.fieldLink "ShadowArchive$Shelf" 28 "ShadowArchive$Shelf" "count" "I") ∈ wG := wG_1 40 (by decide +kernel) (by decide +kernel)
theorem fl_W_31 : (Cond.fieldLink "ShadowArchive$Worksheet" 31 "ShadowArchive$Shelf" "count" "I") ∈ wG := wG_1 41 (by decide +kernel) (by decide +kernel)
theorem fl_A_126 : (Cond.fieldLink "ShadowArchive" 126 "ShadowArchive$Shelf" "count" "I") ∈ wG := wG_1 42 (by decide +kernel) (by decide +kernel)
theorem fl_S_31 : (Cond.fieldLink "ShadowArchive$Shelf" 31 "ShadowArchive$Shelf" "bins" "[I") ∈ wG := wG_1 43 (by decide +kernel) (by decide +kernel)
theorem fl_W_40 : (Cond.fieldLink "ShadowArchive$Worksheet" 40 "ShadowArchive$Shelf" "bins" "[I") ∈ wG := wG_1 44 (by decide +kernel) (by decide +kernel)
theorem fl_A_139 : (Cond.fieldLink "ShadowArchive" 139 "ShadowArchive$Shelf" "bins" "[I") ∈ wG := wG_1 45 (by decide +kernel) (by decide +kernel)
theorem la_S_aimed : (Cond.lays "ShadowArchive$Shelf" "ShadowArchive$Shelf" "aimed" "Z") ∈ wG := wG_1 46 (by decide +kernel) (by decide +kernel)
theorem la_S_filled : (Cond.lays "ShadowArchive$Shelf" "ShadowArchive$Shelf" "filled" "Z") ∈ wG := wG_1 48 (by decide +kernel) (by decide +kernel)
theorem la_S_p : (Cond.lays "ShadowArchive$Shelf" "ShadowArchive$Shelf" "p" "I") ∈ wG := wG_1 50 (by decide +kernel) (by decide +kernel)
theorem la_S_q : (Cond.lays "ShadowArchive$Shelf" "ShadowArchive$Shelf" "q" "I") ∈ wG := wG_1 52 (by decide +kernel) (by decide +kernel)
theorem la_S_least : (Cond.lays "ShadowArchive$Shelf" "ShadowArchive$Shelf" "least" "I") ∈ wG := wG_1 54 (by decide +kernel) (by decide +kernel)
theorem la_S_count : (Cond.lays "ShadowArchive$Shelf" "ShadowArchive$Shelf" "count" "I") ∈ wG := wG_1 56 (by decide +kernel) (by decide +kernel)
theorem la_S_bins : (Cond.lays "ShadowArchive$Shelf" "ShadowArchive$Shelf" "bins" "[I") ∈ wG := wG_1 58 (by decide +kernel) (by decide +kernel)
theorem ac_int : (Cond.arrayClass .int) ∈ wG := wG_1 61 (by decide +kernel) (by decide +kernel)
theorem ia_W : (Cond.instantiable "ShadowArchive$Worksheet" 5) ∈ wG := wG_1 62 (by decide +kernel) (by decide +kernel)
theorem im_W_init : (Cond.instanceMethod y_W_init) ∈ wG := wG_1 64 (by decide +kernel) (by decide +kernel)
theorem co_W_init : (Cond.code y_W_init prog_3_method_1_code 1 none) ∈ wG := wG_1 65 (by decide +kernel) (by decide +kernel)
theorem ml_W_3 : (Cond.methodLink "ShadowArchive$Worksheet" 3 objectInit) ∈ wG := wG_1 66 (by decide +kernel) (by decide +kernel)
theorem fl_W_9 : (Cond.fieldLink "ShadowArchive$Worksheet" 9 "ShadowArchive$Worksheet" "count" "I") ∈ wG := wG_1 67 (by decide +kernel) (by decide +kernel)
theorem fl_W_15 : (Cond.fieldLink "ShadowArchive$Worksheet" 15 "ShadowArchive$Worksheet" "lowest" "I") ∈ wG := wG_1 68 (by decide +kernel) (by decide +kernel)
theorem fl_W_18 : (Cond.fieldLink "ShadowArchive$Worksheet" 18 "ShadowArchive$Worksheet" "unknown" "[I") ∈ wG := wG_1 69 (by decide +kernel) (by decide +kernel)
theorem fl_W_22 : (Cond.fieldLink "ShadowArchive$Worksheet" 22 "ShadowArchive$Worksheet" "unknownCells" "[I") ∈ wG := wG_1 70 (by decide +kernel) (by decide +kernel)
theorem fl_W_25 : (Cond.fieldLink "ShadowArchive$Worksheet" 25 "ShadowArchive$Worksheet" "rest" "[I") ∈ wG := wG_1 71 (by decide +kernel) (by decide +kernel)
theorem la_W_count : (Cond.lays "ShadowArchive$Worksheet" "ShadowArchive$Worksheet" "count" "I") ∈ wG := wG_1 72 (by decide +kernel) (by decide +kernel)
theorem la_W_lowest : (Cond.lays "ShadowArchive$Worksheet" "ShadowArchive$Worksheet" "lowest" "I") ∈ wG := wG_1 74 (by decide +kernel) (by decide +kernel)
theorem la_W_unknown : (Cond.lays "ShadowArchive$Worksheet" "ShadowArchive$Worksheet" "unknown" "[I") ∈ wG := wG_1 76 (by decide +kernel) (by decide +kernel)
theorem la_W_unknownCells : (Cond.lays "ShadowArchive$Worksheet" "ShadowArchive$Worksheet" "unknownCells" "[I") ∈ wG := wG_1 78 (by decide +kernel) (by decide +kernel)
theorem la_W_rest : (Cond.lays "ShadowArchive$Worksheet" "ShadowArchive$Worksheet" "rest" "[I") ∈ wG := wG_1 80 (by decide +kernel) (by decide +kernel)
theorem fl_A_9 : (Cond.fieldLink "ShadowArchive" 9 "ShadowArchive" "w" "I") ∈ wG := wG_1 83 (by decide +kernel) (by decide +kernel)
theorem fl_A_13 : (Cond.fieldLink "ShadowArchive" 13 "ShadowArchive" "h" "I") ∈ wG := wG_1 84 (by decide +kernel) (by decide +kernel)
theorem fl_A_16 : (Cond.fieldLink "ShadowArchive" 16 "ShadowArchive" "picture" "[I") ∈ wG := wG_1 85 (by decide +kernel) (by decide +kernel)
theorem fl_A_22 : (Cond.fieldLink "ShadowArchive" 22 "ShadowArchive" "shelves" "[LShadowArchive$Shelf;") ∈ wG := wG_1 86 (by decide +kernel) (by decide +kernel)
theorem fl_A_26 : (Cond.fieldLink "ShadowArchive" 26 "ShadowArchive" "hasKept" "Z") ∈ wG := wG_1 87 (by decide +kernel) (by decide +kernel)
theorem fl_A_30 : (Cond.fieldLink "ShadowArchive" 30 "ShadowArchive" "kept" "[I") ∈ wG := wG_1 88 (by decide +kernel) (by decide +kernel)
theorem fl_A_33 : (Cond.fieldLink "ShadowArchive" 33 "ShadowArchive" "keptShelves" "[LShadowArchive$Shelf;") ∈ wG := wG_1 89 (by decide +kernel) (by decide +kernel)
theorem fl_A_36 : (Cond.fieldLink "ShadowArchive" 36 "ShadowArchive" "hasRebuilt" "Z") ∈ wG := wG_1 90 (by decide +kernel) (by decide +kernel)
theorem fl_A_39 : (Cond.fieldLink "ShadowArchive" 39 "ShadowArchive" "rebuilt" "[I") ∈ wG := wG_1 91 (by decide +kernel) (by decide +kernel)
theorem fl_A_42 : (Cond.fieldLink "ShadowArchive" 42 "ShadowArchive" "steps" "I") ∈ wG := wG_1 92 (by decide +kernel) (by decide +kernel)
theorem fl_A_45 : (Cond.fieldLink "ShadowArchive" 45 "ShadowArchive" "wrongBin" "I") ∈ wG := wG_1 93 (by decide +kernel) (by decide +kernel)
theorem fl_A_48 : (Cond.fieldLink "ShadowArchive" 48 "ShadowArchive" "draft" "[I") ∈ wG := wG_1 94 (by decide +kernel) (by decide +kernel)
theorem fl_A_53 : (Cond.fieldLink "ShadowArchive" 53 "ShadowArchive" "sheets" "[LShadowArchive$Worksheet;") ∈ wG := wG_1 95 (by decide +kernel) (by decide +kernel)
theorem fl_A_57 : (Cond.fieldLink "ShadowArchive" 57 "ShadowArchive" "ghostCells" "[I") ∈ wG := wG_1 96 (by decide +kernel) (by decide +kernel)
theorem la_A_w : (Cond.lays "ShadowArchive" "ShadowArchive" "w" "I") ∈ wG := wG_1 97 (by decide +kernel) (by decide +kernel)
theorem la_A_h : (Cond.lays "ShadowArchive" "ShadowArchive" "h" "I") ∈ wG := wG_1 99 (by decide +kernel) (by decide +kernel)
theorem la_A_picture : (Cond.laysFinal "ShadowArchive" "ShadowArchive" "picture" "[I") ∈ wG := wG_1 101 (by decide +kernel) (by decide +kernel)
theorem la_A_shelves : (Cond.laysFinal "ShadowArchive" "ShadowArchive" "shelves" "[LShadowArchive$Shelf;") ∈ wG := wG_1 103 (by decide +kernel) (by decide +kernel)
theorem la_A_hasKept : (Cond.lays "ShadowArchive" "ShadowArchive" "hasKept" "Z") ∈ wG := wG_1 105 (by decide +kernel) (by decide +kernel)
theorem la_A_kept : (Cond.laysFinal "ShadowArchive" "ShadowArchive" "kept" "[I") ∈ wG := wG_1 107 (by decide +kernel) (by decide +kernel)
theorem la_A_keptShelves : (Cond.laysFinal "ShadowArchive" "ShadowArchive" "keptShelves" "[LShadowArchive$Shelf;") ∈ wG := wG_1 109 (by decide +kernel) (by decide +kernel)
theorem la_A_hasRebuilt : (Cond.lays "ShadowArchive" "ShadowArchive" "hasRebuilt" "Z") ∈ wG := wG_1 111 (by decide +kernel) (by decide +kernel)
theorem la_A_rebuilt : (Cond.laysFinal "ShadowArchive" "ShadowArchive" "rebuilt" "[I") ∈ wG := wG_1 113 (by decide +kernel) (by decide +kernel)
theorem la_A_steps : (Cond.lays "ShadowArchive" "ShadowArchive" "steps" "I") ∈ wG := wG_1 115 (by decide +kernel) (by decide +kernel)
theorem la_A_wrongBin : (Cond.lays "ShadowArchive" "ShadowArchive" "wrongBin" "I") ∈ wG := wG_1 117 (by decide +kernel) (by decide +kernel)
theorem la_A_draft : (Cond.laysFinal "ShadowArchive" "ShadowArchive" "draft" "[I") ∈ wG := wG_1 119 (by decide +kernel) (by decide +kernel)
theorem la_A_sheets : (Cond.laysFinal "ShadowArchive" "ShadowArchive" "sheets" "[LShadowArchive$Worksheet;") ∈ wG := wG_1 121 (by decide +kernel) (by decide +kernel)
theorem la_A_ghostCells : (Cond.laysFinal "ShadowArchive" "ShadowArchive" "ghostCells" "[I") ∈ wG := wG_1 123 (by decide +kernel) (by decide +kernel)
theorem ml_L_123 : (Cond.methodLink "ShadowArchiveLaw" 123 y_A_audit) ∈ wG := wG_1 126 (by decide +kernel) (by decide +kernel)
theorem im_A_audit : (Cond.instanceMethod y_A_audit) ∈ wG := wG_1 127 (by decide +kernel) (by decide +kernel)
theorem se_A_audit : (Cond.selects "ShadowArchive" y_A_audit y_A_audit) ∈ wG := wG_1 128 (by decide +kernel) (by decide +kernel)
theorem co_A_audit : (Cond.code y_A_audit prog_1_method_15_code 3 (some .int)) ∈ wG := wG_1 129 (by decide +kernel) (by decide +kernel)
theorem ml_A_153 : (Cond.methodLink "ShadowArchive" 153 y_A_filledShelves) ∈ wG := wG_1 130 (by decide +kernel) (by decide +kernel)
theorem im_A_filledShelves : (Cond.instanceMethod y_A_filledShelves) ∈ wG := wG_1 132 (by decide +kernel) (by decide +kernel)
theorem co_A_filledShelves : (Cond.code y_A_filledShelves prog_1_method_29_code 3 (some .int)) ∈ wG := wG_1 133 (by decide +kernel) (by decide +kernel)
theorem ml_A_174 : (Cond.methodLink "ShadowArchive" 174 y_A_areOfOnePicture) ∈ wG := wG_1 134 (by decide +kernel) (by decide +kernel)
theorem im_A_areOfOnePicture : (Cond.instanceMethod y_A_areOfOnePicture) ∈ wG := wG_1 136 (by decide +kernel) (by decide +kernel)
theorem co_A_areOfOnePicture : (Cond.code y_A_areOfOnePicture prog_1_method_31_code 2 (some .boolean)) ∈ wG := wG_1 137 (by decide +kernel) (by decide +kernel)
theorem ml_A_157 : (Cond.methodLink "ShadowArchive" 157 y_A_solve) ∈ wG := wG_1 138 (by decide +kernel) (by decide +kernel)
theorem im_A_solve : (Cond.instanceMethod y_A_solve) ∈ wG := wG_1 140 (by decide +kernel) (by decide +kernel)
theorem co_A_solve : (Cond.code y_A_solve prog_1_method_32_code 5 (some .int)) ∈ wG := wG_1 141 (by decide +kernel) (by decide +kernel)
theorem ml_A_177 : (Cond.methodLink "ShadowArchive" 177 y_A_isIn) ∈ wG := wG_1 142 (by decide +kernel) (by decide +kernel)
theorem sm_A_isIn : (Cond.static y_A_isIn) ∈ wG := wG_1 143 (by decide +kernel) (by decide +kernel)
theorem co_A_isIn : (Cond.code y_A_isIn prog_1_method_25_code 2 (some .boolean)) ∈ wG := wG_1 144 (by decide +kernel) (by decide +kernel)
theorem ml_A_216 : (Cond.methodLink "ShadowArchive" 216 y_W_begin) ∈ wG := wG_1 145 (by decide +kernel) (by decide +kernel)
theorem im_W_begin : (Cond.instanceMethod y_W_begin) ∈ wG := wG_1 146 (by decide +kernel) (by decide +kernel)
theorem se_W_begin : (Cond.selects "ShadowArchive$Worksheet" y_W_begin y_W_begin) ∈ wG := wG_1 147 (by decide +kernel) (by decide +kernel)
theorem co_W_begin : (Cond.code y_W_begin prog_3_method_2_code 7 none) ∈ wG := wG_1 148 (by decide +kernel) (by decide +kernel)
theorem ml_W_28 : (Cond.methodLink "ShadowArchive$Worksheet" 28 y_W_makeRows) ∈ wG := wG_1 149 (by decide +kernel) (by decide +kernel)
theorem im_W_makeRows : (Cond.instanceMethod y_W_makeRows) ∈ wG := wG_1 151 (by decide +kernel) (by decide +kernel)
theorem co_W_makeRows : (Cond.code y_W_makeRows prog_3_method_3_code 1 none) ∈ wG := wG_1 152 (by decide +kernel) (by decide +kernel)
theorem ml_W_34 : (Cond.methodLink "ShadowArchive$Worksheet" 34 y_J_fill) ∈ wG := wG_1 153 (by decide +kernel) (by decide +kernel)
theorem sm_J_fill : (Cond.static y_J_fill) ∈ wG := wG_1 154 (by decide +kernel) (by decide +kernel)
theorem co_J_fill : (Cond.code y_J_fill prog_15_method_103_code 4 none) ∈ wG := wG_1 155 (by decide +kernel) (by decide +kernel)
theorem ml_W_43 : (Cond.methodLink "ShadowArchive$Worksheet" 43 arraycopyName) ∈ wG := wG_1 156 (by decide +kernel) (by decide +kernel)
theorem sm_arraycopyName : (Cond.static arraycopyName) ∈ wG := wG_1 157 (by decide +kernel) (by decide +kernel)
theorem nm_arraycopyName : (Cond.native arraycopyName) ∈ wG := wG_1 158 (by decide +kernel) (by decide +kernel)
theorem ml_W_49 : (Cond.methodLink "ShadowArchive$Worksheet" 49 y_S_binAt) ∈ wG := wG_1 159 (by decide +kernel) (by decide +kernel)
theorem im_S_binAt : (Cond.instanceMethod y_S_binAt) ∈ wG := wG_1 160 (by decide +kernel) (by decide +kernel)
theorem se_S_binAt : (Cond.selects "ShadowArchive$Shelf" y_S_binAt y_S_binAt) ∈ wG := wG_1 161 (by decide +kernel) (by decide +kernel)
theorem co_S_binAt : (Cond.code y_S_binAt prog_2_method_6_code 3 (some .int)) ∈ wG := wG_1 162 (by decide +kernel) (by decide +kernel)
theorem sm_A_cellAt : (Cond.static y_A_cellAt) ∈ wG := wG_1 164 (by decide +kernel) (by decide +kernel)
theorem co_A_cellAt : (Cond.code y_A_cellAt prog_1_method_24_code 2 (some .int)) ∈ wG := wG_1 165 (by decide +kernel) (by decide +kernel)
theorem ml_A_220 : (Cond.methodLink "ShadowArchive" 220 y_A_lowestReadyShelf) ∈ wG := wG_1 166 (by decide +kernel) (by decide +kernel)
theorem im_A_lowestReadyShelf : (Cond.instanceMethod y_A_lowestReadyShelf) ∈ wG := wG_1 168 (by decide +kernel) (by decide +kernel)
theorem co_A_lowestReadyShelf : (Cond.code y_A_lowestReadyShelf prog_1_method_33_code 3 (some .int)) ∈ wG := wG_1 169 (by decide +kernel) (by decide +kernel)
theorem ml_A_233 : (Cond.methodLink "ShadowArchive" 233 y_W_findReadyBin) ∈ wG := wG_1 170 (by decide +kernel) (by decide +kernel)
theorem im_W_findReadyBin : (Cond.instanceMethod y_W_findReadyBin) ∈ wG := wG_1 171 (by decide +kernel) (by decide +kernel)
theorem se_W_findReadyBin : (Cond.selects "ShadowArchive$Worksheet" y_W_findReadyBin y_W_findReadyBin) ∈ wG := wG_1 172 (by decide +kernel) (by decide +kernel)
theorem co_W_findReadyBin : (Cond.code y_W_findReadyBin prog_3_method_4_code 1 (some .boolean)) ∈ wG := wG_1 173 (by decide +kernel) (by decide +kernel)
theorem ml_A_223 : (Cond.methodLink "ShadowArchive" 223 y_W_readyCell) ∈ wG := wG_1 174 (by decide +kernel) (by decide +kernel)
theorem im_W_readyCell : (Cond.instanceMethod y_W_readyCell) ∈ wG := wG_1 175 (by decide +kernel) (by decide +kernel)
theorem se_W_readyCell : (Cond.selects "ShadowArchive$Worksheet" y_W_readyCell y_W_readyCell) ∈ wG := wG_1 176 (by decide +kernel) (by decide +kernel)
theorem co_W_readyCell : (Cond.code y_W_readyCell prog_3_method_5_code 1 (some .int)) ∈ wG := wG_1 177 (by decide +kernel) (by decide +kernel)
theorem ml_A_226 : (Cond.methodLink "ShadowArchive" 226 y_W_readyNumber) ∈ wG := wG_1 178 (by decide +kernel) (by decide +kernel)
theorem im_W_readyNumber : (Cond.instanceMethod y_W_readyNumber) ∈ wG := wG_1 179 (by decide +kernel) (by decide +kernel)
theorem se_W_readyNumber : (Cond.selects "ShadowArchive$Worksheet" y_W_readyNumber y_W_readyNumber) ∈ wG := wG_1 180 (by decide +kernel) (by decide +kernel)
theorem co_W_readyNumber : (Cond.code y_W_readyNumber prog_3_method_6_code 1 (some .int)) ∈ wG := wG_1 181 (by decide +kernel) (by decide +kernel)
theorem ml_A_229 : (Cond.methodLink "ShadowArchive" 229 y_A_makeKnown) ∈ wG := wG_1 182 (by decide +kernel) (by decide +kernel)
theorem im_A_makeKnown : (Cond.instanceMethod y_A_makeKnown) ∈ wG := wG_1 184 (by decide +kernel) (by decide +kernel)
theorem co_A_makeKnown : (Cond.code y_A_makeKnown prog_1_method_34_code 7 none) ∈ wG := wG_1 185 (by decide +kernel) (by decide +kernel)
theorem ml_A_237 : (Cond.methodLink "ShadowArchive" 237 y_S_binAt) ∈ wG := wG_1 186 (by decide +kernel) (by decide +kernel)
theorem ml_A_240 : (Cond.methodLink "ShadowArchive" 240 y_W_takeOut) ∈ wG := wG_1 187 (by decide +kernel) (by decide +kernel)
theorem im_W_takeOut : (Cond.instanceMethod y_W_takeOut) ∈ wG := wG_1 188 (by decide +kernel) (by decide +kernel)
theorem se_W_takeOut : (Cond.selects "ShadowArchive$Worksheet" y_W_takeOut y_W_takeOut) ∈ wG := wG_1 189 (by decide +kernel) (by decide +kernel)
theorem co_W_takeOut : (Cond.code y_W_takeOut prog_3_method_7_code 4 none) ∈ wG := wG_1 190 (by decide +kernel) (by decide +kernel)
theorem ml_A_166 : (Cond.methodLink "ShadowArchive" 166 y_A_lowestWrongShelf) ∈ wG := wG_1 191 (by decide +kernel) (by decide +kernel)
theorem im_A_lowestWrongShelf : (Cond.instanceMethod y_A_lowestWrongShelf) ∈ wG := wG_1 193 (by decide +kernel) (by decide +kernel)
theorem co_A_lowestWrongShelf : (Cond.code y_A_lowestWrongShelf prog_1_method_35_code 3 (some .int)) ∈ wG := wG_1 194 (by decide +kernel) (by decide +kernel)
theorem ml_A_169 : (Cond.methodLink "ShadowArchive" 169 y_W_lowestWrongBin) ∈ wG := wG_1 195 (by decide +kernel) (by decide +kernel)
theorem im_W_lowestWrongBin : (Cond.instanceMethod y_W_lowestWrongBin) ∈ wG := wG_1 196 (by decide +kernel) (by decide +kernel)
theorem se_W_lowestWrongBin : (Cond.selects "ShadowArchive$Worksheet" y_W_lowestWrongBin y_W_lowestWrongBin) ∈ wG := wG_1 197 (by decide +kernel) (by decide +kernel)
theorem co_W_lowestWrongBin : (Cond.code y_W_lowestWrongBin prog_3_method_8_code 2 (some .int)) ∈ wG := wG_1 198 (by decide +kernel) (by decide +kernel)
theorem ml_L_130 : (Cond.methodLink "ShadowArchiveLaw" 130 y_A_keep) ∈ wG := wG_1 199 (by decide +kernel) (by decide +kernel)
theorem im_A_keep : (Cond.instanceMethod y_A_keep) ∈ wG := wG_1 200 (by decide +kernel) (by decide +kernel)
theorem se_A_keep : (Cond.selects "ShadowArchive" y_A_keep y_A_keep) ∈ wG := wG_1 201 (by decide +kernel) (by decide +kernel)
theorem co_A_keep : (Cond.code y_A_keep prog_1_method_17_code 2 none) ∈ wG := wG_1 202 (by decide +kernel) (by decide +kernel)
theorem ml_A_160 : (Cond.methodLink "ShadowArchive" 160 arraycopyName) ∈ wG := wG_1 203 (by decide +kernel) (by decide +kernel)
theorem ml_A_183 : (Cond.methodLink "ShadowArchive" 183 y_S_copyFrom) ∈ wG := wG_1 204 (by decide +kernel) (by decide +kernel)
theorem im_S_copyFrom : (Cond.instanceMethod y_S_copyFrom) ∈ wG := wG_1 205 (by decide +kernel) (by decide +kernel)
theorem se_S_copyFrom : (Cond.selects "ShadowArchive$Shelf" y_S_copyFrom y_S_copyFrom) ∈ wG := wG_1 206 (by decide +kernel) (by decide +kernel)
theorem co_S_copyFrom : (Cond.code y_S_copyFrom prog_2_method_8_code 2 none) ∈ wG := wG_1 207 (by decide +kernel) (by decide +kernel)
theorem ml_S_45 : (Cond.methodLink "ShadowArchive$Shelf" 45 y_S_makeBins) ∈ wG := wG_1 208 (by decide +kernel) (by decide +kernel)
theorem im_S_makeBins : (Cond.instanceMethod y_S_makeBins) ∈ wG := wG_1 210 (by decide +kernel) (by decide +kernel)
theorem co_S_makeBins : (Cond.code y_S_makeBins prog_2_method_4_code 1 none) ∈ wG := wG_1 211 (by decide +kernel) (by decide +kernel)
theorem ml_S_60 : (Cond.methodLink "ShadowArchive$Shelf" 60 arraycopyName) ∈ wG := wG_1 212 (by decide +kernel) (by decide +kernel)
theorem ml_L_72 : (Cond.methodLink "ShadowArchiveLaw" 72 y_L_size) ∈ wG := wG_1 213 (by decide +kernel) (by decide +kernel)
theorem sm_L_size : (Cond.static y_L_size) ∈ wG := wG_1 214 (by decide +kernel) (by decide +kernel)
theorem cw_L_size : (Cond.codeWith y_L_size method_3_code 4 (some .int) [(0, 6, 9, 13)]) ∈ wG := wG_1 215 (by decide +kernel) (by decide +kernel)
theorem kl_L_13 : (Cond.classLink "ShadowArchiveLaw" 13 "java/lang/IllegalArgumentException") ∈ wG := wG_1 216 (by decide +kernel) (by decide +kernel)
theorem ml_L_7 : (Cond.methodLink "ShadowArchiveLaw" 7 y_A_size) ∈ wG := wG_1 217 (by decide +kernel) (by decide +kernel)
theorem im_A_size : (Cond.instanceMethod y_A_size) ∈ wG := wG_1 218 (by decide +kernel) (by decide +kernel)
theorem se_A_size : (Cond.selects "ShadowArchive" y_A_size y_A_size) ∈ wG := wG_1 219 (by decide +kernel) (by decide +kernel)
theorem co_A_size : (Cond.code y_A_size prog_1_method_2_code 4 none) ∈ wG := wG_1 220 (by decide +kernel) (by decide +kernel)
theorem kl_A_62 : (Cond.classLink "ShadowArchive" 62 "java/lang/IllegalArgumentException") ∈ wG := wG_1 221 (by decide +kernel) (by decide +kernel)
theorem ia_IllegalArgumentException : (Cond.instantiable "java/lang/IllegalArgumentException" 6) ∈ wG := wG_1 222 (by decide +kernel) (by decide +kernel)
theorem ml_A_66 : (Cond.methodLink "ShadowArchive" 66 ⟨"java/lang/IllegalArgumentException", "<init>", "(Ljava/lang/String;)V"⟩) ∈ wG := wG_2 23 (by decide +kernel) (by decide +kernel)
theorem ac_byte : (Cond.arrayClass .byte) ∈ wG := wG_2 48 (by decide +kernel) (by decide +kernel)
theorem ml_A_69 : (Cond.methodLink "ShadowArchive" 69 y_J_fill) ∈ wG := wG_2 49 (by decide +kernel) (by decide +kernel)
theorem ml_A_75 : (Cond.methodLink "ShadowArchive" 75 y_S_unaim) ∈ wG := wG_2 50 (by decide +kernel) (by decide +kernel)
theorem im_S_unaim : (Cond.instanceMethod y_S_unaim) ∈ wG := wG_2 51 (by decide +kernel) (by decide +kernel)
theorem se_S_unaim : (Cond.selects "ShadowArchive$Shelf" y_S_unaim y_S_unaim) ∈ wG := wG_2 52 (by decide +kernel) (by decide +kernel)
theorem co_S_unaim : (Cond.code y_S_unaim prog_2_method_2_code 1 none) ∈ wG := wG_2 53 (by decide +kernel) (by decide +kernel)
theorem ml_L_82 : (Cond.methodLink "ShadowArchiveLaw" 82 y_L_pixel) ∈ wG := wG_2 54 (by decide +kernel) (by decide +kernel)
theorem sm_L_pixel : (Cond.static y_L_pixel) ∈ wG := wG_2 55 (by decide +kernel) (by decide +kernel)
theorem cw_L_pixel : (Cond.codeWith y_L_pixel method_4_code 6 (some .int) [(0, 12, 15, 19)]) ∈ wG := wG_2 56 (by decide +kernel) (by decide +kernel)
theorem kl_L_19 : (Cond.classLink "ShadowArchiveLaw" 19 "java/lang/IndexOutOfBoundsException") ∈ wG := wG_2 57 (by decide +kernel) (by decide +kernel)
theorem ml_L_15 : (Cond.methodLink "ShadowArchiveLaw" 15 y_A_pixel) ∈ wG := wG_2 58 (by decide +kernel) (by decide +kernel)
theorem im_A_pixel : (Cond.instanceMethod y_A_pixel) ∈ wG := wG_2 59 (by decide +kernel) (by decide +kernel)
theorem se_A_pixel : (Cond.selects "ShadowArchive" y_A_pixel y_A_pixel) ∈ wG := wG_2 60 (by decide +kernel) (by decide +kernel)
theorem co_A_pixel : (Cond.code y_A_pixel prog_1_method_3_code 6 (some .int)) ∈ wG := wG_2 61 (by decide +kernel) (by decide +kernel)
theorem ml_A_78 : (Cond.methodLink "ShadowArchive" 78 y_A_requirePixel) ∈ wG := wG_2 62 (by decide +kernel) (by decide +kernel)
theorem im_A_requirePixel : (Cond.instanceMethod y_A_requirePixel) ∈ wG := wG_2 64 (by decide +kernel) (by decide +kernel)
theorem co_A_requirePixel : (Cond.code y_A_requirePixel prog_1_method_19_code 3 none) ∈ wG := wG_2 65 (by decide +kernel) (by decide +kernel)
theorem kl_A_90 : (Cond.classLink "ShadowArchive" 90 "java/lang/IndexOutOfBoundsException") ∈ wG := wG_2 66 (by decide +kernel) (by decide +kernel)
theorem ia_IndexOutOfBoundsException : (Cond.instantiable "java/lang/IndexOutOfBoundsException" 6) ∈ wG := wG_2 67 (by decide +kernel) (by decide +kernel)
theorem ml_A_94 : (Cond.methodLink "ShadowArchive" 94 ⟨"java/lang/IndexOutOfBoundsException", "<init>", "(Ljava/lang/String;)V"⟩) ∈ wG := wG_2 76 (by decide +kernel) (by decide +kernel)
theorem ml_A_82 : (Cond.methodLink "ShadowArchive" 82 y_A_cellAt) ∈ wG := wG_2 82 (by decide +kernel) (by decide +kernel)
theorem ml_L_86 : (Cond.methodLink "ShadowArchiveLaw" 86 y_L_look) ∈ wG := wG_2 83 (by decide +kernel) (by decide +kernel)
theorem sm_L_look : (Cond.static y_L_look) ∈ wG := wG_2 84 (by decide +kernel) (by decide +kernel)
theorem cw_L_look : (Cond.codeWith y_L_look method_5_code 6 (some .int) [(0, 12, 15, 19), (0, 12, 19, 24)]) ∈ wG := wG_2 85 (by decide +kernel) (by decide +kernel)
theorem kl_L_24 : (Cond.classLink "ShadowArchiveLaw" 24 "java/lang/IllegalStateException") ∈ wG := wG_2 86 (by decide +kernel) (by decide +kernel)
theorem ml_L_21 : (Cond.methodLink "ShadowArchiveLaw" 21 y_A_look) ∈ wG := wG_2 87 (by decide +kernel) (by decide +kernel)
theorem im_A_look : (Cond.instanceMethod y_A_look) ∈ wG := wG_2 88 (by decide +kernel) (by decide +kernel)
theorem se_A_look : (Cond.selects "ShadowArchive" y_A_look y_A_look) ∈ wG := wG_2 89 (by decide +kernel) (by decide +kernel)
theorem co_A_look : (Cond.code y_A_look prog_1_method_4_code 5 (some .int)) ∈ wG := wG_2 90 (by decide +kernel) (by decide +kernel)
theorem ml_A_86 : (Cond.methodLink "ShadowArchive" 86 y_A_requireState) ∈ wG := wG_2 91 (by decide +kernel) (by decide +kernel)
theorem sm_A_requireState : (Cond.static y_A_requireState) ∈ wG := wG_2 92 (by decide +kernel) (by decide +kernel)
theorem co_A_requireState : (Cond.code y_A_requireState prog_1_method_23_code 1 none) ∈ wG := wG_2 93 (by decide +kernel) (by decide +kernel)
theorem kl_A_203 : (Cond.classLink "ShadowArchive" 203 "java/lang/IllegalStateException") ∈ wG := wG_2 94 (by decide +kernel) (by decide +kernel)
theorem ia_IllegalStateException : (Cond.instantiable "java/lang/IllegalStateException" 6) ∈ wG := wG_2 95 (by decide +kernel) (by decide +kernel)
theorem ml_A_207 : (Cond.methodLink "ShadowArchive" 207 ⟨"java/lang/IllegalStateException", "<init>", "(Ljava/lang/String;)V"⟩) ∈ wG := wG_2 104 (by decide +kernel) (by decide +kernel)
theorem ml_L_89 : (Cond.methodLink "ShadowArchiveLaw" 89 y_L_direction) ∈ wG := wG_2 111 (by decide +kernel) (by decide +kernel)
theorem sm_L_direction : (Cond.static y_L_direction) ∈ wG := wG_2 112 (by decide +kernel) (by decide +kernel)
theorem cw_L_direction : (Cond.codeWith y_L_direction method_6_code 5 (some .int) [(0, 7, 10, 19), (0, 7, 14, 13)]) ∈ wG := wG_2 113 (by decide +kernel) (by decide +kernel)
theorem ml_L_26 : (Cond.methodLink "ShadowArchiveLaw" 26 y_A_direction) ∈ wG := wG_2 114 (by decide +kernel) (by decide +kernel)
theorem im_A_direction : (Cond.instanceMethod y_A_direction) ∈ wG := wG_2 115 (by decide +kernel) (by decide +kernel)
theorem se_A_direction : (Cond.selects "ShadowArchive" y_A_direction y_A_direction) ∈ wG := wG_2 116 (by decide +kernel) (by decide +kernel)
theorem co_A_direction : (Cond.code y_A_direction prog_1_method_5_code 7 none) ∈ wG := wG_2 117 (by decide +kernel) (by decide +kernel)
theorem ml_A_95 : (Cond.methodLink "ShadowArchive" 95 y_A_requireShelf) ∈ wG := wG_2 118 (by decide +kernel) (by decide +kernel)
theorem sm_A_requireShelf : (Cond.static y_A_requireShelf) ∈ wG := wG_2 119 (by decide +kernel) (by decide +kernel)
theorem co_A_requireShelf : (Cond.code y_A_requireShelf prog_1_method_20_code 1 none) ∈ wG := wG_2 120 (by decide +kernel) (by decide +kernel)
theorem ml_A_99 : (Cond.methodLink "ShadowArchive" 99 y_A_isDirection) ∈ wG := wG_2 122 (by decide +kernel) (by decide +kernel)
theorem sm_A_isDirection : (Cond.static y_A_isDirection) ∈ wG := wG_2 123 (by decide +kernel) (by decide +kernel)
theorem co_A_isDirection : (Cond.code y_A_isDirection prog_1_method_26_code 3 (some .boolean)) ∈ wG := wG_2 124 (by decide +kernel) (by decide +kernel)
theorem ml_A_105 : (Cond.methodLink "ShadowArchive" 105 y_A_anotherHas) ∈ wG := wG_2 126 (by decide +kernel) (by decide +kernel)
theorem im_A_anotherHas : (Cond.instanceMethod y_A_anotherHas) ∈ wG := wG_2 128 (by decide +kernel) (by decide +kernel)
theorem co_A_anotherHas : (Cond.code y_A_anotherHas prog_1_method_27_code 5 (some .boolean)) ∈ wG := wG_2 129 (by decide +kernel) (by decide +kernel)
theorem ml_A_208 : (Cond.methodLink "ShadowArchive" 208 y_S_goesAlong) ∈ wG := wG_2 130 (by decide +kernel) (by decide +kernel)
theorem im_S_goesAlong : (Cond.instanceMethod y_S_goesAlong) ∈ wG := wG_2 131 (by decide +kernel) (by decide +kernel)
theorem se_S_goesAlong : (Cond.selects "ShadowArchive$Shelf" y_S_goesAlong y_S_goesAlong) ∈ wG := wG_2 132 (by decide +kernel) (by decide +kernel)
theorem co_S_goesAlong : (Cond.code y_S_goesAlong prog_2_method_5_code 3 (some .boolean)) ∈ wG := wG_2 133 (by decide +kernel) (by decide +kernel)
theorem ml_A_111 : (Cond.methodLink "ShadowArchive" 111 y_S_aim) ∈ wG := wG_2 135 (by decide +kernel) (by decide +kernel)
theorem im_S_aim : (Cond.instanceMethod y_S_aim) ∈ wG := wG_2 136 (by decide +kernel) (by decide +kernel)
theorem se_S_aim : (Cond.selects "ShadowArchive$Shelf" y_S_aim y_S_aim) ∈ wG := wG_2 137 (by decide +kernel) (by decide +kernel)
theorem co_S_aim : (Cond.code y_S_aim prog_2_method_3_code 5 none) ∈ wG := wG_2 138 (by decide +kernel) (by decide +kernel)
theorem ml_S_35 : (Cond.methodLink "ShadowArchive$Shelf" 35 Lib.Math.min.name) ∈ wG := wG_2 139 (by decide +kernel) (by decide +kernel)
theorem sm_min : (Cond.static Lib.Math.min.name) ∈ wG := wG_2 140 (by decide +kernel) (by decide +kernel)
theorem co_min : (Cond.code Lib.Math.min.name Lib.Math.min.code 2 (some .int)) ∈ wG := wG_2 141 (by decide +kernel) (by decide +kernel)
theorem ml_S_41 : (Cond.methodLink "ShadowArchive$Shelf" 41 Lib.Math.abs.name) ∈ wG := wG_2 142 (by decide +kernel) (by decide +kernel)
theorem sm_abs : (Cond.static Lib.Math.abs.name) ∈ wG := wG_2 143 (by decide +kernel) (by decide +kernel)
theorem co_abs : (Cond.code Lib.Math.abs.name Lib.Math.abs.code 1 (some .int)) ∈ wG := wG_2 144 (by decide +kernel) (by decide +kernel)
theorem ml_L_93 : (Cond.methodLink "ShadowArchiveLaw" 93 y_L_shelf) ∈ wG := wG_2 145 (by decide +kernel) (by decide +kernel)
theorem sm_L_shelf : (Cond.static y_L_shelf) ∈ wG := wG_2 146 (by decide +kernel) (by decide +kernel)
theorem cw_L_shelf : (Cond.codeWith y_L_shelf method_7_code 5 (some .int) [(0, 10, 13, 19), (0, 10, 17, 24)]) ∈ wG := wG_2 147 (by decide +kernel) (by decide +kernel)
theorem ml_L_30 : (Cond.methodLink "ShadowArchiveLaw" 30 y_A_shelf) ∈ wG := wG_2 148 (by decide +kernel) (by decide +kernel)
theorem im_A_shelf : (Cond.instanceMethod y_A_shelf) ∈ wG := wG_2 149 (by decide +kernel) (by decide +kernel)
theorem se_A_shelf : (Cond.selects "ShadowArchive" y_A_shelf y_A_shelf) ∈ wG := wG_2 150 (by decide +kernel) (by decide +kernel)
theorem co_A_shelf : (Cond.code y_A_shelf prog_1_method_6_code 4 (some .int)) ∈ wG := wG_2 151 (by decide +kernel) (by decide +kernel)
theorem ml_L_97 : (Cond.methodLink "ShadowArchiveLaw" 97 y_L_project) ∈ wG := wG_2 153 (by decide +kernel) (by decide +kernel)
theorem sm_L_project : (Cond.static y_L_project) ∈ wG := wG_2 154 (by decide +kernel) (by decide +kernel)
theorem cw_L_project : (Cond.codeWith y_L_project method_8_code 3 (some .int) [(0, 5, 8, 19), (0, 5, 11, 24)]) ∈ wG := wG_2 155 (by decide +kernel) (by decide +kernel)
theorem ml_L_34 : (Cond.methodLink "ShadowArchiveLaw" 34 y_A_project) ∈ wG := wG_2 156 (by decide +kernel) (by decide +kernel)
theorem im_A_project : (Cond.instanceMethod y_A_project) ∈ wG := wG_2 157 (by decide +kernel) (by decide +kernel)
theorem se_A_project : (Cond.selects "ShadowArchive" y_A_project y_A_project) ∈ wG := wG_2 158 (by decide +kernel) (by decide +kernel)
theorem co_A_project : (Cond.code y_A_project prog_1_method_7_code 2 none) ∈ wG := wG_2 159 (by decide +kernel) (by decide +kernel)
theorem ml_A_132 : (Cond.methodLink "ShadowArchive" 132 y_S_fillFrom) ∈ wG := wG_2 160 (by decide +kernel) (by decide +kernel)
theorem im_S_fillFrom : (Cond.instanceMethod y_S_fillFrom) ∈ wG := wG_2 161 (by decide +kernel) (by decide +kernel)
theorem se_S_fillFrom : (Cond.selects "ShadowArchive$Shelf" y_S_fillFrom y_S_fillFrom) ∈ wG := wG_2 162 (by decide +kernel) (by decide +kernel)
theorem co_S_fillFrom : (Cond.code y_S_fillFrom prog_2_method_7_code 6 none) ∈ wG := wG_2 163 (by decide +kernel) (by decide +kernel)
theorem ml_S_48 : (Cond.methodLink "ShadowArchive$Shelf" 48 y_J_fill) ∈ wG := wG_2 164 (by decide +kernel) (by decide +kernel)
theorem ml_S_54 : (Cond.methodLink "ShadowArchive$Shelf" 54 y_S_binAt) ∈ wG := wG_2 165 (by decide +kernel) (by decide +kernel)
theorem ml_L_101 : (Cond.methodLink "ShadowArchiveLaw" 101 y_L_drop) ∈ wG := wG_2 167 (by decide +kernel) (by decide +kernel)
theorem sm_L_drop : (Cond.static y_L_drop) ∈ wG := wG_2 168 (by decide +kernel) (by decide +kernel)
theorem cw_L_drop : (Cond.codeWith y_L_drop method_9_code 4 (some .int) [(0, 16, 19, 19)]) ∈ wG := wG_2 169 (by decide +kernel) (by decide +kernel)
theorem ml_L_38 : (Cond.methodLink "ShadowArchiveLaw" 38 y_A_drop) ∈ wG := wG_2 170 (by decide +kernel) (by decide +kernel)
theorem im_A_drop : (Cond.instanceMethod y_A_drop) ∈ wG := wG_2 171 (by decide +kernel) (by decide +kernel)
theorem se_A_drop : (Cond.selects "ShadowArchive" y_A_drop y_A_drop) ∈ wG := wG_2 172 (by decide +kernel) (by decide +kernel)
theorem co_A_drop : (Cond.code y_A_drop prog_1_method_8_code 3 (some .boolean)) ∈ wG := wG_2 173 (by decide +kernel) (by decide +kernel)
theorem ml_L_105 : (Cond.methodLink "ShadowArchiveLaw" 105 y_L_bin) ∈ wG := wG_2 174 (by decide +kernel) (by decide +kernel)
theorem sm_L_bin : (Cond.static y_L_bin) ∈ wG := wG_2 175 (by decide +kernel) (by decide +kernel)
theorem cw_L_bin : (Cond.codeWith y_L_bin method_10_code 5 (some .int) [(0, 10, 13, 19), (0, 10, 17, 24)]) ∈ wG := wG_2 176 (by decide +kernel) (by decide +kernel)
theorem ml_L_42 : (Cond.methodLink "ShadowArchiveLaw" 42 y_A_bin) ∈ wG := wG_2 177 (by decide +kernel) (by decide +kernel)
theorem im_A_bin : (Cond.instanceMethod y_A_bin) ∈ wG := wG_2 178 (by decide +kernel) (by decide +kernel)
theorem se_A_bin : (Cond.selects "ShadowArchive" y_A_bin y_A_bin) ∈ wG := wG_2 179 (by decide +kernel) (by decide +kernel)
theorem co_A_bin : (Cond.code y_A_bin prog_1_method_9_code 3 (some .int)) ∈ wG := wG_2 180 (by decide +kernel) (by decide +kernel)
theorem ml_A_136 : (Cond.methodLink "ShadowArchive" 136 y_A_requireBin) ∈ wG := wG_2 181 (by decide +kernel) (by decide +kernel)
theorem im_A_requireBin : (Cond.instanceMethod y_A_requireBin) ∈ wG := wG_2 183 (by decide +kernel) (by decide +kernel)
theorem co_A_requireBin : (Cond.code y_A_requireBin prog_1_method_21_code 3 none) ∈ wG := wG_2 184 (by decide +kernel) (by decide +kernel)
theorem ml_L_108 : (Cond.methodLink "ShadowArchiveLaw" 108 y_L_put) ∈ wG := wG_2 186 (by decide +kernel) (by decide +kernel)
theorem sm_L_put : (Cond.static y_L_put) ∈ wG := wG_2 187 (by decide +kernel) (by decide +kernel)
theorem cw_L_put : (Cond.codeWith y_L_put method_11_code 6 (some .int) [(0, 12, 15, 19), (0, 12, 19, 24)]) ∈ wG := wG_2 188 (by decide +kernel) (by decide +kernel)
theorem ml_L_45 : (Cond.methodLink "ShadowArchiveLaw" 45 y_A_put) ∈ wG := wG_2 189 (by decide +kernel) (by decide +kernel)
theorem im_A_put : (Cond.instanceMethod y_A_put) ∈ wG := wG_2 190 (by decide +kernel) (by decide +kernel)
theorem se_A_put : (Cond.selects "ShadowArchive" y_A_put y_A_put) ∈ wG := wG_2 191 (by decide +kernel) (by decide +kernel)
theorem co_A_put : (Cond.code y_A_put prog_1_method_10_code 6 (some .int)) ∈ wG := wG_2 192 (by decide +kernel) (by decide +kernel)
theorem ml_L_111 : (Cond.methodLink "ShadowArchiveLaw" 111 y_L_enough) ∈ wG := wG_2 193 (by decide +kernel) (by decide +kernel)
theorem sm_L_enough : (Cond.static y_L_enough) ∈ wG := wG_2 194 (by decide +kernel) (by decide +kernel)
theorem cw_L_enough : (Cond.codeWith y_L_enough method_12_code 4 (some .int) [(0, 16, 19, 13)]) ∈ wG := wG_2 195 (by decide +kernel) (by decide +kernel)
theorem ml_L_48 : (Cond.methodLink "ShadowArchiveLaw" 48 y_A_enough) ∈ wG := wG_2 196 (by decide +kernel) (by decide +kernel)
theorem im_A_enough : (Cond.instanceMethod y_A_enough) ∈ wG := wG_2 197 (by decide +kernel) (by decide +kernel)
theorem se_A_enough : (Cond.selects "ShadowArchive" y_A_enough y_A_enough) ∈ wG := wG_2 198 (by decide +kernel) (by decide +kernel)
theorem co_A_enough : (Cond.code y_A_enough prog_1_method_11_code 2 (some .boolean)) ∈ wG := wG_2 199 (by decide +kernel) (by decide +kernel)
theorem ml_A_142 : (Cond.methodLink "ShadowArchive" 142 y_A_requireMask) ∈ wG := wG_2 200 (by decide +kernel) (by decide +kernel)
theorem sm_A_requireMask : (Cond.static y_A_requireMask) ∈ wG := wG_2 201 (by decide +kernel) (by decide +kernel)
theorem co_A_requireMask : (Cond.code y_A_requireMask prog_1_method_22_code 1 none) ∈ wG := wG_2 202 (by decide +kernel) (by decide +kernel)
theorem ml_A_145 : (Cond.methodLink "ShadowArchive" 145 y_A_aimedOf) ∈ wG := wG_2 204 (by decide +kernel) (by decide +kernel)
theorem im_A_aimedOf : (Cond.instanceMethod y_A_aimedOf) ∈ wG := wG_2 206 (by decide +kernel) (by decide +kernel)
theorem co_A_aimedOf : (Cond.code y_A_aimedOf prog_1_method_28_code 4 (some .int)) ∈ wG := wG_2 207 (by decide +kernel) (by decide +kernel)
theorem ml_A_149 : (Cond.methodLink "ShadowArchive" 149 y_A_areEnough) ∈ wG := wG_2 208 (by decide +kernel) (by decide +kernel)
theorem im_A_areEnough : (Cond.instanceMethod y_A_areEnough) ∈ wG := wG_2 210 (by decide +kernel) (by decide +kernel)
theorem co_A_areEnough : (Cond.code y_A_areEnough prog_1_method_30_code 5 (some .boolean)) ∈ wG := wG_2 211 (by decide +kernel) (by decide +kernel)
theorem ml_A_211 : (Cond.methodLink "ShadowArchive" 211 Lib.Math.abs.name) ∈ wG := wG_2 212 (by decide +kernel) (by decide +kernel)
theorem ml_L_114 : (Cond.methodLink "ShadowArchiveLaw" 114 y_L_rebuild) ∈ wG := wG_2 213 (by decide +kernel) (by decide +kernel)
theorem sm_L_rebuild : (Cond.static y_L_rebuild) ∈ wG := wG_2 214 (by decide +kernel) (by decide +kernel)
theorem cw_L_rebuild : (Cond.codeWith y_L_rebuild method_13_code 4 (some .int) [(0, 9, 12, 13), (0, 9, 15, 24)]) ∈ wG := wG_2 215 (by decide +kernel) (by decide +kernel)
theorem ml_L_51 : (Cond.methodLink "ShadowArchiveLaw" 51 y_A_rebuild) ∈ wG := wG_2 216 (by decide +kernel) (by decide +kernel)
theorem im_A_rebuild : (Cond.instanceMethod y_A_rebuild) ∈ wG := wG_2 217 (by decide +kernel) (by decide +kernel)
theorem se_A_rebuild : (Cond.selects "ShadowArchive" y_A_rebuild y_A_rebuild) ∈ wG := wG_2 218 (by decide +kernel) (by decide +kernel)
theorem co_A_rebuild : (Cond.code y_A_rebuild prog_1_method_12_code 4 (some .int)) ∈ wG := wG_2 219 (by decide +kernel) (by decide +kernel)
theorem ml_L_117 : (Cond.methodLink "ShadowArchiveLaw" 117 y_L_about) ∈ wG := wG_2 220 (by decide +kernel) (by decide +kernel)
theorem sm_L_about : (Cond.static y_L_about) ∈ wG := wG_2 221 (by decide +kernel) (by decide +kernel)
theorem cw_L_about : (Cond.codeWith y_L_about method_14_code 4 (some .int) [(0, 9, 12, 13)]) ∈ wG := wG_2 222 (by decide +kernel) (by decide +kernel)
theorem ml_L_55 : (Cond.methodLink "ShadowArchiveLaw" 55 y_A_about) ∈ wG := wG_2 223 (by decide +kernel) (by decide +kernel)
theorem im_A_about : (Cond.instanceMethod y_A_about) ∈ wG := wG_2 224 (by decide +kernel) (by decide +kernel)
theorem se_A_about : (Cond.selects "ShadowArchive" y_A_about y_A_about) ∈ wG := wG_2 225 (by decide +kernel) (by decide +kernel)
theorem co_A_about : (Cond.code y_A_about prog_1_method_13_code 2 (some .int)) ∈ wG := wG_2 226 (by decide +kernel) (by decide +kernel)
theorem ml_L_120 : (Cond.methodLink "ShadowArchiveLaw" 120 y_L_regenerate) ∈ wG := wG_2 228 (by decide +kernel) (by decide +kernel)
theorem sm_L_regenerate : (Cond.static y_L_regenerate) ∈ wG := wG_2 229 (by decide +kernel) (by decide +kernel)
theorem cw_L_regenerate : (Cond.codeWith y_L_regenerate method_15_code 4 (some .int) [(0, 16, 19, 19), (0, 16, 22, 24)]) ∈ wG := wG_2 230 (by decide +kernel) (by decide +kernel)
theorem ml_L_58 : (Cond.methodLink "ShadowArchiveLaw" 58 y_A_regenerate) ∈ wG := wG_2 231 (by decide +kernel) (by decide +kernel)
theorem im_A_regenerate : (Cond.instanceMethod y_A_regenerate) ∈ wG := wG_2 232 (by decide +kernel) (by decide +kernel)
theorem se_A_regenerate : (Cond.selects "ShadowArchive" y_A_regenerate y_A_regenerate) ∈ wG := wG_2 233 (by decide +kernel) (by decide +kernel)
theorem co_A_regenerate : (Cond.code y_A_regenerate prog_1_method_14_code 3 (some .boolean)) ∈ wG := wG_2 234 (by decide +kernel) (by decide +kernel)
theorem ml_L_127 : (Cond.methodLink "ShadowArchiveLaw" 127 y_L_ghost) ∈ wG := wG_2 235 (by decide +kernel) (by decide +kernel)
theorem sm_L_ghost : (Cond.static y_L_ghost) ∈ wG := wG_2 236 (by decide +kernel) (by decide +kernel)
theorem cw_L_ghost : (Cond.codeWith y_L_ghost method_16_code 6 (some .int) [(0, 12, 15, 13), (0, 12, 19, 19), (0, 12, 23, 24)]) ∈ wG := wG_2 237 (by decide +kernel) (by decide +kernel)
theorem ml_L_61 : (Cond.methodLink "ShadowArchiveLaw" 61 y_A_ghost) ∈ wG := wG_2 238 (by decide +kernel) (by decide +kernel)
theorem im_A_ghost : (Cond.instanceMethod y_A_ghost) ∈ wG := wG_2 239 (by decide +kernel) (by decide +kernel)
theorem se_A_ghost : (Cond.selects "ShadowArchive" y_A_ghost y_A_ghost) ∈ wG := wG_3 0 (by decide +kernel) (by decide +kernel)
theorem co_A_ghost : (Cond.code y_A_ghost prog_1_method_16_code 5 (some .int)) ∈ wG := wG_3 1 (by decide +kernel) (by decide +kernel)
theorem ml_A_180 : (Cond.methodLink "ShadowArchive" 180 y_A_drawGhost) ∈ wG := wG_3 2 (by decide +kernel) (by decide +kernel)
theorem im_A_drawGhost : (Cond.instanceMethod y_A_drawGhost) ∈ wG := wG_3 4 (by decide +kernel) (by decide +kernel)
theorem co_A_drawGhost : (Cond.code y_A_drawGhost prog_1_method_36_code 4 none) ∈ wG := wG_3 5 (by decide +kernel) (by decide +kernel)
theorem ml_A_243 : (Cond.methodLink "ShadowArchive" 243 Lib.Math.max.name) ∈ wG := wG_3 6 (by decide +kernel) (by decide +kernel)
theorem sm_max : (Cond.static Lib.Math.max.name) ∈ wG := wG_3 7 (by decide +kernel) (by decide +kernel)
theorem co_max : (Cond.code Lib.Math.max.name Lib.Math.max.code 2 (some .int)) ∈ wG := wG_3 8 (by decide +kernel) (by decide +kernel)
theorem ml_A_246 : (Cond.methodLink "ShadowArchive" 246 y_A_takeGhostMoved) ∈ wG := wG_3 9 (by decide +kernel) (by decide +kernel)
theorem im_A_takeGhostMoved : (Cond.instanceMethod y_A_takeGhostMoved) ∈ wG := wG_3 11 (by decide +kernel) (by decide +kernel)
theorem co_A_takeGhostMoved : (Cond.code y_A_takeGhostMoved prog_1_method_37_code 6 none) ∈ wG := wG_3 12 (by decide +kernel) (by decide +kernel)
theorem ml_L_134 : (Cond.methodLink "ShadowArchiveLaw" 134 y_L_add) ∈ wG := wG_3 13 (by decide +kernel) (by decide +kernel)
theorem sm_L_add : (Cond.static y_L_add) ∈ wG := wG_3 14 (by decide +kernel) (by decide +kernel)
theorem cw_L_add : (Cond.codeWith y_L_add method_17_code 4 (some .int) [(0, 9, 12, 24)]) ∈ wG := wG_3 15 (by decide +kernel) (by decide +kernel)
theorem ml_L_64 : (Cond.methodLink "ShadowArchiveLaw" 64 y_A_add) ∈ wG := wG_3 16 (by decide +kernel) (by decide +kernel)
theorem im_A_add : (Cond.instanceMethod y_A_add) ∈ wG := wG_3 17 (by decide +kernel) (by decide +kernel)
theorem se_A_add : (Cond.selects "ShadowArchive" y_A_add y_A_add) ∈ wG := wG_3 18 (by decide +kernel) (by decide +kernel)
theorem co_A_add : (Cond.code y_A_add prog_1_method_18_code 4 (some .int)) ∈ wG := wG_3 19 (by decide +kernel) (by decide +kernel)
theorem ml_A_187 : (Cond.methodLink "ShadowArchive" 187 y_A_addEach) ∈ wG := wG_3 20 (by decide +kernel) (by decide +kernel)
theorem sm_A_addEach : (Cond.static y_A_addEach) ∈ wG := wG_3 21 (by decide +kernel) (by decide +kernel)
theorem co_A_addEach : (Cond.code y_A_addEach prog_1_method_38_code 5 none) ∈ wG := wG_3 22 (by decide +kernel) (by decide +kernel)
theorem ml_A_191 : (Cond.methodLink "ShadowArchive" 191 y_S_addShelf) ∈ wG := wG_3 23 (by decide +kernel) (by decide +kernel)
theorem im_S_addShelf : (Cond.instanceMethod y_S_addShelf) ∈ wG := wG_3 24 (by decide +kernel) (by decide +kernel)
theorem se_S_addShelf : (Cond.selects "ShadowArchive$Shelf" y_S_addShelf y_S_addShelf) ∈ wG := wG_3 25 (by decide +kernel) (by decide +kernel)
theorem co_S_addShelf : (Cond.code y_S_addShelf prog_2_method_9_code 3 none) ∈ wG := wG_3 26 (by decide +kernel) (by decide +kernel)
theorem ml_S_66 : (Cond.methodLink "ShadowArchive$Shelf" 66 y_S_goesAlong) ∈ wG := wG_3 27 (by decide +kernel) (by decide +kernel)
theorem kl_L_69 : (Cond.classLink "ShadowArchiveLaw" 69 "ShadowArchiveModel") ∈ wG := wG_3 29 (by decide +kernel) (by decide +kernel)
theorem ia_M : (Cond.instantiable "ShadowArchiveModel" 28) ∈ wG := wG_3 30 (by decide +kernel) (by decide +kernel)
theorem ml_L_71 : (Cond.methodLink "ShadowArchiveLaw" 71 y_M_init) ∈ wG := wG_3 31 (by decide +kernel) (by decide +kernel)
theorem im_M_init : (Cond.instanceMethod y_M_init) ∈ wG := wG_3 32 (by decide +kernel) (by decide +kernel)
theorem co_M_init : (Cond.code y_M_init prog_5_method_1_code 1 none) ∈ wG := wG_3 33 (by decide +kernel) (by decide +kernel)
theorem ml_M_1 : (Cond.methodLink "ShadowArchiveModel" 1 objectInit) ∈ wG := wG_3 34 (by decide +kernel) (by decide +kernel)
theorem fl_M_81 : (Cond.fieldLink "ShadowArchiveModel" 81 "ShadowArchiveModel" "thrown" "I") ∈ wG := wG_3 35 (by decide +kernel) (by decide +kernel)
theorem fl_M_7 : (Cond.fieldLink "ShadowArchiveModel" 7 "ShadowArchiveModel" "w" "I") ∈ wG := wG_3 36 (by decide +kernel) (by decide +kernel)
theorem fl_M_13 : (Cond.fieldLink "ShadowArchiveModel" 13 "ShadowArchiveModel" "h" "I") ∈ wG := wG_3 37 (by decide +kernel) (by decide +kernel)
theorem fl_M_16 : (Cond.fieldLink "ShadowArchiveModel" 16 "ShadowArchiveModel" "picture" "[I") ∈ wG := wG_3 38 (by decide +kernel) (by decide +kernel)
theorem fl_M_20 : (Cond.fieldLink "ShadowArchiveModel" 20 "ShadowArchiveModel" "kept" "[I") ∈ wG := wG_3 39 (by decide +kernel) (by decide +kernel)
theorem fl_M_23 : (Cond.fieldLink "ShadowArchiveModel" 23 "ShadowArchiveModel" "rebuilt" "[I") ∈ wG := wG_3 40 (by decide +kernel) (by decide +kernel)
theorem fl_M_26 : (Cond.fieldLink "ShadowArchiveModel" 26 "ShadowArchiveModel" "tried" "[I") ∈ wG := wG_3 41 (by decide +kernel) (by decide +kernel)
theorem fl_M_29 : (Cond.fieldLink "ShadowArchiveModel" 29 "ShadowArchiveModel" "known" "[Z") ∈ wG := wG_3 42 (by decide +kernel) (by decide +kernel)
theorem fl_M_92 : (Cond.fieldLink "ShadowArchiveModel" 92 "ShadowArchiveModel" "keeps" "Z") ∈ wG := wG_3 43 (by decide +kernel) (by decide +kernel)
theorem fl_M_96 : (Cond.fieldLink "ShadowArchiveModel" 96 "ShadowArchiveModel" "hasRebuilt" "Z") ∈ wG := wG_3 44 (by decide +kernel) (by decide +kernel)
theorem fl_M_33 : (Cond.fieldLink "ShadowArchiveModel" 33 "ShadowArchiveModel" "told" "[Z") ∈ wG := wG_3 45 (by decide +kernel) (by decide +kernel)
theorem fl_M_36 : (Cond.fieldLink "ShadowArchiveModel" 36 "ShadowArchiveModel" "right" "[I") ∈ wG := wG_3 46 (by decide +kernel) (by decide +kernel)
theorem fl_M_39 : (Cond.fieldLink "ShadowArchiveModel" 39 "ShadowArchiveModel" "down" "[I") ∈ wG := wG_3 47 (by decide +kernel) (by decide +kernel)
theorem fl_M_42 : (Cond.fieldLink "ShadowArchiveModel" 42 "ShadowArchiveModel" "filled" "[Z") ∈ wG := wG_3 48 (by decide +kernel) (by decide +kernel)
theorem fl_M_45 : (Cond.fieldLink "ShadowArchiveModel" 45 "ShadowArchiveModel" "bins" "[I") ∈ wG := wG_3 49 (by decide +kernel) (by decide +kernel)
theorem fl_M_48 : (Cond.fieldLink "ShadowArchiveModel" 48 "ShadowArchiveModel" "keptTold" "[Z") ∈ wG := wG_3 50 (by decide +kernel) (by decide +kernel)
theorem fl_M_51 : (Cond.fieldLink "ShadowArchiveModel" 51 "ShadowArchiveModel" "keptRight" "[I") ∈ wG := wG_3 51 (by decide +kernel) (by decide +kernel)
theorem fl_M_54 : (Cond.fieldLink "ShadowArchiveModel" 54 "ShadowArchiveModel" "keptDown" "[I") ∈ wG := wG_3 52 (by decide +kernel) (by decide +kernel)
theorem fl_M_57 : (Cond.fieldLink "ShadowArchiveModel" 57 "ShadowArchiveModel" "keptFilled" "[Z") ∈ wG := wG_3 53 (by decide +kernel) (by decide +kernel)
theorem fl_M_60 : (Cond.fieldLink "ShadowArchiveModel" 60 "ShadowArchiveModel" "keptBins" "[I") ∈ wG := wG_3 54 (by decide +kernel) (by decide +kernel)
theorem fl_M_63 : (Cond.fieldLink "ShadowArchiveModel" 63 "ShadowArchiveModel" "unknown" "[I") ∈ wG := wG_3 55 (by decide +kernel) (by decide +kernel)
theorem fl_M_66 : (Cond.fieldLink "ShadowArchiveModel" 66 "ShadowArchiveModel" "left" "[I") ∈ wG := wG_3 56 (by decide +kernel) (by decide +kernel)
theorem fl_M_143 : (Cond.fieldLink "ShadowArchiveModel" 143 "ShadowArchiveModel" "tries" "I") ∈ wG := wG_3 57 (by decide +kernel) (by decide +kernel)
theorem fl_M_69 : (Cond.fieldLink "ShadowArchiveModel" 69 "ShadowArchiveModel" "sums" "[I") ∈ wG := wG_3 58 (by decide +kernel) (by decide +kernel)
theorem fl_M_167 : (Cond.fieldLink "ShadowArchiveModel" 167 "ShadowArchiveModel" "steps" "I") ∈ wG := wG_3 59 (by decide +kernel) (by decide +kernel)
theorem fl_M_72 : (Cond.fieldLink "ShadowArchiveModel" 72 "ShadowArchiveModel" "wrongBin" "I") ∈ wG := wG_3 60 (by decide +kernel) (by decide +kernel)
theorem fl_M_75 : (Cond.fieldLink "ShadowArchiveModel" 75 "ShadowArchiveModel" "spread" "[I") ∈ wG := wG_3 61 (by decide +kernel) (by decide +kernel)
theorem fl_M_78 : (Cond.fieldLink "ShadowArchiveModel" 78 "ShadowArchiveModel" "spreading" "[I") ∈ wG := wG_3 62 (by decide +kernel) (by decide +kernel)
theorem la_M_thrown : (Cond.lays "ShadowArchiveModel" "ShadowArchiveModel" "thrown" "I") ∈ wG := wG_3 63 (by decide +kernel) (by decide +kernel)
theorem la_M_w : (Cond.lays "ShadowArchiveModel" "ShadowArchiveModel" "w" "I") ∈ wG := wG_3 65 (by decide +kernel) (by decide +kernel)
theorem la_M_h : (Cond.lays "ShadowArchiveModel" "ShadowArchiveModel" "h" "I") ∈ wG := wG_3 67 (by decide +kernel) (by decide +kernel)
theorem la_M_picture : (Cond.laysFinal "ShadowArchiveModel" "ShadowArchiveModel" "picture" "[I") ∈ wG := wG_3 69 (by decide +kernel) (by decide +kernel)
theorem la_M_kept : (Cond.laysFinal "ShadowArchiveModel" "ShadowArchiveModel" "kept" "[I") ∈ wG := wG_3 71 (by decide +kernel) (by decide +kernel)
theorem la_M_rebuilt : (Cond.laysFinal "ShadowArchiveModel" "ShadowArchiveModel" "rebuilt" "[I") ∈ wG := wG_3 73 (by decide +kernel) (by decide +kernel)
theorem la_M_tried : (Cond.laysFinal "ShadowArchiveModel" "ShadowArchiveModel" "tried" "[I") ∈ wG := wG_3 75 (by decide +kernel) (by decide +kernel)
theorem la_M_known : (Cond.laysFinal "ShadowArchiveModel" "ShadowArchiveModel" "known" "[Z") ∈ wG := wG_3 77 (by decide +kernel) (by decide +kernel)
theorem la_M_keeps : (Cond.lays "ShadowArchiveModel" "ShadowArchiveModel" "keeps" "Z") ∈ wG := wG_3 79 (by decide +kernel) (by decide +kernel)
theorem la_M_hasRebuilt : (Cond.lays "ShadowArchiveModel" "ShadowArchiveModel" "hasRebuilt" "Z") ∈ wG := wG_3 81 (by decide +kernel) (by decide +kernel)
theorem la_M_told : (Cond.laysFinal "ShadowArchiveModel" "ShadowArchiveModel" "told" "[Z") ∈ wG := wG_3 83 (by decide +kernel) (by decide +kernel)
theorem la_M_right : (Cond.laysFinal "ShadowArchiveModel" "ShadowArchiveModel" "right" "[I") ∈ wG := wG_3 85 (by decide +kernel) (by decide +kernel)
theorem la_M_down : (Cond.laysFinal "ShadowArchiveModel" "ShadowArchiveModel" "down" "[I") ∈ wG := wG_3 87 (by decide +kernel) (by decide +kernel)
theorem la_M_filled : (Cond.laysFinal "ShadowArchiveModel" "ShadowArchiveModel" "filled" "[Z") ∈ wG := wG_3 89 (by decide +kernel) (by decide +kernel)
theorem la_M_bins : (Cond.laysFinal "ShadowArchiveModel" "ShadowArchiveModel" "bins" "[I") ∈ wG := wG_3 91 (by decide +kernel) (by decide +kernel)
theorem la_M_keptTold : (Cond.laysFinal "ShadowArchiveModel" "ShadowArchiveModel" "keptTold" "[Z") ∈ wG := wG_3 93 (by decide +kernel) (by decide +kernel)
theorem la_M_keptRight : (Cond.laysFinal "ShadowArchiveModel" "ShadowArchiveModel" "keptRight" "[I") ∈ wG := wG_3 95 (by decide +kernel) (by decide +kernel)
theorem la_M_keptDown : (Cond.laysFinal "ShadowArchiveModel" "ShadowArchiveModel" "keptDown" "[I") ∈ wG := wG_3 97 (by decide +kernel) (by decide +kernel)
theorem la_M_keptFilled : (Cond.laysFinal "ShadowArchiveModel" "ShadowArchiveModel" "keptFilled" "[Z") ∈ wG := wG_3 99 (by decide +kernel) (by decide +kernel)
theorem la_M_keptBins : (Cond.laysFinal "ShadowArchiveModel" "ShadowArchiveModel" "keptBins" "[I") ∈ wG := wG_3 101 (by decide +kernel) (by decide +kernel)
theorem la_M_unknown : (Cond.laysFinal "ShadowArchiveModel" "ShadowArchiveModel" "unknown" "[I") ∈ wG := wG_3 103 (by decide +kernel) (by decide +kernel)
theorem la_M_left : (Cond.laysFinal "ShadowArchiveModel" "ShadowArchiveModel" "left" "[I") ∈ wG := wG_3 105 (by decide +kernel) (by decide +kernel)
theorem la_M_tries : (Cond.lays "ShadowArchiveModel" "ShadowArchiveModel" "tries" "I") ∈ wG := wG_3 107 (by decide +kernel) (by decide +kernel)
theorem la_M_sums : (Cond.laysFinal "ShadowArchiveModel" "ShadowArchiveModel" "sums" "[I") ∈ wG := wG_3 109 (by decide +kernel) (by decide +kernel)
theorem la_M_steps : (Cond.lays "ShadowArchiveModel" "ShadowArchiveModel" "steps" "I") ∈ wG := wG_3 111 (by decide +kernel) (by decide +kernel)
theorem la_M_wrongBin : (Cond.lays "ShadowArchiveModel" "ShadowArchiveModel" "wrongBin" "I") ∈ wG := wG_3 113 (by decide +kernel) (by decide +kernel)
theorem la_M_spread : (Cond.laysFinal "ShadowArchiveModel" "ShadowArchiveModel" "spread" "[I") ∈ wG := wG_3 115 (by decide +kernel) (by decide +kernel)
theorem la_M_spreading : (Cond.laysFinal "ShadowArchiveModel" "ShadowArchiveModel" "spreading" "[I") ∈ wG := wG_3 117 (by decide +kernel) (by decide +kernel)
theorem ac_boolean : (Cond.arrayClass .boolean) ∈ wG := wG_3 120 (by decide +kernel) (by decide +kernel)
theorem ml_L_78 : (Cond.methodLink "ShadowArchiveLaw" 78 y_M_thrown) ∈ wG := wG_3 121 (by decide +kernel) (by decide +kernel)
theorem im_M_thrown : (Cond.instanceMethod y_M_thrown) ∈ wG := wG_3 122 (by decide +kernel) (by decide +kernel)
theorem se_M_thrown : (Cond.selects "ShadowArchiveModel" y_M_thrown y_M_thrown) ∈ wG := wG_3 123 (by decide +kernel) (by decide +kernel)
theorem co_M_thrown : (Cond.code y_M_thrown prog_5_method_2_code 1 (some .int)) ∈ wG := wG_3 124 (by decide +kernel) (by decide +kernel)
theorem ml_L_77 : (Cond.methodLink "ShadowArchiveLaw" 77 y_M_size) ∈ wG := wG_3 125 (by decide +kernel) (by decide +kernel)
theorem im_M_size : (Cond.instanceMethod y_M_size) ∈ wG := wG_3 126 (by decide +kernel) (by decide +kernel)
theorem se_M_size : (Cond.selects "ShadowArchiveModel" y_M_size y_M_size) ∈ wG := wG_3 127 (by decide +kernel) (by decide +kernel)
theorem co_M_size : (Cond.code y_M_size prog_5_method_7_code 4 none) ∈ wG := wG_3 128 (by decide +kernel) (by decide +kernel)
theorem ml_M_88 : (Cond.methodLink "ShadowArchiveModel" 88 y_M_throwing) ∈ wG := wG_3 129 (by decide +kernel) (by decide +kernel)
theorem im_M_throwing : (Cond.instanceMethod y_M_throwing) ∈ wG := wG_3 131 (by decide +kernel) (by decide +kernel)
theorem co_M_throwing : (Cond.code y_M_throwing prog_5_method_3_code 3 (some .boolean)) ∈ wG := wG_3 132 (by decide +kernel) (by decide +kernel)
theorem ml_L_85 : (Cond.methodLink "ShadowArchiveLaw" 85 y_M_pixel) ∈ wG := wG_3 133 (by decide +kernel) (by decide +kernel)
theorem im_M_pixel : (Cond.instanceMethod y_M_pixel) ∈ wG := wG_3 134 (by decide +kernel) (by decide +kernel)
theorem se_M_pixel : (Cond.selects "ShadowArchiveModel" y_M_pixel y_M_pixel) ∈ wG := wG_3 135 (by decide +kernel) (by decide +kernel)
theorem co_M_pixel : (Cond.code y_M_pixel prog_5_method_8_code 5 (some .int)) ∈ wG := wG_3 136 (by decide +kernel) (by decide +kernel)
theorem ml_M_99 : (Cond.methodLink "ShadowArchiveModel" 99 y_M_isPixel) ∈ wG := wG_3 137 (by decide +kernel) (by decide +kernel)
theorem im_M_isPixel : (Cond.instanceMethod y_M_isPixel) ∈ wG := wG_3 139 (by decide +kernel) (by decide +kernel)
theorem co_M_isPixel : (Cond.code y_M_isPixel prog_5_method_5_code 3 (some .boolean)) ∈ wG := wG_3 140 (by decide +kernel) (by decide +kernel)
theorem ml_L_88 : (Cond.methodLink "ShadowArchiveLaw" 88 y_M_look) ∈ wG := wG_3 141 (by decide +kernel) (by decide +kernel)
theorem im_M_look : (Cond.instanceMethod y_M_look) ∈ wG := wG_3 142 (by decide +kernel) (by decide +kernel)
theorem se_M_look : (Cond.selects "ShadowArchiveModel" y_M_look y_M_look) ∈ wG := wG_3 143 (by decide +kernel) (by decide +kernel)
theorem co_M_look : (Cond.code y_M_look prog_5_method_9_code 6 (some .int)) ∈ wG := wG_3 144 (by decide +kernel) (by decide +kernel)
theorem ml_L_92 : (Cond.methodLink "ShadowArchiveLaw" 92 y_M_direction) ∈ wG := wG_3 145 (by decide +kernel) (by decide +kernel)
theorem im_M_direction : (Cond.instanceMethod y_M_direction) ∈ wG := wG_3 146 (by decide +kernel) (by decide +kernel)
theorem se_M_direction : (Cond.selects "ShadowArchiveModel" y_M_direction y_M_direction) ∈ wG := wG_3 147 (by decide +kernel) (by decide +kernel)
theorem co_M_direction : (Cond.code y_M_direction prog_5_method_12_code 8 none) ∈ wG := wG_3 148 (by decide +kernel) (by decide +kernel)
theorem ml_M_84 : (Cond.methodLink "ShadowArchiveModel" 84 y_M_isShelf) ∈ wG := wG_3 149 (by decide +kernel) (by decide +kernel)
theorem sm_M_isShelf : (Cond.static y_M_isShelf) ∈ wG := wG_3 150 (by decide +kernel) (by decide +kernel)
theorem co_M_isShelf : (Cond.code y_M_isShelf prog_5_method_4_code 1 (some .boolean)) ∈ wG := wG_3 151 (by decide +kernel) (by decide +kernel)
theorem ml_M_103 : (Cond.methodLink "ShadowArchiveModel" 103 y_M_haveFactor) ∈ wG := wG_3 152 (by decide +kernel) (by decide +kernel)
theorem sm_M_haveFactor : (Cond.static y_M_haveFactor) ∈ wG := wG_3 153 (by decide +kernel) (by decide +kernel)
theorem co_M_haveFactor : (Cond.code y_M_haveFactor prog_5_method_10_code 4 (some .boolean)) ∈ wG := wG_3 154 (by decide +kernel) (by decide +kernel)
theorem ml_M_106 : (Cond.methodLink "ShadowArchiveModel" 106 y_M_isTaken) ∈ wG := wG_3 155 (by decide +kernel) (by decide +kernel)
theorem im_M_isTaken : (Cond.instanceMethod y_M_isTaken) ∈ wG := wG_3 157 (by decide +kernel) (by decide +kernel)
theorem co_M_isTaken : (Cond.code y_M_isTaken prog_5_method_11_code 6 (some .boolean)) ∈ wG := wG_3 158 (by decide +kernel) (by decide +kernel)
theorem ml_L_96 : (Cond.methodLink "ShadowArchiveLaw" 96 y_M_shelf) ∈ wG := wG_3 159 (by decide +kernel) (by decide +kernel)
theorem im_M_shelf : (Cond.instanceMethod y_M_shelf) ∈ wG := wG_3 160 (by decide +kernel) (by decide +kernel)
theorem se_M_shelf : (Cond.selects "ShadowArchiveModel" y_M_shelf y_M_shelf) ∈ wG := wG_3 161 (by decide +kernel) (by decide +kernel)
theorem co_M_shelf : (Cond.code y_M_shelf prog_5_method_16_code 3 (some .int)) ∈ wG := wG_3 162 (by decide +kernel) (by decide +kernel)
theorem ml_M_114 : (Cond.methodLink "ShadowArchiveModel" 114 y_M_hasDirection) ∈ wG := wG_3 163 (by decide +kernel) (by decide +kernel)
theorem im_M_hasDirection : (Cond.instanceMethod y_M_hasDirection) ∈ wG := wG_3 165 (by decide +kernel) (by decide +kernel)
theorem co_M_hasDirection : (Cond.code y_M_hasDirection prog_5_method_6_code 2 (some .boolean)) ∈ wG := wG_3 166 (by decide +kernel) (by decide +kernel)
theorem ml_M_117 : (Cond.methodLink "ShadowArchiveModel" 117 y_M_binsOf) ∈ wG := wG_3 167 (by decide +kernel) (by decide +kernel)
theorem im_M_binsOf : (Cond.instanceMethod y_M_binsOf) ∈ wG := wG_3 169 (by decide +kernel) (by decide +kernel)
theorem co_M_binsOf : (Cond.code y_M_binsOf prog_5_method_14_code 2 (some .int)) ∈ wG := wG_3 170 (by decide +kernel) (by decide +kernel)
theorem ml_M_110 : (Cond.methodLink "ShadowArchiveModel" 110 y_M_sizeOf) ∈ wG := wG_3 171 (by decide +kernel) (by decide +kernel)
theorem sm_M_sizeOf : (Cond.static y_M_sizeOf) ∈ wG := wG_3 172 (by decide +kernel) (by decide +kernel)
theorem co_M_sizeOf : (Cond.code y_M_sizeOf prog_5_method_13_code 1 (some .int)) ∈ wG := wG_3 173 (by decide +kernel) (by decide +kernel)
theorem ml_L_100 : (Cond.methodLink "ShadowArchiveLaw" 100 y_M_project) ∈ wG := wG_3 174 (by decide +kernel) (by decide +kernel)
theorem im_M_project : (Cond.instanceMethod y_M_project) ∈ wG := wG_3 175 (by decide +kernel) (by decide +kernel)
theorem se_M_project : (Cond.selects "ShadowArchiveModel" y_M_project y_M_project) ∈ wG := wG_3 176 (by decide +kernel) (by decide +kernel)
theorem co_M_project : (Cond.code y_M_project prog_5_method_19_code 2 none) ∈ wG := wG_3 177 (by decide +kernel) (by decide +kernel)
theorem ml_M_128 : (Cond.methodLink "ShadowArchiveModel" 128 y_M_fill) ∈ wG := wG_3 178 (by decide +kernel) (by decide +kernel)
theorem im_M_fill : (Cond.instanceMethod y_M_fill) ∈ wG := wG_3 180 (by decide +kernel) (by decide +kernel)
theorem co_M_fill : (Cond.code y_M_fill prog_5_method_18_code 4 none) ∈ wG := wG_3 181 (by decide +kernel) (by decide +kernel)
theorem ml_M_124 : (Cond.methodLink "ShadowArchiveModel" 124 y_M_sumUp) ∈ wG := wG_3 182 (by decide +kernel) (by decide +kernel)
theorem im_M_sumUp : (Cond.instanceMethod y_M_sumUp) ∈ wG := wG_3 184 (by decide +kernel) (by decide +kernel)
theorem co_M_sumUp : (Cond.code y_M_sumUp prog_5_method_17_code 5 none) ∈ wG := wG_3 185 (by decide +kernel) (by decide +kernel)
theorem ml_M_120 : (Cond.methodLink "ShadowArchiveModel" 120 y_M_binAt) ∈ wG := wG_3 186 (by decide +kernel) (by decide +kernel)
theorem im_M_binAt : (Cond.instanceMethod y_M_binAt) ∈ wG := wG_3 188 (by decide +kernel) (by decide +kernel)
theorem co_M_binAt : (Cond.code y_M_binAt prog_5_method_15_code 5 (some .int)) ∈ wG := wG_3 189 (by decide +kernel) (by decide +kernel)
theorem ml_L_104 : (Cond.methodLink "ShadowArchiveLaw" 104 y_M_drop) ∈ wG := wG_3 190 (by decide +kernel) (by decide +kernel)
theorem im_M_drop : (Cond.instanceMethod y_M_drop) ∈ wG := wG_3 191 (by decide +kernel) (by decide +kernel)
theorem se_M_drop : (Cond.selects "ShadowArchiveModel" y_M_drop y_M_drop) ∈ wG := wG_3 192 (by decide +kernel) (by decide +kernel)
theorem co_M_drop : (Cond.code y_M_drop prog_5_method_20_code 3 (some .boolean)) ∈ wG := wG_3 193 (by decide +kernel) (by decide +kernel)
theorem ml_L_107 : (Cond.methodLink "ShadowArchiveLaw" 107 y_M_bin) ∈ wG := wG_3 194 (by decide +kernel) (by decide +kernel)
theorem im_M_bin : (Cond.instanceMethod y_M_bin) ∈ wG := wG_3 195 (by decide +kernel) (by decide +kernel)
theorem se_M_bin : (Cond.selects "ShadowArchiveModel" y_M_bin y_M_bin) ∈ wG := wG_3 196 (by decide +kernel) (by decide +kernel)
theorem co_M_bin : (Cond.code y_M_bin prog_5_method_22_code 3 (some .int)) ∈ wG := wG_3 197 (by decide +kernel) (by decide +kernel)
theorem ml_M_131 : (Cond.methodLink "ShadowArchiveModel" 131 y_M_hasNoBin) ∈ wG := wG_3 198 (by decide +kernel) (by decide +kernel)
theorem im_M_hasNoBin : (Cond.instanceMethod y_M_hasNoBin) ∈ wG := wG_3 200 (by decide +kernel) (by decide +kernel)
theorem co_M_hasNoBin : (Cond.code y_M_hasNoBin prog_5_method_21_code 3 (some .boolean)) ∈ wG := wG_3 201 (by decide +kernel) (by decide +kernel)
theorem ml_L_110 : (Cond.methodLink "ShadowArchiveLaw" 110 y_M_put) ∈ wG := wG_3 202 (by decide +kernel) (by decide +kernel)
theorem im_M_put : (Cond.instanceMethod y_M_put) ∈ wG := wG_3 203 (by decide +kernel) (by decide +kernel)
theorem se_M_put : (Cond.selects "ShadowArchiveModel" y_M_put y_M_put) ∈ wG := wG_3 204 (by decide +kernel) (by decide +kernel)
theorem co_M_put : (Cond.code y_M_put prog_5_method_23_code 5 (some .int)) ∈ wG := wG_3 205 (by decide +kernel) (by decide +kernel)
theorem ml_L_113 : (Cond.methodLink "ShadowArchiveLaw" 113 y_M_enough) ∈ wG := wG_3 206 (by decide +kernel) (by decide +kernel)
theorem im_M_enough : (Cond.instanceMethod y_M_enough) ∈ wG := wG_3 207 (by decide +kernel) (by decide +kernel)
theorem se_M_enough : (Cond.selects "ShadowArchiveModel" y_M_enough y_M_enough) ∈ wG := wG_3 208 (by decide +kernel) (by decide +kernel)
theorem co_M_enough : (Cond.code y_M_enough prog_5_method_28_code 2 (some .boolean)) ∈ wG := wG_3 209 (by decide +kernel) (by decide +kernel)
theorem ml_M_137 : (Cond.methodLink "ShadowArchiveModel" 137 y_M_isMask) ∈ wG := wG_3 210 (by decide +kernel) (by decide +kernel)
theorem sm_M_isMask : (Cond.static y_M_isMask) ∈ wG := wG_3 211 (by decide +kernel) (by decide +kernel)
theorem co_M_isMask : (Cond.code y_M_isMask prog_5_method_24_code 1 (some .boolean)) ∈ wG := wG_3 212 (by decide +kernel) (by decide +kernel)
theorem ml_M_140 : (Cond.methodLink "ShadowArchiveModel" 140 y_M_areEnough) ∈ wG := wG_3 213 (by decide +kernel) (by decide +kernel)
theorem im_M_areEnough : (Cond.instanceMethod y_M_areEnough) ∈ wG := wG_3 215 (by decide +kernel) (by decide +kernel)
theorem co_M_areEnough : (Cond.code y_M_areEnough prog_5_method_27_code 5 (some .boolean)) ∈ wG := wG_3 216 (by decide +kernel) (by decide +kernel)
theorem ml_M_134 : (Cond.methodLink "ShadowArchiveModel" 134 y_M_isOf) ∈ wG := wG_3 217 (by decide +kernel) (by decide +kernel)
theorem im_M_isOf : (Cond.instanceMethod y_M_isOf) ∈ wG := wG_3 219 (by decide +kernel) (by decide +kernel)
theorem co_M_isOf : (Cond.code y_M_isOf prog_5_method_25_code 3 (some .boolean)) ∈ wG := wG_3 220 (by decide +kernel) (by decide +kernel)
theorem ml_L_116 : (Cond.methodLink "ShadowArchiveLaw" 116 y_M_rebuild) ∈ wG := wG_3 221 (by decide +kernel) (by decide +kernel)
theorem im_M_rebuild : (Cond.instanceMethod y_M_rebuild) ∈ wG := wG_3 222 (by decide +kernel) (by decide +kernel)
theorem se_M_rebuild : (Cond.selects "ShadowArchiveModel" y_M_rebuild y_M_rebuild) ∈ wG := wG_3 223 (by decide +kernel) (by decide +kernel)
theorem co_M_rebuild : (Cond.code y_M_rebuild prog_5_method_36_code 5 (some .int)) ∈ wG := wG_3 224 (by decide +kernel) (by decide +kernel)
theorem ml_M_164 : (Cond.methodLink "ShadowArchiveModel" 164 y_M_comes) ∈ wG := wG_3 225 (by decide +kernel) (by decide +kernel)
theorem im_M_comes : (Cond.instanceMethod y_M_comes) ∈ wG := wG_3 227 (by decide +kernel) (by decide +kernel)
theorem co_M_comes : (Cond.code y_M_comes prog_5_method_33_code 3 (some .boolean)) ∈ wG := wG_3 228 (by decide +kernel) (by decide +kernel)
theorem ml_M_150 : (Cond.methodLink "ShadowArchiveModel" 150 y_M_beginTry) ∈ wG := wG_3 229 (by decide +kernel) (by decide +kernel)
theorem im_M_beginTry : (Cond.instanceMethod y_M_beginTry) ∈ wG := wG_3 231 (by decide +kernel) (by decide +kernel)
theorem co_M_beginTry : (Cond.code y_M_beginTry prog_5_method_29_code 5 none) ∈ wG := wG_3 232 (by decide +kernel) (by decide +kernel)
theorem ml_M_154 : (Cond.methodLink "ShadowArchiveModel" 154 y_M_single) ∈ wG := wG_3 233 (by decide +kernel) (by decide +kernel)
theorem im_M_single : (Cond.instanceMethod y_M_single) ∈ wG := wG_3 235 (by decide +kernel) (by decide +kernel)
theorem co_M_single : (Cond.code y_M_single prog_5_method_30_code 5 (some .int)) ∈ wG := wG_3 236 (by decide +kernel) (by decide +kernel)
theorem ml_M_157 : (Cond.methodLink "ShadowArchiveModel" 157 y_M_learnOf) ∈ wG := wG_3 237 (by decide +kernel) (by decide +kernel)
theorem im_M_learnOf : (Cond.instanceMethod y_M_learnOf) ∈ wG := wG_3 239 (by decide +kernel) (by decide +kernel)
theorem co_M_learnOf : (Cond.code y_M_learnOf prog_5_method_32_code 7 none) ∈ wG := wG_4 0 (by decide +kernel) (by decide +kernel)
theorem ml_M_146 : (Cond.methodLink "ShadowArchiveModel" 146 y_M_learn) ∈ wG := wG_4 1 (by decide +kernel) (by decide +kernel)
theorem im_M_learn : (Cond.instanceMethod y_M_learn) ∈ wG := wG_4 3 (by decide +kernel) (by decide +kernel)
theorem co_M_learn : (Cond.code y_M_learn prog_5_method_31_code 7 none) ∈ wG := wG_4 4 (by decide +kernel) (by decide +kernel)
theorem ml_M_170 : (Cond.methodLink "ShadowArchiveModel" 170 y_M_disagrees) ∈ wG := wG_4 5 (by decide +kernel) (by decide +kernel)
theorem im_M_disagrees : (Cond.instanceMethod y_M_disagrees) ∈ wG := wG_4 7 (by decide +kernel) (by decide +kernel)
theorem co_M_disagrees : (Cond.code y_M_disagrees prog_5_method_35_code 3 (some .int)) ∈ wG := wG_4 8 (by decide +kernel) (by decide +kernel)
theorem ml_M_161 : (Cond.methodLink "ShadowArchiveModel" 161 y_M_parts) ∈ wG := wG_4 9 (by decide +kernel) (by decide +kernel)
theorem im_M_parts : (Cond.instanceMethod y_M_parts) ∈ wG := wG_4 11 (by decide +kernel) (by decide +kernel)
theorem co_M_parts : (Cond.code y_M_parts prog_5_method_34_code 4 (some .int)) ∈ wG := wG_4 12 (by decide +kernel) (by decide +kernel)
theorem ml_L_119 : (Cond.methodLink "ShadowArchiveLaw" 119 y_M_about) ∈ wG := wG_4 13 (by decide +kernel) (by decide +kernel)
theorem im_M_about : (Cond.instanceMethod y_M_about) ∈ wG := wG_4 14 (by decide +kernel) (by decide +kernel)
theorem se_M_about : (Cond.selects "ShadowArchiveModel" y_M_about y_M_about) ∈ wG := wG_4 15 (by decide +kernel) (by decide +kernel)
theorem co_M_about : (Cond.code y_M_about prog_5_method_37_code 2 (some .int)) ∈ wG := wG_4 16 (by decide +kernel) (by decide +kernel)
theorem ml_L_122 : (Cond.methodLink "ShadowArchiveLaw" 122 y_M_regenerate) ∈ wG := wG_4 17 (by decide +kernel) (by decide +kernel)
theorem im_M_regenerate : (Cond.instanceMethod y_M_regenerate) ∈ wG := wG_4 18 (by decide +kernel) (by decide +kernel)
theorem se_M_regenerate : (Cond.selects "ShadowArchiveModel" y_M_regenerate y_M_regenerate) ∈ wG := wG_4 19 (by decide +kernel) (by decide +kernel)
theorem co_M_regenerate : (Cond.code y_M_regenerate prog_5_method_38_code 3 (some .boolean)) ∈ wG := wG_4 20 (by decide +kernel) (by decide +kernel)
theorem ml_M_173 : (Cond.methodLink "ShadowArchiveModel" 173 y_M_filledOnes) ∈ wG := wG_4 21 (by decide +kernel) (by decide +kernel)
theorem im_M_filledOnes : (Cond.instanceMethod y_M_filledOnes) ∈ wG := wG_4 23 (by decide +kernel) (by decide +kernel)
theorem co_M_filledOnes : (Cond.code y_M_filledOnes prog_5_method_26_code 3 (some .int)) ∈ wG := wG_4 24 (by decide +kernel) (by decide +kernel)
theorem ml_L_126 : (Cond.methodLink "ShadowArchiveLaw" 126 y_M_audit) ∈ wG := wG_4 25 (by decide +kernel) (by decide +kernel)
theorem im_M_audit : (Cond.instanceMethod y_M_audit) ∈ wG := wG_4 26 (by decide +kernel) (by decide +kernel)
theorem se_M_audit : (Cond.selects "ShadowArchiveModel" y_M_audit y_M_audit) ∈ wG := wG_4 27 (by decide +kernel) (by decide +kernel)
theorem co_M_audit : (Cond.code y_M_audit prog_5_method_40_code 3 (some .int)) ∈ wG := wG_4 28 (by decide +kernel) (by decide +kernel)
theorem ml_M_177 : (Cond.methodLink "ShadowArchiveModel" 177 y_M_areOfOne) ∈ wG := wG_4 29 (by decide +kernel) (by decide +kernel)
theorem im_M_areOfOne : (Cond.instanceMethod y_M_areOfOne) ∈ wG := wG_4 31 (by decide +kernel) (by decide +kernel)
theorem co_M_areOfOne : (Cond.code y_M_areOfOne prog_5_method_39_code 2 (some .boolean)) ∈ wG := wG_4 32 (by decide +kernel) (by decide +kernel)
theorem ml_L_129 : (Cond.methodLink "ShadowArchiveLaw" 129 y_M_ghost) ∈ wG := wG_4 33 (by decide +kernel) (by decide +kernel)
theorem im_M_ghost : (Cond.instanceMethod y_M_ghost) ∈ wG := wG_4 34 (by decide +kernel) (by decide +kernel)
theorem se_M_ghost : (Cond.selects "ShadowArchiveModel" y_M_ghost y_M_ghost) ∈ wG := wG_4 35 (by decide +kernel) (by decide +kernel)
theorem co_M_ghost : (Cond.code y_M_ghost prog_5_method_43_code 6 (some .int)) ∈ wG := wG_4 36 (by decide +kernel) (by decide +kernel)
theorem ml_M_180 : (Cond.methodLink "ShadowArchiveModel" 180 y_M_moveAway) ∈ wG := wG_4 37 (by decide +kernel) (by decide +kernel)
theorem im_M_moveAway : (Cond.instanceMethod y_M_moveAway) ∈ wG := wG_4 39 (by decide +kernel) (by decide +kernel)
theorem co_M_moveAway : (Cond.code y_M_moveAway prog_5_method_41_code 6 none) ∈ wG := wG_4 40 (by decide +kernel) (by decide +kernel)
theorem ml_M_183 : (Cond.methodLink "ShadowArchiveModel" 183 y_M_lowestColumn) ∈ wG := wG_4 41 (by decide +kernel) (by decide +kernel)
theorem im_M_lowestColumn : (Cond.instanceMethod y_M_lowestColumn) ∈ wG := wG_4 43 (by decide +kernel) (by decide +kernel)
theorem co_M_lowestColumn : (Cond.code y_M_lowestColumn prog_5_method_42_code 3 (some .int)) ∈ wG := wG_4 44 (by decide +kernel) (by decide +kernel)
theorem ml_L_133 : (Cond.methodLink "ShadowArchiveLaw" 133 y_M_keep) ∈ wG := wG_4 45 (by decide +kernel) (by decide +kernel)
theorem im_M_keep : (Cond.instanceMethod y_M_keep) ∈ wG := wG_4 46 (by decide +kernel) (by decide +kernel)
theorem se_M_keep : (Cond.selects "ShadowArchiveModel" y_M_keep y_M_keep) ∈ wG := wG_4 47 (by decide +kernel) (by decide +kernel)
theorem co_M_keep : (Cond.code y_M_keep prog_5_method_44_code 2 none) ∈ wG := wG_4 48 (by decide +kernel) (by decide +kernel)
theorem ml_L_137 : (Cond.methodLink "ShadowArchiveLaw" 137 y_M_add) ∈ wG := wG_4 49 (by decide +kernel) (by decide +kernel)
theorem im_M_add : (Cond.instanceMethod y_M_add) ∈ wG := wG_4 50 (by decide +kernel) (by decide +kernel)
theorem se_M_add : (Cond.selects "ShadowArchiveModel" y_M_add y_M_add) ∈ wG := wG_4 51 (by decide +kernel) (by decide +kernel)
theorem co_M_add : (Cond.code y_M_add prog_5_method_45_code 6 (some .int)) ∈ wG := wG_4 52 (by decide +kernel) (by decide +kernel)
theorem ac_long : (Cond.arrayClass .long) ∈ wG := wG_4 53 (by decide +kernel) (by decide +kernel)
theorem se_A_filledShelves : Cond.selects "ShadowArchive" y_A_filledShelves y_A_filledShelves ∈ wG := wG_s (List.mem_of_getElem? (i := 0) (by decide +kernel)) (by decide +kernel)
theorem se_A_areOfOnePicture : Cond.selects "ShadowArchive" y_A_areOfOnePicture y_A_areOfOnePicture ∈ wG := wG_s (List.mem_of_getElem? (i := 1) (by decide +kernel)) (by decide +kernel)
theorem se_A_solve : Cond.selects "ShadowArchive" y_A_solve y_A_solve ∈ wG := wG_s (List.mem_of_getElem? (i := 2) (by decide +kernel)) (by decide +kernel)
theorem se_W_makeRows : Cond.selects "ShadowArchive$Worksheet" y_W_makeRows y_W_makeRows ∈ wG := wG_s (List.mem_of_getElem? (i := 3) (by decide +kernel)) (by decide +kernel)
theorem se_A_lowestReadyShelf : Cond.selects "ShadowArchive" y_A_lowestReadyShelf y_A_lowestReadyShelf ∈ wG := wG_s (List.mem_of_getElem? (i := 4) (by decide +kernel)) (by decide +kernel)
theorem se_A_makeKnown : Cond.selects "ShadowArchive" y_A_makeKnown y_A_makeKnown ∈ wG := wG_s (List.mem_of_getElem? (i := 5) (by decide +kernel)) (by decide +kernel)
theorem se_A_lowestWrongShelf : Cond.selects "ShadowArchive" y_A_lowestWrongShelf y_A_lowestWrongShelf ∈ wG := wG_s (List.mem_of_getElem? (i := 6) (by decide +kernel)) (by decide +kernel)
theorem se_S_makeBins : Cond.selects "ShadowArchive$Shelf" y_S_makeBins y_S_makeBins ∈ wG := wG_s (List.mem_of_getElem? (i := 7) (by decide +kernel)) (by decide +kernel)
theorem se_A_requirePixel : Cond.selects "ShadowArchive" y_A_requirePixel y_A_requirePixel ∈ wG := wG_s (List.mem_of_getElem? (i := 9) (by decide +kernel)) (by decide +kernel)
theorem se_A_anotherHas : Cond.selects "ShadowArchive" y_A_anotherHas y_A_anotherHas ∈ wG := wG_s (List.mem_of_getElem? (i := 10) (by decide +kernel)) (by decide +kernel)
theorem se_A_requireBin : Cond.selects "ShadowArchive" y_A_requireBin y_A_requireBin ∈ wG := wG_s (List.mem_of_getElem? (i := 11) (by decide +kernel)) (by decide +kernel)
theorem se_A_aimedOf : Cond.selects "ShadowArchive" y_A_aimedOf y_A_aimedOf ∈ wG := wG_s (List.mem_of_getElem? (i := 12) (by decide +kernel)) (by decide +kernel)
theorem se_A_areEnough : Cond.selects "ShadowArchive" y_A_areEnough y_A_areEnough ∈ wG := wG_s (List.mem_of_getElem? (i := 13) (by decide +kernel)) (by decide +kernel)
theorem se_A_drawGhost : Cond.selects "ShadowArchive" y_A_drawGhost y_A_drawGhost ∈ wG := wG_s (List.mem_of_getElem? (i := 14) (by decide +kernel)) (by decide +kernel)
theorem se_A_takeGhostMoved : Cond.selects "ShadowArchive" y_A_takeGhostMoved y_A_takeGhostMoved ∈ wG := wG_s (List.mem_of_getElem? (i := 15) (by decide +kernel)) (by decide +kernel)
theorem se_M_throwing : Cond.selects "ShadowArchiveModel" y_M_throwing y_M_throwing ∈ wG := wG_s (List.mem_of_getElem? (i := 16) (by decide +kernel)) (by decide +kernel)
theorem se_M_isPixel : Cond.selects "ShadowArchiveModel" y_M_isPixel y_M_isPixel ∈ wG := wG_s (List.mem_of_getElem? (i := 17) (by decide +kernel)) (by decide +kernel)
theorem se_M_isTaken : Cond.selects "ShadowArchiveModel" y_M_isTaken y_M_isTaken ∈ wG := wG_s (List.mem_of_getElem? (i := 18) (by decide +kernel)) (by decide +kernel)
theorem se_M_hasDirection : Cond.selects "ShadowArchiveModel" y_M_hasDirection y_M_hasDirection ∈ wG := wG_s (List.mem_of_getElem? (i := 19) (by decide +kernel)) (by decide +kernel)
theorem se_M_binsOf : Cond.selects "ShadowArchiveModel" y_M_binsOf y_M_binsOf ∈ wG := wG_s (List.mem_of_getElem? (i := 20) (by decide +kernel)) (by decide +kernel)
theorem se_M_fill : Cond.selects "ShadowArchiveModel" y_M_fill y_M_fill ∈ wG := wG_s (List.mem_of_getElem? (i := 21) (by decide +kernel)) (by decide +kernel)
theorem se_M_sumUp : Cond.selects "ShadowArchiveModel" y_M_sumUp y_M_sumUp ∈ wG := wG_s (List.mem_of_getElem? (i := 22) (by decide +kernel)) (by decide +kernel)
theorem se_M_binAt : Cond.selects "ShadowArchiveModel" y_M_binAt y_M_binAt ∈ wG := wG_s (List.mem_of_getElem? (i := 23) (by decide +kernel)) (by decide +kernel)
theorem se_M_hasNoBin : Cond.selects "ShadowArchiveModel" y_M_hasNoBin y_M_hasNoBin ∈ wG := wG_s (List.mem_of_getElem? (i := 24) (by decide +kernel)) (by decide +kernel)
theorem se_M_areEnough : Cond.selects "ShadowArchiveModel" y_M_areEnough y_M_areEnough ∈ wG := wG_s (List.mem_of_getElem? (i := 25) (by decide +kernel)) (by decide +kernel)
theorem se_M_isOf : Cond.selects "ShadowArchiveModel" y_M_isOf y_M_isOf ∈ wG := wG_s (List.mem_of_getElem? (i := 26) (by decide +kernel)) (by decide +kernel)
theorem se_M_comes : Cond.selects "ShadowArchiveModel" y_M_comes y_M_comes ∈ wG := wG_s (List.mem_of_getElem? (i := 27) (by decide +kernel)) (by decide +kernel)
theorem se_M_beginTry : Cond.selects "ShadowArchiveModel" y_M_beginTry y_M_beginTry ∈ wG := wG_s (List.mem_of_getElem? (i := 28) (by decide +kernel)) (by decide +kernel)
theorem se_M_single : Cond.selects "ShadowArchiveModel" y_M_single y_M_single ∈ wG := wG_s (List.mem_of_getElem? (i := 29) (by decide +kernel)) (by decide +kernel)
theorem se_M_learnOf : Cond.selects "ShadowArchiveModel" y_M_learnOf y_M_learnOf ∈ wG := wG_s (List.mem_of_getElem? (i := 30) (by decide +kernel)) (by decide +kernel)
theorem se_M_learn : Cond.selects "ShadowArchiveModel" y_M_learn y_M_learn ∈ wG := wG_s (List.mem_of_getElem? (i := 31) (by decide +kernel)) (by decide +kernel)
theorem se_M_disagrees : Cond.selects "ShadowArchiveModel" y_M_disagrees y_M_disagrees ∈ wG := wG_s (List.mem_of_getElem? (i := 32) (by decide +kernel)) (by decide +kernel)
theorem se_M_parts : Cond.selects "ShadowArchiveModel" y_M_parts y_M_parts ∈ wG := wG_s (List.mem_of_getElem? (i := 33) (by decide +kernel)) (by decide +kernel)
theorem se_M_filledOnes : Cond.selects "ShadowArchiveModel" y_M_filledOnes y_M_filledOnes ∈ wG := wG_s (List.mem_of_getElem? (i := 34) (by decide +kernel)) (by decide +kernel)
theorem se_M_areOfOne : Cond.selects "ShadowArchiveModel" y_M_areOfOne y_M_areOfOne ∈ wG := wG_s (List.mem_of_getElem? (i := 35) (by decide +kernel)) (by decide +kernel)
theorem se_M_moveAway : Cond.selects "ShadowArchiveModel" y_M_moveAway y_M_moveAway ∈ wG := wG_s (List.mem_of_getElem? (i := 36) (by decide +kernel)) (by decide +kernel)
theorem se_M_lowestColumn : Cond.selects "ShadowArchiveModel" y_M_lowestColumn y_M_lowestColumn ∈ wG := wG_s (List.mem_of_getElem? (i := 37) (by decide +kernel)) (by decide +kernel)
theorem ws_A : ∀ w ∈ u_ws R_A F_A 14, w ∈ wG := wG_cons la_A_w (wG_cons la_A_h (wG_cons la_A_picture (wG_cons la_A_shelves (wG_cons la_A_hasKept (wG_cons la_A_kept (wG_cons la_A_keptShelves (wG_cons la_A_hasRebuilt (wG_cons la_A_rebuilt (wG_cons la_A_steps (wG_cons la_A_wrongBin (wG_cons la_A_draft (wG_cons la_A_sheets (wG_cons la_A_ghostCells (fun _ h => absurd h List.not_mem_nil))))))))))))))
theorem ws_S : ∀ w ∈ u_ws R_S F_S 7, w ∈ wG := wG_cons la_S_aimed (wG_cons la_S_filled (wG_cons la_S_p (wG_cons la_S_q (wG_cons la_S_least (wG_cons la_S_count (wG_cons la_S_bins (fun _ h => absurd h List.not_mem_nil)))))))
theorem ws_W : ∀ w ∈ u_ws R_W F_W 5, w ∈ wG := wG_cons la_W_count (wG_cons la_W_lowest (wG_cons la_W_unknown (wG_cons la_W_unknownCells (wG_cons la_W_rest (fun _ h => absurd h List.not_mem_nil)))))
theorem ws_M : ∀ w ∈ u_ws R_M F_M 28, w ∈ wG := wG_cons la_M_thrown (wG_cons la_M_w (wG_cons la_M_h (wG_cons la_M_picture (wG_cons la_M_kept (wG_cons la_M_rebuilt (wG_cons la_M_tried (wG_cons la_M_known (wG_cons la_M_keeps (wG_cons la_M_hasRebuilt (wG_cons la_M_told (wG_cons la_M_right (wG_cons la_M_down (wG_cons la_M_filled (wG_cons la_M_bins (wG_cons la_M_keptTold (wG_cons la_M_keptRight (wG_cons la_M_keptDown (wG_cons la_M_keptFilled (wG_cons la_M_keptBins (wG_cons la_M_unknown (wG_cons la_M_left (wG_cons la_M_tries (wG_cons la_M_sums (wG_cons la_M_steps (wG_cons la_M_wrongBin (wG_cons la_M_spread (wG_cons la_M_spreading (fun _ h => absurd h List.not_mem_nil))))))))))))))))))))))))))))
end
section
theorem d_S_addShelf_0 : decode b_S_addShelf 0 = .ok (.aload_n 0, 1) ∧ 0 + 1 = 1 := ⟨by decide +kernel, rfl⟩
theorem d_S_addShelf_1 : decode b_S_addShelf 1 = .ok (.aload_n 0, 1) ∧ 1 + 1 = 2 := ⟨by decide +kernel, rfl⟩
theorem d_S_addShelf_2 : decode b_S_addShelf 2 = .ok (.getfield 15, 3) ∧ 2 + 3 = 5 := ⟨by decide +kernel, rfl⟩
theorem d_S_addShelf_5 : decode b_S_addShelf 5 = .ok (.ifCond .eq 29, 3) ∧ 5 + 3 = 8 ∧ ((5 : Nat) : Int) + 29 = ((34 : Nat) : Int) := ⟨by decide +kernel, rfl, by decide⟩
theorem d_S_addShelf_8 : decode b_S_addShelf 8 = .ok (.aload_n 1, 1) ∧ 8 + 1 = 9 := ⟨by decide +kernel, rfl⟩
theorem d_S_addShelf_9 : decode b_S_addShelf 9 = .ok (.getfield 15, 3) ∧ 9 + 3 = 12 := ⟨by decide +kernel, rfl⟩
theorem d_S_addShelf_12 : decode b_S_addShelf 12 = .ok (.ifCond .eq 22, 3) ∧ 12 + 3 = 15 ∧ ((12 : Nat) : Int) + 22 = ((34 : Nat) : Int) := ⟨by decide +kernel, rfl, by decide⟩
theorem d_S_addShelf_15 : decode b_S_addShelf 15 = .ok (.aload_n 1, 1) ∧ 15 + 1 = 16 := ⟨by decide +kernel, rfl⟩
theorem d_S_addShelf_16 : decode b_S_addShelf 16 = .ok (.aload_n 0, 1) ∧ 16 + 1 = 17 := ⟨by decide +kernel, rfl⟩
theorem d_S_addShelf_17 : decode b_S_addShelf 17 = .ok (.getfield 18, 3) ∧ 17 + 3 = 20 := ⟨by decide +kernel, rfl⟩
theorem d_S_addShelf_20 : decode b_S_addShelf 20 = .ok (.aload_n 0, 1) ∧ 20 + 1 = 21 := ⟨by decide +kernel, rfl⟩
theorem d_S_addShelf_21 : decode b_S_addShelf 21 = .ok (.getfield 22, 3) ∧ 21 + 3 = 24 := ⟨by decide +kernel, rfl⟩
theorem d_S_addShelf_24 : decode b_S_addShelf 24 = .ok (.invokevirtual 66, 3) ∧ 24 + 3 = 27 := ⟨by decide +kernel, rfl⟩
theorem d_S_addShelf_27 : decode b_S_addShelf 27 = .ok (.ifCond .eq 7, 3) ∧ 27 + 3 = 30 ∧ ((27 : Nat) : Int) + 7 = ((34 : Nat) : Int) := ⟨by decide +kernel, rfl, by decide⟩
theorem d_S_addShelf_30 : decode b_S_addShelf 30 = .ok (.iconst 1, 1) ∧ 30 + 1 = 31 := ⟨by decide +kernel, rfl⟩
theorem d_S_addShelf_31 : decode b_S_addShelf 31 = .ok (.goto 4, 3) ∧ ((31 : Nat) : Int) + 4 = ((35 : Nat) : Int) := ⟨by decide +kernel, by decide⟩
theorem d_S_addShelf_34 : decode b_S_addShelf 34 = .ok (.iconst 0, 1) ∧ 34 + 1 = 35 := ⟨by decide +kernel, rfl⟩
theorem d_S_addShelf_35 : decode b_S_addShelf 35 = .ok (.putfield 15, 3) ∧ 35 + 3 = 38 := ⟨by decide +kernel, rfl⟩
theorem d_S_addShelf_38 : decode b_S_addShelf 38 = .ok (.aload_n 0, 1) ∧ 38 + 1 = 39 := ⟨by decide +kernel, rfl⟩
theorem d_S_addShelf_39 : decode b_S_addShelf 39 = .ok (.getfield 15, 3) ∧ 39 + 3 = 42 := ⟨by decide +kernel, rfl⟩
theorem d_S_addShelf_42 : decode b_S_addShelf 42 = .ok (.ifCond .eq 19, 3) ∧ 42 + 3 = 45 ∧ ((42 : Nat) : Int) + 19 = ((61 : Nat) : Int) := ⟨by decide +kernel, rfl, by decide⟩
theorem d_S_addShelf_45 : decode b_S_addShelf 45 = .ok (.aload_n 0, 1) ∧ 45 + 1 = 46 := ⟨by decide +kernel, rfl⟩
theorem d_S_addShelf_46 : decode b_S_addShelf 46 = .ok (.getfield 31, 3) ∧ 46 + 3 = 49 := ⟨by decide +kernel, rfl⟩
theorem d_S_addShelf_49 : decode b_S_addShelf 49 = .ok (.aload_n 1, 1) ∧ 49 + 1 = 50 := ⟨by decide +kernel, rfl⟩
theorem d_S_addShelf_50 : decode b_S_addShelf 50 = .ok (.getfield 31, 3) ∧ 50 + 3 = 53 := ⟨by decide +kernel, rfl⟩
theorem d_S_addShelf_53 : decode b_S_addShelf 53 = .ok (.aload_n 0, 1) ∧ 53 + 1 = 54 := ⟨by decide +kernel, rfl⟩
theorem d_S_addShelf_54 : decode b_S_addShelf 54 = .ok (.getfield 28, 3) ∧ 54 + 3 = 57 := ⟨by decide +kernel, rfl⟩
theorem d_S_addShelf_57 : decode b_S_addShelf 57 = .ok (.iload_n 2, 1) ∧ 57 + 1 = 58 := ⟨by decide +kernel, rfl⟩
theorem d_S_addShelf_58 : decode b_S_addShelf 58 = .ok (.invokestatic 70, 3) ∧ 58 + 3 = 61 := ⟨by decide +kernel, rfl⟩
theorem d_S_addShelf_61 : decode b_S_addShelf 61 = .ok (.return_, 1) := by decide +kernel
theorem d_S_aim_0 : decode b_S_aim 0 = .ok (.aload_n 0, 1) ∧ 0 + 1 = 1 := ⟨by decide +kernel, rfl⟩
theorem d_S_aim_1 : decode b_S_aim 1 = .ok (.iload_n 1, 1) ∧ 1 + 1 = 2 := ⟨by decide +kernel, rfl⟩
theorem d_S_aim_2 : decode b_S_aim 2 = .ok (.putfield 18, 3) ∧ 2 + 3 = 5 := ⟨by decide +kernel, rfl⟩
theorem d_S_aim_5 : decode b_S_aim 5 = .ok (.aload_n 0, 1) ∧ 5 + 1 = 6 := ⟨by decide +kernel, rfl⟩
theorem d_S_aim_6 : decode b_S_aim 6 = .ok (.iload_n 2, 1) ∧ 6 + 1 = 7 := ⟨by decide +kernel, rfl⟩
theorem d_S_aim_7 : decode b_S_aim 7 = .ok (.putfield 22, 3) ∧ 7 + 3 = 10 := ⟨by decide +kernel, rfl⟩
theorem d_S_aim_10 : decode b_S_aim 10 = .ok (.aload_n 0, 1) ∧ 10 + 1 = 11 := ⟨by decide +kernel, rfl⟩
theorem d_S_aim_11 : decode b_S_aim 11 = .ok (.iconst 0, 1) ∧ 11 + 1 = 12 := ⟨by decide +kernel, rfl⟩
theorem d_S_aim_12 : decode b_S_aim 12 = .ok (.iload_n 1, 1) ∧ 12 + 1 = 13 := ⟨by decide +kernel, rfl⟩
theorem d_S_aim_13 : decode b_S_aim 13 = .ok (.iload 4, 2) ∧ 13 + 2 = 15 := ⟨by decide +kernel, rfl⟩
theorem d_S_aim_15 : decode b_S_aim 15 = .ok (.iconst 1, 1) ∧ 15 + 1 = 16 := ⟨by decide +kernel, rfl⟩
theorem d_S_aim_16 : decode b_S_aim 16 = .ok (.isub, 1) ∧ 16 + 1 = 17 := ⟨by decide +kernel, rfl⟩
theorem d_S_aim_17 : decode b_S_aim 17 = .ok (.imul, 1) ∧ 17 + 1 = 18 := ⟨by decide +kernel, rfl⟩
theorem d_S_aim_18 : decode b_S_aim 18 = .ok (.invokestatic 35, 3) ∧ 18 + 3 = 21 := ⟨by decide +kernel, rfl⟩
theorem d_S_aim_21 : decode b_S_aim 21 = .ok (.iload_n 2, 1) ∧ 21 + 1 = 22 := ⟨by decide +kernel, rfl⟩
theorem d_S_aim_22 : decode b_S_aim 22 = .ok (.iload_n 3, 1) ∧ 22 + 1 = 23 := ⟨by decide +kernel, rfl⟩
theorem d_S_aim_23 : decode b_S_aim 23 = .ok (.iconst 1, 1) ∧ 23 + 1 = 24 := ⟨by decide +kernel, rfl⟩
theorem d_S_aim_24 : decode b_S_aim 24 = .ok (.isub, 1) ∧ 24 + 1 = 25 := ⟨by decide +kernel, rfl⟩
theorem d_S_aim_25 : decode b_S_aim 25 = .ok (.imul, 1) ∧ 25 + 1 = 26 := ⟨by decide +kernel, rfl⟩
theorem d_S_aim_26 : decode b_S_aim 26 = .ok (.isub, 1) ∧ 26 + 1 = 27 := ⟨by decide +kernel, rfl⟩
theorem d_S_aim_27 : decode b_S_aim 27 = .ok (.putfield 25, 3) ∧ 27 + 3 = 30 := ⟨by decide +kernel, rfl⟩
theorem d_S_aim_30 : decode b_S_aim 30 = .ok (.aload_n 0, 1) ∧ 30 + 1 = 31 := ⟨by decide +kernel, rfl⟩
theorem d_S_aim_31 : decode b_S_aim 31 = .ok (.iload_n 1, 1) ∧ 31 + 1 = 32 := ⟨by decide +kernel, rfl⟩
theorem d_S_aim_32 : decode b_S_aim 32 = .ok (.invokestatic 41, 3) ∧ 32 + 3 = 35 := ⟨by decide +kernel, rfl⟩
theorem d_S_aim_35 : decode b_S_aim 35 = .ok (.iload 4, 2) ∧ 35 + 2 = 37 := ⟨by decide +kernel, rfl⟩
theorem d_S_aim_37 : decode b_S_aim 37 = .ok (.iconst 1, 1) ∧ 37 + 1 = 38 := ⟨by decide +kernel, rfl⟩
theorem d_S_aim_38 : decode b_S_aim 38 = .ok (.isub, 1) ∧ 38 + 1 = 39 := ⟨by decide +kernel, rfl⟩
theorem d_S_aim_39 : decode b_S_aim 39 = .ok (.imul, 1) ∧ 39 + 1 = 40 := ⟨by decide +kernel, rfl⟩
theorem d_S_aim_40 : decode b_S_aim 40 = .ok (.iload_n 2, 1) ∧ 40 + 1 = 41 := ⟨by decide +kernel, rfl⟩
theorem d_S_aim_41 : decode b_S_aim 41 = .ok (.iload_n 3, 1) ∧ 41 + 1 = 42 := ⟨by decide +kernel, rfl⟩
theorem d_S_aim_42 : decode b_S_aim 42 = .ok (.iconst 1, 1) ∧ 42 + 1 = 43 := ⟨by decide +kernel, rfl⟩
theorem d_S_aim_43 : decode b_S_aim 43 = .ok (.isub, 1) ∧ 43 + 1 = 44 := ⟨by decide +kernel, rfl⟩
theorem d_S_aim_44 : decode b_S_aim 44 = .ok (.imul, 1) ∧ 44 + 1 = 45 := ⟨by decide +kernel, rfl⟩
theorem d_S_aim_45 : decode b_S_aim 45 = .ok (.iadd, 1) ∧ 45 + 1 = 46 := ⟨by decide +kernel, rfl⟩
theorem d_S_aim_46 : decode b_S_aim 46 = .ok (.iconst 1, 1) ∧ 46 + 1 = 47 := ⟨by decide +kernel, rfl⟩
theorem d_S_aim_47 : decode b_S_aim 47 = .ok (.iadd, 1) ∧ 47 + 1 = 48 := ⟨by decide +kernel, rfl⟩
theorem d_S_aim_48 : decode b_S_aim 48 = .ok (.putfield 28, 3) ∧ 48 + 3 = 51 := ⟨by decide +kernel, rfl⟩
theorem d_S_aim_51 : decode b_S_aim 51 = .ok (.aload_n 0, 1) ∧ 51 + 1 = 52 := ⟨by decide +kernel, rfl⟩
theorem d_S_aim_52 : decode b_S_aim 52 = .ok (.iconst 1, 1) ∧ 52 + 1 = 53 := ⟨by decide +kernel, rfl⟩
theorem d_S_aim_53 : decode b_S_aim 53 = .ok (.putfield 9, 3) ∧ 53 + 3 = 56 := ⟨by decide +kernel, rfl⟩
theorem d_S_aim_56 : decode b_S_aim 56 = .ok (.aload_n 0, 1) ∧ 56 + 1 = 57 := ⟨by decide +kernel, rfl⟩
theorem d_S_aim_57 : decode b_S_aim 57 = .ok (.iconst 0, 1) ∧ 57 + 1 = 58 := ⟨by decide +kernel, rfl⟩
theorem d_S_aim_58 : decode b_S_aim 58 = .ok (.putfield 15, 3) ∧ 58 + 3 = 61 := ⟨by decide +kernel, rfl⟩
theorem d_S_aim_61 : decode b_S_aim 61 = .ok (.aload_n 0, 1) ∧ 61 + 1 = 62 := ⟨by decide +kernel, rfl⟩
theorem d_S_aim_62 : decode b_S_aim 62 = .ok (.invokevirtual 45, 3) ∧ 62 + 3 = 65 := ⟨by decide +kernel, rfl⟩
theorem d_S_aim_65 : decode b_S_aim 65 = .ok (.return_, 1) := by decide +kernel
theorem d_S_binAt_0 : decode b_S_binAt 0 = .ok (.aload_n 0, 1) ∧ 0 + 1 = 1 := ⟨by decide +kernel, rfl⟩
theorem d_S_binAt_1 : decode b_S_binAt 1 = .ok (.getfield 18, 3) ∧ 1 + 3 = 4 := ⟨by decide +kernel, rfl⟩
theorem d_S_binAt_4 : decode b_S_binAt 4 = .ok (.iload_n 2, 1) ∧ 4 + 1 = 5 := ⟨by decide +kernel, rfl⟩
theorem d_S_binAt_5 : decode b_S_binAt 5 = .ok (.imul, 1) ∧ 5 + 1 = 6 := ⟨by decide +kernel, rfl⟩
theorem d_S_binAt_6 : decode b_S_binAt 6 = .ok (.aload_n 0, 1) ∧ 6 + 1 = 7 := ⟨by decide +kernel, rfl⟩
theorem d_S_binAt_7 : decode b_S_binAt 7 = .ok (.getfield 22, 3) ∧ 7 + 3 = 10 := ⟨by decide +kernel, rfl⟩
theorem d_S_binAt_10 : decode b_S_binAt 10 = .ok (.iload_n 1, 1) ∧ 10 + 1 = 11 := ⟨by decide +kernel, rfl⟩
theorem d_S_binAt_11 : decode b_S_binAt 11 = .ok (.imul, 1) ∧ 11 + 1 = 12 := ⟨by decide +kernel, rfl⟩
theorem d_S_binAt_12 : decode b_S_binAt 12 = .ok (.isub, 1) ∧ 12 + 1 = 13 := ⟨by decide +kernel, rfl⟩
theorem d_S_binAt_13 : decode b_S_binAt 13 = .ok (.aload_n 0, 1) ∧ 13 + 1 = 14 := ⟨by decide +kernel, rfl⟩
theorem d_S_binAt_14 : decode b_S_binAt 14 = .ok (.getfield 25, 3) ∧ 14 + 3 = 17 := ⟨by decide +kernel, rfl⟩
theorem d_S_binAt_17 : decode b_S_binAt 17 = .ok (.isub, 1) ∧ 17 + 1 = 18 := ⟨by decide +kernel, rfl⟩
theorem d_S_binAt_18 : decode b_S_binAt 18 = .ok (.ireturn, 1) := by decide +kernel
theorem d_S_copyFrom_0 : decode b_S_copyFrom 0 = .ok (.aload_n 0, 1) ∧ 0 + 1 = 1 := ⟨by decide +kernel, rfl⟩
theorem d_S_copyFrom_1 : decode b_S_copyFrom 1 = .ok (.aload_n 1, 1) ∧ 1 + 1 = 2 := ⟨by decide +kernel, rfl⟩
theorem d_S_copyFrom_2 : decode b_S_copyFrom 2 = .ok (.getfield 9, 3) ∧ 2 + 3 = 5 := ⟨by decide +kernel, rfl⟩
theorem d_S_copyFrom_5 : decode b_S_copyFrom 5 = .ok (.putfield 9, 3) ∧ 5 + 3 = 8 := ⟨by decide +kernel, rfl⟩
theorem d_S_copyFrom_8 : decode b_S_copyFrom 8 = .ok (.aload_n 0, 1) ∧ 8 + 1 = 9 := ⟨by decide +kernel, rfl⟩
theorem d_S_copyFrom_9 : decode b_S_copyFrom 9 = .ok (.aload_n 1, 1) ∧ 9 + 1 = 10 := ⟨by decide +kernel, rfl⟩
theorem d_S_copyFrom_10 : decode b_S_copyFrom 10 = .ok (.getfield 15, 3) ∧ 10 + 3 = 13 := ⟨by decide +kernel, rfl⟩
theorem d_S_copyFrom_13 : decode b_S_copyFrom 13 = .ok (.putfield 15, 3) ∧ 13 + 3 = 16 := ⟨by decide +kernel, rfl⟩
theorem d_S_copyFrom_16 : decode b_S_copyFrom 16 = .ok (.aload_n 0, 1) ∧ 16 + 1 = 17 := ⟨by decide +kernel, rfl⟩
theorem d_S_copyFrom_17 : decode b_S_copyFrom 17 = .ok (.aload_n 1, 1) ∧ 17 + 1 = 18 := ⟨by decide +kernel, rfl⟩
theorem d_S_copyFrom_18 : decode b_S_copyFrom 18 = .ok (.getfield 18, 3) ∧ 18 + 3 = 21 := ⟨by decide +kernel, rfl⟩
theorem d_S_copyFrom_21 : decode b_S_copyFrom 21 = .ok (.putfield 18, 3) ∧ 21 + 3 = 24 := ⟨by decide +kernel, rfl⟩
theorem d_S_copyFrom_24 : decode b_S_copyFrom 24 = .ok (.aload_n 0, 1) ∧ 24 + 1 = 25 := ⟨by decide +kernel, rfl⟩
theorem d_S_copyFrom_25 : decode b_S_copyFrom 25 = .ok (.aload_n 1, 1) ∧ 25 + 1 = 26 := ⟨by decide +kernel, rfl⟩
theorem d_S_copyFrom_26 : decode b_S_copyFrom 26 = .ok (.getfield 22, 3) ∧ 26 + 3 = 29 := ⟨by decide +kernel, rfl⟩
theorem d_S_copyFrom_29 : decode b_S_copyFrom 29 = .ok (.putfield 22, 3) ∧ 29 + 3 = 32 := ⟨by decide +kernel, rfl⟩
theorem d_S_copyFrom_32 : decode b_S_copyFrom 32 = .ok (.aload_n 0, 1) ∧ 32 + 1 = 33 := ⟨by decide +kernel, rfl⟩
theorem d_S_copyFrom_33 : decode b_S_copyFrom 33 = .ok (.aload_n 1, 1) ∧ 33 + 1 = 34 := ⟨by decide +kernel, rfl⟩
theorem d_S_copyFrom_34 : decode b_S_copyFrom 34 = .ok (.getfield 25, 3) ∧ 34 + 3 = 37 := ⟨by decide +kernel, rfl⟩
theorem d_S_copyFrom_37 : decode b_S_copyFrom 37 = .ok (.putfield 25, 3) ∧ 37 + 3 = 40 := ⟨by decide +kernel, rfl⟩
theorem d_S_copyFrom_40 : decode b_S_copyFrom 40 = .ok (.aload_n 0, 1) ∧ 40 + 1 = 41 := ⟨by decide +kernel, rfl⟩
theorem d_S_copyFrom_41 : decode b_S_copyFrom 41 = .ok (.aload_n 1, 1) ∧ 41 + 1 = 42 := ⟨by decide +kernel, rfl⟩
theorem d_S_copyFrom_42 : decode b_S_copyFrom 42 = .ok (.getfield 28, 3) ∧ 42 + 3 = 45 := ⟨by decide +kernel, rfl⟩
theorem d_S_copyFrom_45 : decode b_S_copyFrom 45 = .ok (.putfield 28, 3) ∧ 45 + 3 = 48 := ⟨by decide +kernel, rfl⟩
theorem d_S_copyFrom_48 : decode b_S_copyFrom 48 = .ok (.aload_n 0, 1) ∧ 48 + 1 = 49 := ⟨by decide +kernel, rfl⟩
theorem d_S_copyFrom_49 : decode b_S_copyFrom 49 = .ok (.getfield 15, 3) ∧ 49 + 3 = 52 := ⟨by decide +kernel, rfl⟩
theorem d_S_copyFrom_52 : decode b_S_copyFrom 52 = .ok (.ifCond .eq 24, 3) ∧ 52 + 3 = 55 ∧ ((52 : Nat) : Int) + 24 = ((76 : Nat) : Int) := ⟨by decide +kernel, rfl, by decide⟩
theorem d_S_copyFrom_55 : decode b_S_copyFrom 55 = .ok (.aload_n 0, 1) ∧ 55 + 1 = 56 := ⟨by decide +kernel, rfl⟩
theorem d_S_copyFrom_56 : decode b_S_copyFrom 56 = .ok (.invokevirtual 45, 3) ∧ 56 + 3 = 59 := ⟨by decide +kernel, rfl⟩
theorem d_S_copyFrom_59 : decode b_S_copyFrom 59 = .ok (.aload_n 1, 1) ∧ 59 + 1 = 60 := ⟨by decide +kernel, rfl⟩
theorem d_S_copyFrom_60 : decode b_S_copyFrom 60 = .ok (.getfield 31, 3) ∧ 60 + 3 = 63 := ⟨by decide +kernel, rfl⟩
theorem d_S_copyFrom_63 : decode b_S_copyFrom 63 = .ok (.iconst 0, 1) ∧ 63 + 1 = 64 := ⟨by decide +kernel, rfl⟩
theorem d_S_copyFrom_64 : decode b_S_copyFrom 64 = .ok (.aload_n 0, 1) ∧ 64 + 1 = 65 := ⟨by decide +kernel, rfl⟩
theorem d_S_copyFrom_65 : decode b_S_copyFrom 65 = .ok (.getfield 31, 3) ∧ 65 + 3 = 68 := ⟨by decide +kernel, rfl⟩
theorem d_S_copyFrom_68 : decode b_S_copyFrom 68 = .ok (.iconst 0, 1) ∧ 68 + 1 = 69 := ⟨by decide +kernel, rfl⟩
theorem d_S_copyFrom_69 : decode b_S_copyFrom 69 = .ok (.aload_n 0, 1) ∧ 69 + 1 = 70 := ⟨by decide +kernel, rfl⟩
theorem d_S_copyFrom_70 : decode b_S_copyFrom 70 = .ok (.getfield 28, 3) ∧ 70 + 3 = 73 := ⟨by decide +kernel, rfl⟩
theorem d_S_copyFrom_73 : decode b_S_copyFrom 73 = .ok (.invokestatic 60, 3) ∧ 73 + 3 = 76 := ⟨by decide +kernel, rfl⟩
theorem d_S_copyFrom_76 : decode b_S_copyFrom 76 = .ok (.return_, 1) := by decide +kernel
theorem d_S_fillFrom_0 : decode b_S_fillFrom 0 = .ok (.aload_n 0, 1) ∧ 0 + 1 = 1 := ⟨by decide +kernel, rfl⟩
theorem d_S_fillFrom_1 : decode b_S_fillFrom 1 = .ok (.getfield 31, 3) ∧ 1 + 3 = 4 := ⟨by decide +kernel, rfl⟩
theorem d_S_fillFrom_4 : decode b_S_fillFrom 4 = .ok (.iconst 0, 1) ∧ 4 + 1 = 5 := ⟨by decide +kernel, rfl⟩
theorem d_S_fillFrom_5 : decode b_S_fillFrom 5 = .ok (.invokestatic 48, 3) ∧ 5 + 3 = 8 := ⟨by decide +kernel, rfl⟩
theorem d_S_fillFrom_8 : decode b_S_fillFrom 8 = .ok (.iconst 0, 1) ∧ 8 + 1 = 9 := ⟨by decide +kernel, rfl⟩
theorem d_S_fillFrom_9 : decode b_S_fillFrom 9 = .ok (.istore 4, 2) ∧ 9 + 2 = 11 := ⟨by decide +kernel, rfl⟩
theorem d_S_fillFrom_11 : decode b_S_fillFrom 11 = .ok (.iload 4, 2) ∧ 11 + 2 = 13 := ⟨by decide +kernel, rfl⟩
theorem d_S_fillFrom_13 : decode b_S_fillFrom 13 = .ok (.iload_n 3, 1) ∧ 13 + 1 = 14 := ⟨by decide +kernel, rfl⟩
theorem d_S_fillFrom_14 : decode b_S_fillFrom 14 = .ok (.if_icmp .ge 49, 3) ∧ 14 + 3 = 17 ∧ ((14 : Nat) : Int) + 49 = ((63 : Nat) : Int) := ⟨by decide +kernel, rfl, by decide⟩
theorem d_S_fillFrom_17 : decode b_S_fillFrom 17 = .ok (.iconst 0, 1) ∧ 17 + 1 = 18 := ⟨by decide +kernel, rfl⟩
theorem d_S_fillFrom_18 : decode b_S_fillFrom 18 = .ok (.istore 5, 2) ∧ 18 + 2 = 20 := ⟨by decide +kernel, rfl⟩
theorem d_S_fillFrom_20 : decode b_S_fillFrom 20 = .ok (.iload 5, 2) ∧ 20 + 2 = 22 := ⟨by decide +kernel, rfl⟩
theorem d_S_fillFrom_22 : decode b_S_fillFrom 22 = .ok (.iload_n 2, 1) ∧ 22 + 1 = 23 := ⟨by decide +kernel, rfl⟩
theorem d_S_fillFrom_23 : decode b_S_fillFrom 23 = .ok (.if_icmp .ge 34, 3) ∧ 23 + 3 = 26 ∧ ((23 : Nat) : Int) + 34 = ((57 : Nat) : Int) := ⟨by decide +kernel, rfl, by decide⟩
theorem d_S_fillFrom_26 : decode b_S_fillFrom 26 = .ok (.aload_n 0, 1) ∧ 26 + 1 = 27 := ⟨by decide +kernel, rfl⟩
theorem d_S_fillFrom_27 : decode b_S_fillFrom 27 = .ok (.getfield 31, 3) ∧ 27 + 3 = 30 := ⟨by decide +kernel, rfl⟩
theorem d_S_fillFrom_30 : decode b_S_fillFrom 30 = .ok (.aload_n 0, 1) ∧ 30 + 1 = 31 := ⟨by decide +kernel, rfl⟩
theorem d_S_fillFrom_31 : decode b_S_fillFrom 31 = .ok (.iload 5, 2) ∧ 31 + 2 = 33 := ⟨by decide +kernel, rfl⟩
theorem d_S_fillFrom_33 : decode b_S_fillFrom 33 = .ok (.iload 4, 2) ∧ 33 + 2 = 35 := ⟨by decide +kernel, rfl⟩
theorem d_S_fillFrom_35 : decode b_S_fillFrom 35 = .ok (.invokevirtual 54, 3) ∧ 35 + 3 = 38 := ⟨by decide +kernel, rfl⟩
theorem d_S_fillFrom_38 : decode b_S_fillFrom 38 = .ok (.dup2, 1) ∧ 38 + 1 = 39 := ⟨by decide +kernel, rfl⟩
theorem d_S_fillFrom_39 : decode b_S_fillFrom 39 = .ok (.iaload, 1) ∧ 39 + 1 = 40 := ⟨by decide +kernel, rfl⟩
theorem d_S_fillFrom_40 : decode b_S_fillFrom 40 = .ok (.aload_n 1, 1) ∧ 40 + 1 = 41 := ⟨by decide +kernel, rfl⟩
theorem d_S_fillFrom_41 : decode b_S_fillFrom 41 = .ok (.iload 5, 2) ∧ 41 + 2 = 43 := ⟨by decide +kernel, rfl⟩
theorem d_S_fillFrom_43 : decode b_S_fillFrom 43 = .ok (.iload 4, 2) ∧ 43 + 2 = 45 := ⟨by decide +kernel, rfl⟩
theorem d_S_fillFrom_45 : decode b_S_fillFrom 45 = .ok (.invokestatic 57, 3) ∧ 45 + 3 = 48 := ⟨by decide +kernel, rfl⟩
theorem d_S_fillFrom_48 : decode b_S_fillFrom 48 = .ok (.iaload, 1) ∧ 48 + 1 = 49 := ⟨by decide +kernel, rfl⟩
theorem d_S_fillFrom_49 : decode b_S_fillFrom 49 = .ok (.iadd, 1) ∧ 49 + 1 = 50 := ⟨by decide +kernel, rfl⟩
theorem d_S_fillFrom_50 : decode b_S_fillFrom 50 = .ok (.iastore, 1) ∧ 50 + 1 = 51 := ⟨by decide +kernel, rfl⟩
theorem d_S_fillFrom_51 : decode b_S_fillFrom 51 = .ok (.iinc 5 1, 3) ∧ 51 + 3 = 54 := ⟨by decide +kernel, rfl⟩
theorem d_S_fillFrom_54 : decode b_S_fillFrom 54 = .ok (.goto (-34), 3) ∧ ((54 : Nat) : Int) + (-34) = ((20 : Nat) : Int) := ⟨by decide +kernel, by decide⟩
theorem d_S_fillFrom_57 : decode b_S_fillFrom 57 = .ok (.iinc 4 1, 3) ∧ 57 + 3 = 60 := ⟨by decide +kernel, rfl⟩
theorem d_S_fillFrom_60 : decode b_S_fillFrom 60 = .ok (.goto (-49), 3) ∧ ((60 : Nat) : Int) + (-49) = ((11 : Nat) : Int) := ⟨by decide +kernel, by decide⟩
theorem d_S_fillFrom_63 : decode b_S_fillFrom 63 = .ok (.aload_n 0, 1) ∧ 63 + 1 = 64 := ⟨by decide +kernel, rfl⟩
theorem d_S_fillFrom_64 : decode b_S_fillFrom 64 = .ok (.iconst 1, 1) ∧ 64 + 1 = 65 := ⟨by decide +kernel, rfl⟩
theorem d_S_fillFrom_65 : decode b_S_fillFrom 65 = .ok (.putfield 15, 3) ∧ 65 + 3 = 68 := ⟨by decide +kernel, rfl⟩
theorem d_S_fillFrom_68 : decode b_S_fillFrom 68 = .ok (.return_, 1) := by decide +kernel
theorem d_S_goesAlong_0 : decode b_S_goesAlong 0 = .ok (.aload_n 0, 1) ∧ 0 + 1 = 1 := ⟨by decide +kernel, rfl⟩
theorem d_S_goesAlong_1 : decode b_S_goesAlong 1 = .ok (.getfield 18, 3) ∧ 1 + 3 = 4 := ⟨by decide +kernel, rfl⟩
theorem d_S_goesAlong_4 : decode b_S_goesAlong 4 = .ok (.iload_n 1, 1) ∧ 4 + 1 = 5 := ⟨by decide +kernel, rfl⟩
theorem d_S_goesAlong_5 : decode b_S_goesAlong 5 = .ok (.if_icmp .ne 15, 3) ∧ 5 + 3 = 8 ∧ ((5 : Nat) : Int) + 15 = ((20 : Nat) : Int) := ⟨by decide +kernel, rfl, by decide⟩
theorem d_S_goesAlong_8 : decode b_S_goesAlong 8 = .ok (.aload_n 0, 1) ∧ 8 + 1 = 9 := ⟨by decide +kernel, rfl⟩
theorem d_S_goesAlong_9 : decode b_S_goesAlong 9 = .ok (.getfield 22, 3) ∧ 9 + 3 = 12 := ⟨by decide +kernel, rfl⟩
theorem d_S_goesAlong_12 : decode b_S_goesAlong 12 = .ok (.iload_n 2, 1) ∧ 12 + 1 = 13 := ⟨by decide +kernel, rfl⟩
theorem d_S_goesAlong_13 : decode b_S_goesAlong 13 = .ok (.if_icmp .ne 7, 3) ∧ 13 + 3 = 16 ∧ ((13 : Nat) : Int) + 7 = ((20 : Nat) : Int) := ⟨by decide +kernel, rfl, by decide⟩
theorem d_S_goesAlong_16 : decode b_S_goesAlong 16 = .ok (.iconst 1, 1) ∧ 16 + 1 = 17 := ⟨by decide +kernel, rfl⟩
theorem d_S_goesAlong_17 : decode b_S_goesAlong 17 = .ok (.goto 4, 3) ∧ ((17 : Nat) : Int) + 4 = ((21 : Nat) : Int) := ⟨by decide +kernel, by decide⟩
theorem d_S_goesAlong_20 : decode b_S_goesAlong 20 = .ok (.iconst 0, 1) ∧ 20 + 1 = 21 := ⟨by decide +kernel, rfl⟩
theorem d_S_goesAlong_21 : decode b_S_goesAlong 21 = .ok (.ireturn, 1) := by decide +kernel
theorem d_S_init_0 : decode b_S_init 0 = .ok (.aload_n 0, 1) ∧ 0 + 1 = 1 := ⟨by decide +kernel, rfl⟩
theorem d_S_init_1 : decode b_S_init 1 = .ok (.invokespecial 3, 3) ∧ 1 + 3 = 4 := ⟨by decide +kernel, rfl⟩
theorem d_S_init_4 : decode b_S_init 4 = .ok (.aload_n 0, 1) ∧ 4 + 1 = 5 := ⟨by decide +kernel, rfl⟩
theorem d_S_init_5 : decode b_S_init 5 = .ok (.iconst 0, 1) ∧ 5 + 1 = 6 := ⟨by decide +kernel, rfl⟩
theorem d_S_init_6 : decode b_S_init 6 = .ok (.putfield 9, 3) ∧ 6 + 3 = 9 := ⟨by decide +kernel, rfl⟩
theorem d_S_init_9 : decode b_S_init 9 = .ok (.aload_n 0, 1) ∧ 9 + 1 = 10 := ⟨by decide +kernel, rfl⟩
theorem d_S_init_10 : decode b_S_init 10 = .ok (.iconst 0, 1) ∧ 10 + 1 = 11 := ⟨by decide +kernel, rfl⟩
theorem d_S_init_11 : decode b_S_init 11 = .ok (.putfield 15, 3) ∧ 11 + 3 = 14 := ⟨by decide +kernel, rfl⟩
theorem d_S_init_14 : decode b_S_init 14 = .ok (.aload_n 0, 1) ∧ 14 + 1 = 15 := ⟨by decide +kernel, rfl⟩
theorem d_S_init_15 : decode b_S_init 15 = .ok (.iconst 0, 1) ∧ 15 + 1 = 16 := ⟨by decide +kernel, rfl⟩
theorem d_S_init_16 : decode b_S_init 16 = .ok (.putfield 18, 3) ∧ 16 + 3 = 19 := ⟨by decide +kernel, rfl⟩
theorem d_S_init_19 : decode b_S_init 19 = .ok (.aload_n 0, 1) ∧ 19 + 1 = 20 := ⟨by decide +kernel, rfl⟩
theorem d_S_init_20 : decode b_S_init 20 = .ok (.iconst 0, 1) ∧ 20 + 1 = 21 := ⟨by decide +kernel, rfl⟩
theorem d_S_init_21 : decode b_S_init 21 = .ok (.putfield 22, 3) ∧ 21 + 3 = 24 := ⟨by decide +kernel, rfl⟩
theorem d_S_init_24 : decode b_S_init 24 = .ok (.aload_n 0, 1) ∧ 24 + 1 = 25 := ⟨by decide +kernel, rfl⟩
theorem d_S_init_25 : decode b_S_init 25 = .ok (.iconst 0, 1) ∧ 25 + 1 = 26 := ⟨by decide +kernel, rfl⟩
theorem d_S_init_26 : decode b_S_init 26 = .ok (.putfield 25, 3) ∧ 26 + 3 = 29 := ⟨by decide +kernel, rfl⟩
theorem d_S_init_29 : decode b_S_init 29 = .ok (.aload_n 0, 1) ∧ 29 + 1 = 30 := ⟨by decide +kernel, rfl⟩
theorem d_S_init_30 : decode b_S_init 30 = .ok (.iconst 0, 1) ∧ 30 + 1 = 31 := ⟨by decide +kernel, rfl⟩
theorem d_S_init_31 : decode b_S_init 31 = .ok (.putfield 28, 3) ∧ 31 + 3 = 34 := ⟨by decide +kernel, rfl⟩
theorem d_S_init_34 : decode b_S_init 34 = .ok (.aload_n 0, 1) ∧ 34 + 1 = 35 := ⟨by decide +kernel, rfl⟩
theorem d_S_init_35 : decode b_S_init 35 = .ok (.iconst 0, 1) ∧ 35 + 1 = 36 := ⟨by decide +kernel, rfl⟩
theorem d_S_init_36 : decode b_S_init 36 = .ok (.newarray .int, 2) ∧ 36 + 2 = 38 := ⟨by decide +kernel, rfl⟩
theorem d_S_init_38 : decode b_S_init 38 = .ok (.putfield 31, 3) ∧ 38 + 3 = 41 := ⟨by decide +kernel, rfl⟩
theorem d_S_init_41 : decode b_S_init 41 = .ok (.return_, 1) := by decide +kernel
theorem d_S_makeBins_0 : decode b_S_makeBins 0 = .ok (.aload_n 0, 1) ∧ 0 + 1 = 1 := ⟨by decide +kernel, rfl⟩
theorem d_S_makeBins_1 : decode b_S_makeBins 1 = .ok (.getfield 31, 3) ∧ 1 + 3 = 4 := ⟨by decide +kernel, rfl⟩
theorem d_S_makeBins_4 : decode b_S_makeBins 4 = .ok (.arraylength, 1) ∧ 4 + 1 = 5 := ⟨by decide +kernel, rfl⟩
theorem d_S_makeBins_5 : decode b_S_makeBins 5 = .ok (.ifCond .ne 12, 3) ∧ 5 + 3 = 8 ∧ ((5 : Nat) : Int) + 12 = ((17 : Nat) : Int) := ⟨by decide +kernel, rfl, by decide⟩
theorem d_S_makeBins_8 : decode b_S_makeBins 8 = .ok (.aload_n 0, 1) ∧ 8 + 1 = 9 := ⟨by decide +kernel, rfl⟩
theorem d_S_makeBins_9 : decode b_S_makeBins 9 = .ok (.sipush 481, 3) ∧ 9 + 3 = 12 := ⟨by decide +kernel, rfl⟩
theorem d_S_makeBins_12 : decode b_S_makeBins 12 = .ok (.newarray .int, 2) ∧ 12 + 2 = 14 := ⟨by decide +kernel, rfl⟩
theorem d_S_makeBins_14 : decode b_S_makeBins 14 = .ok (.putfield 31, 3) ∧ 14 + 3 = 17 := ⟨by decide +kernel, rfl⟩
theorem d_S_makeBins_17 : decode b_S_makeBins 17 = .ok (.return_, 1) := by decide +kernel
theorem d_S_unaim_0 : decode b_S_unaim 0 = .ok (.aload_n 0, 1) ∧ 0 + 1 = 1 := ⟨by decide +kernel, rfl⟩
theorem d_S_unaim_1 : decode b_S_unaim 1 = .ok (.iconst 0, 1) ∧ 1 + 1 = 2 := ⟨by decide +kernel, rfl⟩
theorem d_S_unaim_2 : decode b_S_unaim 2 = .ok (.putfield 9, 3) ∧ 2 + 3 = 5 := ⟨by decide +kernel, rfl⟩
theorem d_S_unaim_5 : decode b_S_unaim 5 = .ok (.aload_n 0, 1) ∧ 5 + 1 = 6 := ⟨by decide +kernel, rfl⟩
theorem d_S_unaim_6 : decode b_S_unaim 6 = .ok (.iconst 0, 1) ∧ 6 + 1 = 7 := ⟨by decide +kernel, rfl⟩
theorem d_S_unaim_7 : decode b_S_unaim 7 = .ok (.putfield 15, 3) ∧ 7 + 3 = 10 := ⟨by decide +kernel, rfl⟩
theorem d_S_unaim_10 : decode b_S_unaim 10 = .ok (.return_, 1) := by decide +kernel
theorem d_W_begin_0 : decode b_W_begin 0 = .ok (.aload_n 0, 1) ∧ 0 + 1 = 1 := ⟨by decide +kernel, rfl⟩
theorem d_W_begin_1 : decode b_W_begin 1 = .ok (.invokevirtual 28, 3) ∧ 1 + 3 = 4 := ⟨by decide +kernel, rfl⟩
theorem d_W_begin_4 : decode b_W_begin 4 = .ok (.aload_n 0, 1) ∧ 4 + 1 = 5 := ⟨by decide +kernel, rfl⟩
theorem d_W_begin_5 : decode b_W_begin 5 = .ok (.aload_n 1, 1) ∧ 5 + 1 = 6 := ⟨by decide +kernel, rfl⟩
theorem d_W_begin_6 : decode b_W_begin 6 = .ok (.getfield 31, 3) ∧ 6 + 3 = 9 := ⟨by decide +kernel, rfl⟩
theorem d_W_begin_9 : decode b_W_begin 9 = .ok (.putfield 9, 3) ∧ 9 + 3 = 12 := ⟨by decide +kernel, rfl⟩
theorem d_W_begin_12 : decode b_W_begin 12 = .ok (.aload_n 0, 1) ∧ 12 + 1 = 13 := ⟨by decide +kernel, rfl⟩
theorem d_W_begin_13 : decode b_W_begin 13 = .ok (.iconst 0, 1) ∧ 13 + 1 = 14 := ⟨by decide +kernel, rfl⟩
theorem d_W_begin_14 : decode b_W_begin 14 = .ok (.putfield 15, 3) ∧ 14 + 3 = 17 := ⟨by decide +kernel, rfl⟩
theorem d_W_begin_17 : decode b_W_begin 17 = .ok (.aload_n 0, 1) ∧ 17 + 1 = 18 := ⟨by decide +kernel, rfl⟩
theorem d_W_begin_18 : decode b_W_begin 18 = .ok (.getfield 18, 3) ∧ 18 + 3 = 21 := ⟨by decide +kernel, rfl⟩
theorem d_W_begin_21 : decode b_W_begin 21 = .ok (.iconst 0, 1) ∧ 21 + 1 = 22 := ⟨by decide +kernel, rfl⟩
theorem d_W_begin_22 : decode b_W_begin 22 = .ok (.invokestatic 34, 3) ∧ 22 + 3 = 25 := ⟨by decide +kernel, rfl⟩
theorem d_W_begin_25 : decode b_W_begin 25 = .ok (.aload_n 0, 1) ∧ 25 + 1 = 26 := ⟨by decide +kernel, rfl⟩
theorem d_W_begin_26 : decode b_W_begin 26 = .ok (.getfield 22, 3) ∧ 26 + 3 = 29 := ⟨by decide +kernel, rfl⟩
theorem d_W_begin_29 : decode b_W_begin 29 = .ok (.iconst 0, 1) ∧ 29 + 1 = 30 := ⟨by decide +kernel, rfl⟩
theorem d_W_begin_30 : decode b_W_begin 30 = .ok (.invokestatic 34, 3) ∧ 30 + 3 = 33 := ⟨by decide +kernel, rfl⟩
theorem d_W_begin_33 : decode b_W_begin 33 = .ok (.aload_n 1, 1) ∧ 33 + 1 = 34 := ⟨by decide +kernel, rfl⟩
theorem d_W_begin_34 : decode b_W_begin 34 = .ok (.getfield 40, 3) ∧ 34 + 3 = 37 := ⟨by decide +kernel, rfl⟩
theorem d_W_begin_37 : decode b_W_begin 37 = .ok (.iconst 0, 1) ∧ 37 + 1 = 38 := ⟨by decide +kernel, rfl⟩
theorem d_W_begin_38 : decode b_W_begin 38 = .ok (.aload_n 0, 1) ∧ 38 + 1 = 39 := ⟨by decide +kernel, rfl⟩
theorem d_W_begin_39 : decode b_W_begin 39 = .ok (.getfield 25, 3) ∧ 39 + 3 = 42 := ⟨by decide +kernel, rfl⟩
theorem d_W_begin_42 : decode b_W_begin 42 = .ok (.iconst 0, 1) ∧ 42 + 1 = 43 := ⟨by decide +kernel, rfl⟩
theorem d_W_begin_43 : decode b_W_begin 43 = .ok (.aload_n 0, 1) ∧ 43 + 1 = 44 := ⟨by decide +kernel, rfl⟩
theorem d_W_begin_44 : decode b_W_begin 44 = .ok (.getfield 9, 3) ∧ 44 + 3 = 47 := ⟨by decide +kernel, rfl⟩
theorem d_W_begin_47 : decode b_W_begin 47 = .ok (.invokestatic 43, 3) ∧ 47 + 3 = 50 := ⟨by decide +kernel, rfl⟩
theorem d_W_begin_50 : decode b_W_begin 50 = .ok (.iconst 0, 1) ∧ 50 + 1 = 51 := ⟨by decide +kernel, rfl⟩
theorem d_W_begin_51 : decode b_W_begin 51 = .ok (.istore 4, 2) ∧ 51 + 2 = 53 := ⟨by decide +kernel, rfl⟩
theorem d_W_begin_53 : decode b_W_begin 53 = .ok (.iload 4, 2) ∧ 53 + 2 = 55 := ⟨by decide +kernel, rfl⟩
theorem d_W_begin_55 : decode b_W_begin 55 = .ok (.iload_n 3, 1) ∧ 55 + 1 = 56 := ⟨by decide +kernel, rfl⟩
theorem d_W_begin_56 : decode b_W_begin 56 = .ok (.if_icmp .ge 62, 3) ∧ 56 + 3 = 59 ∧ ((56 : Nat) : Int) + 62 = ((118 : Nat) : Int) := ⟨by decide +kernel, rfl, by decide⟩
theorem d_W_begin_59 : decode b_W_begin 59 = .ok (.iconst 0, 1) ∧ 59 + 1 = 60 := ⟨by decide +kernel, rfl⟩
theorem d_W_begin_60 : decode b_W_begin 60 = .ok (.istore 5, 2) ∧ 60 + 2 = 62 := ⟨by decide +kernel, rfl⟩
theorem d_W_begin_62 : decode b_W_begin 62 = .ok (.iload 5, 2) ∧ 62 + 2 = 64 := ⟨by decide +kernel, rfl⟩
theorem d_W_begin_64 : decode b_W_begin 64 = .ok (.iload_n 2, 1) ∧ 64 + 1 = 65 := ⟨by decide +kernel, rfl⟩
theorem d_W_begin_65 : decode b_W_begin 65 = .ok (.if_icmp .ge 47, 3) ∧ 65 + 3 = 68 ∧ ((65 : Nat) : Int) + 47 = ((112 : Nat) : Int) := ⟨by decide +kernel, rfl, by decide⟩
theorem d_W_begin_68 : decode b_W_begin 68 = .ok (.aload_n 1, 1) ∧ 68 + 1 = 69 := ⟨by decide +kernel, rfl⟩
theorem d_W_begin_69 : decode b_W_begin 69 = .ok (.iload 5, 2) ∧ 69 + 2 = 71 := ⟨by decide +kernel, rfl⟩
theorem d_W_begin_71 : decode b_W_begin 71 = .ok (.iload 4, 2) ∧ 71 + 2 = 73 := ⟨by decide +kernel, rfl⟩
theorem d_W_begin_73 : decode b_W_begin 73 = .ok (.invokevirtual 49, 3) ∧ 73 + 3 = 76 := ⟨by decide +kernel, rfl⟩
theorem d_W_begin_76 : decode b_W_begin 76 = .ok (.istore 6, 2) ∧ 76 + 2 = 78 := ⟨by decide +kernel, rfl⟩
theorem d_W_begin_78 : decode b_W_begin 78 = .ok (.aload_n 0, 1) ∧ 78 + 1 = 79 := ⟨by decide +kernel, rfl⟩
theorem d_W_begin_79 : decode b_W_begin 79 = .ok (.getfield 18, 3) ∧ 79 + 3 = 82 := ⟨by decide +kernel, rfl⟩
theorem d_W_begin_82 : decode b_W_begin 82 = .ok (.iload 6, 2) ∧ 82 + 2 = 84 := ⟨by decide +kernel, rfl⟩
theorem d_W_begin_84 : decode b_W_begin 84 = .ok (.dup2, 1) ∧ 84 + 1 = 85 := ⟨by decide +kernel, rfl⟩
theorem d_W_begin_85 : decode b_W_begin 85 = .ok (.iaload, 1) ∧ 85 + 1 = 86 := ⟨by decide +kernel, rfl⟩
theorem d_W_begin_86 : decode b_W_begin 86 = .ok (.iconst 1, 1) ∧ 86 + 1 = 87 := ⟨by decide +kernel, rfl⟩
theorem d_W_begin_87 : decode b_W_begin 87 = .ok (.iadd, 1) ∧ 87 + 1 = 88 := ⟨by decide +kernel, rfl⟩
theorem d_W_begin_88 : decode b_W_begin 88 = .ok (.iastore, 1) ∧ 88 + 1 = 89 := ⟨by decide +kernel, rfl⟩
theorem d_W_begin_89 : decode b_W_begin 89 = .ok (.aload_n 0, 1) ∧ 89 + 1 = 90 := ⟨by decide +kernel, rfl⟩
theorem d_W_begin_90 : decode b_W_begin 90 = .ok (.getfield 22, 3) ∧ 90 + 3 = 93 := ⟨by decide +kernel, rfl⟩
theorem d_W_begin_93 : decode b_W_begin 93 = .ok (.iload 6, 2) ∧ 93 + 2 = 95 := ⟨by decide +kernel, rfl⟩
theorem d_W_begin_95 : decode b_W_begin 95 = .ok (.dup2, 1) ∧ 95 + 1 = 96 := ⟨by decide +kernel, rfl⟩
theorem d_W_begin_96 : decode b_W_begin 96 = .ok (.iaload, 1) ∧ 96 + 1 = 97 := ⟨by decide +kernel, rfl⟩
theorem d_W_begin_97 : decode b_W_begin 97 = .ok (.iload 5, 2) ∧ 97 + 2 = 99 := ⟨by decide +kernel, rfl⟩
theorem d_W_begin_99 : decode b_W_begin 99 = .ok (.iload 4, 2) ∧ 99 + 2 = 101 := ⟨by decide +kernel, rfl⟩
theorem d_W_begin_101 : decode b_W_begin 101 = .ok (.invokestatic 53, 3) ∧ 101 + 3 = 104 := ⟨by decide +kernel, rfl⟩
theorem d_W_begin_104 : decode b_W_begin 104 = .ok (.iadd, 1) ∧ 104 + 1 = 105 := ⟨by decide +kernel, rfl⟩
theorem d_W_begin_105 : decode b_W_begin 105 = .ok (.iastore, 1) ∧ 105 + 1 = 106 := ⟨by decide +kernel, rfl⟩
theorem d_W_begin_106 : decode b_W_begin 106 = .ok (.iinc 5 1, 3) ∧ 106 + 3 = 109 := ⟨by decide +kernel, rfl⟩
theorem d_W_begin_109 : decode b_W_begin 109 = .ok (.goto (-47), 3) ∧ ((109 : Nat) : Int) + (-47) = ((62 : Nat) : Int) := ⟨by decide +kernel, by decide⟩
theorem d_W_begin_112 : decode b_W_begin 112 = .ok (.iinc 4 1, 3) ∧ 112 + 3 = 115 := ⟨by decide +kernel, rfl⟩
theorem d_W_begin_115 : decode b_W_begin 115 = .ok (.goto (-62), 3) ∧ ((115 : Nat) : Int) + (-62) = ((53 : Nat) : Int) := ⟨by decide +kernel, by decide⟩
theorem d_W_begin_118 : decode b_W_begin 118 = .ok (.return_, 1) := by decide +kernel
theorem d_W_findReadyBin_0 : decode b_W_findReadyBin 0 = .ok (.aload_n 0, 1) ∧ 0 + 1 = 1 := ⟨by decide +kernel, rfl⟩
theorem d_W_findReadyBin_1 : decode b_W_findReadyBin 1 = .ok (.getfield 15, 3) ∧ 1 + 3 = 4 := ⟨by decide +kernel, rfl⟩
theorem d_W_findReadyBin_4 : decode b_W_findReadyBin 4 = .ok (.aload_n 0, 1) ∧ 4 + 1 = 5 := ⟨by decide +kernel, rfl⟩
theorem d_W_findReadyBin_5 : decode b_W_findReadyBin 5 = .ok (.getfield 9, 3) ∧ 5 + 3 = 8 := ⟨by decide +kernel, rfl⟩
theorem d_W_findReadyBin_8 : decode b_W_findReadyBin 8 = .ok (.if_icmp .ge 29, 3) ∧ 8 + 3 = 11 ∧ ((8 : Nat) : Int) + 29 = ((37 : Nat) : Int) := ⟨by decide +kernel, rfl, by decide⟩
theorem d_W_findReadyBin_11 : decode b_W_findReadyBin 11 = .ok (.aload_n 0, 1) ∧ 11 + 1 = 12 := ⟨by decide +kernel, rfl⟩
theorem d_W_findReadyBin_12 : decode b_W_findReadyBin 12 = .ok (.getfield 18, 3) ∧ 12 + 3 = 15 := ⟨by decide +kernel, rfl⟩
theorem d_W_findReadyBin_15 : decode b_W_findReadyBin 15 = .ok (.aload_n 0, 1) ∧ 15 + 1 = 16 := ⟨by decide +kernel, rfl⟩
theorem d_W_findReadyBin_16 : decode b_W_findReadyBin 16 = .ok (.getfield 15, 3) ∧ 16 + 3 = 19 := ⟨by decide +kernel, rfl⟩
theorem d_W_findReadyBin_19 : decode b_W_findReadyBin 19 = .ok (.iaload, 1) ∧ 19 + 1 = 20 := ⟨by decide +kernel, rfl⟩
theorem d_W_findReadyBin_20 : decode b_W_findReadyBin 20 = .ok (.iconst 1, 1) ∧ 20 + 1 = 21 := ⟨by decide +kernel, rfl⟩
theorem d_W_findReadyBin_21 : decode b_W_findReadyBin 21 = .ok (.if_icmp .eq 16, 3) ∧ 21 + 3 = 24 ∧ ((21 : Nat) : Int) + 16 = ((37 : Nat) : Int) := ⟨by decide +kernel, rfl, by decide⟩
theorem d_W_findReadyBin_24 : decode b_W_findReadyBin 24 = .ok (.aload_n 0, 1) ∧ 24 + 1 = 25 := ⟨by decide +kernel, rfl⟩
theorem d_W_findReadyBin_25 : decode b_W_findReadyBin 25 = .ok (.dup, 1) ∧ 25 + 1 = 26 := ⟨by decide +kernel, rfl⟩
theorem d_W_findReadyBin_26 : decode b_W_findReadyBin 26 = .ok (.getfield 15, 3) ∧ 26 + 3 = 29 := ⟨by decide +kernel, rfl⟩
theorem d_W_findReadyBin_29 : decode b_W_findReadyBin 29 = .ok (.iconst 1, 1) ∧ 29 + 1 = 30 := ⟨by decide +kernel, rfl⟩
theorem d_W_findReadyBin_30 : decode b_W_findReadyBin 30 = .ok (.iadd, 1) ∧ 30 + 1 = 31 := ⟨by decide +kernel, rfl⟩
theorem d_W_findReadyBin_31 : decode b_W_findReadyBin 31 = .ok (.putfield 15, 3) ∧ 31 + 3 = 34 := ⟨by decide +kernel, rfl⟩
theorem d_W_findReadyBin_34 : decode b_W_findReadyBin 34 = .ok (.goto (-34), 3) ∧ ((34 : Nat) : Int) + (-34) = ((0 : Nat) : Int) := ⟨by decide +kernel, by decide⟩
theorem d_W_findReadyBin_37 : decode b_W_findReadyBin 37 = .ok (.aload_n 0, 1) ∧ 37 + 1 = 38 := ⟨by decide +kernel, rfl⟩
theorem d_W_findReadyBin_38 : decode b_W_findReadyBin 38 = .ok (.getfield 15, 3) ∧ 38 + 3 = 41 := ⟨by decide +kernel, rfl⟩
theorem d_W_findReadyBin_41 : decode b_W_findReadyBin 41 = .ok (.aload_n 0, 1) ∧ 41 + 1 = 42 := ⟨by decide +kernel, rfl⟩
theorem d_W_findReadyBin_42 : decode b_W_findReadyBin 42 = .ok (.getfield 9, 3) ∧ 42 + 3 = 45 := ⟨by decide +kernel, rfl⟩
theorem d_W_findReadyBin_45 : decode b_W_findReadyBin 45 = .ok (.if_icmp .ge 7, 3) ∧ 45 + 3 = 48 ∧ ((45 : Nat) : Int) + 7 = ((52 : Nat) : Int) := ⟨by decide +kernel, rfl, by decide⟩
theorem d_W_findReadyBin_48 : decode b_W_findReadyBin 48 = .ok (.iconst 1, 1) ∧ 48 + 1 = 49 := ⟨by decide +kernel, rfl⟩
theorem d_W_findReadyBin_49 : decode b_W_findReadyBin 49 = .ok (.goto 4, 3) ∧ ((49 : Nat) : Int) + 4 = ((53 : Nat) : Int) := ⟨by decide +kernel, by decide⟩
theorem d_W_findReadyBin_52 : decode b_W_findReadyBin 52 = .ok (.iconst 0, 1) ∧ 52 + 1 = 53 := ⟨by decide +kernel, rfl⟩
theorem d_W_findReadyBin_53 : decode b_W_findReadyBin 53 = .ok (.ireturn, 1) := by decide +kernel
theorem d_W_init_0 : decode b_W_init 0 = .ok (.aload_n 0, 1) ∧ 0 + 1 = 1 := ⟨by decide +kernel, rfl⟩
theorem d_W_init_1 : decode b_W_init 1 = .ok (.invokespecial 3, 3) ∧ 1 + 3 = 4 := ⟨by decide +kernel, rfl⟩
theorem d_W_init_4 : decode b_W_init 4 = .ok (.aload_n 0, 1) ∧ 4 + 1 = 5 := ⟨by decide +kernel, rfl⟩
theorem d_W_init_5 : decode b_W_init 5 = .ok (.iconst 0, 1) ∧ 5 + 1 = 6 := ⟨by decide +kernel, rfl⟩
theorem d_W_init_6 : decode b_W_init 6 = .ok (.putfield 9, 3) ∧ 6 + 3 = 9 := ⟨by decide +kernel, rfl⟩
theorem d_W_init_9 : decode b_W_init 9 = .ok (.aload_n 0, 1) ∧ 9 + 1 = 10 := ⟨by decide +kernel, rfl⟩
theorem d_W_init_10 : decode b_W_init 10 = .ok (.iconst 0, 1) ∧ 10 + 1 = 11 := ⟨by decide +kernel, rfl⟩
theorem d_W_init_11 : decode b_W_init 11 = .ok (.putfield 15, 3) ∧ 11 + 3 = 14 := ⟨by decide +kernel, rfl⟩
theorem d_W_init_14 : decode b_W_init 14 = .ok (.aload_n 0, 1) ∧ 14 + 1 = 15 := ⟨by decide +kernel, rfl⟩
theorem d_W_init_15 : decode b_W_init 15 = .ok (.iconst 0, 1) ∧ 15 + 1 = 16 := ⟨by decide +kernel, rfl⟩
theorem d_W_init_16 : decode b_W_init 16 = .ok (.newarray .int, 2) ∧ 16 + 2 = 18 := ⟨by decide +kernel, rfl⟩
theorem d_W_init_18 : decode b_W_init 18 = .ok (.putfield 18, 3) ∧ 18 + 3 = 21 := ⟨by decide +kernel, rfl⟩
theorem d_W_init_21 : decode b_W_init 21 = .ok (.aload_n 0, 1) ∧ 21 + 1 = 22 := ⟨by decide +kernel, rfl⟩
theorem d_W_init_22 : decode b_W_init 22 = .ok (.iconst 0, 1) ∧ 22 + 1 = 23 := ⟨by decide +kernel, rfl⟩
theorem d_W_init_23 : decode b_W_init 23 = .ok (.newarray .int, 2) ∧ 23 + 2 = 25 := ⟨by decide +kernel, rfl⟩
theorem d_W_init_25 : decode b_W_init 25 = .ok (.putfield 22, 3) ∧ 25 + 3 = 28 := ⟨by decide +kernel, rfl⟩
theorem d_W_init_28 : decode b_W_init 28 = .ok (.aload_n 0, 1) ∧ 28 + 1 = 29 := ⟨by decide +kernel, rfl⟩
theorem d_W_init_29 : decode b_W_init 29 = .ok (.iconst 0, 1) ∧ 29 + 1 = 30 := ⟨by decide +kernel, rfl⟩
theorem d_W_init_30 : decode b_W_init 30 = .ok (.newarray .int, 2) ∧ 30 + 2 = 32 := ⟨by decide +kernel, rfl⟩
theorem d_W_init_32 : decode b_W_init 32 = .ok (.putfield 25, 3) ∧ 32 + 3 = 35 := ⟨by decide +kernel, rfl⟩
theorem d_W_init_35 : decode b_W_init 35 = .ok (.return_, 1) := by decide +kernel
theorem d_W_lowestWrongBin_0 : decode b_W_lowestWrongBin 0 = .ok (.iconst 0, 1) ∧ 0 + 1 = 1 := ⟨by decide +kernel, rfl⟩
theorem d_W_lowestWrongBin_1 : decode b_W_lowestWrongBin 1 = .ok (.istore_n 1, 1) ∧ 1 + 1 = 2 := ⟨by decide +kernel, rfl⟩
theorem d_W_lowestWrongBin_2 : decode b_W_lowestWrongBin 2 = .ok (.iload_n 1, 1) ∧ 2 + 1 = 3 := ⟨by decide +kernel, rfl⟩
theorem d_W_lowestWrongBin_3 : decode b_W_lowestWrongBin 3 = .ok (.aload_n 0, 1) ∧ 3 + 1 = 4 := ⟨by decide +kernel, rfl⟩
theorem d_W_lowestWrongBin_4 : decode b_W_lowestWrongBin 4 = .ok (.getfield 9, 3) ∧ 4 + 3 = 7 := ⟨by decide +kernel, rfl⟩
theorem d_W_lowestWrongBin_7 : decode b_W_lowestWrongBin 7 = .ok (.if_icmp .ge 20, 3) ∧ 7 + 3 = 10 ∧ ((7 : Nat) : Int) + 20 = ((27 : Nat) : Int) := ⟨by decide +kernel, rfl, by decide⟩
theorem d_W_lowestWrongBin_10 : decode b_W_lowestWrongBin 10 = .ok (.aload_n 0, 1) ∧ 10 + 1 = 11 := ⟨by decide +kernel, rfl⟩
theorem d_W_lowestWrongBin_11 : decode b_W_lowestWrongBin 11 = .ok (.getfield 25, 3) ∧ 11 + 3 = 14 := ⟨by decide +kernel, rfl⟩
theorem d_W_lowestWrongBin_14 : decode b_W_lowestWrongBin 14 = .ok (.iload_n 1, 1) ∧ 14 + 1 = 15 := ⟨by decide +kernel, rfl⟩
theorem d_W_lowestWrongBin_15 : decode b_W_lowestWrongBin 15 = .ok (.iaload, 1) ∧ 15 + 1 = 16 := ⟨by decide +kernel, rfl⟩
theorem d_W_lowestWrongBin_16 : decode b_W_lowestWrongBin 16 = .ok (.ifCond .eq 5, 3) ∧ 16 + 3 = 19 ∧ ((16 : Nat) : Int) + 5 = ((21 : Nat) : Int) := ⟨by decide +kernel, rfl, by decide⟩
theorem d_W_lowestWrongBin_19 : decode b_W_lowestWrongBin 19 = .ok (.iload_n 1, 1) ∧ 19 + 1 = 20 := ⟨by decide +kernel, rfl⟩
theorem d_W_lowestWrongBin_20 : decode b_W_lowestWrongBin 20 = .ok (.ireturn, 1) := by decide +kernel
theorem d_W_lowestWrongBin_21 : decode b_W_lowestWrongBin 21 = .ok (.iinc 1 1, 3) ∧ 21 + 3 = 24 := ⟨by decide +kernel, rfl⟩
theorem d_W_lowestWrongBin_24 : decode b_W_lowestWrongBin 24 = .ok (.goto (-22), 3) ∧ ((24 : Nat) : Int) + (-22) = ((2 : Nat) : Int) := ⟨by decide +kernel, by decide⟩
theorem d_W_lowestWrongBin_27 : decode b_W_lowestWrongBin 27 = .ok (.iconst (-1), 1) ∧ 27 + 1 = 28 := ⟨by decide +kernel, rfl⟩
theorem d_W_lowestWrongBin_28 : decode b_W_lowestWrongBin 28 = .ok (.ireturn, 1) := by decide +kernel
theorem d_W_makeRows_0 : decode b_W_makeRows 0 = .ok (.aload_n 0, 1) ∧ 0 + 1 = 1 := ⟨by decide +kernel, rfl⟩
theorem d_W_makeRows_1 : decode b_W_makeRows 1 = .ok (.getfield 25, 3) ∧ 1 + 3 = 4 := ⟨by decide +kernel, rfl⟩
theorem d_W_makeRows_4 : decode b_W_makeRows 4 = .ok (.arraylength, 1) ∧ 4 + 1 = 5 := ⟨by decide +kernel, rfl⟩
theorem d_W_makeRows_5 : decode b_W_makeRows 5 = .ok (.ifCond .ne 30, 3) ∧ 5 + 3 = 8 ∧ ((5 : Nat) : Int) + 30 = ((35 : Nat) : Int) := ⟨by decide +kernel, rfl, by decide⟩
theorem d_W_makeRows_8 : decode b_W_makeRows 8 = .ok (.aload_n 0, 1) ∧ 8 + 1 = 9 := ⟨by decide +kernel, rfl⟩
theorem d_W_makeRows_9 : decode b_W_makeRows 9 = .ok (.sipush 481, 3) ∧ 9 + 3 = 12 := ⟨by decide +kernel, rfl⟩
theorem d_W_makeRows_12 : decode b_W_makeRows 12 = .ok (.newarray .int, 2) ∧ 12 + 2 = 14 := ⟨by decide +kernel, rfl⟩
theorem d_W_makeRows_14 : decode b_W_makeRows 14 = .ok (.putfield 18, 3) ∧ 14 + 3 = 17 := ⟨by decide +kernel, rfl⟩
theorem d_W_makeRows_17 : decode b_W_makeRows 17 = .ok (.aload_n 0, 1) ∧ 17 + 1 = 18 := ⟨by decide +kernel, rfl⟩
theorem d_W_makeRows_18 : decode b_W_makeRows 18 = .ok (.sipush 481, 3) ∧ 18 + 3 = 21 := ⟨by decide +kernel, rfl⟩
theorem d_W_makeRows_21 : decode b_W_makeRows 21 = .ok (.newarray .int, 2) ∧ 21 + 2 = 23 := ⟨by decide +kernel, rfl⟩
theorem d_W_makeRows_23 : decode b_W_makeRows 23 = .ok (.putfield 22, 3) ∧ 23 + 3 = 26 := ⟨by decide +kernel, rfl⟩
theorem d_W_makeRows_26 : decode b_W_makeRows 26 = .ok (.aload_n 0, 1) ∧ 26 + 1 = 27 := ⟨by decide +kernel, rfl⟩
theorem d_W_makeRows_27 : decode b_W_makeRows 27 = .ok (.sipush 481, 3) ∧ 27 + 3 = 30 := ⟨by decide +kernel, rfl⟩
theorem d_W_makeRows_30 : decode b_W_makeRows 30 = .ok (.newarray .int, 2) ∧ 30 + 2 = 32 := ⟨by decide +kernel, rfl⟩
theorem d_W_makeRows_32 : decode b_W_makeRows 32 = .ok (.putfield 25, 3) ∧ 32 + 3 = 35 := ⟨by decide +kernel, rfl⟩
theorem d_W_makeRows_35 : decode b_W_makeRows 35 = .ok (.return_, 1) := by decide +kernel
theorem d_W_readyCell_0 : decode b_W_readyCell 0 = .ok (.aload_n 0, 1) ∧ 0 + 1 = 1 := ⟨by decide +kernel, rfl⟩
theorem d_W_readyCell_1 : decode b_W_readyCell 1 = .ok (.getfield 22, 3) ∧ 1 + 3 = 4 := ⟨by decide +kernel, rfl⟩
theorem d_W_readyCell_4 : decode b_W_readyCell 4 = .ok (.aload_n 0, 1) ∧ 4 + 1 = 5 := ⟨by decide +kernel, rfl⟩
theorem d_W_readyCell_5 : decode b_W_readyCell 5 = .ok (.getfield 15, 3) ∧ 5 + 3 = 8 := ⟨by decide +kernel, rfl⟩
theorem d_W_readyCell_8 : decode b_W_readyCell 8 = .ok (.iaload, 1) ∧ 8 + 1 = 9 := ⟨by decide +kernel, rfl⟩
theorem d_W_readyCell_9 : decode b_W_readyCell 9 = .ok (.ireturn, 1) := by decide +kernel
theorem d_W_readyNumber_0 : decode b_W_readyNumber 0 = .ok (.aload_n 0, 1) ∧ 0 + 1 = 1 := ⟨by decide +kernel, rfl⟩
theorem d_W_readyNumber_1 : decode b_W_readyNumber 1 = .ok (.getfield 25, 3) ∧ 1 + 3 = 4 := ⟨by decide +kernel, rfl⟩
theorem d_W_readyNumber_4 : decode b_W_readyNumber 4 = .ok (.aload_n 0, 1) ∧ 4 + 1 = 5 := ⟨by decide +kernel, rfl⟩
theorem d_W_readyNumber_5 : decode b_W_readyNumber 5 = .ok (.getfield 15, 3) ∧ 5 + 3 = 8 := ⟨by decide +kernel, rfl⟩
theorem d_W_readyNumber_8 : decode b_W_readyNumber 8 = .ok (.iaload, 1) ∧ 8 + 1 = 9 := ⟨by decide +kernel, rfl⟩
theorem d_W_readyNumber_9 : decode b_W_readyNumber 9 = .ok (.ireturn, 1) := by decide +kernel
theorem d_W_takeOut_0 : decode b_W_takeOut 0 = .ok (.aload_n 0, 1) ∧ 0 + 1 = 1 := ⟨by decide +kernel, rfl⟩
theorem d_W_takeOut_1 : decode b_W_takeOut 1 = .ok (.getfield 18, 3) ∧ 1 + 3 = 4 := ⟨by decide +kernel, rfl⟩
theorem d_W_takeOut_4 : decode b_W_takeOut 4 = .ok (.iload_n 1, 1) ∧ 4 + 1 = 5 := ⟨by decide +kernel, rfl⟩
theorem d_W_takeOut_5 : decode b_W_takeOut 5 = .ok (.dup2, 1) ∧ 5 + 1 = 6 := ⟨by decide +kernel, rfl⟩
theorem d_W_takeOut_6 : decode b_W_takeOut 6 = .ok (.iaload, 1) ∧ 6 + 1 = 7 := ⟨by decide +kernel, rfl⟩
theorem d_W_takeOut_7 : decode b_W_takeOut 7 = .ok (.iconst 1, 1) ∧ 7 + 1 = 8 := ⟨by decide +kernel, rfl⟩
theorem d_W_takeOut_8 : decode b_W_takeOut 8 = .ok (.isub, 1) ∧ 8 + 1 = 9 := ⟨by decide +kernel, rfl⟩
theorem d_W_takeOut_9 : decode b_W_takeOut 9 = .ok (.iastore, 1) ∧ 9 + 1 = 10 := ⟨by decide +kernel, rfl⟩
theorem d_W_takeOut_10 : decode b_W_takeOut 10 = .ok (.aload_n 0, 1) ∧ 10 + 1 = 11 := ⟨by decide +kernel, rfl⟩
theorem d_W_takeOut_11 : decode b_W_takeOut 11 = .ok (.getfield 22, 3) ∧ 11 + 3 = 14 := ⟨by decide +kernel, rfl⟩
theorem d_W_takeOut_14 : decode b_W_takeOut 14 = .ok (.iload_n 1, 1) ∧ 14 + 1 = 15 := ⟨by decide +kernel, rfl⟩
theorem d_W_takeOut_15 : decode b_W_takeOut 15 = .ok (.dup2, 1) ∧ 15 + 1 = 16 := ⟨by decide +kernel, rfl⟩
theorem d_W_takeOut_16 : decode b_W_takeOut 16 = .ok (.iaload, 1) ∧ 16 + 1 = 17 := ⟨by decide +kernel, rfl⟩
theorem d_W_takeOut_17 : decode b_W_takeOut 17 = .ok (.iload_n 2, 1) ∧ 17 + 1 = 18 := ⟨by decide +kernel, rfl⟩
theorem d_W_takeOut_18 : decode b_W_takeOut 18 = .ok (.isub, 1) ∧ 18 + 1 = 19 := ⟨by decide +kernel, rfl⟩
theorem d_W_takeOut_19 : decode b_W_takeOut 19 = .ok (.iastore, 1) ∧ 19 + 1 = 20 := ⟨by decide +kernel, rfl⟩
theorem d_W_takeOut_20 : decode b_W_takeOut 20 = .ok (.aload_n 0, 1) ∧ 20 + 1 = 21 := ⟨by decide +kernel, rfl⟩
theorem d_W_takeOut_21 : decode b_W_takeOut 21 = .ok (.getfield 25, 3) ∧ 21 + 3 = 24 := ⟨by decide +kernel, rfl⟩
theorem d_W_takeOut_24 : decode b_W_takeOut 24 = .ok (.iload_n 1, 1) ∧ 24 + 1 = 25 := ⟨by decide +kernel, rfl⟩
theorem d_W_takeOut_25 : decode b_W_takeOut 25 = .ok (.dup2, 1) ∧ 25 + 1 = 26 := ⟨by decide +kernel, rfl⟩
theorem d_W_takeOut_26 : decode b_W_takeOut 26 = .ok (.iaload, 1) ∧ 26 + 1 = 27 := ⟨by decide +kernel, rfl⟩
theorem d_W_takeOut_27 : decode b_W_takeOut 27 = .ok (.iload_n 3, 1) ∧ 27 + 1 = 28 := ⟨by decide +kernel, rfl⟩
theorem d_W_takeOut_28 : decode b_W_takeOut 28 = .ok (.isub, 1) ∧ 28 + 1 = 29 := ⟨by decide +kernel, rfl⟩
theorem d_W_takeOut_29 : decode b_W_takeOut 29 = .ok (.iastore, 1) ∧ 29 + 1 = 30 := ⟨by decide +kernel, rfl⟩
theorem d_W_takeOut_30 : decode b_W_takeOut 30 = .ok (.aload_n 0, 1) ∧ 30 + 1 = 31 := ⟨by decide +kernel, rfl⟩
theorem d_W_takeOut_31 : decode b_W_takeOut 31 = .ok (.getfield 18, 3) ∧ 31 + 3 = 34 := ⟨by decide +kernel, rfl⟩
theorem d_W_takeOut_34 : decode b_W_takeOut 34 = .ok (.iload_n 1, 1) ∧ 34 + 1 = 35 := ⟨by decide +kernel, rfl⟩
theorem d_W_takeOut_35 : decode b_W_takeOut 35 = .ok (.iaload, 1) ∧ 35 + 1 = 36 := ⟨by decide +kernel, rfl⟩
theorem d_W_takeOut_36 : decode b_W_takeOut 36 = .ok (.iconst 1, 1) ∧ 36 + 1 = 37 := ⟨by decide +kernel, rfl⟩
theorem d_W_takeOut_37 : decode b_W_takeOut 37 = .ok (.if_icmp .ne 16, 3) ∧ 37 + 3 = 40 ∧ ((37 : Nat) : Int) + 16 = ((53 : Nat) : Int) := ⟨by decide +kernel, rfl, by decide⟩
theorem d_W_takeOut_40 : decode b_W_takeOut 40 = .ok (.iload_n 1, 1) ∧ 40 + 1 = 41 := ⟨by decide +kernel, rfl⟩
theorem d_W_takeOut_41 : decode b_W_takeOut 41 = .ok (.aload_n 0, 1) ∧ 41 + 1 = 42 := ⟨by decide +kernel, rfl⟩
theorem d_W_takeOut_42 : decode b_W_takeOut 42 = .ok (.getfield 15, 3) ∧ 42 + 3 = 45 := ⟨by decide +kernel, rfl⟩
theorem d_W_takeOut_45 : decode b_W_takeOut 45 = .ok (.if_icmp .ge 8, 3) ∧ 45 + 3 = 48 ∧ ((45 : Nat) : Int) + 8 = ((53 : Nat) : Int) := ⟨by decide +kernel, rfl, by decide⟩
theorem d_W_takeOut_48 : decode b_W_takeOut 48 = .ok (.aload_n 0, 1) ∧ 48 + 1 = 49 := ⟨by decide +kernel, rfl⟩
theorem d_W_takeOut_49 : decode b_W_takeOut 49 = .ok (.iload_n 1, 1) ∧ 49 + 1 = 50 := ⟨by decide +kernel, rfl⟩
theorem d_W_takeOut_50 : decode b_W_takeOut 50 = .ok (.putfield 15, 3) ∧ 50 + 3 = 53 := ⟨by decide +kernel, rfl⟩
theorem d_W_takeOut_53 : decode b_W_takeOut 53 = .ok (.return_, 1) := by decide +kernel
theorem d_J_fill_0 : decode b_J_fill 0 = .ok (.iconst 0, 1) ∧ 0 + 1 = 1 := ⟨by decide +kernel, rfl⟩
theorem d_J_fill_1 : decode b_J_fill 1 = .ok (.istore_n 2, 1) ∧ 1 + 1 = 2 := ⟨by decide +kernel, rfl⟩
theorem d_J_fill_2 : decode b_J_fill 2 = .ok (.aload_n 0, 1) ∧ 2 + 1 = 3 := ⟨by decide +kernel, rfl⟩
theorem d_J_fill_3 : decode b_J_fill 3 = .ok (.arraylength, 1) ∧ 3 + 1 = 4 := ⟨by decide +kernel, rfl⟩
theorem d_J_fill_4 : decode b_J_fill 4 = .ok (.istore_n 3, 1) ∧ 4 + 1 = 5 := ⟨by decide +kernel, rfl⟩
theorem d_J_fill_5 : decode b_J_fill 5 = .ok (.iload_n 2, 1) ∧ 5 + 1 = 6 := ⟨by decide +kernel, rfl⟩
theorem d_J_fill_6 : decode b_J_fill 6 = .ok (.iload_n 3, 1) ∧ 6 + 1 = 7 := ⟨by decide +kernel, rfl⟩
theorem d_J_fill_7 : decode b_J_fill 7 = .ok (.if_icmp .ge 13, 3) ∧ 7 + 3 = 10 ∧ ((7 : Nat) : Int) + 13 = ((20 : Nat) : Int) := ⟨by decide +kernel, rfl, by decide⟩
theorem d_J_fill_10 : decode b_J_fill 10 = .ok (.aload_n 0, 1) ∧ 10 + 1 = 11 := ⟨by decide +kernel, rfl⟩
theorem d_J_fill_11 : decode b_J_fill 11 = .ok (.iload_n 2, 1) ∧ 11 + 1 = 12 := ⟨by decide +kernel, rfl⟩
theorem d_J_fill_12 : decode b_J_fill 12 = .ok (.iload_n 1, 1) ∧ 12 + 1 = 13 := ⟨by decide +kernel, rfl⟩
theorem d_J_fill_13 : decode b_J_fill 13 = .ok (.iastore, 1) ∧ 13 + 1 = 14 := ⟨by decide +kernel, rfl⟩
theorem d_J_fill_14 : decode b_J_fill 14 = .ok (.iinc 2 1, 3) ∧ 14 + 3 = 17 := ⟨by decide +kernel, rfl⟩
theorem d_J_fill_17 : decode b_J_fill 17 = .ok (.goto (-12), 3) ∧ ((17 : Nat) : Int) + (-12) = ((5 : Nat) : Int) := ⟨by decide +kernel, by decide⟩
theorem d_J_fill_20 : decode b_J_fill 20 = .ok (.return_, 1) := by decide +kernel
end
section
theorem d_A_about_0 : decode b_A_about 0 = .ok (.iload_n 1, 1) ∧ 0 + 1 = 1 := ⟨by decide +kernel, rfl⟩
theorem d_A_about_1 : decode b_A_about 1 = .ok (.lookupswitch 37 #[(0, 27), (1, 32)], 27) := by decide +kernel
theorem d_A_about_28 : decode b_A_about 28 = .ok (.aload_n 0, 1) ∧ 28 + 1 = 29 := ⟨by decide +kernel, rfl⟩
theorem d_A_about_29 : decode b_A_about 29 = .ok (.getfield 42, 3) ∧ 29 + 3 = 32 := ⟨by decide +kernel, rfl⟩
theorem d_A_about_32 : decode b_A_about 32 = .ok (.ireturn, 1) := by decide +kernel
theorem d_A_about_33 : decode b_A_about 33 = .ok (.aload_n 0, 1) ∧ 33 + 1 = 34 := ⟨by decide +kernel, rfl⟩
theorem d_A_about_34 : decode b_A_about 34 = .ok (.getfield 45, 3) ∧ 34 + 3 = 37 := ⟨by decide +kernel, rfl⟩
theorem d_A_about_37 : decode b_A_about 37 = .ok (.ireturn, 1) := by decide +kernel
theorem d_A_about_38 : decode b_A_about 38 = .ok (.new 62, 3) ∧ 38 + 3 = 41 := ⟨by decide +kernel, rfl⟩
theorem d_A_about_41 : decode b_A_about 41 = .ok (.dup, 1) ∧ 41 + 1 = 42 := ⟨by decide +kernel, rfl⟩
theorem d_A_about_42 : decode b_A_about 42 = .ok (.ldc 172, 2) ∧ 42 + 2 = 44 := ⟨by decide +kernel, rfl⟩
theorem d_A_about_44 : decode b_A_about 44 = .ok (.invokespecial 66, 3) ∧ 44 + 3 = 47 := ⟨by decide +kernel, rfl⟩
theorem d_A_about_47 : decode b_A_about 47 = .ok (.athrow, 1) := by decide +kernel
theorem d_A_add_0 : decode b_A_add 0 = .ok (.aload_n 0, 1) ∧ 0 + 1 = 1 := ⟨by decide +kernel, rfl⟩
theorem d_A_add_1 : decode b_A_add 1 = .ok (.getfield 26, 3) ∧ 1 + 3 = 4 := ⟨by decide +kernel, rfl⟩
theorem d_A_add_4 : decode b_A_add 4 = .ok (.invokestatic 86, 3) ∧ 4 + 3 = 7 := ⟨by decide +kernel, rfl⟩
theorem d_A_add_7 : decode b_A_add 7 = .ok (.aload_n 0, 1) ∧ 7 + 1 = 8 := ⟨by decide +kernel, rfl⟩
theorem d_A_add_8 : decode b_A_add 8 = .ok (.getfield 16, 3) ∧ 8 + 3 = 11 := ⟨by decide +kernel, rfl⟩
theorem d_A_add_11 : decode b_A_add 11 = .ok (.aload_n 0, 1) ∧ 11 + 1 = 12 := ⟨by decide +kernel, rfl⟩
theorem d_A_add_12 : decode b_A_add 12 = .ok (.getfield 30, 3) ∧ 12 + 3 = 15 := ⟨by decide +kernel, rfl⟩
theorem d_A_add_15 : decode b_A_add 15 = .ok (.sipush 256, 3) ∧ 15 + 3 = 18 := ⟨by decide +kernel, rfl⟩
theorem d_A_add_18 : decode b_A_add 18 = .ok (.iload_n 1, 1) ∧ 18 + 1 = 19 := ⟨by decide +kernel, rfl⟩
theorem d_A_add_19 : decode b_A_add 19 = .ok (.invokestatic 187, 3) ∧ 19 + 3 = 22 := ⟨by decide +kernel, rfl⟩
theorem d_A_add_22 : decode b_A_add 22 = .ok (.iconst 0, 1) ∧ 22 + 1 = 23 := ⟨by decide +kernel, rfl⟩
theorem d_A_add_23 : decode b_A_add 23 = .ok (.istore_n 2, 1) ∧ 23 + 1 = 24 := ⟨by decide +kernel, rfl⟩
theorem d_A_add_24 : decode b_A_add 24 = .ok (.iconst 0, 1) ∧ 24 + 1 = 25 := ⟨by decide +kernel, rfl⟩
theorem d_A_add_25 : decode b_A_add 25 = .ok (.istore_n 3, 1) ∧ 25 + 1 = 26 := ⟨by decide +kernel, rfl⟩
theorem d_A_add_26 : decode b_A_add 26 = .ok (.iload_n 3, 1) ∧ 26 + 1 = 27 := ⟨by decide +kernel, rfl⟩
theorem d_A_add_27 : decode b_A_add 27 = .ok (.bipush 8, 2) ∧ 27 + 2 = 29 := ⟨by decide +kernel, rfl⟩
theorem d_A_add_29 : decode b_A_add 29 = .ok (.if_icmp .ge 45, 3) ∧ 29 + 3 = 32 ∧ ((29 : Nat) : Int) + 45 = ((74 : Nat) : Int) := ⟨by decide +kernel, rfl, by decide⟩
theorem d_A_add_32 : decode b_A_add 32 = .ok (.aload_n 0, 1) ∧ 32 + 1 = 33 := ⟨by decide +kernel, rfl⟩
theorem d_A_add_33 : decode b_A_add 33 = .ok (.getfield 22, 3) ∧ 33 + 3 = 36 := ⟨by decide +kernel, rfl⟩
theorem d_A_add_36 : decode b_A_add 36 = .ok (.iload_n 3, 1) ∧ 36 + 1 = 37 := ⟨by decide +kernel, rfl⟩
theorem d_A_add_37 : decode b_A_add 37 = .ok (.aaload, 1) ∧ 37 + 1 = 38 := ⟨by decide +kernel, rfl⟩
theorem d_A_add_38 : decode b_A_add 38 = .ok (.aload_n 0, 1) ∧ 38 + 1 = 39 := ⟨by decide +kernel, rfl⟩
theorem d_A_add_39 : decode b_A_add 39 = .ok (.getfield 33, 3) ∧ 39 + 3 = 42 := ⟨by decide +kernel, rfl⟩
theorem d_A_add_42 : decode b_A_add 42 = .ok (.iload_n 3, 1) ∧ 42 + 1 = 43 := ⟨by decide +kernel, rfl⟩
theorem d_A_add_43 : decode b_A_add 43 = .ok (.aaload, 1) ∧ 43 + 1 = 44 := ⟨by decide +kernel, rfl⟩
theorem d_A_add_44 : decode b_A_add 44 = .ok (.iload_n 1, 1) ∧ 44 + 1 = 45 := ⟨by decide +kernel, rfl⟩
theorem d_A_add_45 : decode b_A_add 45 = .ok (.invokevirtual 191, 3) ∧ 45 + 3 = 48 := ⟨by decide +kernel, rfl⟩
theorem d_A_add_48 : decode b_A_add 48 = .ok (.iload_n 2, 1) ∧ 48 + 1 = 49 := ⟨by decide +kernel, rfl⟩
theorem d_A_add_49 : decode b_A_add 49 = .ok (.aload_n 0, 1) ∧ 49 + 1 = 50 := ⟨by decide +kernel, rfl⟩
theorem d_A_add_50 : decode b_A_add 50 = .ok (.getfield 22, 3) ∧ 50 + 3 = 53 := ⟨by decide +kernel, rfl⟩
theorem d_A_add_53 : decode b_A_add 53 = .ok (.iload_n 3, 1) ∧ 53 + 1 = 54 := ⟨by decide +kernel, rfl⟩
theorem d_A_add_54 : decode b_A_add 54 = .ok (.aaload, 1) ∧ 54 + 1 = 55 := ⟨by decide +kernel, rfl⟩
theorem d_A_add_55 : decode b_A_add 55 = .ok (.getfield 129, 3) ∧ 55 + 3 = 58 := ⟨by decide +kernel, rfl⟩
theorem d_A_add_58 : decode b_A_add 58 = .ok (.ifCond .eq 7, 3) ∧ 58 + 3 = 61 ∧ ((58 : Nat) : Int) + 7 = ((65 : Nat) : Int) := ⟨by decide +kernel, rfl, by decide⟩
theorem d_A_add_61 : decode b_A_add 61 = .ok (.iconst 1, 1) ∧ 61 + 1 = 62 := ⟨by decide +kernel, rfl⟩
theorem d_A_add_62 : decode b_A_add 62 = .ok (.goto 4, 3) ∧ ((62 : Nat) : Int) + 4 = ((66 : Nat) : Int) := ⟨by decide +kernel, by decide⟩
theorem d_A_add_65 : decode b_A_add 65 = .ok (.iconst 0, 1) ∧ 65 + 1 = 66 := ⟨by decide +kernel, rfl⟩
theorem d_A_add_66 : decode b_A_add 66 = .ok (.iadd, 1) ∧ 66 + 1 = 67 := ⟨by decide +kernel, rfl⟩
theorem d_A_add_67 : decode b_A_add 67 = .ok (.istore_n 2, 1) ∧ 67 + 1 = 68 := ⟨by decide +kernel, rfl⟩
theorem d_A_add_68 : decode b_A_add 68 = .ok (.iinc 3 1, 3) ∧ 68 + 3 = 71 := ⟨by decide +kernel, rfl⟩
theorem d_A_add_71 : decode b_A_add 71 = .ok (.goto (-45), 3) ∧ ((71 : Nat) : Int) + (-45) = ((26 : Nat) : Int) := ⟨by decide +kernel, by decide⟩
theorem d_A_add_74 : decode b_A_add 74 = .ok (.iload_n 2, 1) ∧ 74 + 1 = 75 := ⟨by decide +kernel, rfl⟩
theorem d_A_add_75 : decode b_A_add 75 = .ok (.ireturn, 1) := by decide +kernel
theorem d_A_addEach_0 : decode b_A_addEach 0 = .ok (.iconst 0, 1) ∧ 0 + 1 = 1 := ⟨by decide +kernel, rfl⟩
theorem d_A_addEach_1 : decode b_A_addEach 1 = .ok (.istore 4, 2) ∧ 1 + 2 = 3 := ⟨by decide +kernel, rfl⟩
theorem d_A_addEach_3 : decode b_A_addEach 3 = .ok (.iload 4, 2) ∧ 3 + 2 = 5 := ⟨by decide +kernel, rfl⟩
theorem d_A_addEach_5 : decode b_A_addEach 5 = .ok (.iload_n 2, 1) ∧ 5 + 1 = 6 := ⟨by decide +kernel, rfl⟩
theorem d_A_addEach_6 : decode b_A_addEach 6 = .ok (.if_icmp .ge 32, 3) ∧ 6 + 3 = 9 ∧ ((6 : Nat) : Int) + 32 = ((38 : Nat) : Int) := ⟨by decide +kernel, rfl, by decide⟩
theorem d_A_addEach_9 : decode b_A_addEach 9 = .ok (.aload_n 0, 1) ∧ 9 + 1 = 10 := ⟨by decide +kernel, rfl⟩
theorem d_A_addEach_10 : decode b_A_addEach 10 = .ok (.iload 4, 2) ∧ 10 + 2 = 12 := ⟨by decide +kernel, rfl⟩
theorem d_A_addEach_12 : decode b_A_addEach 12 = .ok (.dup2, 1) ∧ 12 + 1 = 13 := ⟨by decide +kernel, rfl⟩
theorem d_A_addEach_13 : decode b_A_addEach 13 = .ok (.iaload, 1) ∧ 13 + 1 = 14 := ⟨by decide +kernel, rfl⟩
theorem d_A_addEach_14 : decode b_A_addEach 14 = .ok (.iload_n 3, 1) ∧ 14 + 1 = 15 := ⟨by decide +kernel, rfl⟩
theorem d_A_addEach_15 : decode b_A_addEach 15 = .ok (.ifCond .eq 10, 3) ∧ 15 + 3 = 18 ∧ ((15 : Nat) : Int) + 10 = ((25 : Nat) : Int) := ⟨by decide +kernel, rfl, by decide⟩
theorem d_A_addEach_18 : decode b_A_addEach 18 = .ok (.aload_n 1, 1) ∧ 18 + 1 = 19 := ⟨by decide +kernel, rfl⟩
theorem d_A_addEach_19 : decode b_A_addEach 19 = .ok (.iload 4, 2) ∧ 19 + 2 = 21 := ⟨by decide +kernel, rfl⟩
theorem d_A_addEach_21 : decode b_A_addEach 21 = .ok (.iaload, 1) ∧ 21 + 1 = 22 := ⟨by decide +kernel, rfl⟩
theorem d_A_addEach_22 : decode b_A_addEach 22 = .ok (.goto 8, 3) ∧ ((22 : Nat) : Int) + 8 = ((30 : Nat) : Int) := ⟨by decide +kernel, by decide⟩
theorem d_A_addEach_25 : decode b_A_addEach 25 = .ok (.aload_n 1, 1) ∧ 25 + 1 = 26 := ⟨by decide +kernel, rfl⟩
theorem d_A_addEach_26 : decode b_A_addEach 26 = .ok (.iload 4, 2) ∧ 26 + 2 = 28 := ⟨by decide +kernel, rfl⟩
theorem d_A_addEach_28 : decode b_A_addEach 28 = .ok (.iaload, 1) ∧ 28 + 1 = 29 := ⟨by decide +kernel, rfl⟩
theorem d_A_addEach_29 : decode b_A_addEach 29 = .ok (.ineg, 1) ∧ 29 + 1 = 30 := ⟨by decide +kernel, rfl⟩
theorem d_A_addEach_30 : decode b_A_addEach 30 = .ok (.iadd, 1) ∧ 30 + 1 = 31 := ⟨by decide +kernel, rfl⟩
theorem d_A_addEach_31 : decode b_A_addEach 31 = .ok (.iastore, 1) ∧ 31 + 1 = 32 := ⟨by decide +kernel, rfl⟩
theorem d_A_addEach_32 : decode b_A_addEach 32 = .ok (.iinc 4 1, 3) ∧ 32 + 3 = 35 := ⟨by decide +kernel, rfl⟩
theorem d_A_addEach_35 : decode b_A_addEach 35 = .ok (.goto (-32), 3) ∧ ((35 : Nat) : Int) + (-32) = ((3 : Nat) : Int) := ⟨by decide +kernel, by decide⟩
theorem d_A_addEach_38 : decode b_A_addEach 38 = .ok (.return_, 1) := by decide +kernel
theorem d_A_aimedOf_0 : decode b_A_aimedOf 0 = .ok (.iconst 0, 1) ∧ 0 + 1 = 1 := ⟨by decide +kernel, rfl⟩
theorem d_A_aimedOf_1 : decode b_A_aimedOf 1 = .ok (.istore_n 2, 1) ∧ 1 + 1 = 2 := ⟨by decide +kernel, rfl⟩
theorem d_A_aimedOf_2 : decode b_A_aimedOf 2 = .ok (.iconst 0, 1) ∧ 2 + 1 = 3 := ⟨by decide +kernel, rfl⟩
theorem d_A_aimedOf_3 : decode b_A_aimedOf 3 = .ok (.istore_n 3, 1) ∧ 3 + 1 = 4 := ⟨by decide +kernel, rfl⟩
theorem d_A_aimedOf_4 : decode b_A_aimedOf 4 = .ok (.iload_n 3, 1) ∧ 4 + 1 = 5 := ⟨by decide +kernel, rfl⟩
theorem d_A_aimedOf_5 : decode b_A_aimedOf 5 = .ok (.bipush 8, 2) ∧ 5 + 2 = 7 := ⟨by decide +kernel, rfl⟩
theorem d_A_aimedOf_7 : decode b_A_aimedOf 7 = .ok (.if_icmp .ge 35, 3) ∧ 7 + 3 = 10 ∧ ((7 : Nat) : Int) + 35 = ((42 : Nat) : Int) := ⟨by decide +kernel, rfl, by decide⟩
theorem d_A_aimedOf_10 : decode b_A_aimedOf 10 = .ok (.iload_n 1, 1) ∧ 10 + 1 = 11 := ⟨by decide +kernel, rfl⟩
theorem d_A_aimedOf_11 : decode b_A_aimedOf 11 = .ok (.iload_n 3, 1) ∧ 11 + 1 = 12 := ⟨by decide +kernel, rfl⟩
theorem d_A_aimedOf_12 : decode b_A_aimedOf 12 = .ok (.invokestatic 177, 3) ∧ 12 + 3 = 15 := ⟨by decide +kernel, rfl⟩
theorem d_A_aimedOf_15 : decode b_A_aimedOf 15 = .ok (.ifCond .eq 21, 3) ∧ 15 + 3 = 18 ∧ ((15 : Nat) : Int) + 21 = ((36 : Nat) : Int) := ⟨by decide +kernel, rfl, by decide⟩
theorem d_A_aimedOf_18 : decode b_A_aimedOf 18 = .ok (.aload_n 0, 1) ∧ 18 + 1 = 19 := ⟨by decide +kernel, rfl⟩
theorem d_A_aimedOf_19 : decode b_A_aimedOf 19 = .ok (.getfield 22, 3) ∧ 19 + 3 = 22 := ⟨by decide +kernel, rfl⟩
theorem d_A_aimedOf_22 : decode b_A_aimedOf 22 = .ok (.iload_n 3, 1) ∧ 22 + 1 = 23 := ⟨by decide +kernel, rfl⟩
theorem d_A_aimedOf_23 : decode b_A_aimedOf 23 = .ok (.aaload, 1) ∧ 23 + 1 = 24 := ⟨by decide +kernel, rfl⟩
theorem d_A_aimedOf_24 : decode b_A_aimedOf 24 = .ok (.getfield 117, 3) ∧ 24 + 3 = 27 := ⟨by decide +kernel, rfl⟩
theorem d_A_aimedOf_27 : decode b_A_aimedOf 27 = .ok (.ifCond .eq 9, 3) ∧ 27 + 3 = 30 ∧ ((27 : Nat) : Int) + 9 = ((36 : Nat) : Int) := ⟨by decide +kernel, rfl, by decide⟩
theorem d_A_aimedOf_30 : decode b_A_aimedOf 30 = .ok (.iload_n 2, 1) ∧ 30 + 1 = 31 := ⟨by decide +kernel, rfl⟩
theorem d_A_aimedOf_31 : decode b_A_aimedOf 31 = .ok (.iconst 1, 1) ∧ 31 + 1 = 32 := ⟨by decide +kernel, rfl⟩
theorem d_A_aimedOf_32 : decode b_A_aimedOf 32 = .ok (.iload_n 3, 1) ∧ 32 + 1 = 33 := ⟨by decide +kernel, rfl⟩
theorem d_A_aimedOf_33 : decode b_A_aimedOf 33 = .ok (.ishl, 1) ∧ 33 + 1 = 34 := ⟨by decide +kernel, rfl⟩
theorem d_A_aimedOf_34 : decode b_A_aimedOf 34 = .ok (.ior, 1) ∧ 34 + 1 = 35 := ⟨by decide +kernel, rfl⟩
theorem d_A_aimedOf_35 : decode b_A_aimedOf 35 = .ok (.istore_n 2, 1) ∧ 35 + 1 = 36 := ⟨by decide +kernel, rfl⟩
theorem d_A_aimedOf_36 : decode b_A_aimedOf 36 = .ok (.iinc 3 1, 3) ∧ 36 + 3 = 39 := ⟨by decide +kernel, rfl⟩
theorem d_A_aimedOf_39 : decode b_A_aimedOf 39 = .ok (.goto (-35), 3) ∧ ((39 : Nat) : Int) + (-35) = ((4 : Nat) : Int) := ⟨by decide +kernel, by decide⟩
theorem d_A_aimedOf_42 : decode b_A_aimedOf 42 = .ok (.iload_n 2, 1) ∧ 42 + 1 = 43 := ⟨by decide +kernel, rfl⟩
theorem d_A_aimedOf_43 : decode b_A_aimedOf 43 = .ok (.ireturn, 1) := by decide +kernel
theorem d_A_anotherHas_0 : decode b_A_anotherHas 0 = .ok (.iconst 0, 1) ∧ 0 + 1 = 1 := ⟨by decide +kernel, rfl⟩
theorem d_A_anotherHas_1 : decode b_A_anotherHas 1 = .ok (.istore 4, 2) ∧ 1 + 2 = 3 := ⟨by decide +kernel, rfl⟩
theorem d_A_anotherHas_3 : decode b_A_anotherHas 3 = .ok (.iload 4, 2) ∧ 3 + 2 = 5 := ⟨by decide +kernel, rfl⟩
theorem d_A_anotherHas_5 : decode b_A_anotherHas 5 = .ok (.bipush 8, 2) ∧ 5 + 2 = 7 := ⟨by decide +kernel, rfl⟩
theorem d_A_anotherHas_7 : decode b_A_anotherHas 7 = .ok (.if_icmp .ge 45, 3) ∧ 7 + 3 = 10 ∧ ((7 : Nat) : Int) + 45 = ((52 : Nat) : Int) := ⟨by decide +kernel, rfl, by decide⟩
theorem d_A_anotherHas_10 : decode b_A_anotherHas 10 = .ok (.iload 4, 2) ∧ 10 + 2 = 12 := ⟨by decide +kernel, rfl⟩
theorem d_A_anotherHas_12 : decode b_A_anotherHas 12 = .ok (.iload_n 1, 1) ∧ 12 + 1 = 13 := ⟨by decide +kernel, rfl⟩
theorem d_A_anotherHas_13 : decode b_A_anotherHas 13 = .ok (.if_icmp .eq 33, 3) ∧ 13 + 3 = 16 ∧ ((13 : Nat) : Int) + 33 = ((46 : Nat) : Int) := ⟨by decide +kernel, rfl, by decide⟩
theorem d_A_anotherHas_16 : decode b_A_anotherHas 16 = .ok (.aload_n 0, 1) ∧ 16 + 1 = 17 := ⟨by decide +kernel, rfl⟩
theorem d_A_anotherHas_17 : decode b_A_anotherHas 17 = .ok (.getfield 22, 3) ∧ 17 + 3 = 20 := ⟨by decide +kernel, rfl⟩
theorem d_A_anotherHas_20 : decode b_A_anotherHas 20 = .ok (.iload 4, 2) ∧ 20 + 2 = 22 := ⟨by decide +kernel, rfl⟩
theorem d_A_anotherHas_22 : decode b_A_anotherHas 22 = .ok (.aaload, 1) ∧ 22 + 1 = 23 := ⟨by decide +kernel, rfl⟩
theorem d_A_anotherHas_23 : decode b_A_anotherHas 23 = .ok (.getfield 117, 3) ∧ 23 + 3 = 26 := ⟨by decide +kernel, rfl⟩
theorem d_A_anotherHas_26 : decode b_A_anotherHas 26 = .ok (.ifCond .eq 20, 3) ∧ 26 + 3 = 29 ∧ ((26 : Nat) : Int) + 20 = ((46 : Nat) : Int) := ⟨by decide +kernel, rfl, by decide⟩
theorem d_A_anotherHas_29 : decode b_A_anotherHas 29 = .ok (.aload_n 0, 1) ∧ 29 + 1 = 30 := ⟨by decide +kernel, rfl⟩
theorem d_A_anotherHas_30 : decode b_A_anotherHas 30 = .ok (.getfield 22, 3) ∧ 30 + 3 = 33 := ⟨by decide +kernel, rfl⟩
theorem d_A_anotherHas_33 : decode b_A_anotherHas 33 = .ok (.iload 4, 2) ∧ 33 + 2 = 35 := ⟨by decide +kernel, rfl⟩
theorem d_A_anotherHas_35 : decode b_A_anotherHas 35 = .ok (.aaload, 1) ∧ 35 + 1 = 36 := ⟨by decide +kernel, rfl⟩
theorem d_A_anotherHas_36 : decode b_A_anotherHas 36 = .ok (.iload_n 2, 1) ∧ 36 + 1 = 37 := ⟨by decide +kernel, rfl⟩
theorem d_A_anotherHas_37 : decode b_A_anotherHas 37 = .ok (.iload_n 3, 1) ∧ 37 + 1 = 38 := ⟨by decide +kernel, rfl⟩
theorem d_A_anotherHas_38 : decode b_A_anotherHas 38 = .ok (.invokevirtual 208, 3) ∧ 38 + 3 = 41 := ⟨by decide +kernel, rfl⟩
theorem d_A_anotherHas_41 : decode b_A_anotherHas 41 = .ok (.ifCond .eq 5, 3) ∧ 41 + 3 = 44 ∧ ((41 : Nat) : Int) + 5 = ((46 : Nat) : Int) := ⟨by decide +kernel, rfl, by decide⟩
theorem d_A_anotherHas_44 : decode b_A_anotherHas 44 = .ok (.iconst 1, 1) ∧ 44 + 1 = 45 := ⟨by decide +kernel, rfl⟩
theorem d_A_anotherHas_45 : decode b_A_anotherHas 45 = .ok (.ireturn, 1) := by decide +kernel
theorem d_A_anotherHas_46 : decode b_A_anotherHas 46 = .ok (.iinc 4 1, 3) ∧ 46 + 3 = 49 := ⟨by decide +kernel, rfl⟩
theorem d_A_anotherHas_49 : decode b_A_anotherHas 49 = .ok (.goto (-46), 3) ∧ ((49 : Nat) : Int) + (-46) = ((3 : Nat) : Int) := ⟨by decide +kernel, by decide⟩
theorem d_A_anotherHas_52 : decode b_A_anotherHas 52 = .ok (.iconst 0, 1) ∧ 52 + 1 = 53 := ⟨by decide +kernel, rfl⟩
theorem d_A_anotherHas_53 : decode b_A_anotherHas 53 = .ok (.ireturn, 1) := by decide +kernel
theorem d_A_areEnough_0 : decode b_A_areEnough 0 = .ok (.iconst 0, 1) ∧ 0 + 1 = 1 := ⟨by decide +kernel, rfl⟩
theorem d_A_areEnough_1 : decode b_A_areEnough 1 = .ok (.istore_n 2, 1) ∧ 1 + 1 = 2 := ⟨by decide +kernel, rfl⟩
theorem d_A_areEnough_2 : decode b_A_areEnough 2 = .ok (.iconst 0, 1) ∧ 2 + 1 = 3 := ⟨by decide +kernel, rfl⟩
theorem d_A_areEnough_3 : decode b_A_areEnough 3 = .ok (.istore_n 3, 1) ∧ 3 + 1 = 4 := ⟨by decide +kernel, rfl⟩
theorem d_A_areEnough_4 : decode b_A_areEnough 4 = .ok (.iconst 0, 1) ∧ 4 + 1 = 5 := ⟨by decide +kernel, rfl⟩
theorem d_A_areEnough_5 : decode b_A_areEnough 5 = .ok (.istore 4, 2) ∧ 5 + 2 = 7 := ⟨by decide +kernel, rfl⟩
theorem d_A_areEnough_7 : decode b_A_areEnough 7 = .ok (.iload 4, 2) ∧ 7 + 2 = 9 := ⟨by decide +kernel, rfl⟩
theorem d_A_areEnough_9 : decode b_A_areEnough 9 = .ok (.bipush 8, 2) ∧ 9 + 2 = 11 := ⟨by decide +kernel, rfl⟩
theorem d_A_areEnough_11 : decode b_A_areEnough 11 = .ok (.if_icmp .ge 47, 3) ∧ 11 + 3 = 14 ∧ ((11 : Nat) : Int) + 47 = ((58 : Nat) : Int) := ⟨by decide +kernel, rfl, by decide⟩
theorem d_A_areEnough_14 : decode b_A_areEnough 14 = .ok (.iload_n 1, 1) ∧ 14 + 1 = 15 := ⟨by decide +kernel, rfl⟩
theorem d_A_areEnough_15 : decode b_A_areEnough 15 = .ok (.iload 4, 2) ∧ 15 + 2 = 17 := ⟨by decide +kernel, rfl⟩
theorem d_A_areEnough_17 : decode b_A_areEnough 17 = .ok (.invokestatic 177, 3) ∧ 17 + 3 = 20 := ⟨by decide +kernel, rfl⟩
theorem d_A_areEnough_20 : decode b_A_areEnough 20 = .ok (.ifCond .eq 32, 3) ∧ 20 + 3 = 23 ∧ ((20 : Nat) : Int) + 32 = ((52 : Nat) : Int) := ⟨by decide +kernel, rfl, by decide⟩
theorem d_A_areEnough_23 : decode b_A_areEnough 23 = .ok (.iload_n 2, 1) ∧ 23 + 1 = 24 := ⟨by decide +kernel, rfl⟩
theorem d_A_areEnough_24 : decode b_A_areEnough 24 = .ok (.aload_n 0, 1) ∧ 24 + 1 = 25 := ⟨by decide +kernel, rfl⟩
theorem d_A_areEnough_25 : decode b_A_areEnough 25 = .ok (.getfield 22, 3) ∧ 25 + 3 = 28 := ⟨by decide +kernel, rfl⟩
theorem d_A_areEnough_28 : decode b_A_areEnough 28 = .ok (.iload 4, 2) ∧ 28 + 2 = 30 := ⟨by decide +kernel, rfl⟩
theorem d_A_areEnough_30 : decode b_A_areEnough 30 = .ok (.aaload, 1) ∧ 30 + 1 = 31 := ⟨by decide +kernel, rfl⟩
theorem d_A_areEnough_31 : decode b_A_areEnough 31 = .ok (.getfield 120, 3) ∧ 31 + 3 = 34 := ⟨by decide +kernel, rfl⟩
theorem d_A_areEnough_34 : decode b_A_areEnough 34 = .ok (.invokestatic 211, 3) ∧ 34 + 3 = 37 := ⟨by decide +kernel, rfl⟩
theorem d_A_areEnough_37 : decode b_A_areEnough 37 = .ok (.iadd, 1) ∧ 37 + 1 = 38 := ⟨by decide +kernel, rfl⟩
theorem d_A_areEnough_38 : decode b_A_areEnough 38 = .ok (.istore_n 2, 1) ∧ 38 + 1 = 39 := ⟨by decide +kernel, rfl⟩
theorem d_A_areEnough_39 : decode b_A_areEnough 39 = .ok (.iload_n 3, 1) ∧ 39 + 1 = 40 := ⟨by decide +kernel, rfl⟩
theorem d_A_areEnough_40 : decode b_A_areEnough 40 = .ok (.aload_n 0, 1) ∧ 40 + 1 = 41 := ⟨by decide +kernel, rfl⟩
theorem d_A_areEnough_41 : decode b_A_areEnough 41 = .ok (.getfield 22, 3) ∧ 41 + 3 = 44 := ⟨by decide +kernel, rfl⟩
theorem d_A_areEnough_44 : decode b_A_areEnough 44 = .ok (.iload 4, 2) ∧ 44 + 2 = 46 := ⟨by decide +kernel, rfl⟩
theorem d_A_areEnough_46 : decode b_A_areEnough 46 = .ok (.aaload, 1) ∧ 46 + 1 = 47 := ⟨by decide +kernel, rfl⟩
theorem d_A_areEnough_47 : decode b_A_areEnough 47 = .ok (.getfield 123, 3) ∧ 47 + 3 = 50 := ⟨by decide +kernel, rfl⟩
theorem d_A_areEnough_50 : decode b_A_areEnough 50 = .ok (.iadd, 1) ∧ 50 + 1 = 51 := ⟨by decide +kernel, rfl⟩
theorem d_A_areEnough_51 : decode b_A_areEnough 51 = .ok (.istore_n 3, 1) ∧ 51 + 1 = 52 := ⟨by decide +kernel, rfl⟩
theorem d_A_areEnough_52 : decode b_A_areEnough 52 = .ok (.iinc 4 1, 3) ∧ 52 + 3 = 55 := ⟨by decide +kernel, rfl⟩
theorem d_A_areEnough_55 : decode b_A_areEnough 55 = .ok (.goto (-48), 3) ∧ ((55 : Nat) : Int) + (-48) = ((7 : Nat) : Int) := ⟨by decide +kernel, by decide⟩
theorem d_A_areEnough_58 : decode b_A_areEnough 58 = .ok (.iload_n 2, 1) ∧ 58 + 1 = 59 := ⟨by decide +kernel, rfl⟩
theorem d_A_areEnough_59 : decode b_A_areEnough 59 = .ok (.aload_n 0, 1) ∧ 59 + 1 = 60 := ⟨by decide +kernel, rfl⟩
theorem d_A_areEnough_60 : decode b_A_areEnough 60 = .ok (.getfield 9, 3) ∧ 60 + 3 = 63 := ⟨by decide +kernel, rfl⟩
theorem d_A_areEnough_63 : decode b_A_areEnough 63 = .ok (.if_icmp .ge 11, 3) ∧ 63 + 3 = 66 ∧ ((63 : Nat) : Int) + 11 = ((74 : Nat) : Int) := ⟨by decide +kernel, rfl, by decide⟩
theorem d_A_areEnough_66 : decode b_A_areEnough 66 = .ok (.iload_n 3, 1) ∧ 66 + 1 = 67 := ⟨by decide +kernel, rfl⟩
theorem d_A_areEnough_67 : decode b_A_areEnough 67 = .ok (.aload_n 0, 1) ∧ 67 + 1 = 68 := ⟨by decide +kernel, rfl⟩
theorem d_A_areEnough_68 : decode b_A_areEnough 68 = .ok (.getfield 13, 3) ∧ 68 + 3 = 71 := ⟨by decide +kernel, rfl⟩
theorem d_A_areEnough_71 : decode b_A_areEnough 71 = .ok (.if_icmp .lt 7, 3) ∧ 71 + 3 = 74 ∧ ((71 : Nat) : Int) + 7 = ((78 : Nat) : Int) := ⟨by decide +kernel, rfl, by decide⟩
theorem d_A_areEnough_74 : decode b_A_areEnough 74 = .ok (.iconst 1, 1) ∧ 74 + 1 = 75 := ⟨by decide +kernel, rfl⟩
theorem d_A_areEnough_75 : decode b_A_areEnough 75 = .ok (.goto 4, 3) ∧ ((75 : Nat) : Int) + 4 = ((79 : Nat) : Int) := ⟨by decide +kernel, by decide⟩
theorem d_A_areEnough_78 : decode b_A_areEnough 78 = .ok (.iconst 0, 1) ∧ 78 + 1 = 79 := ⟨by decide +kernel, rfl⟩
theorem d_A_areEnough_79 : decode b_A_areEnough 79 = .ok (.ireturn, 1) := by decide +kernel
theorem d_A_areOfOnePicture_0 : decode b_A_areOfOnePicture 0 = .ok (.aload_n 0, 1) ∧ 0 + 1 = 1 := ⟨by decide +kernel, rfl⟩
theorem d_A_areOfOnePicture_1 : decode b_A_areOfOnePicture 1 = .ok (.iload_n 1, 1) ∧ 1 + 1 = 2 := ⟨by decide +kernel, rfl⟩
theorem d_A_areOfOnePicture_2 : decode b_A_areOfOnePicture 2 = .ok (.invokevirtual 157, 3) ∧ 2 + 3 = 5 := ⟨by decide +kernel, rfl⟩
theorem d_A_areOfOnePicture_5 : decode b_A_areOfOnePicture 5 = .ok (.aload_n 0, 1) ∧ 5 + 1 = 6 := ⟨by decide +kernel, rfl⟩
theorem d_A_areOfOnePicture_6 : decode b_A_areOfOnePicture 6 = .ok (.getfield 9, 3) ∧ 6 + 3 = 9 := ⟨by decide +kernel, rfl⟩
theorem d_A_areOfOnePicture_9 : decode b_A_areOfOnePicture 9 = .ok (.aload_n 0, 1) ∧ 9 + 1 = 10 := ⟨by decide +kernel, rfl⟩
theorem d_A_areOfOnePicture_10 : decode b_A_areOfOnePicture 10 = .ok (.getfield 13, 3) ∧ 10 + 3 = 13 := ⟨by decide +kernel, rfl⟩
theorem d_A_areOfOnePicture_13 : decode b_A_areOfOnePicture 13 = .ok (.imul, 1) ∧ 13 + 1 = 14 := ⟨by decide +kernel, rfl⟩
theorem d_A_areOfOnePicture_14 : decode b_A_areOfOnePicture 14 = .ok (.if_icmp .ne 16, 3) ∧ 14 + 3 = 17 ∧ ((14 : Nat) : Int) + 16 = ((30 : Nat) : Int) := ⟨by decide +kernel, rfl, by decide⟩
theorem d_A_areOfOnePicture_17 : decode b_A_areOfOnePicture 17 = .ok (.aload_n 0, 1) ∧ 17 + 1 = 18 := ⟨by decide +kernel, rfl⟩
theorem d_A_areOfOnePicture_18 : decode b_A_areOfOnePicture 18 = .ok (.iload_n 1, 1) ∧ 18 + 1 = 19 := ⟨by decide +kernel, rfl⟩
theorem d_A_areOfOnePicture_19 : decode b_A_areOfOnePicture 19 = .ok (.invokevirtual 166, 3) ∧ 19 + 3 = 22 := ⟨by decide +kernel, rfl⟩
theorem d_A_areOfOnePicture_22 : decode b_A_areOfOnePicture 22 = .ok (.iconst (-1), 1) ∧ 22 + 1 = 23 := ⟨by decide +kernel, rfl⟩
theorem d_A_areOfOnePicture_23 : decode b_A_areOfOnePicture 23 = .ok (.if_icmp .ne 7, 3) ∧ 23 + 3 = 26 ∧ ((23 : Nat) : Int) + 7 = ((30 : Nat) : Int) := ⟨by decide +kernel, rfl, by decide⟩
theorem d_A_areOfOnePicture_26 : decode b_A_areOfOnePicture 26 = .ok (.iconst 1, 1) ∧ 26 + 1 = 27 := ⟨by decide +kernel, rfl⟩
theorem d_A_areOfOnePicture_27 : decode b_A_areOfOnePicture 27 = .ok (.goto 4, 3) ∧ ((27 : Nat) : Int) + 4 = ((31 : Nat) : Int) := ⟨by decide +kernel, by decide⟩
theorem d_A_areOfOnePicture_30 : decode b_A_areOfOnePicture 30 = .ok (.iconst 0, 1) ∧ 30 + 1 = 31 := ⟨by decide +kernel, rfl⟩
theorem d_A_areOfOnePicture_31 : decode b_A_areOfOnePicture 31 = .ok (.ireturn, 1) := by decide +kernel
theorem d_A_audit_0 : decode b_A_audit 0 = .ok (.aload_n 0, 1) ∧ 0 + 1 = 1 := ⟨by decide +kernel, rfl⟩
theorem d_A_audit_1 : decode b_A_audit 1 = .ok (.invokevirtual 153, 3) ∧ 1 + 3 = 4 := ⟨by decide +kernel, rfl⟩
theorem d_A_audit_4 : decode b_A_audit 4 = .ok (.istore_n 1, 1) ∧ 4 + 1 = 5 := ⟨by decide +kernel, rfl⟩
theorem d_A_audit_5 : decode b_A_audit 5 = .ok (.aload_n 0, 1) ∧ 5 + 1 = 6 := ⟨by decide +kernel, rfl⟩
theorem d_A_audit_6 : decode b_A_audit 6 = .ok (.iload_n 1, 1) ∧ 6 + 1 = 7 := ⟨by decide +kernel, rfl⟩
theorem d_A_audit_7 : decode b_A_audit 7 = .ok (.invokevirtual 174, 3) ∧ 7 + 3 = 10 := ⟨by decide +kernel, rfl⟩
theorem d_A_audit_10 : decode b_A_audit 10 = .ok (.ifCond .eq 5, 3) ∧ 10 + 3 = 13 ∧ ((10 : Nat) : Int) + 5 = ((15 : Nat) : Int) := ⟨by decide +kernel, rfl, by decide⟩
theorem d_A_audit_13 : decode b_A_audit 13 = .ok (.iconst (-1), 1) ∧ 13 + 1 = 14 := ⟨by decide +kernel, rfl⟩
theorem d_A_audit_14 : decode b_A_audit 14 = .ok (.ireturn, 1) := by decide +kernel
theorem d_A_audit_15 : decode b_A_audit 15 = .ok (.iconst 0, 1) ∧ 15 + 1 = 16 := ⟨by decide +kernel, rfl⟩
theorem d_A_audit_16 : decode b_A_audit 16 = .ok (.istore_n 2, 1) ∧ 16 + 1 = 17 := ⟨by decide +kernel, rfl⟩
theorem d_A_audit_17 : decode b_A_audit 17 = .ok (.iload_n 2, 1) ∧ 17 + 1 = 18 := ⟨by decide +kernel, rfl⟩
theorem d_A_audit_18 : decode b_A_audit 18 = .ok (.bipush 8, 2) ∧ 18 + 2 = 20 := ⟨by decide +kernel, rfl⟩
theorem d_A_audit_20 : decode b_A_audit 20 = .ok (.if_icmp .ge 33, 3) ∧ 20 + 3 = 23 ∧ ((20 : Nat) : Int) + 33 = ((53 : Nat) : Int) := ⟨by decide +kernel, rfl, by decide⟩
theorem d_A_audit_23 : decode b_A_audit 23 = .ok (.iload_n 1, 1) ∧ 23 + 1 = 24 := ⟨by decide +kernel, rfl⟩
theorem d_A_audit_24 : decode b_A_audit 24 = .ok (.iload_n 2, 1) ∧ 24 + 1 = 25 := ⟨by decide +kernel, rfl⟩
theorem d_A_audit_25 : decode b_A_audit 25 = .ok (.invokestatic 177, 3) ∧ 25 + 3 = 28 := ⟨by decide +kernel, rfl⟩
theorem d_A_audit_28 : decode b_A_audit 28 = .ok (.ifCond .eq 19, 3) ∧ 28 + 3 = 31 ∧ ((28 : Nat) : Int) + 19 = ((47 : Nat) : Int) := ⟨by decide +kernel, rfl, by decide⟩
theorem d_A_audit_31 : decode b_A_audit 31 = .ok (.aload_n 0, 1) ∧ 31 + 1 = 32 := ⟨by decide +kernel, rfl⟩
theorem d_A_audit_32 : decode b_A_audit 32 = .ok (.iload_n 1, 1) ∧ 32 + 1 = 33 := ⟨by decide +kernel, rfl⟩
theorem d_A_audit_33 : decode b_A_audit 33 = .ok (.iconst 1, 1) ∧ 33 + 1 = 34 := ⟨by decide +kernel, rfl⟩
theorem d_A_audit_34 : decode b_A_audit 34 = .ok (.iload_n 2, 1) ∧ 34 + 1 = 35 := ⟨by decide +kernel, rfl⟩
theorem d_A_audit_35 : decode b_A_audit 35 = .ok (.ishl, 1) ∧ 35 + 1 = 36 := ⟨by decide +kernel, rfl⟩
theorem d_A_audit_36 : decode b_A_audit 36 = .ok (.iconst (-1), 1) ∧ 36 + 1 = 37 := ⟨by decide +kernel, rfl⟩
theorem d_A_audit_37 : decode b_A_audit 37 = .ok (.ixor, 1) ∧ 37 + 1 = 38 := ⟨by decide +kernel, rfl⟩
theorem d_A_audit_38 : decode b_A_audit 38 = .ok (.iand, 1) ∧ 38 + 1 = 39 := ⟨by decide +kernel, rfl⟩
theorem d_A_audit_39 : decode b_A_audit 39 = .ok (.invokevirtual 174, 3) ∧ 39 + 3 = 42 := ⟨by decide +kernel, rfl⟩
theorem d_A_audit_42 : decode b_A_audit 42 = .ok (.ifCond .eq 5, 3) ∧ 42 + 3 = 45 ∧ ((42 : Nat) : Int) + 5 = ((47 : Nat) : Int) := ⟨by decide +kernel, rfl, by decide⟩
theorem d_A_audit_45 : decode b_A_audit 45 = .ok (.iload_n 2, 1) ∧ 45 + 1 = 46 := ⟨by decide +kernel, rfl⟩
theorem d_A_audit_46 : decode b_A_audit 46 = .ok (.ireturn, 1) := by decide +kernel
theorem d_A_audit_47 : decode b_A_audit 47 = .ok (.iinc 2 1, 3) ∧ 47 + 3 = 50 := ⟨by decide +kernel, rfl⟩
theorem d_A_audit_50 : decode b_A_audit 50 = .ok (.goto (-33), 3) ∧ ((50 : Nat) : Int) + (-33) = ((17 : Nat) : Int) := ⟨by decide +kernel, by decide⟩
theorem d_A_audit_53 : decode b_A_audit 53 = .ok (.bipush 99, 2) ∧ 53 + 2 = 55 := ⟨by decide +kernel, rfl⟩
theorem d_A_audit_55 : decode b_A_audit 55 = .ok (.ireturn, 1) := by decide +kernel
theorem d_A_bin_0 : decode b_A_bin 0 = .ok (.aload_n 0, 1) ∧ 0 + 1 = 1 := ⟨by decide +kernel, rfl⟩
theorem d_A_bin_1 : decode b_A_bin 1 = .ok (.iload_n 1, 1) ∧ 1 + 1 = 2 := ⟨by decide +kernel, rfl⟩
theorem d_A_bin_2 : decode b_A_bin 2 = .ok (.iload_n 2, 1) ∧ 2 + 1 = 3 := ⟨by decide +kernel, rfl⟩
theorem d_A_bin_3 : decode b_A_bin 3 = .ok (.invokevirtual 136, 3) ∧ 3 + 3 = 6 := ⟨by decide +kernel, rfl⟩
theorem d_A_bin_6 : decode b_A_bin 6 = .ok (.aload_n 0, 1) ∧ 6 + 1 = 7 := ⟨by decide +kernel, rfl⟩
theorem d_A_bin_7 : decode b_A_bin 7 = .ok (.getfield 22, 3) ∧ 7 + 3 = 10 := ⟨by decide +kernel, rfl⟩
theorem d_A_bin_10 : decode b_A_bin 10 = .ok (.iload_n 1, 1) ∧ 10 + 1 = 11 := ⟨by decide +kernel, rfl⟩
theorem d_A_bin_11 : decode b_A_bin 11 = .ok (.aaload, 1) ∧ 11 + 1 = 12 := ⟨by decide +kernel, rfl⟩
theorem d_A_bin_12 : decode b_A_bin 12 = .ok (.getfield 139, 3) ∧ 12 + 3 = 15 := ⟨by decide +kernel, rfl⟩
theorem d_A_bin_15 : decode b_A_bin 15 = .ok (.iload_n 2, 1) ∧ 15 + 1 = 16 := ⟨by decide +kernel, rfl⟩
theorem d_A_bin_16 : decode b_A_bin 16 = .ok (.iaload, 1) ∧ 16 + 1 = 17 := ⟨by decide +kernel, rfl⟩
theorem d_A_bin_17 : decode b_A_bin 17 = .ok (.ireturn, 1) := by decide +kernel
theorem d_A_cellAt_0 : decode b_A_cellAt 0 = .ok (.iload_n 1, 1) ∧ 0 + 1 = 1 := ⟨by decide +kernel, rfl⟩
theorem d_A_cellAt_1 : decode b_A_cellAt 1 = .ok (.bipush 16, 2) ∧ 1 + 2 = 3 := ⟨by decide +kernel, rfl⟩
theorem d_A_cellAt_3 : decode b_A_cellAt 3 = .ok (.imul, 1) ∧ 3 + 1 = 4 := ⟨by decide +kernel, rfl⟩
theorem d_A_cellAt_4 : decode b_A_cellAt 4 = .ok (.iload_n 0, 1) ∧ 4 + 1 = 5 := ⟨by decide +kernel, rfl⟩
theorem d_A_cellAt_5 : decode b_A_cellAt 5 = .ok (.iadd, 1) ∧ 5 + 1 = 6 := ⟨by decide +kernel, rfl⟩
theorem d_A_cellAt_6 : decode b_A_cellAt 6 = .ok (.ireturn, 1) := by decide +kernel
theorem d_A_direction_0 : decode b_A_direction 0 = .ok (.iload_n 1, 1) ∧ 0 + 1 = 1 := ⟨by decide +kernel, rfl⟩
theorem d_A_direction_1 : decode b_A_direction 1 = .ok (.invokestatic 95, 3) ∧ 1 + 3 = 4 := ⟨by decide +kernel, rfl⟩
theorem d_A_direction_4 : decode b_A_direction 4 = .ok (.iload_n 2, 1) ∧ 4 + 1 = 5 := ⟨by decide +kernel, rfl⟩
theorem d_A_direction_5 : decode b_A_direction 5 = .ok (.iload_n 3, 1) ∧ 5 + 1 = 6 := ⟨by decide +kernel, rfl⟩
theorem d_A_direction_6 : decode b_A_direction 6 = .ok (.invokestatic 99, 3) ∧ 6 + 3 = 9 := ⟨by decide +kernel, rfl⟩
theorem d_A_direction_9 : decode b_A_direction 9 = .ok (.ifCond .ne 13, 3) ∧ 9 + 3 = 12 ∧ ((9 : Nat) : Int) + 13 = ((22 : Nat) : Int) := ⟨by decide +kernel, rfl, by decide⟩
theorem d_A_direction_12 : decode b_A_direction 12 = .ok (.new 62, 3) ∧ 12 + 3 = 15 := ⟨by decide +kernel, rfl⟩
theorem d_A_direction_15 : decode b_A_direction 15 = .ok (.dup, 1) ∧ 15 + 1 = 16 := ⟨by decide +kernel, rfl⟩
theorem d_A_direction_16 : decode b_A_direction 16 = .ok (.ldc 103, 2) ∧ 16 + 2 = 18 := ⟨by decide +kernel, rfl⟩
theorem d_A_direction_18 : decode b_A_direction 18 = .ok (.invokespecial 66, 3) ∧ 18 + 3 = 21 := ⟨by decide +kernel, rfl⟩
theorem d_A_direction_21 : decode b_A_direction 21 = .ok (.athrow, 1) := by decide +kernel
theorem d_A_direction_22 : decode b_A_direction 22 = .ok (.iload_n 3, 1) ∧ 22 + 1 = 23 := ⟨by decide +kernel, rfl⟩
theorem d_A_direction_23 : decode b_A_direction 23 = .ok (.ifCond .lt 11, 3) ∧ 23 + 3 = 26 ∧ ((23 : Nat) : Int) + 11 = ((34 : Nat) : Int) := ⟨by decide +kernel, rfl, by decide⟩
theorem d_A_direction_26 : decode b_A_direction 26 = .ok (.iload_n 3, 1) ∧ 26 + 1 = 27 := ⟨by decide +kernel, rfl⟩
theorem d_A_direction_27 : decode b_A_direction 27 = .ok (.ifCond .ne 11, 3) ∧ 27 + 3 = 30 ∧ ((27 : Nat) : Int) + 11 = ((38 : Nat) : Int) := ⟨by decide +kernel, rfl, by decide⟩
theorem d_A_direction_30 : decode b_A_direction 30 = .ok (.iload_n 2, 1) ∧ 30 + 1 = 31 := ⟨by decide +kernel, rfl⟩
theorem d_A_direction_31 : decode b_A_direction 31 = .ok (.ifCond .ge 7, 3) ∧ 31 + 3 = 34 ∧ ((31 : Nat) : Int) + 7 = ((38 : Nat) : Int) := ⟨by decide +kernel, rfl, by decide⟩
theorem d_A_direction_34 : decode b_A_direction 34 = .ok (.iconst 1, 1) ∧ 34 + 1 = 35 := ⟨by decide +kernel, rfl⟩
theorem d_A_direction_35 : decode b_A_direction 35 = .ok (.goto 4, 3) ∧ ((35 : Nat) : Int) + 4 = ((39 : Nat) : Int) := ⟨by decide +kernel, by decide⟩
theorem d_A_direction_38 : decode b_A_direction 38 = .ok (.iconst 0, 1) ∧ 38 + 1 = 39 := ⟨by decide +kernel, rfl⟩
theorem d_A_direction_39 : decode b_A_direction 39 = .ok (.istore 4, 2) ∧ 39 + 2 = 41 := ⟨by decide +kernel, rfl⟩
theorem d_A_direction_41 : decode b_A_direction 41 = .ok (.iload 4, 2) ∧ 41 + 2 = 43 := ⟨by decide +kernel, rfl⟩
theorem d_A_direction_43 : decode b_A_direction 43 = .ok (.ifCond .eq 8, 3) ∧ 43 + 3 = 46 ∧ ((43 : Nat) : Int) + 8 = ((51 : Nat) : Int) := ⟨by decide +kernel, rfl, by decide⟩
theorem d_A_direction_46 : decode b_A_direction 46 = .ok (.iload_n 2, 1) ∧ 46 + 1 = 47 := ⟨by decide +kernel, rfl⟩
theorem d_A_direction_47 : decode b_A_direction 47 = .ok (.ineg, 1) ∧ 47 + 1 = 48 := ⟨by decide +kernel, rfl⟩
theorem d_A_direction_48 : decode b_A_direction 48 = .ok (.goto 4, 3) ∧ ((48 : Nat) : Int) + 4 = ((52 : Nat) : Int) := ⟨by decide +kernel, by decide⟩
theorem d_A_direction_51 : decode b_A_direction 51 = .ok (.iload_n 2, 1) ∧ 51 + 1 = 52 := ⟨by decide +kernel, rfl⟩
theorem d_A_direction_52 : decode b_A_direction 52 = .ok (.istore 5, 2) ∧ 52 + 2 = 54 := ⟨by decide +kernel, rfl⟩
theorem d_A_direction_54 : decode b_A_direction 54 = .ok (.iload 4, 2) ∧ 54 + 2 = 56 := ⟨by decide +kernel, rfl⟩
theorem d_A_direction_56 : decode b_A_direction 56 = .ok (.ifCond .eq 8, 3) ∧ 56 + 3 = 59 ∧ ((56 : Nat) : Int) + 8 = ((64 : Nat) : Int) := ⟨by decide +kernel, rfl, by decide⟩
theorem d_A_direction_59 : decode b_A_direction 59 = .ok (.iload_n 3, 1) ∧ 59 + 1 = 60 := ⟨by decide +kernel, rfl⟩
theorem d_A_direction_60 : decode b_A_direction 60 = .ok (.ineg, 1) ∧ 60 + 1 = 61 := ⟨by decide +kernel, rfl⟩
theorem d_A_direction_61 : decode b_A_direction 61 = .ok (.goto 4, 3) ∧ ((61 : Nat) : Int) + 4 = ((65 : Nat) : Int) := ⟨by decide +kernel, by decide⟩
theorem d_A_direction_64 : decode b_A_direction 64 = .ok (.iload_n 3, 1) ∧ 64 + 1 = 65 := ⟨by decide +kernel, rfl⟩
theorem d_A_direction_65 : decode b_A_direction 65 = .ok (.istore 6, 2) ∧ 65 + 2 = 67 := ⟨by decide +kernel, rfl⟩
theorem d_A_direction_67 : decode b_A_direction 67 = .ok (.aload_n 0, 1) ∧ 67 + 1 = 68 := ⟨by decide +kernel, rfl⟩
theorem d_A_direction_68 : decode b_A_direction 68 = .ok (.iload_n 1, 1) ∧ 68 + 1 = 69 := ⟨by decide +kernel, rfl⟩
theorem d_A_direction_69 : decode b_A_direction 69 = .ok (.iload 5, 2) ∧ 69 + 2 = 71 := ⟨by decide +kernel, rfl⟩
theorem d_A_direction_71 : decode b_A_direction 71 = .ok (.iload 6, 2) ∧ 71 + 2 = 73 := ⟨by decide +kernel, rfl⟩
theorem d_A_direction_73 : decode b_A_direction 73 = .ok (.invokevirtual 105, 3) ∧ 73 + 3 = 76 := ⟨by decide +kernel, rfl⟩
theorem d_A_direction_76 : decode b_A_direction 76 = .ok (.ifCond .eq 13, 3) ∧ 76 + 3 = 79 ∧ ((76 : Nat) : Int) + 13 = ((89 : Nat) : Int) := ⟨by decide +kernel, rfl, by decide⟩
theorem d_A_direction_79 : decode b_A_direction 79 = .ok (.new 62, 3) ∧ 79 + 3 = 82 := ⟨by decide +kernel, rfl⟩
theorem d_A_direction_82 : decode b_A_direction 82 = .ok (.dup, 1) ∧ 82 + 1 = 83 := ⟨by decide +kernel, rfl⟩
theorem d_A_direction_83 : decode b_A_direction 83 = .ok (.ldc 109, 2) ∧ 83 + 2 = 85 := ⟨by decide +kernel, rfl⟩
theorem d_A_direction_85 : decode b_A_direction 85 = .ok (.invokespecial 66, 3) ∧ 85 + 3 = 88 := ⟨by decide +kernel, rfl⟩
theorem d_A_direction_88 : decode b_A_direction 88 = .ok (.athrow, 1) := by decide +kernel
theorem d_A_direction_89 : decode b_A_direction 89 = .ok (.aload_n 0, 1) ∧ 89 + 1 = 90 := ⟨by decide +kernel, rfl⟩
theorem d_A_direction_90 : decode b_A_direction 90 = .ok (.getfield 22, 3) ∧ 90 + 3 = 93 := ⟨by decide +kernel, rfl⟩
theorem d_A_direction_93 : decode b_A_direction 93 = .ok (.iload_n 1, 1) ∧ 93 + 1 = 94 := ⟨by decide +kernel, rfl⟩
theorem d_A_direction_94 : decode b_A_direction 94 = .ok (.aaload, 1) ∧ 94 + 1 = 95 := ⟨by decide +kernel, rfl⟩
theorem d_A_direction_95 : decode b_A_direction 95 = .ok (.iload 5, 2) ∧ 95 + 2 = 97 := ⟨by decide +kernel, rfl⟩
theorem d_A_direction_97 : decode b_A_direction 97 = .ok (.iload 6, 2) ∧ 97 + 2 = 99 := ⟨by decide +kernel, rfl⟩
theorem d_A_direction_99 : decode b_A_direction 99 = .ok (.aload_n 0, 1) ∧ 99 + 1 = 100 := ⟨by decide +kernel, rfl⟩
theorem d_A_direction_100 : decode b_A_direction 100 = .ok (.getfield 9, 3) ∧ 100 + 3 = 103 := ⟨by decide +kernel, rfl⟩
theorem d_A_direction_103 : decode b_A_direction 103 = .ok (.aload_n 0, 1) ∧ 103 + 1 = 104 := ⟨by decide +kernel, rfl⟩
theorem d_A_direction_104 : decode b_A_direction 104 = .ok (.getfield 13, 3) ∧ 104 + 3 = 107 := ⟨by decide +kernel, rfl⟩
theorem d_A_direction_107 : decode b_A_direction 107 = .ok (.invokevirtual 111, 3) ∧ 107 + 3 = 110 := ⟨by decide +kernel, rfl⟩
theorem d_A_direction_110 : decode b_A_direction 110 = .ok (.return_, 1) := by decide +kernel
theorem d_A_drawGhost_0 : decode b_A_drawGhost 0 = .ok (.aload_n 0, 1) ∧ 0 + 1 = 1 := ⟨by decide +kernel, rfl⟩
theorem d_A_drawGhost_1 : decode b_A_drawGhost 1 = .ok (.getfield 57, 3) ∧ 1 + 3 = 4 := ⟨by decide +kernel, rfl⟩
theorem d_A_drawGhost_4 : decode b_A_drawGhost 4 = .ok (.iconst 0, 1) ∧ 4 + 1 = 5 := ⟨by decide +kernel, rfl⟩
theorem d_A_drawGhost_5 : decode b_A_drawGhost 5 = .ok (.invokestatic 69, 3) ∧ 5 + 3 = 8 := ⟨by decide +kernel, rfl⟩
theorem d_A_drawGhost_8 : decode b_A_drawGhost 8 = .ok (.iconst 0, 1) ∧ 8 + 1 = 9 := ⟨by decide +kernel, rfl⟩
theorem d_A_drawGhost_9 : decode b_A_drawGhost 9 = .ok (.istore_n 2, 1) ∧ 9 + 1 = 10 := ⟨by decide +kernel, rfl⟩
theorem d_A_drawGhost_10 : decode b_A_drawGhost 10 = .ok (.iconst 0, 1) ∧ 10 + 1 = 11 := ⟨by decide +kernel, rfl⟩
theorem d_A_drawGhost_11 : decode b_A_drawGhost 11 = .ok (.istore_n 3, 1) ∧ 11 + 1 = 12 := ⟨by decide +kernel, rfl⟩
theorem d_A_drawGhost_12 : decode b_A_drawGhost 12 = .ok (.iload_n 3, 1) ∧ 12 + 1 = 13 := ⟨by decide +kernel, rfl⟩
theorem d_A_drawGhost_13 : decode b_A_drawGhost 13 = .ok (.bipush 8, 2) ∧ 13 + 2 = 15 := ⟨by decide +kernel, rfl⟩
theorem d_A_drawGhost_15 : decode b_A_drawGhost 15 = .ok (.if_icmp .ge 34, 3) ∧ 15 + 3 = 18 ∧ ((15 : Nat) : Int) + 34 = ((49 : Nat) : Int) := ⟨by decide +kernel, rfl, by decide⟩
theorem d_A_drawGhost_18 : decode b_A_drawGhost 18 = .ok (.iload_n 1, 1) ∧ 18 + 1 = 19 := ⟨by decide +kernel, rfl⟩
theorem d_A_drawGhost_19 : decode b_A_drawGhost 19 = .ok (.iload_n 3, 1) ∧ 19 + 1 = 20 := ⟨by decide +kernel, rfl⟩
theorem d_A_drawGhost_20 : decode b_A_drawGhost 20 = .ok (.invokestatic 177, 3) ∧ 20 + 3 = 23 := ⟨by decide +kernel, rfl⟩
theorem d_A_drawGhost_23 : decode b_A_drawGhost 23 = .ok (.ifCond .eq 20, 3) ∧ 23 + 3 = 26 ∧ ((23 : Nat) : Int) + 20 = ((43 : Nat) : Int) := ⟨by decide +kernel, rfl, by decide⟩
theorem d_A_drawGhost_26 : decode b_A_drawGhost 26 = .ok (.iload_n 2, 1) ∧ 26 + 1 = 27 := ⟨by decide +kernel, rfl⟩
theorem d_A_drawGhost_27 : decode b_A_drawGhost 27 = .ok (.iconst 0, 1) ∧ 27 + 1 = 28 := ⟨by decide +kernel, rfl⟩
theorem d_A_drawGhost_28 : decode b_A_drawGhost 28 = .ok (.aload_n 0, 1) ∧ 28 + 1 = 29 := ⟨by decide +kernel, rfl⟩
theorem d_A_drawGhost_29 : decode b_A_drawGhost 29 = .ok (.getfield 22, 3) ∧ 29 + 3 = 32 := ⟨by decide +kernel, rfl⟩
theorem d_A_drawGhost_32 : decode b_A_drawGhost 32 = .ok (.iload_n 3, 1) ∧ 32 + 1 = 33 := ⟨by decide +kernel, rfl⟩
theorem d_A_drawGhost_33 : decode b_A_drawGhost 33 = .ok (.aaload, 1) ∧ 33 + 1 = 34 := ⟨by decide +kernel, rfl⟩
theorem d_A_drawGhost_34 : decode b_A_drawGhost 34 = .ok (.getfield 120, 3) ∧ 34 + 3 = 37 := ⟨by decide +kernel, rfl⟩
theorem d_A_drawGhost_37 : decode b_A_drawGhost 37 = .ok (.ineg, 1) ∧ 37 + 1 = 38 := ⟨by decide +kernel, rfl⟩
theorem d_A_drawGhost_38 : decode b_A_drawGhost 38 = .ok (.invokestatic 243, 3) ∧ 38 + 3 = 41 := ⟨by decide +kernel, rfl⟩
theorem d_A_drawGhost_41 : decode b_A_drawGhost 41 = .ok (.iadd, 1) ∧ 41 + 1 = 42 := ⟨by decide +kernel, rfl⟩
theorem d_A_drawGhost_42 : decode b_A_drawGhost 42 = .ok (.istore_n 2, 1) ∧ 42 + 1 = 43 := ⟨by decide +kernel, rfl⟩
theorem d_A_drawGhost_43 : decode b_A_drawGhost 43 = .ok (.iinc 3 1, 3) ∧ 43 + 3 = 46 := ⟨by decide +kernel, rfl⟩
theorem d_A_drawGhost_46 : decode b_A_drawGhost 46 = .ok (.goto (-34), 3) ∧ ((46 : Nat) : Int) + (-34) = ((12 : Nat) : Int) := ⟨by decide +kernel, by decide⟩
theorem d_A_drawGhost_49 : decode b_A_drawGhost 49 = .ok (.aload_n 0, 1) ∧ 49 + 1 = 50 := ⟨by decide +kernel, rfl⟩
theorem d_A_drawGhost_50 : decode b_A_drawGhost 50 = .ok (.getfield 57, 3) ∧ 50 + 3 = 53 := ⟨by decide +kernel, rfl⟩
theorem d_A_drawGhost_53 : decode b_A_drawGhost 53 = .ok (.iload_n 2, 1) ∧ 53 + 1 = 54 := ⟨by decide +kernel, rfl⟩
theorem d_A_drawGhost_54 : decode b_A_drawGhost 54 = .ok (.iconst 0, 1) ∧ 54 + 1 = 55 := ⟨by decide +kernel, rfl⟩
theorem d_A_drawGhost_55 : decode b_A_drawGhost 55 = .ok (.invokestatic 82, 3) ∧ 55 + 3 = 58 := ⟨by decide +kernel, rfl⟩
theorem d_A_drawGhost_58 : decode b_A_drawGhost 58 = .ok (.iconst 1, 1) ∧ 58 + 1 = 59 := ⟨by decide +kernel, rfl⟩
theorem d_A_drawGhost_59 : decode b_A_drawGhost 59 = .ok (.iastore, 1) ∧ 59 + 1 = 60 := ⟨by decide +kernel, rfl⟩
theorem d_A_drawGhost_60 : decode b_A_drawGhost 60 = .ok (.iconst 0, 1) ∧ 60 + 1 = 61 := ⟨by decide +kernel, rfl⟩
theorem d_A_drawGhost_61 : decode b_A_drawGhost 61 = .ok (.istore_n 3, 1) ∧ 61 + 1 = 62 := ⟨by decide +kernel, rfl⟩
theorem d_A_drawGhost_62 : decode b_A_drawGhost 62 = .ok (.iload_n 3, 1) ∧ 62 + 1 = 63 := ⟨by decide +kernel, rfl⟩
theorem d_A_drawGhost_63 : decode b_A_drawGhost 63 = .ok (.bipush 8, 2) ∧ 63 + 2 = 65 := ⟨by decide +kernel, rfl⟩
theorem d_A_drawGhost_65 : decode b_A_drawGhost 65 = .ok (.if_icmp .ge 39, 3) ∧ 65 + 3 = 68 ∧ ((65 : Nat) : Int) + 39 = ((104 : Nat) : Int) := ⟨by decide +kernel, rfl, by decide⟩
theorem d_A_drawGhost_68 : decode b_A_drawGhost 68 = .ok (.iload_n 1, 1) ∧ 68 + 1 = 69 := ⟨by decide +kernel, rfl⟩
theorem d_A_drawGhost_69 : decode b_A_drawGhost 69 = .ok (.iload_n 3, 1) ∧ 69 + 1 = 70 := ⟨by decide +kernel, rfl⟩
theorem d_A_drawGhost_70 : decode b_A_drawGhost 70 = .ok (.invokestatic 177, 3) ∧ 70 + 3 = 73 := ⟨by decide +kernel, rfl⟩
theorem d_A_drawGhost_73 : decode b_A_drawGhost 73 = .ok (.ifCond .eq 25, 3) ∧ 73 + 3 = 76 ∧ ((73 : Nat) : Int) + 25 = ((98 : Nat) : Int) := ⟨by decide +kernel, rfl, by decide⟩
theorem d_A_drawGhost_76 : decode b_A_drawGhost 76 = .ok (.aload_n 0, 1) ∧ 76 + 1 = 77 := ⟨by decide +kernel, rfl⟩
theorem d_A_drawGhost_77 : decode b_A_drawGhost 77 = .ok (.aload_n 0, 1) ∧ 77 + 1 = 78 := ⟨by decide +kernel, rfl⟩
theorem d_A_drawGhost_78 : decode b_A_drawGhost 78 = .ok (.getfield 22, 3) ∧ 78 + 3 = 81 := ⟨by decide +kernel, rfl⟩
theorem d_A_drawGhost_81 : decode b_A_drawGhost 81 = .ok (.iload_n 3, 1) ∧ 81 + 1 = 82 := ⟨by decide +kernel, rfl⟩
theorem d_A_drawGhost_82 : decode b_A_drawGhost 82 = .ok (.aaload, 1) ∧ 82 + 1 = 83 := ⟨by decide +kernel, rfl⟩
theorem d_A_drawGhost_83 : decode b_A_drawGhost 83 = .ok (.getfield 120, 3) ∧ 83 + 3 = 86 := ⟨by decide +kernel, rfl⟩
theorem d_A_drawGhost_86 : decode b_A_drawGhost 86 = .ok (.aload_n 0, 1) ∧ 86 + 1 = 87 := ⟨by decide +kernel, rfl⟩
theorem d_A_drawGhost_87 : decode b_A_drawGhost 87 = .ok (.getfield 22, 3) ∧ 87 + 3 = 90 := ⟨by decide +kernel, rfl⟩
theorem d_A_drawGhost_90 : decode b_A_drawGhost 90 = .ok (.iload_n 3, 1) ∧ 90 + 1 = 91 := ⟨by decide +kernel, rfl⟩
theorem d_A_drawGhost_91 : decode b_A_drawGhost 91 = .ok (.aaload, 1) ∧ 91 + 1 = 92 := ⟨by decide +kernel, rfl⟩
theorem d_A_drawGhost_92 : decode b_A_drawGhost 92 = .ok (.getfield 123, 3) ∧ 92 + 3 = 95 := ⟨by decide +kernel, rfl⟩
theorem d_A_drawGhost_95 : decode b_A_drawGhost 95 = .ok (.invokevirtual 246, 3) ∧ 95 + 3 = 98 := ⟨by decide +kernel, rfl⟩
theorem d_A_drawGhost_98 : decode b_A_drawGhost 98 = .ok (.iinc 3 1, 3) ∧ 98 + 3 = 101 := ⟨by decide +kernel, rfl⟩
theorem d_A_drawGhost_101 : decode b_A_drawGhost 101 = .ok (.goto (-39), 3) ∧ ((101 : Nat) : Int) + (-39) = ((62 : Nat) : Int) := ⟨by decide +kernel, by decide⟩
theorem d_A_drawGhost_104 : decode b_A_drawGhost 104 = .ok (.return_, 1) := by decide +kernel
theorem d_A_drop_0 : decode b_A_drop 0 = .ok (.iload_n 1, 1) ∧ 0 + 1 = 1 := ⟨by decide +kernel, rfl⟩
theorem d_A_drop_1 : decode b_A_drop 1 = .ok (.invokestatic 95, 3) ∧ 1 + 3 = 4 := ⟨by decide +kernel, rfl⟩
theorem d_A_drop_4 : decode b_A_drop 4 = .ok (.aload_n 0, 1) ∧ 4 + 1 = 5 := ⟨by decide +kernel, rfl⟩
theorem d_A_drop_5 : decode b_A_drop 5 = .ok (.getfield 22, 3) ∧ 5 + 3 = 8 := ⟨by decide +kernel, rfl⟩
theorem d_A_drop_8 : decode b_A_drop 8 = .ok (.iload_n 1, 1) ∧ 8 + 1 = 9 := ⟨by decide +kernel, rfl⟩
theorem d_A_drop_9 : decode b_A_drop 9 = .ok (.aaload, 1) ∧ 9 + 1 = 10 := ⟨by decide +kernel, rfl⟩
theorem d_A_drop_10 : decode b_A_drop 10 = .ok (.getfield 129, 3) ∧ 10 + 3 = 13 := ⟨by decide +kernel, rfl⟩
theorem d_A_drop_13 : decode b_A_drop 13 = .ok (.istore_n 2, 1) ∧ 13 + 1 = 14 := ⟨by decide +kernel, rfl⟩
theorem d_A_drop_14 : decode b_A_drop 14 = .ok (.aload_n 0, 1) ∧ 14 + 1 = 15 := ⟨by decide +kernel, rfl⟩
theorem d_A_drop_15 : decode b_A_drop 15 = .ok (.getfield 22, 3) ∧ 15 + 3 = 18 := ⟨by decide +kernel, rfl⟩
theorem d_A_drop_18 : decode b_A_drop 18 = .ok (.iload_n 1, 1) ∧ 18 + 1 = 19 := ⟨by decide +kernel, rfl⟩
theorem d_A_drop_19 : decode b_A_drop 19 = .ok (.aaload, 1) ∧ 19 + 1 = 20 := ⟨by decide +kernel, rfl⟩
theorem d_A_drop_20 : decode b_A_drop 20 = .ok (.iconst 0, 1) ∧ 20 + 1 = 21 := ⟨by decide +kernel, rfl⟩
theorem d_A_drop_21 : decode b_A_drop 21 = .ok (.putfield 129, 3) ∧ 21 + 3 = 24 := ⟨by decide +kernel, rfl⟩
theorem d_A_drop_24 : decode b_A_drop 24 = .ok (.iload_n 2, 1) ∧ 24 + 1 = 25 := ⟨by decide +kernel, rfl⟩
theorem d_A_drop_25 : decode b_A_drop 25 = .ok (.ireturn, 1) := by decide +kernel
theorem d_A_enough_0 : decode b_A_enough 0 = .ok (.iload_n 1, 1) ∧ 0 + 1 = 1 := ⟨by decide +kernel, rfl⟩
theorem d_A_enough_1 : decode b_A_enough 1 = .ok (.invokestatic 142, 3) ∧ 1 + 3 = 4 := ⟨by decide +kernel, rfl⟩
theorem d_A_enough_4 : decode b_A_enough 4 = .ok (.aload_n 0, 1) ∧ 4 + 1 = 5 := ⟨by decide +kernel, rfl⟩
theorem d_A_enough_5 : decode b_A_enough 5 = .ok (.aload_n 0, 1) ∧ 5 + 1 = 6 := ⟨by decide +kernel, rfl⟩
theorem d_A_enough_6 : decode b_A_enough 6 = .ok (.iload_n 1, 1) ∧ 6 + 1 = 7 := ⟨by decide +kernel, rfl⟩
theorem d_A_enough_7 : decode b_A_enough 7 = .ok (.invokevirtual 145, 3) ∧ 7 + 3 = 10 := ⟨by decide +kernel, rfl⟩
theorem d_A_enough_10 : decode b_A_enough 10 = .ok (.invokevirtual 149, 3) ∧ 10 + 3 = 13 := ⟨by decide +kernel, rfl⟩
theorem d_A_enough_13 : decode b_A_enough 13 = .ok (.ireturn, 1) := by decide +kernel
theorem d_A_filledShelves_0 : decode b_A_filledShelves 0 = .ok (.iconst 0, 1) ∧ 0 + 1 = 1 := ⟨by decide +kernel, rfl⟩
theorem d_A_filledShelves_1 : decode b_A_filledShelves 1 = .ok (.istore_n 1, 1) ∧ 1 + 1 = 2 := ⟨by decide +kernel, rfl⟩
theorem d_A_filledShelves_2 : decode b_A_filledShelves 2 = .ok (.iconst 0, 1) ∧ 2 + 1 = 3 := ⟨by decide +kernel, rfl⟩
theorem d_A_filledShelves_3 : decode b_A_filledShelves 3 = .ok (.istore_n 2, 1) ∧ 3 + 1 = 4 := ⟨by decide +kernel, rfl⟩
theorem d_A_filledShelves_4 : decode b_A_filledShelves 4 = .ok (.iload_n 2, 1) ∧ 4 + 1 = 5 := ⟨by decide +kernel, rfl⟩
theorem d_A_filledShelves_5 : decode b_A_filledShelves 5 = .ok (.bipush 8, 2) ∧ 5 + 2 = 7 := ⟨by decide +kernel, rfl⟩
theorem d_A_filledShelves_7 : decode b_A_filledShelves 7 = .ok (.if_icmp .ge 27, 3) ∧ 7 + 3 = 10 ∧ ((7 : Nat) : Int) + 27 = ((34 : Nat) : Int) := ⟨by decide +kernel, rfl, by decide⟩
theorem d_A_filledShelves_10 : decode b_A_filledShelves 10 = .ok (.aload_n 0, 1) ∧ 10 + 1 = 11 := ⟨by decide +kernel, rfl⟩
theorem d_A_filledShelves_11 : decode b_A_filledShelves 11 = .ok (.getfield 22, 3) ∧ 11 + 3 = 14 := ⟨by decide +kernel, rfl⟩
theorem d_A_filledShelves_14 : decode b_A_filledShelves 14 = .ok (.iload_n 2, 1) ∧ 14 + 1 = 15 := ⟨by decide +kernel, rfl⟩
theorem d_A_filledShelves_15 : decode b_A_filledShelves 15 = .ok (.aaload, 1) ∧ 15 + 1 = 16 := ⟨by decide +kernel, rfl⟩
theorem d_A_filledShelves_16 : decode b_A_filledShelves 16 = .ok (.getfield 129, 3) ∧ 16 + 3 = 19 := ⟨by decide +kernel, rfl⟩
theorem d_A_filledShelves_19 : decode b_A_filledShelves 19 = .ok (.ifCond .eq 9, 3) ∧ 19 + 3 = 22 ∧ ((19 : Nat) : Int) + 9 = ((28 : Nat) : Int) := ⟨by decide +kernel, rfl, by decide⟩
theorem d_A_filledShelves_22 : decode b_A_filledShelves 22 = .ok (.iload_n 1, 1) ∧ 22 + 1 = 23 := ⟨by decide +kernel, rfl⟩
theorem d_A_filledShelves_23 : decode b_A_filledShelves 23 = .ok (.iconst 1, 1) ∧ 23 + 1 = 24 := ⟨by decide +kernel, rfl⟩
theorem d_A_filledShelves_24 : decode b_A_filledShelves 24 = .ok (.iload_n 2, 1) ∧ 24 + 1 = 25 := ⟨by decide +kernel, rfl⟩
theorem d_A_filledShelves_25 : decode b_A_filledShelves 25 = .ok (.ishl, 1) ∧ 25 + 1 = 26 := ⟨by decide +kernel, rfl⟩
theorem d_A_filledShelves_26 : decode b_A_filledShelves 26 = .ok (.ior, 1) ∧ 26 + 1 = 27 := ⟨by decide +kernel, rfl⟩
theorem d_A_filledShelves_27 : decode b_A_filledShelves 27 = .ok (.istore_n 1, 1) ∧ 27 + 1 = 28 := ⟨by decide +kernel, rfl⟩
theorem d_A_filledShelves_28 : decode b_A_filledShelves 28 = .ok (.iinc 2 1, 3) ∧ 28 + 3 = 31 := ⟨by decide +kernel, rfl⟩
theorem d_A_filledShelves_31 : decode b_A_filledShelves 31 = .ok (.goto (-27), 3) ∧ ((31 : Nat) : Int) + (-27) = ((4 : Nat) : Int) := ⟨by decide +kernel, by decide⟩
theorem d_A_filledShelves_34 : decode b_A_filledShelves 34 = .ok (.iload_n 1, 1) ∧ 34 + 1 = 35 := ⟨by decide +kernel, rfl⟩
theorem d_A_filledShelves_35 : decode b_A_filledShelves 35 = .ok (.ireturn, 1) := by decide +kernel
theorem d_A_ghost_0 : decode b_A_ghost 0 = .ok (.iload_n 1, 1) ∧ 0 + 1 = 1 := ⟨by decide +kernel, rfl⟩
theorem d_A_ghost_1 : decode b_A_ghost 1 = .ok (.invokestatic 142, 3) ∧ 1 + 3 = 4 := ⟨by decide +kernel, rfl⟩
theorem d_A_ghost_4 : decode b_A_ghost 4 = .ok (.aload_n 0, 1) ∧ 4 + 1 = 5 := ⟨by decide +kernel, rfl⟩
theorem d_A_ghost_5 : decode b_A_ghost 5 = .ok (.iload_n 2, 1) ∧ 5 + 1 = 6 := ⟨by decide +kernel, rfl⟩
theorem d_A_ghost_6 : decode b_A_ghost 6 = .ok (.iload_n 3, 1) ∧ 6 + 1 = 7 := ⟨by decide +kernel, rfl⟩
theorem d_A_ghost_7 : decode b_A_ghost 7 = .ok (.invokevirtual 78, 3) ∧ 7 + 3 = 10 := ⟨by decide +kernel, rfl⟩
theorem d_A_ghost_10 : decode b_A_ghost 10 = .ok (.aload_n 0, 1) ∧ 10 + 1 = 11 := ⟨by decide +kernel, rfl⟩
theorem d_A_ghost_11 : decode b_A_ghost 11 = .ok (.iload_n 1, 1) ∧ 11 + 1 = 12 := ⟨by decide +kernel, rfl⟩
theorem d_A_ghost_12 : decode b_A_ghost 12 = .ok (.invokevirtual 145, 3) ∧ 12 + 3 = 15 := ⟨by decide +kernel, rfl⟩
theorem d_A_ghost_15 : decode b_A_ghost 15 = .ok (.istore 4, 2) ∧ 15 + 2 = 17 := ⟨by decide +kernel, rfl⟩
theorem d_A_ghost_17 : decode b_A_ghost 17 = .ok (.aload_n 0, 1) ∧ 17 + 1 = 18 := ⟨by decide +kernel, rfl⟩
theorem d_A_ghost_18 : decode b_A_ghost 18 = .ok (.iload 4, 2) ∧ 18 + 2 = 20 := ⟨by decide +kernel, rfl⟩
theorem d_A_ghost_20 : decode b_A_ghost 20 = .ok (.invokevirtual 149, 3) ∧ 20 + 3 = 23 := ⟨by decide +kernel, rfl⟩
theorem d_A_ghost_23 : decode b_A_ghost 23 = .ok (.ifCond .ne 7, 3) ∧ 23 + 3 = 26 ∧ ((23 : Nat) : Int) + 7 = ((30 : Nat) : Int) := ⟨by decide +kernel, rfl, by decide⟩
theorem d_A_ghost_26 : decode b_A_ghost 26 = .ok (.iconst 1, 1) ∧ 26 + 1 = 27 := ⟨by decide +kernel, rfl⟩
theorem d_A_ghost_27 : decode b_A_ghost 27 = .ok (.goto 4, 3) ∧ ((27 : Nat) : Int) + 4 = ((31 : Nat) : Int) := ⟨by decide +kernel, by decide⟩
theorem d_A_ghost_30 : decode b_A_ghost 30 = .ok (.iconst 0, 1) ∧ 30 + 1 = 31 := ⟨by decide +kernel, rfl⟩
theorem d_A_ghost_31 : decode b_A_ghost 31 = .ok (.invokestatic 86, 3) ∧ 31 + 3 = 34 := ⟨by decide +kernel, rfl⟩
theorem d_A_ghost_34 : decode b_A_ghost 34 = .ok (.aload_n 0, 1) ∧ 34 + 1 = 35 := ⟨by decide +kernel, rfl⟩
theorem d_A_ghost_35 : decode b_A_ghost 35 = .ok (.iload 4, 2) ∧ 35 + 2 = 37 := ⟨by decide +kernel, rfl⟩
theorem d_A_ghost_37 : decode b_A_ghost 37 = .ok (.invokevirtual 180, 3) ∧ 37 + 3 = 40 := ⟨by decide +kernel, rfl⟩
theorem d_A_ghost_40 : decode b_A_ghost 40 = .ok (.aload_n 0, 1) ∧ 40 + 1 = 41 := ⟨by decide +kernel, rfl⟩
theorem d_A_ghost_41 : decode b_A_ghost 41 = .ok (.getfield 57, 3) ∧ 41 + 3 = 44 := ⟨by decide +kernel, rfl⟩
theorem d_A_ghost_44 : decode b_A_ghost 44 = .ok (.iload_n 2, 1) ∧ 44 + 1 = 45 := ⟨by decide +kernel, rfl⟩
theorem d_A_ghost_45 : decode b_A_ghost 45 = .ok (.iload_n 3, 1) ∧ 45 + 1 = 46 := ⟨by decide +kernel, rfl⟩
theorem d_A_ghost_46 : decode b_A_ghost 46 = .ok (.invokestatic 82, 3) ∧ 46 + 3 = 49 := ⟨by decide +kernel, rfl⟩
theorem d_A_ghost_49 : decode b_A_ghost 49 = .ok (.iaload, 1) ∧ 49 + 1 = 50 := ⟨by decide +kernel, rfl⟩
theorem d_A_ghost_50 : decode b_A_ghost 50 = .ok (.ireturn, 1) := by decide +kernel
theorem d_A_init_0 : decode b_A_init 0 = .ok (.aload_n 0, 1) ∧ 0 + 1 = 1 := ⟨by decide +kernel, rfl⟩
theorem d_A_init_1 : decode b_A_init 1 = .ok (.invokespecial 3, 3) ∧ 1 + 3 = 4 := ⟨by decide +kernel, rfl⟩
theorem d_A_init_4 : decode b_A_init 4 = .ok (.aload_n 0, 1) ∧ 4 + 1 = 5 := ⟨by decide +kernel, rfl⟩
theorem d_A_init_5 : decode b_A_init 5 = .ok (.iconst 1, 1) ∧ 5 + 1 = 6 := ⟨by decide +kernel, rfl⟩
theorem d_A_init_6 : decode b_A_init 6 = .ok (.putfield 9, 3) ∧ 6 + 3 = 9 := ⟨by decide +kernel, rfl⟩
theorem d_A_init_9 : decode b_A_init 9 = .ok (.aload_n 0, 1) ∧ 9 + 1 = 10 := ⟨by decide +kernel, rfl⟩
theorem d_A_init_10 : decode b_A_init 10 = .ok (.iconst 1, 1) ∧ 10 + 1 = 11 := ⟨by decide +kernel, rfl⟩
theorem d_A_init_11 : decode b_A_init 11 = .ok (.putfield 13, 3) ∧ 11 + 3 = 14 := ⟨by decide +kernel, rfl⟩
theorem d_A_init_14 : decode b_A_init 14 = .ok (.aload_n 0, 1) ∧ 14 + 1 = 15 := ⟨by decide +kernel, rfl⟩
theorem d_A_init_15 : decode b_A_init 15 = .ok (.sipush 256, 3) ∧ 15 + 3 = 18 := ⟨by decide +kernel, rfl⟩
theorem d_A_init_18 : decode b_A_init 18 = .ok (.newarray .int, 2) ∧ 18 + 2 = 20 := ⟨by decide +kernel, rfl⟩
theorem d_A_init_20 : decode b_A_init 20 = .ok (.putfield 16, 3) ∧ 20 + 3 = 23 := ⟨by decide +kernel, rfl⟩
theorem d_A_init_23 : decode b_A_init 23 = .ok (.aload_n 0, 1) ∧ 23 + 1 = 24 := ⟨by decide +kernel, rfl⟩
theorem d_A_init_24 : decode b_A_init 24 = .ok (.bipush 8, 2) ∧ 24 + 2 = 26 := ⟨by decide +kernel, rfl⟩
theorem d_A_init_26 : decode b_A_init 26 = .ok (.anewarray 20, 3) ∧ 26 + 3 = 29 := ⟨by decide +kernel, rfl⟩
theorem d_A_init_29 : decode b_A_init 29 = .ok (.putfield 22, 3) ∧ 29 + 3 = 32 := ⟨by decide +kernel, rfl⟩
theorem d_A_init_32 : decode b_A_init 32 = .ok (.aload_n 0, 1) ∧ 32 + 1 = 33 := ⟨by decide +kernel, rfl⟩
theorem d_A_init_33 : decode b_A_init 33 = .ok (.iconst 0, 1) ∧ 33 + 1 = 34 := ⟨by decide +kernel, rfl⟩
theorem d_A_init_34 : decode b_A_init 34 = .ok (.putfield 26, 3) ∧ 34 + 3 = 37 := ⟨by decide +kernel, rfl⟩
theorem d_A_init_37 : decode b_A_init 37 = .ok (.aload_n 0, 1) ∧ 37 + 1 = 38 := ⟨by decide +kernel, rfl⟩
theorem d_A_init_38 : decode b_A_init 38 = .ok (.sipush 256, 3) ∧ 38 + 3 = 41 := ⟨by decide +kernel, rfl⟩
theorem d_A_init_41 : decode b_A_init 41 = .ok (.newarray .int, 2) ∧ 41 + 2 = 43 := ⟨by decide +kernel, rfl⟩
theorem d_A_init_43 : decode b_A_init 43 = .ok (.putfield 30, 3) ∧ 43 + 3 = 46 := ⟨by decide +kernel, rfl⟩
theorem d_A_init_46 : decode b_A_init 46 = .ok (.aload_n 0, 1) ∧ 46 + 1 = 47 := ⟨by decide +kernel, rfl⟩
theorem d_A_init_47 : decode b_A_init 47 = .ok (.bipush 8, 2) ∧ 47 + 2 = 49 := ⟨by decide +kernel, rfl⟩
theorem d_A_init_49 : decode b_A_init 49 = .ok (.anewarray 20, 3) ∧ 49 + 3 = 52 := ⟨by decide +kernel, rfl⟩
theorem d_A_init_52 : decode b_A_init 52 = .ok (.putfield 33, 3) ∧ 52 + 3 = 55 := ⟨by decide +kernel, rfl⟩
theorem d_A_init_55 : decode b_A_init 55 = .ok (.aload_n 0, 1) ∧ 55 + 1 = 56 := ⟨by decide +kernel, rfl⟩
theorem d_A_init_56 : decode b_A_init 56 = .ok (.iconst 0, 1) ∧ 56 + 1 = 57 := ⟨by decide +kernel, rfl⟩
theorem d_A_init_57 : decode b_A_init 57 = .ok (.putfield 36, 3) ∧ 57 + 3 = 60 := ⟨by decide +kernel, rfl⟩
theorem d_A_init_60 : decode b_A_init 60 = .ok (.aload_n 0, 1) ∧ 60 + 1 = 61 := ⟨by decide +kernel, rfl⟩
theorem d_A_init_61 : decode b_A_init 61 = .ok (.sipush 256, 3) ∧ 61 + 3 = 64 := ⟨by decide +kernel, rfl⟩
theorem d_A_init_64 : decode b_A_init 64 = .ok (.newarray .int, 2) ∧ 64 + 2 = 66 := ⟨by decide +kernel, rfl⟩
theorem d_A_init_66 : decode b_A_init 66 = .ok (.putfield 39, 3) ∧ 66 + 3 = 69 := ⟨by decide +kernel, rfl⟩
theorem d_A_init_69 : decode b_A_init 69 = .ok (.aload_n 0, 1) ∧ 69 + 1 = 70 := ⟨by decide +kernel, rfl⟩
theorem d_A_init_70 : decode b_A_init 70 = .ok (.iconst 0, 1) ∧ 70 + 1 = 71 := ⟨by decide +kernel, rfl⟩
theorem d_A_init_71 : decode b_A_init 71 = .ok (.putfield 42, 3) ∧ 71 + 3 = 74 := ⟨by decide +kernel, rfl⟩
theorem d_A_init_74 : decode b_A_init 74 = .ok (.aload_n 0, 1) ∧ 74 + 1 = 75 := ⟨by decide +kernel, rfl⟩
theorem d_A_init_75 : decode b_A_init 75 = .ok (.iconst (-1), 1) ∧ 75 + 1 = 76 := ⟨by decide +kernel, rfl⟩
theorem d_A_init_76 : decode b_A_init 76 = .ok (.putfield 45, 3) ∧ 76 + 3 = 79 := ⟨by decide +kernel, rfl⟩
theorem d_A_init_79 : decode b_A_init 79 = .ok (.aload_n 0, 1) ∧ 79 + 1 = 80 := ⟨by decide +kernel, rfl⟩
theorem d_A_init_80 : decode b_A_init 80 = .ok (.sipush 256, 3) ∧ 80 + 3 = 83 := ⟨by decide +kernel, rfl⟩
theorem d_A_init_83 : decode b_A_init 83 = .ok (.newarray .int, 2) ∧ 83 + 2 = 85 := ⟨by decide +kernel, rfl⟩
theorem d_A_init_85 : decode b_A_init 85 = .ok (.putfield 48, 3) ∧ 85 + 3 = 88 := ⟨by decide +kernel, rfl⟩
theorem d_A_init_88 : decode b_A_init 88 = .ok (.aload_n 0, 1) ∧ 88 + 1 = 89 := ⟨by decide +kernel, rfl⟩
theorem d_A_init_89 : decode b_A_init 89 = .ok (.bipush 8, 2) ∧ 89 + 2 = 91 := ⟨by decide +kernel, rfl⟩
theorem d_A_init_91 : decode b_A_init 91 = .ok (.anewarray 51, 3) ∧ 91 + 3 = 94 := ⟨by decide +kernel, rfl⟩
theorem d_A_init_94 : decode b_A_init 94 = .ok (.putfield 53, 3) ∧ 94 + 3 = 97 := ⟨by decide +kernel, rfl⟩
theorem d_A_init_97 : decode b_A_init 97 = .ok (.aload_n 0, 1) ∧ 97 + 1 = 98 := ⟨by decide +kernel, rfl⟩
theorem d_A_init_98 : decode b_A_init 98 = .ok (.sipush 256, 3) ∧ 98 + 3 = 101 := ⟨by decide +kernel, rfl⟩
theorem d_A_init_101 : decode b_A_init 101 = .ok (.newarray .int, 2) ∧ 101 + 2 = 103 := ⟨by decide +kernel, rfl⟩
theorem d_A_init_103 : decode b_A_init 103 = .ok (.putfield 57, 3) ∧ 103 + 3 = 106 := ⟨by decide +kernel, rfl⟩
theorem d_A_init_106 : decode b_A_init 106 = .ok (.iconst 0, 1) ∧ 106 + 1 = 107 := ⟨by decide +kernel, rfl⟩
theorem d_A_init_107 : decode b_A_init 107 = .ok (.istore_n 1, 1) ∧ 107 + 1 = 108 := ⟨by decide +kernel, rfl⟩
theorem d_A_init_108 : decode b_A_init 108 = .ok (.iload_n 1, 1) ∧ 108 + 1 = 109 := ⟨by decide +kernel, rfl⟩
theorem d_A_init_109 : decode b_A_init 109 = .ok (.bipush 8, 2) ∧ 109 + 2 = 111 := ⟨by decide +kernel, rfl⟩
theorem d_A_init_111 : decode b_A_init 111 = .ok (.if_icmp .ge 48, 3) ∧ 111 + 3 = 114 ∧ ((111 : Nat) : Int) + 48 = ((159 : Nat) : Int) := ⟨by decide +kernel, rfl, by decide⟩
theorem d_A_init_114 : decode b_A_init 114 = .ok (.aload_n 0, 1) ∧ 114 + 1 = 115 := ⟨by decide +kernel, rfl⟩
theorem d_A_init_115 : decode b_A_init 115 = .ok (.getfield 22, 3) ∧ 115 + 3 = 118 := ⟨by decide +kernel, rfl⟩
theorem d_A_init_118 : decode b_A_init 118 = .ok (.iload_n 1, 1) ∧ 118 + 1 = 119 := ⟨by decide +kernel, rfl⟩
theorem d_A_init_119 : decode b_A_init 119 = .ok (.new 20, 3) ∧ 119 + 3 = 122 := ⟨by decide +kernel, rfl⟩
theorem d_A_init_122 : decode b_A_init 122 = .ok (.dup, 1) ∧ 122 + 1 = 123 := ⟨by decide +kernel, rfl⟩
theorem d_A_init_123 : decode b_A_init 123 = .ok (.invokespecial 60, 3) ∧ 123 + 3 = 126 := ⟨by decide +kernel, rfl⟩
theorem d_A_init_126 : decode b_A_init 126 = .ok (.aastore, 1) ∧ 126 + 1 = 127 := ⟨by decide +kernel, rfl⟩
theorem d_A_init_127 : decode b_A_init 127 = .ok (.aload_n 0, 1) ∧ 127 + 1 = 128 := ⟨by decide +kernel, rfl⟩
theorem d_A_init_128 : decode b_A_init 128 = .ok (.getfield 33, 3) ∧ 128 + 3 = 131 := ⟨by decide +kernel, rfl⟩
theorem d_A_init_131 : decode b_A_init 131 = .ok (.iload_n 1, 1) ∧ 131 + 1 = 132 := ⟨by decide +kernel, rfl⟩
theorem d_A_init_132 : decode b_A_init 132 = .ok (.new 20, 3) ∧ 132 + 3 = 135 := ⟨by decide +kernel, rfl⟩
theorem d_A_init_135 : decode b_A_init 135 = .ok (.dup, 1) ∧ 135 + 1 = 136 := ⟨by decide +kernel, rfl⟩
theorem d_A_init_136 : decode b_A_init 136 = .ok (.invokespecial 60, 3) ∧ 136 + 3 = 139 := ⟨by decide +kernel, rfl⟩
theorem d_A_init_139 : decode b_A_init 139 = .ok (.aastore, 1) ∧ 139 + 1 = 140 := ⟨by decide +kernel, rfl⟩
theorem d_A_init_140 : decode b_A_init 140 = .ok (.aload_n 0, 1) ∧ 140 + 1 = 141 := ⟨by decide +kernel, rfl⟩
theorem d_A_init_141 : decode b_A_init 141 = .ok (.getfield 53, 3) ∧ 141 + 3 = 144 := ⟨by decide +kernel, rfl⟩
theorem d_A_init_144 : decode b_A_init 144 = .ok (.iload_n 1, 1) ∧ 144 + 1 = 145 := ⟨by decide +kernel, rfl⟩
theorem d_A_init_145 : decode b_A_init 145 = .ok (.new 51, 3) ∧ 145 + 3 = 148 := ⟨by decide +kernel, rfl⟩
theorem d_A_init_148 : decode b_A_init 148 = .ok (.dup, 1) ∧ 148 + 1 = 149 := ⟨by decide +kernel, rfl⟩
theorem d_A_init_149 : decode b_A_init 149 = .ok (.invokespecial 61, 3) ∧ 149 + 3 = 152 := ⟨by decide +kernel, rfl⟩
theorem d_A_init_152 : decode b_A_init 152 = .ok (.aastore, 1) ∧ 152 + 1 = 153 := ⟨by decide +kernel, rfl⟩
theorem d_A_init_153 : decode b_A_init 153 = .ok (.iinc 1 1, 3) ∧ 153 + 3 = 156 := ⟨by decide +kernel, rfl⟩
theorem d_A_init_156 : decode b_A_init 156 = .ok (.goto (-48), 3) ∧ ((156 : Nat) : Int) + (-48) = ((108 : Nat) : Int) := ⟨by decide +kernel, by decide⟩
theorem d_A_init_159 : decode b_A_init 159 = .ok (.return_, 1) := by decide +kernel
theorem d_A_isDirection_0 : decode b_A_isDirection 0 = .ok (.iload_n 0, 1) ∧ 0 + 1 = 1 := ⟨by decide +kernel, rfl⟩
theorem d_A_isDirection_1 : decode b_A_isDirection 1 = .ok (.bipush (-16), 2) ∧ 1 + 2 = 3 := ⟨by decide +kernel, rfl⟩
theorem d_A_isDirection_3 : decode b_A_isDirection 3 = .ok (.if_icmp .lt 21, 3) ∧ 3 + 3 = 6 ∧ ((3 : Nat) : Int) + 21 = ((24 : Nat) : Int) := ⟨by decide +kernel, rfl, by decide⟩
theorem d_A_isDirection_6 : decode b_A_isDirection 6 = .ok (.iload_n 0, 1) ∧ 6 + 1 = 7 := ⟨by decide +kernel, rfl⟩
theorem d_A_isDirection_7 : decode b_A_isDirection 7 = .ok (.bipush 16, 2) ∧ 7 + 2 = 9 := ⟨by decide +kernel, rfl⟩
theorem d_A_isDirection_9 : decode b_A_isDirection 9 = .ok (.if_icmp .gt 15, 3) ∧ 9 + 3 = 12 ∧ ((9 : Nat) : Int) + 15 = ((24 : Nat) : Int) := ⟨by decide +kernel, rfl, by decide⟩
theorem d_A_isDirection_12 : decode b_A_isDirection 12 = .ok (.iload_n 1, 1) ∧ 12 + 1 = 13 := ⟨by decide +kernel, rfl⟩
theorem d_A_isDirection_13 : decode b_A_isDirection 13 = .ok (.bipush (-16), 2) ∧ 13 + 2 = 15 := ⟨by decide +kernel, rfl⟩
theorem d_A_isDirection_15 : decode b_A_isDirection 15 = .ok (.if_icmp .lt 9, 3) ∧ 15 + 3 = 18 ∧ ((15 : Nat) : Int) + 9 = ((24 : Nat) : Int) := ⟨by decide +kernel, rfl, by decide⟩
theorem d_A_isDirection_18 : decode b_A_isDirection 18 = .ok (.iload_n 1, 1) ∧ 18 + 1 = 19 := ⟨by decide +kernel, rfl⟩
theorem d_A_isDirection_19 : decode b_A_isDirection 19 = .ok (.bipush 16, 2) ∧ 19 + 2 = 21 := ⟨by decide +kernel, rfl⟩
theorem d_A_isDirection_21 : decode b_A_isDirection 21 = .ok (.if_icmp .le 5, 3) ∧ 21 + 3 = 24 ∧ ((21 : Nat) : Int) + 5 = ((26 : Nat) : Int) := ⟨by decide +kernel, rfl, by decide⟩
theorem d_A_isDirection_24 : decode b_A_isDirection 24 = .ok (.iconst 0, 1) ∧ 24 + 1 = 25 := ⟨by decide +kernel, rfl⟩
theorem d_A_isDirection_25 : decode b_A_isDirection 25 = .ok (.ireturn, 1) := by decide +kernel
theorem d_A_isDirection_26 : decode b_A_isDirection 26 = .ok (.iconst 2, 1) ∧ 26 + 1 = 27 := ⟨by decide +kernel, rfl⟩
theorem d_A_isDirection_27 : decode b_A_isDirection 27 = .ok (.istore_n 2, 1) ∧ 27 + 1 = 28 := ⟨by decide +kernel, rfl⟩
theorem d_A_isDirection_28 : decode b_A_isDirection 28 = .ok (.iload_n 2, 1) ∧ 28 + 1 = 29 := ⟨by decide +kernel, rfl⟩
theorem d_A_isDirection_29 : decode b_A_isDirection 29 = .ok (.bipush 16, 2) ∧ 29 + 2 = 31 := ⟨by decide +kernel, rfl⟩
theorem d_A_isDirection_31 : decode b_A_isDirection 31 = .ok (.if_icmp .gt 23, 3) ∧ 31 + 3 = 34 ∧ ((31 : Nat) : Int) + 23 = ((54 : Nat) : Int) := ⟨by decide +kernel, rfl, by decide⟩
theorem d_A_isDirection_34 : decode b_A_isDirection 34 = .ok (.iload_n 0, 1) ∧ 34 + 1 = 35 := ⟨by decide +kernel, rfl⟩
theorem d_A_isDirection_35 : decode b_A_isDirection 35 = .ok (.iload_n 2, 1) ∧ 35 + 1 = 36 := ⟨by decide +kernel, rfl⟩
theorem d_A_isDirection_36 : decode b_A_isDirection 36 = .ok (.irem, 1) ∧ 36 + 1 = 37 := ⟨by decide +kernel, rfl⟩
theorem d_A_isDirection_37 : decode b_A_isDirection 37 = .ok (.ifCond .ne 11, 3) ∧ 37 + 3 = 40 ∧ ((37 : Nat) : Int) + 11 = ((48 : Nat) : Int) := ⟨by decide +kernel, rfl, by decide⟩
theorem d_A_isDirection_40 : decode b_A_isDirection 40 = .ok (.iload_n 1, 1) ∧ 40 + 1 = 41 := ⟨by decide +kernel, rfl⟩
theorem d_A_isDirection_41 : decode b_A_isDirection 41 = .ok (.iload_n 2, 1) ∧ 41 + 1 = 42 := ⟨by decide +kernel, rfl⟩
theorem d_A_isDirection_42 : decode b_A_isDirection 42 = .ok (.irem, 1) ∧ 42 + 1 = 43 := ⟨by decide +kernel, rfl⟩
theorem d_A_isDirection_43 : decode b_A_isDirection 43 = .ok (.ifCond .ne 5, 3) ∧ 43 + 3 = 46 ∧ ((43 : Nat) : Int) + 5 = ((48 : Nat) : Int) := ⟨by decide +kernel, rfl, by decide⟩
theorem d_A_isDirection_46 : decode b_A_isDirection 46 = .ok (.iconst 0, 1) ∧ 46 + 1 = 47 := ⟨by decide +kernel, rfl⟩
theorem d_A_isDirection_47 : decode b_A_isDirection 47 = .ok (.ireturn, 1) := by decide +kernel
theorem d_A_isDirection_48 : decode b_A_isDirection 48 = .ok (.iinc 2 1, 3) ∧ 48 + 3 = 51 := ⟨by decide +kernel, rfl⟩
theorem d_A_isDirection_51 : decode b_A_isDirection 51 = .ok (.goto (-23), 3) ∧ ((51 : Nat) : Int) + (-23) = ((28 : Nat) : Int) := ⟨by decide +kernel, by decide⟩
theorem d_A_isDirection_54 : decode b_A_isDirection 54 = .ok (.iconst 1, 1) ∧ 54 + 1 = 55 := ⟨by decide +kernel, rfl⟩
theorem d_A_isDirection_55 : decode b_A_isDirection 55 = .ok (.ireturn, 1) := by decide +kernel
theorem d_A_isIn_0 : decode b_A_isIn 0 = .ok (.iload_n 0, 1) ∧ 0 + 1 = 1 := ⟨by decide +kernel, rfl⟩
theorem d_A_isIn_1 : decode b_A_isIn 1 = .ok (.iload_n 1, 1) ∧ 1 + 1 = 2 := ⟨by decide +kernel, rfl⟩
theorem d_A_isIn_2 : decode b_A_isIn 2 = .ok (.ishr, 1) ∧ 2 + 1 = 3 := ⟨by decide +kernel, rfl⟩
theorem d_A_isIn_3 : decode b_A_isIn 3 = .ok (.iconst 1, 1) ∧ 3 + 1 = 4 := ⟨by decide +kernel, rfl⟩
theorem d_A_isIn_4 : decode b_A_isIn 4 = .ok (.iand, 1) ∧ 4 + 1 = 5 := ⟨by decide +kernel, rfl⟩
theorem d_A_isIn_5 : decode b_A_isIn 5 = .ok (.iconst 1, 1) ∧ 5 + 1 = 6 := ⟨by decide +kernel, rfl⟩
theorem d_A_isIn_6 : decode b_A_isIn 6 = .ok (.if_icmp .ne 7, 3) ∧ 6 + 3 = 9 ∧ ((6 : Nat) : Int) + 7 = ((13 : Nat) : Int) := ⟨by decide +kernel, rfl, by decide⟩
theorem d_A_isIn_9 : decode b_A_isIn 9 = .ok (.iconst 1, 1) ∧ 9 + 1 = 10 := ⟨by decide +kernel, rfl⟩
theorem d_A_isIn_10 : decode b_A_isIn 10 = .ok (.goto 4, 3) ∧ ((10 : Nat) : Int) + 4 = ((14 : Nat) : Int) := ⟨by decide +kernel, by decide⟩
theorem d_A_isIn_13 : decode b_A_isIn 13 = .ok (.iconst 0, 1) ∧ 13 + 1 = 14 := ⟨by decide +kernel, rfl⟩
theorem d_A_isIn_14 : decode b_A_isIn 14 = .ok (.ireturn, 1) := by decide +kernel
theorem d_A_keep_0 : decode b_A_keep 0 = .ok (.aload_n 0, 1) ∧ 0 + 1 = 1 := ⟨by decide +kernel, rfl⟩
theorem d_A_keep_1 : decode b_A_keep 1 = .ok (.getfield 16, 3) ∧ 1 + 3 = 4 := ⟨by decide +kernel, rfl⟩
theorem d_A_keep_4 : decode b_A_keep 4 = .ok (.iconst 0, 1) ∧ 4 + 1 = 5 := ⟨by decide +kernel, rfl⟩
theorem d_A_keep_5 : decode b_A_keep 5 = .ok (.aload_n 0, 1) ∧ 5 + 1 = 6 := ⟨by decide +kernel, rfl⟩
theorem d_A_keep_6 : decode b_A_keep 6 = .ok (.getfield 30, 3) ∧ 6 + 3 = 9 := ⟨by decide +kernel, rfl⟩
theorem d_A_keep_9 : decode b_A_keep 9 = .ok (.iconst 0, 1) ∧ 9 + 1 = 10 := ⟨by decide +kernel, rfl⟩
theorem d_A_keep_10 : decode b_A_keep 10 = .ok (.sipush 256, 3) ∧ 10 + 3 = 13 := ⟨by decide +kernel, rfl⟩
theorem d_A_keep_13 : decode b_A_keep 13 = .ok (.invokestatic 160, 3) ∧ 13 + 3 = 16 := ⟨by decide +kernel, rfl⟩
theorem d_A_keep_16 : decode b_A_keep 16 = .ok (.iconst 0, 1) ∧ 16 + 1 = 17 := ⟨by decide +kernel, rfl⟩
theorem d_A_keep_17 : decode b_A_keep 17 = .ok (.istore_n 1, 1) ∧ 17 + 1 = 18 := ⟨by decide +kernel, rfl⟩
theorem d_A_keep_18 : decode b_A_keep 18 = .ok (.iload_n 1, 1) ∧ 18 + 1 = 19 := ⟨by decide +kernel, rfl⟩
theorem d_A_keep_19 : decode b_A_keep 19 = .ok (.bipush 8, 2) ∧ 19 + 2 = 21 := ⟨by decide +kernel, rfl⟩
theorem d_A_keep_21 : decode b_A_keep 21 = .ok (.if_icmp .ge 24, 3) ∧ 21 + 3 = 24 ∧ ((21 : Nat) : Int) + 24 = ((45 : Nat) : Int) := ⟨by decide +kernel, rfl, by decide⟩
theorem d_A_keep_24 : decode b_A_keep 24 = .ok (.aload_n 0, 1) ∧ 24 + 1 = 25 := ⟨by decide +kernel, rfl⟩
theorem d_A_keep_25 : decode b_A_keep 25 = .ok (.getfield 33, 3) ∧ 25 + 3 = 28 := ⟨by decide +kernel, rfl⟩
theorem d_A_keep_28 : decode b_A_keep 28 = .ok (.iload_n 1, 1) ∧ 28 + 1 = 29 := ⟨by decide +kernel, rfl⟩
theorem d_A_keep_29 : decode b_A_keep 29 = .ok (.aaload, 1) ∧ 29 + 1 = 30 := ⟨by decide +kernel, rfl⟩
theorem d_A_keep_30 : decode b_A_keep 30 = .ok (.aload_n 0, 1) ∧ 30 + 1 = 31 := ⟨by decide +kernel, rfl⟩
theorem d_A_keep_31 : decode b_A_keep 31 = .ok (.getfield 22, 3) ∧ 31 + 3 = 34 := ⟨by decide +kernel, rfl⟩
theorem d_A_keep_34 : decode b_A_keep 34 = .ok (.iload_n 1, 1) ∧ 34 + 1 = 35 := ⟨by decide +kernel, rfl⟩
theorem d_A_keep_35 : decode b_A_keep 35 = .ok (.aaload, 1) ∧ 35 + 1 = 36 := ⟨by decide +kernel, rfl⟩
theorem d_A_keep_36 : decode b_A_keep 36 = .ok (.invokevirtual 183, 3) ∧ 36 + 3 = 39 := ⟨by decide +kernel, rfl⟩
theorem d_A_keep_39 : decode b_A_keep 39 = .ok (.iinc 1 1, 3) ∧ 39 + 3 = 42 := ⟨by decide +kernel, rfl⟩
theorem d_A_keep_42 : decode b_A_keep 42 = .ok (.goto (-24), 3) ∧ ((42 : Nat) : Int) + (-24) = ((18 : Nat) : Int) := ⟨by decide +kernel, by decide⟩
theorem d_A_keep_45 : decode b_A_keep 45 = .ok (.aload_n 0, 1) ∧ 45 + 1 = 46 := ⟨by decide +kernel, rfl⟩
theorem d_A_keep_46 : decode b_A_keep 46 = .ok (.iconst 1, 1) ∧ 46 + 1 = 47 := ⟨by decide +kernel, rfl⟩
theorem d_A_keep_47 : decode b_A_keep 47 = .ok (.putfield 26, 3) ∧ 47 + 3 = 50 := ⟨by decide +kernel, rfl⟩
theorem d_A_keep_50 : decode b_A_keep 50 = .ok (.return_, 1) := by decide +kernel
theorem d_A_look_0 : decode b_A_look 0 = .ok (.aload_n 0, 1) ∧ 0 + 1 = 1 := ⟨by decide +kernel, rfl⟩
theorem d_A_look_1 : decode b_A_look 1 = .ok (.iload_n 2, 1) ∧ 1 + 1 = 2 := ⟨by decide +kernel, rfl⟩
theorem d_A_look_2 : decode b_A_look 2 = .ok (.iload_n 3, 1) ∧ 2 + 1 = 3 := ⟨by decide +kernel, rfl⟩
theorem d_A_look_3 : decode b_A_look 3 = .ok (.invokevirtual 78, 3) ∧ 3 + 3 = 6 := ⟨by decide +kernel, rfl⟩
theorem d_A_look_6 : decode b_A_look 6 = .ok (.iload_n 2, 1) ∧ 6 + 1 = 7 := ⟨by decide +kernel, rfl⟩
theorem d_A_look_7 : decode b_A_look 7 = .ok (.iload_n 3, 1) ∧ 7 + 1 = 8 := ⟨by decide +kernel, rfl⟩
theorem d_A_look_8 : decode b_A_look 8 = .ok (.invokestatic 82, 3) ∧ 8 + 3 = 11 := ⟨by decide +kernel, rfl⟩
theorem d_A_look_11 : decode b_A_look 11 = .ok (.istore 4, 2) ∧ 11 + 2 = 13 := ⟨by decide +kernel, rfl⟩
theorem d_A_look_13 : decode b_A_look 13 = .ok (.iload_n 1, 1) ∧ 13 + 1 = 14 := ⟨by decide +kernel, rfl⟩
theorem d_A_look_14 : decode b_A_look 14 = .ok (.tableswitch 64 0 2 #[26, 34, 49], 26) := by decide +kernel
theorem d_A_look_40 : decode b_A_look 40 = .ok (.aload_n 0, 1) ∧ 40 + 1 = 41 := ⟨by decide +kernel, rfl⟩
theorem d_A_look_41 : decode b_A_look 41 = .ok (.getfield 16, 3) ∧ 41 + 3 = 44 := ⟨by decide +kernel, rfl⟩
theorem d_A_look_44 : decode b_A_look 44 = .ok (.iload 4, 2) ∧ 44 + 2 = 46 := ⟨by decide +kernel, rfl⟩
theorem d_A_look_46 : decode b_A_look 46 = .ok (.iaload, 1) ∧ 46 + 1 = 47 := ⟨by decide +kernel, rfl⟩
theorem d_A_look_47 : decode b_A_look 47 = .ok (.ireturn, 1) := by decide +kernel
theorem d_A_look_48 : decode b_A_look 48 = .ok (.aload_n 0, 1) ∧ 48 + 1 = 49 := ⟨by decide +kernel, rfl⟩
theorem d_A_look_49 : decode b_A_look 49 = .ok (.getfield 26, 3) ∧ 49 + 3 = 52 := ⟨by decide +kernel, rfl⟩
theorem d_A_look_52 : decode b_A_look 52 = .ok (.invokestatic 86, 3) ∧ 52 + 3 = 55 := ⟨by decide +kernel, rfl⟩
theorem d_A_look_55 : decode b_A_look 55 = .ok (.aload_n 0, 1) ∧ 55 + 1 = 56 := ⟨by decide +kernel, rfl⟩
theorem d_A_look_56 : decode b_A_look 56 = .ok (.getfield 30, 3) ∧ 56 + 3 = 59 := ⟨by decide +kernel, rfl⟩
theorem d_A_look_59 : decode b_A_look 59 = .ok (.iload 4, 2) ∧ 59 + 2 = 61 := ⟨by decide +kernel, rfl⟩
theorem d_A_look_61 : decode b_A_look 61 = .ok (.iaload, 1) ∧ 61 + 1 = 62 := ⟨by decide +kernel, rfl⟩
theorem d_A_look_62 : decode b_A_look 62 = .ok (.ireturn, 1) := by decide +kernel
theorem d_A_look_63 : decode b_A_look 63 = .ok (.aload_n 0, 1) ∧ 63 + 1 = 64 := ⟨by decide +kernel, rfl⟩
theorem d_A_look_64 : decode b_A_look 64 = .ok (.getfield 36, 3) ∧ 64 + 3 = 67 := ⟨by decide +kernel, rfl⟩
theorem d_A_look_67 : decode b_A_look 67 = .ok (.invokestatic 86, 3) ∧ 67 + 3 = 70 := ⟨by decide +kernel, rfl⟩
theorem d_A_look_70 : decode b_A_look 70 = .ok (.aload_n 0, 1) ∧ 70 + 1 = 71 := ⟨by decide +kernel, rfl⟩
theorem d_A_look_71 : decode b_A_look 71 = .ok (.getfield 39, 3) ∧ 71 + 3 = 74 := ⟨by decide +kernel, rfl⟩
theorem d_A_look_74 : decode b_A_look 74 = .ok (.iload 4, 2) ∧ 74 + 2 = 76 := ⟨by decide +kernel, rfl⟩
theorem d_A_look_76 : decode b_A_look 76 = .ok (.iaload, 1) ∧ 76 + 1 = 77 := ⟨by decide +kernel, rfl⟩
theorem d_A_look_77 : decode b_A_look 77 = .ok (.ireturn, 1) := by decide +kernel
theorem d_A_look_78 : decode b_A_look 78 = .ok (.new 90, 3) ∧ 78 + 3 = 81 := ⟨by decide +kernel, rfl⟩
theorem d_A_look_81 : decode b_A_look 81 = .ok (.dup, 1) ∧ 81 + 1 = 82 := ⟨by decide +kernel, rfl⟩
theorem d_A_look_82 : decode b_A_look 82 = .ok (.ldc 92, 2) ∧ 82 + 2 = 84 := ⟨by decide +kernel, rfl⟩
theorem d_A_look_84 : decode b_A_look 84 = .ok (.invokespecial 94, 3) ∧ 84 + 3 = 87 := ⟨by decide +kernel, rfl⟩
theorem d_A_look_87 : decode b_A_look 87 = .ok (.athrow, 1) := by decide +kernel
theorem d_A_lowestReadyShelf_0 : decode b_A_lowestReadyShelf 0 = .ok (.iconst 0, 1) ∧ 0 + 1 = 1 := ⟨by decide +kernel, rfl⟩
theorem d_A_lowestReadyShelf_1 : decode b_A_lowestReadyShelf 1 = .ok (.istore_n 2, 1) ∧ 1 + 1 = 2 := ⟨by decide +kernel, rfl⟩
theorem d_A_lowestReadyShelf_2 : decode b_A_lowestReadyShelf 2 = .ok (.iload_n 2, 1) ∧ 2 + 1 = 3 := ⟨by decide +kernel, rfl⟩
theorem d_A_lowestReadyShelf_3 : decode b_A_lowestReadyShelf 3 = .ok (.bipush 8, 2) ∧ 3 + 2 = 5 := ⟨by decide +kernel, rfl⟩
theorem d_A_lowestReadyShelf_5 : decode b_A_lowestReadyShelf 5 = .ok (.if_icmp .ge 31, 3) ∧ 5 + 3 = 8 ∧ ((5 : Nat) : Int) + 31 = ((36 : Nat) : Int) := ⟨by decide +kernel, rfl, by decide⟩
theorem d_A_lowestReadyShelf_8 : decode b_A_lowestReadyShelf 8 = .ok (.iload_n 1, 1) ∧ 8 + 1 = 9 := ⟨by decide +kernel, rfl⟩
theorem d_A_lowestReadyShelf_9 : decode b_A_lowestReadyShelf 9 = .ok (.iload_n 2, 1) ∧ 9 + 1 = 10 := ⟨by decide +kernel, rfl⟩
theorem d_A_lowestReadyShelf_10 : decode b_A_lowestReadyShelf 10 = .ok (.invokestatic 177, 3) ∧ 10 + 3 = 13 := ⟨by decide +kernel, rfl⟩
theorem d_A_lowestReadyShelf_13 : decode b_A_lowestReadyShelf 13 = .ok (.ifCond .eq 17, 3) ∧ 13 + 3 = 16 ∧ ((13 : Nat) : Int) + 17 = ((30 : Nat) : Int) := ⟨by decide +kernel, rfl, by decide⟩
theorem d_A_lowestReadyShelf_16 : decode b_A_lowestReadyShelf 16 = .ok (.aload_n 0, 1) ∧ 16 + 1 = 17 := ⟨by decide +kernel, rfl⟩
theorem d_A_lowestReadyShelf_17 : decode b_A_lowestReadyShelf 17 = .ok (.getfield 53, 3) ∧ 17 + 3 = 20 := ⟨by decide +kernel, rfl⟩
theorem d_A_lowestReadyShelf_20 : decode b_A_lowestReadyShelf 20 = .ok (.iload_n 2, 1) ∧ 20 + 1 = 21 := ⟨by decide +kernel, rfl⟩
theorem d_A_lowestReadyShelf_21 : decode b_A_lowestReadyShelf 21 = .ok (.aaload, 1) ∧ 21 + 1 = 22 := ⟨by decide +kernel, rfl⟩
theorem d_A_lowestReadyShelf_22 : decode b_A_lowestReadyShelf 22 = .ok (.invokevirtual 233, 3) ∧ 22 + 3 = 25 := ⟨by decide +kernel, rfl⟩
theorem d_A_lowestReadyShelf_25 : decode b_A_lowestReadyShelf 25 = .ok (.ifCond .eq 5, 3) ∧ 25 + 3 = 28 ∧ ((25 : Nat) : Int) + 5 = ((30 : Nat) : Int) := ⟨by decide +kernel, rfl, by decide⟩
theorem d_A_lowestReadyShelf_28 : decode b_A_lowestReadyShelf 28 = .ok (.iload_n 2, 1) ∧ 28 + 1 = 29 := ⟨by decide +kernel, rfl⟩
theorem d_A_lowestReadyShelf_29 : decode b_A_lowestReadyShelf 29 = .ok (.ireturn, 1) := by decide +kernel
theorem d_A_lowestReadyShelf_30 : decode b_A_lowestReadyShelf 30 = .ok (.iinc 2 1, 3) ∧ 30 + 3 = 33 := ⟨by decide +kernel, rfl⟩
theorem d_A_lowestReadyShelf_33 : decode b_A_lowestReadyShelf 33 = .ok (.goto (-31), 3) ∧ ((33 : Nat) : Int) + (-31) = ((2 : Nat) : Int) := ⟨by decide +kernel, by decide⟩
theorem d_A_lowestReadyShelf_36 : decode b_A_lowestReadyShelf 36 = .ok (.iconst (-1), 1) ∧ 36 + 1 = 37 := ⟨by decide +kernel, rfl⟩
end
section
theorem d_A_lowestReadyShelf_37 : decode b_A_lowestReadyShelf 37 = .ok (.ireturn, 1) := by decide +kernel
theorem d_A_lowestWrongShelf_0 : decode b_A_lowestWrongShelf 0 = .ok (.iconst 0, 1) ∧ 0 + 1 = 1 := ⟨by decide +kernel, rfl⟩
theorem d_A_lowestWrongShelf_1 : decode b_A_lowestWrongShelf 1 = .ok (.istore_n 2, 1) ∧ 1 + 1 = 2 := ⟨by decide +kernel, rfl⟩
theorem d_A_lowestWrongShelf_2 : decode b_A_lowestWrongShelf 2 = .ok (.iload_n 2, 1) ∧ 2 + 1 = 3 := ⟨by decide +kernel, rfl⟩
theorem d_A_lowestWrongShelf_3 : decode b_A_lowestWrongShelf 3 = .ok (.bipush 8, 2) ∧ 3 + 2 = 5 := ⟨by decide +kernel, rfl⟩
theorem d_A_lowestWrongShelf_5 : decode b_A_lowestWrongShelf 5 = .ok (.if_icmp .ge 32, 3) ∧ 5 + 3 = 8 ∧ ((5 : Nat) : Int) + 32 = ((37 : Nat) : Int) := ⟨by decide +kernel, rfl, by decide⟩
theorem d_A_lowestWrongShelf_8 : decode b_A_lowestWrongShelf 8 = .ok (.iload_n 1, 1) ∧ 8 + 1 = 9 := ⟨by decide +kernel, rfl⟩
theorem d_A_lowestWrongShelf_9 : decode b_A_lowestWrongShelf 9 = .ok (.iload_n 2, 1) ∧ 9 + 1 = 10 := ⟨by decide +kernel, rfl⟩
theorem d_A_lowestWrongShelf_10 : decode b_A_lowestWrongShelf 10 = .ok (.invokestatic 177, 3) ∧ 10 + 3 = 13 := ⟨by decide +kernel, rfl⟩
theorem d_A_lowestWrongShelf_13 : decode b_A_lowestWrongShelf 13 = .ok (.ifCond .eq 18, 3) ∧ 13 + 3 = 16 ∧ ((13 : Nat) : Int) + 18 = ((31 : Nat) : Int) := ⟨by decide +kernel, rfl, by decide⟩
theorem d_A_lowestWrongShelf_16 : decode b_A_lowestWrongShelf 16 = .ok (.aload_n 0, 1) ∧ 16 + 1 = 17 := ⟨by decide +kernel, rfl⟩
theorem d_A_lowestWrongShelf_17 : decode b_A_lowestWrongShelf 17 = .ok (.getfield 53, 3) ∧ 17 + 3 = 20 := ⟨by decide +kernel, rfl⟩
theorem d_A_lowestWrongShelf_20 : decode b_A_lowestWrongShelf 20 = .ok (.iload_n 2, 1) ∧ 20 + 1 = 21 := ⟨by decide +kernel, rfl⟩
theorem d_A_lowestWrongShelf_21 : decode b_A_lowestWrongShelf 21 = .ok (.aaload, 1) ∧ 21 + 1 = 22 := ⟨by decide +kernel, rfl⟩
theorem d_A_lowestWrongShelf_22 : decode b_A_lowestWrongShelf 22 = .ok (.invokevirtual 169, 3) ∧ 22 + 3 = 25 := ⟨by decide +kernel, rfl⟩
theorem d_A_lowestWrongShelf_25 : decode b_A_lowestWrongShelf 25 = .ok (.iconst (-1), 1) ∧ 25 + 1 = 26 := ⟨by decide +kernel, rfl⟩
theorem d_A_lowestWrongShelf_26 : decode b_A_lowestWrongShelf 26 = .ok (.if_icmp .eq 5, 3) ∧ 26 + 3 = 29 ∧ ((26 : Nat) : Int) + 5 = ((31 : Nat) : Int) := ⟨by decide +kernel, rfl, by decide⟩
theorem d_A_lowestWrongShelf_29 : decode b_A_lowestWrongShelf 29 = .ok (.iload_n 2, 1) ∧ 29 + 1 = 30 := ⟨by decide +kernel, rfl⟩
theorem d_A_lowestWrongShelf_30 : decode b_A_lowestWrongShelf 30 = .ok (.ireturn, 1) := by decide +kernel
theorem d_A_lowestWrongShelf_31 : decode b_A_lowestWrongShelf 31 = .ok (.iinc 2 1, 3) ∧ 31 + 3 = 34 := ⟨by decide +kernel, rfl⟩
theorem d_A_lowestWrongShelf_34 : decode b_A_lowestWrongShelf 34 = .ok (.goto (-32), 3) ∧ ((34 : Nat) : Int) + (-32) = ((2 : Nat) : Int) := ⟨by decide +kernel, by decide⟩
theorem d_A_lowestWrongShelf_37 : decode b_A_lowestWrongShelf 37 = .ok (.iconst (-1), 1) ∧ 37 + 1 = 38 := ⟨by decide +kernel, rfl⟩
theorem d_A_lowestWrongShelf_38 : decode b_A_lowestWrongShelf 38 = .ok (.ireturn, 1) := by decide +kernel
theorem d_A_makeKnown_0 : decode b_A_makeKnown 0 = .ok (.aload_n 0, 1) ∧ 0 + 1 = 1 := ⟨by decide +kernel, rfl⟩
theorem d_A_makeKnown_1 : decode b_A_makeKnown 1 = .ok (.getfield 48, 3) ∧ 1 + 3 = 4 := ⟨by decide +kernel, rfl⟩
theorem d_A_makeKnown_4 : decode b_A_makeKnown 4 = .ok (.iload_n 2, 1) ∧ 4 + 1 = 5 := ⟨by decide +kernel, rfl⟩
theorem d_A_makeKnown_5 : decode b_A_makeKnown 5 = .ok (.iload_n 3, 1) ∧ 5 + 1 = 6 := ⟨by decide +kernel, rfl⟩
theorem d_A_makeKnown_6 : decode b_A_makeKnown 6 = .ok (.iastore, 1) ∧ 6 + 1 = 7 := ⟨by decide +kernel, rfl⟩
theorem d_A_makeKnown_7 : decode b_A_makeKnown 7 = .ok (.iload_n 2, 1) ∧ 7 + 1 = 8 := ⟨by decide +kernel, rfl⟩
theorem d_A_makeKnown_8 : decode b_A_makeKnown 8 = .ok (.bipush 16, 2) ∧ 8 + 2 = 10 := ⟨by decide +kernel, rfl⟩
theorem d_A_makeKnown_10 : decode b_A_makeKnown 10 = .ok (.irem, 1) ∧ 10 + 1 = 11 := ⟨by decide +kernel, rfl⟩
theorem d_A_makeKnown_11 : decode b_A_makeKnown 11 = .ok (.istore 4, 2) ∧ 11 + 2 = 13 := ⟨by decide +kernel, rfl⟩
theorem d_A_makeKnown_13 : decode b_A_makeKnown 13 = .ok (.iload_n 2, 1) ∧ 13 + 1 = 14 := ⟨by decide +kernel, rfl⟩
theorem d_A_makeKnown_14 : decode b_A_makeKnown 14 = .ok (.bipush 16, 2) ∧ 14 + 2 = 16 := ⟨by decide +kernel, rfl⟩
theorem d_A_makeKnown_16 : decode b_A_makeKnown 16 = .ok (.idiv, 1) ∧ 16 + 1 = 17 := ⟨by decide +kernel, rfl⟩
theorem d_A_makeKnown_17 : decode b_A_makeKnown 17 = .ok (.istore 5, 2) ∧ 17 + 2 = 19 := ⟨by decide +kernel, rfl⟩
theorem d_A_makeKnown_19 : decode b_A_makeKnown 19 = .ok (.iconst 0, 1) ∧ 19 + 1 = 20 := ⟨by decide +kernel, rfl⟩
theorem d_A_makeKnown_20 : decode b_A_makeKnown 20 = .ok (.istore 6, 2) ∧ 20 + 2 = 22 := ⟨by decide +kernel, rfl⟩
theorem d_A_makeKnown_22 : decode b_A_makeKnown 22 = .ok (.iload 6, 2) ∧ 22 + 2 = 24 := ⟨by decide +kernel, rfl⟩
theorem d_A_makeKnown_24 : decode b_A_makeKnown 24 = .ok (.bipush 8, 2) ∧ 24 + 2 = 26 := ⟨by decide +kernel, rfl⟩
theorem d_A_makeKnown_26 : decode b_A_makeKnown 26 = .ok (.if_icmp .ge 44, 3) ∧ 26 + 3 = 29 ∧ ((26 : Nat) : Int) + 44 = ((70 : Nat) : Int) := ⟨by decide +kernel, rfl, by decide⟩
theorem d_A_makeKnown_29 : decode b_A_makeKnown 29 = .ok (.iload_n 1, 1) ∧ 29 + 1 = 30 := ⟨by decide +kernel, rfl⟩
theorem d_A_makeKnown_30 : decode b_A_makeKnown 30 = .ok (.iload 6, 2) ∧ 30 + 2 = 32 := ⟨by decide +kernel, rfl⟩
theorem d_A_makeKnown_32 : decode b_A_makeKnown 32 = .ok (.invokestatic 177, 3) ∧ 32 + 3 = 35 := ⟨by decide +kernel, rfl⟩
theorem d_A_makeKnown_35 : decode b_A_makeKnown 35 = .ok (.ifCond .eq 29, 3) ∧ 35 + 3 = 38 ∧ ((35 : Nat) : Int) + 29 = ((64 : Nat) : Int) := ⟨by decide +kernel, rfl, by decide⟩
theorem d_A_makeKnown_38 : decode b_A_makeKnown 38 = .ok (.aload_n 0, 1) ∧ 38 + 1 = 39 := ⟨by decide +kernel, rfl⟩
theorem d_A_makeKnown_39 : decode b_A_makeKnown 39 = .ok (.getfield 53, 3) ∧ 39 + 3 = 42 := ⟨by decide +kernel, rfl⟩
theorem d_A_makeKnown_42 : decode b_A_makeKnown 42 = .ok (.iload 6, 2) ∧ 42 + 2 = 44 := ⟨by decide +kernel, rfl⟩
theorem d_A_makeKnown_44 : decode b_A_makeKnown 44 = .ok (.aaload, 1) ∧ 44 + 1 = 45 := ⟨by decide +kernel, rfl⟩
theorem d_A_makeKnown_45 : decode b_A_makeKnown 45 = .ok (.aload_n 0, 1) ∧ 45 + 1 = 46 := ⟨by decide +kernel, rfl⟩
theorem d_A_makeKnown_46 : decode b_A_makeKnown 46 = .ok (.getfield 22, 3) ∧ 46 + 3 = 49 := ⟨by decide +kernel, rfl⟩
theorem d_A_makeKnown_49 : decode b_A_makeKnown 49 = .ok (.iload 6, 2) ∧ 49 + 2 = 51 := ⟨by decide +kernel, rfl⟩
theorem d_A_makeKnown_51 : decode b_A_makeKnown 51 = .ok (.aaload, 1) ∧ 51 + 1 = 52 := ⟨by decide +kernel, rfl⟩
theorem d_A_makeKnown_52 : decode b_A_makeKnown 52 = .ok (.iload 4, 2) ∧ 52 + 2 = 54 := ⟨by decide +kernel, rfl⟩
theorem d_A_makeKnown_54 : decode b_A_makeKnown 54 = .ok (.iload 5, 2) ∧ 54 + 2 = 56 := ⟨by decide +kernel, rfl⟩
theorem d_A_makeKnown_56 : decode b_A_makeKnown 56 = .ok (.invokevirtual 237, 3) ∧ 56 + 3 = 59 := ⟨by decide +kernel, rfl⟩
theorem d_A_makeKnown_59 : decode b_A_makeKnown 59 = .ok (.iload_n 2, 1) ∧ 59 + 1 = 60 := ⟨by decide +kernel, rfl⟩
theorem d_A_makeKnown_60 : decode b_A_makeKnown 60 = .ok (.iload_n 3, 1) ∧ 60 + 1 = 61 := ⟨by decide +kernel, rfl⟩
theorem d_A_makeKnown_61 : decode b_A_makeKnown 61 = .ok (.invokevirtual 240, 3) ∧ 61 + 3 = 64 := ⟨by decide +kernel, rfl⟩
theorem d_A_makeKnown_64 : decode b_A_makeKnown 64 = .ok (.iinc 6 1, 3) ∧ 64 + 3 = 67 := ⟨by decide +kernel, rfl⟩
theorem d_A_makeKnown_67 : decode b_A_makeKnown 67 = .ok (.goto (-45), 3) ∧ ((67 : Nat) : Int) + (-45) = ((22 : Nat) : Int) := ⟨by decide +kernel, by decide⟩
theorem d_A_makeKnown_70 : decode b_A_makeKnown 70 = .ok (.return_, 1) := by decide +kernel
theorem d_A_pixel_0 : decode b_A_pixel 0 = .ok (.aload_n 0, 1) ∧ 0 + 1 = 1 := ⟨by decide +kernel, rfl⟩
theorem d_A_pixel_1 : decode b_A_pixel 1 = .ok (.iload_n 1, 1) ∧ 1 + 1 = 2 := ⟨by decide +kernel, rfl⟩
theorem d_A_pixel_2 : decode b_A_pixel 2 = .ok (.iload_n 2, 1) ∧ 2 + 1 = 3 := ⟨by decide +kernel, rfl⟩
theorem d_A_pixel_3 : decode b_A_pixel 3 = .ok (.invokevirtual 78, 3) ∧ 3 + 3 = 6 := ⟨by decide +kernel, rfl⟩
theorem d_A_pixel_6 : decode b_A_pixel 6 = .ok (.iload_n 1, 1) ∧ 6 + 1 = 7 := ⟨by decide +kernel, rfl⟩
theorem d_A_pixel_7 : decode b_A_pixel 7 = .ok (.iload_n 2, 1) ∧ 7 + 1 = 8 := ⟨by decide +kernel, rfl⟩
theorem d_A_pixel_8 : decode b_A_pixel 8 = .ok (.invokestatic 82, 3) ∧ 8 + 3 = 11 := ⟨by decide +kernel, rfl⟩
theorem d_A_pixel_11 : decode b_A_pixel 11 = .ok (.istore 4, 2) ∧ 11 + 2 = 13 := ⟨by decide +kernel, rfl⟩
theorem d_A_pixel_13 : decode b_A_pixel 13 = .ok (.aload_n 0, 1) ∧ 13 + 1 = 14 := ⟨by decide +kernel, rfl⟩
theorem d_A_pixel_14 : decode b_A_pixel 14 = .ok (.getfield 16, 3) ∧ 14 + 3 = 17 := ⟨by decide +kernel, rfl⟩
theorem d_A_pixel_17 : decode b_A_pixel 17 = .ok (.iload 4, 2) ∧ 17 + 2 = 19 := ⟨by decide +kernel, rfl⟩
theorem d_A_pixel_19 : decode b_A_pixel 19 = .ok (.iaload, 1) ∧ 19 + 1 = 20 := ⟨by decide +kernel, rfl⟩
theorem d_A_pixel_20 : decode b_A_pixel 20 = .ok (.istore 5, 2) ∧ 20 + 2 = 22 := ⟨by decide +kernel, rfl⟩
theorem d_A_pixel_22 : decode b_A_pixel 22 = .ok (.aload_n 0, 1) ∧ 22 + 1 = 23 := ⟨by decide +kernel, rfl⟩
theorem d_A_pixel_23 : decode b_A_pixel 23 = .ok (.getfield 16, 3) ∧ 23 + 3 = 26 := ⟨by decide +kernel, rfl⟩
theorem d_A_pixel_26 : decode b_A_pixel 26 = .ok (.iload 4, 2) ∧ 26 + 2 = 28 := ⟨by decide +kernel, rfl⟩
theorem d_A_pixel_28 : decode b_A_pixel 28 = .ok (.iload_n 3, 1) ∧ 28 + 1 = 29 := ⟨by decide +kernel, rfl⟩
theorem d_A_pixel_29 : decode b_A_pixel 29 = .ok (.iastore, 1) ∧ 29 + 1 = 30 := ⟨by decide +kernel, rfl⟩
theorem d_A_pixel_30 : decode b_A_pixel 30 = .ok (.iload 5, 2) ∧ 30 + 2 = 32 := ⟨by decide +kernel, rfl⟩
theorem d_A_pixel_32 : decode b_A_pixel 32 = .ok (.ireturn, 1) := by decide +kernel
theorem d_A_project_0 : decode b_A_project 0 = .ok (.iload_n 1, 1) ∧ 0 + 1 = 1 := ⟨by decide +kernel, rfl⟩
theorem d_A_project_1 : decode b_A_project 1 = .ok (.invokestatic 95, 3) ∧ 1 + 3 = 4 := ⟨by decide +kernel, rfl⟩
theorem d_A_project_4 : decode b_A_project 4 = .ok (.aload_n 0, 1) ∧ 4 + 1 = 5 := ⟨by decide +kernel, rfl⟩
theorem d_A_project_5 : decode b_A_project 5 = .ok (.getfield 22, 3) ∧ 5 + 3 = 8 := ⟨by decide +kernel, rfl⟩
theorem d_A_project_8 : decode b_A_project 8 = .ok (.iload_n 1, 1) ∧ 8 + 1 = 9 := ⟨by decide +kernel, rfl⟩
theorem d_A_project_9 : decode b_A_project 9 = .ok (.aaload, 1) ∧ 9 + 1 = 10 := ⟨by decide +kernel, rfl⟩
theorem d_A_project_10 : decode b_A_project 10 = .ok (.getfield 117, 3) ∧ 10 + 3 = 13 := ⟨by decide +kernel, rfl⟩
theorem d_A_project_13 : decode b_A_project 13 = .ok (.invokestatic 86, 3) ∧ 13 + 3 = 16 := ⟨by decide +kernel, rfl⟩
theorem d_A_project_16 : decode b_A_project 16 = .ok (.aload_n 0, 1) ∧ 16 + 1 = 17 := ⟨by decide +kernel, rfl⟩
theorem d_A_project_17 : decode b_A_project 17 = .ok (.getfield 22, 3) ∧ 17 + 3 = 20 := ⟨by decide +kernel, rfl⟩
theorem d_A_project_20 : decode b_A_project 20 = .ok (.iload_n 1, 1) ∧ 20 + 1 = 21 := ⟨by decide +kernel, rfl⟩
theorem d_A_project_21 : decode b_A_project 21 = .ok (.aaload, 1) ∧ 21 + 1 = 22 := ⟨by decide +kernel, rfl⟩
theorem d_A_project_22 : decode b_A_project 22 = .ok (.aload_n 0, 1) ∧ 22 + 1 = 23 := ⟨by decide +kernel, rfl⟩
theorem d_A_project_23 : decode b_A_project 23 = .ok (.getfield 16, 3) ∧ 23 + 3 = 26 := ⟨by decide +kernel, rfl⟩
theorem d_A_project_26 : decode b_A_project 26 = .ok (.aload_n 0, 1) ∧ 26 + 1 = 27 := ⟨by decide +kernel, rfl⟩
theorem d_A_project_27 : decode b_A_project 27 = .ok (.getfield 9, 3) ∧ 27 + 3 = 30 := ⟨by decide +kernel, rfl⟩
theorem d_A_project_30 : decode b_A_project 30 = .ok (.aload_n 0, 1) ∧ 30 + 1 = 31 := ⟨by decide +kernel, rfl⟩
theorem d_A_project_31 : decode b_A_project 31 = .ok (.getfield 13, 3) ∧ 31 + 3 = 34 := ⟨by decide +kernel, rfl⟩
theorem d_A_project_34 : decode b_A_project 34 = .ok (.invokevirtual 132, 3) ∧ 34 + 3 = 37 := ⟨by decide +kernel, rfl⟩
theorem d_A_project_37 : decode b_A_project 37 = .ok (.return_, 1) := by decide +kernel
theorem d_A_put_0 : decode b_A_put 0 = .ok (.aload_n 0, 1) ∧ 0 + 1 = 1 := ⟨by decide +kernel, rfl⟩
theorem d_A_put_1 : decode b_A_put 1 = .ok (.iload_n 1, 1) ∧ 1 + 1 = 2 := ⟨by decide +kernel, rfl⟩
theorem d_A_put_2 : decode b_A_put 2 = .ok (.iload_n 2, 1) ∧ 2 + 1 = 3 := ⟨by decide +kernel, rfl⟩
theorem d_A_put_3 : decode b_A_put 3 = .ok (.invokevirtual 136, 3) ∧ 3 + 3 = 6 := ⟨by decide +kernel, rfl⟩
theorem d_A_put_6 : decode b_A_put 6 = .ok (.aload_n 0, 1) ∧ 6 + 1 = 7 := ⟨by decide +kernel, rfl⟩
theorem d_A_put_7 : decode b_A_put 7 = .ok (.getfield 22, 3) ∧ 7 + 3 = 10 := ⟨by decide +kernel, rfl⟩
theorem d_A_put_10 : decode b_A_put 10 = .ok (.iload_n 1, 1) ∧ 10 + 1 = 11 := ⟨by decide +kernel, rfl⟩
theorem d_A_put_11 : decode b_A_put 11 = .ok (.aaload, 1) ∧ 11 + 1 = 12 := ⟨by decide +kernel, rfl⟩
theorem d_A_put_12 : decode b_A_put 12 = .ok (.getfield 139, 3) ∧ 12 + 3 = 15 := ⟨by decide +kernel, rfl⟩
theorem d_A_put_15 : decode b_A_put 15 = .ok (.astore 4, 2) ∧ 15 + 2 = 17 := ⟨by decide +kernel, rfl⟩
theorem d_A_put_17 : decode b_A_put 17 = .ok (.aload 4, 2) ∧ 17 + 2 = 19 := ⟨by decide +kernel, rfl⟩
theorem d_A_put_19 : decode b_A_put 19 = .ok (.iload_n 2, 1) ∧ 19 + 1 = 20 := ⟨by decide +kernel, rfl⟩
theorem d_A_put_20 : decode b_A_put 20 = .ok (.iaload, 1) ∧ 20 + 1 = 21 := ⟨by decide +kernel, rfl⟩
theorem d_A_put_21 : decode b_A_put 21 = .ok (.istore 5, 2) ∧ 21 + 2 = 23 := ⟨by decide +kernel, rfl⟩
theorem d_A_put_23 : decode b_A_put 23 = .ok (.aload 4, 2) ∧ 23 + 2 = 25 := ⟨by decide +kernel, rfl⟩
theorem d_A_put_25 : decode b_A_put 25 = .ok (.iload_n 2, 1) ∧ 25 + 1 = 26 := ⟨by decide +kernel, rfl⟩
theorem d_A_put_26 : decode b_A_put 26 = .ok (.iload_n 3, 1) ∧ 26 + 1 = 27 := ⟨by decide +kernel, rfl⟩
theorem d_A_put_27 : decode b_A_put 27 = .ok (.iastore, 1) ∧ 27 + 1 = 28 := ⟨by decide +kernel, rfl⟩
theorem d_A_put_28 : decode b_A_put 28 = .ok (.iload 5, 2) ∧ 28 + 2 = 30 := ⟨by decide +kernel, rfl⟩
theorem d_A_put_30 : decode b_A_put 30 = .ok (.ireturn, 1) := by decide +kernel
theorem d_A_rebuild_0 : decode b_A_rebuild 0 = .ok (.iload_n 1, 1) ∧ 0 + 1 = 1 := ⟨by decide +kernel, rfl⟩
theorem d_A_rebuild_1 : decode b_A_rebuild 1 = .ok (.invokestatic 142, 3) ∧ 1 + 3 = 4 := ⟨by decide +kernel, rfl⟩
theorem d_A_rebuild_4 : decode b_A_rebuild 4 = .ok (.aload_n 0, 1) ∧ 4 + 1 = 5 := ⟨by decide +kernel, rfl⟩
theorem d_A_rebuild_5 : decode b_A_rebuild 5 = .ok (.iload_n 1, 1) ∧ 5 + 1 = 6 := ⟨by decide +kernel, rfl⟩
theorem d_A_rebuild_6 : decode b_A_rebuild 6 = .ok (.invokevirtual 145, 3) ∧ 6 + 3 = 9 := ⟨by decide +kernel, rfl⟩
theorem d_A_rebuild_9 : decode b_A_rebuild 9 = .ok (.istore_n 2, 1) ∧ 9 + 1 = 10 := ⟨by decide +kernel, rfl⟩
theorem d_A_rebuild_10 : decode b_A_rebuild 10 = .ok (.iload_n 2, 1) ∧ 10 + 1 = 11 := ⟨by decide +kernel, rfl⟩
theorem d_A_rebuild_11 : decode b_A_rebuild 11 = .ok (.aload_n 0, 1) ∧ 11 + 1 = 12 := ⟨by decide +kernel, rfl⟩
theorem d_A_rebuild_12 : decode b_A_rebuild 12 = .ok (.invokevirtual 153, 3) ∧ 12 + 3 = 15 := ⟨by decide +kernel, rfl⟩
theorem d_A_rebuild_15 : decode b_A_rebuild 15 = .ok (.iconst (-1), 1) ∧ 15 + 1 = 16 := ⟨by decide +kernel, rfl⟩
theorem d_A_rebuild_16 : decode b_A_rebuild 16 = .ok (.ixor, 1) ∧ 16 + 1 = 17 := ⟨by decide +kernel, rfl⟩
theorem d_A_rebuild_17 : decode b_A_rebuild 17 = .ok (.iand, 1) ∧ 17 + 1 = 18 := ⟨by decide +kernel, rfl⟩
theorem d_A_rebuild_18 : decode b_A_rebuild 18 = .ok (.ifCond .ne 7, 3) ∧ 18 + 3 = 21 ∧ ((18 : Nat) : Int) + 7 = ((25 : Nat) : Int) := ⟨by decide +kernel, rfl, by decide⟩
theorem d_A_rebuild_21 : decode b_A_rebuild 21 = .ok (.iconst 1, 1) ∧ 21 + 1 = 22 := ⟨by decide +kernel, rfl⟩
theorem d_A_rebuild_22 : decode b_A_rebuild 22 = .ok (.goto 4, 3) ∧ ((22 : Nat) : Int) + 4 = ((26 : Nat) : Int) := ⟨by decide +kernel, by decide⟩
theorem d_A_rebuild_25 : decode b_A_rebuild 25 = .ok (.iconst 0, 1) ∧ 25 + 1 = 26 := ⟨by decide +kernel, rfl⟩
theorem d_A_rebuild_26 : decode b_A_rebuild 26 = .ok (.invokestatic 86, 3) ∧ 26 + 3 = 29 := ⟨by decide +kernel, rfl⟩
theorem d_A_rebuild_29 : decode b_A_rebuild 29 = .ok (.aload_n 0, 1) ∧ 29 + 1 = 30 := ⟨by decide +kernel, rfl⟩
theorem d_A_rebuild_30 : decode b_A_rebuild 30 = .ok (.aload_n 0, 1) ∧ 30 + 1 = 31 := ⟨by decide +kernel, rfl⟩
theorem d_A_rebuild_31 : decode b_A_rebuild 31 = .ok (.iload_n 2, 1) ∧ 31 + 1 = 32 := ⟨by decide +kernel, rfl⟩
theorem d_A_rebuild_32 : decode b_A_rebuild 32 = .ok (.invokevirtual 157, 3) ∧ 32 + 3 = 35 := ⟨by decide +kernel, rfl⟩
theorem d_A_rebuild_35 : decode b_A_rebuild 35 = .ok (.putfield 42, 3) ∧ 35 + 3 = 38 := ⟨by decide +kernel, rfl⟩
theorem d_A_rebuild_38 : decode b_A_rebuild 38 = .ok (.aload_n 0, 1) ∧ 38 + 1 = 39 := ⟨by decide +kernel, rfl⟩
theorem d_A_rebuild_39 : decode b_A_rebuild 39 = .ok (.iconst (-1), 1) ∧ 39 + 1 = 40 := ⟨by decide +kernel, rfl⟩
theorem d_A_rebuild_40 : decode b_A_rebuild 40 = .ok (.putfield 45, 3) ∧ 40 + 3 = 43 := ⟨by decide +kernel, rfl⟩
theorem d_A_rebuild_43 : decode b_A_rebuild 43 = .ok (.aload_n 0, 1) ∧ 43 + 1 = 44 := ⟨by decide +kernel, rfl⟩
theorem d_A_rebuild_44 : decode b_A_rebuild 44 = .ok (.getfield 42, 3) ∧ 44 + 3 = 47 := ⟨by decide +kernel, rfl⟩
theorem d_A_rebuild_47 : decode b_A_rebuild 47 = .ok (.aload_n 0, 1) ∧ 47 + 1 = 48 := ⟨by decide +kernel, rfl⟩
theorem d_A_rebuild_48 : decode b_A_rebuild 48 = .ok (.getfield 9, 3) ∧ 48 + 3 = 51 := ⟨by decide +kernel, rfl⟩
theorem d_A_rebuild_51 : decode b_A_rebuild 51 = .ok (.aload_n 0, 1) ∧ 51 + 1 = 52 := ⟨by decide +kernel, rfl⟩
theorem d_A_rebuild_52 : decode b_A_rebuild 52 = .ok (.getfield 13, 3) ∧ 52 + 3 = 55 := ⟨by decide +kernel, rfl⟩
theorem d_A_rebuild_55 : decode b_A_rebuild 55 = .ok (.imul, 1) ∧ 55 + 1 = 56 := ⟨by decide +kernel, rfl⟩
theorem d_A_rebuild_56 : decode b_A_rebuild 56 = .ok (.if_icmp .ge 5, 3) ∧ 56 + 3 = 59 ∧ ((56 : Nat) : Int) + 5 = ((61 : Nat) : Int) := ⟨by decide +kernel, rfl, by decide⟩
theorem d_A_rebuild_59 : decode b_A_rebuild 59 = .ok (.iconst (-1), 1) ∧ 59 + 1 = 60 := ⟨by decide +kernel, rfl⟩
theorem d_A_rebuild_60 : decode b_A_rebuild 60 = .ok (.ireturn, 1) := by decide +kernel
theorem d_A_rebuild_61 : decode b_A_rebuild 61 = .ok (.aload_n 0, 1) ∧ 61 + 1 = 62 := ⟨by decide +kernel, rfl⟩
theorem d_A_rebuild_62 : decode b_A_rebuild 62 = .ok (.getfield 48, 3) ∧ 62 + 3 = 65 := ⟨by decide +kernel, rfl⟩
theorem d_A_rebuild_65 : decode b_A_rebuild 65 = .ok (.iconst 0, 1) ∧ 65 + 1 = 66 := ⟨by decide +kernel, rfl⟩
theorem d_A_rebuild_66 : decode b_A_rebuild 66 = .ok (.aload_n 0, 1) ∧ 66 + 1 = 67 := ⟨by decide +kernel, rfl⟩
theorem d_A_rebuild_67 : decode b_A_rebuild 67 = .ok (.getfield 39, 3) ∧ 67 + 3 = 70 := ⟨by decide +kernel, rfl⟩
theorem d_A_rebuild_70 : decode b_A_rebuild 70 = .ok (.iconst 0, 1) ∧ 70 + 1 = 71 := ⟨by decide +kernel, rfl⟩
theorem d_A_rebuild_71 : decode b_A_rebuild 71 = .ok (.sipush 256, 3) ∧ 71 + 3 = 74 := ⟨by decide +kernel, rfl⟩
theorem d_A_rebuild_74 : decode b_A_rebuild 74 = .ok (.invokestatic 160, 3) ∧ 74 + 3 = 77 := ⟨by decide +kernel, rfl⟩
theorem d_A_rebuild_77 : decode b_A_rebuild 77 = .ok (.aload_n 0, 1) ∧ 77 + 1 = 78 := ⟨by decide +kernel, rfl⟩
theorem d_A_rebuild_78 : decode b_A_rebuild 78 = .ok (.iconst 1, 1) ∧ 78 + 1 = 79 := ⟨by decide +kernel, rfl⟩
theorem d_A_rebuild_79 : decode b_A_rebuild 79 = .ok (.putfield 36, 3) ∧ 79 + 3 = 82 := ⟨by decide +kernel, rfl⟩
theorem d_A_rebuild_82 : decode b_A_rebuild 82 = .ok (.aload_n 0, 1) ∧ 82 + 1 = 83 := ⟨by decide +kernel, rfl⟩
theorem d_A_rebuild_83 : decode b_A_rebuild 83 = .ok (.iload_n 2, 1) ∧ 83 + 1 = 84 := ⟨by decide +kernel, rfl⟩
theorem d_A_rebuild_84 : decode b_A_rebuild 84 = .ok (.invokevirtual 166, 3) ∧ 84 + 3 = 87 := ⟨by decide +kernel, rfl⟩
theorem d_A_rebuild_87 : decode b_A_rebuild 87 = .ok (.istore_n 3, 1) ∧ 87 + 1 = 88 := ⟨by decide +kernel, rfl⟩
theorem d_A_rebuild_88 : decode b_A_rebuild 88 = .ok (.iload_n 3, 1) ∧ 88 + 1 = 89 := ⟨by decide +kernel, rfl⟩
theorem d_A_rebuild_89 : decode b_A_rebuild 89 = .ok (.iconst (-1), 1) ∧ 89 + 1 = 90 := ⟨by decide +kernel, rfl⟩
theorem d_A_rebuild_90 : decode b_A_rebuild 90 = .ok (.if_icmp .ne 6, 3) ∧ 90 + 3 = 93 ∧ ((90 : Nat) : Int) + 6 = ((96 : Nat) : Int) := ⟨by decide +kernel, rfl, by decide⟩
theorem d_A_rebuild_93 : decode b_A_rebuild 93 = .ok (.bipush 99, 2) ∧ 93 + 2 = 95 := ⟨by decide +kernel, rfl⟩
theorem d_A_rebuild_95 : decode b_A_rebuild 95 = .ok (.ireturn, 1) := by decide +kernel
theorem d_A_rebuild_96 : decode b_A_rebuild 96 = .ok (.aload_n 0, 1) ∧ 96 + 1 = 97 := ⟨by decide +kernel, rfl⟩
theorem d_A_rebuild_97 : decode b_A_rebuild 97 = .ok (.aload_n 0, 1) ∧ 97 + 1 = 98 := ⟨by decide +kernel, rfl⟩
theorem d_A_rebuild_98 : decode b_A_rebuild 98 = .ok (.getfield 53, 3) ∧ 98 + 3 = 101 := ⟨by decide +kernel, rfl⟩
theorem d_A_rebuild_101 : decode b_A_rebuild 101 = .ok (.iload_n 3, 1) ∧ 101 + 1 = 102 := ⟨by decide +kernel, rfl⟩
theorem d_A_rebuild_102 : decode b_A_rebuild 102 = .ok (.aaload, 1) ∧ 102 + 1 = 103 := ⟨by decide +kernel, rfl⟩
theorem d_A_rebuild_103 : decode b_A_rebuild 103 = .ok (.invokevirtual 169, 3) ∧ 103 + 3 = 106 := ⟨by decide +kernel, rfl⟩
theorem d_A_rebuild_106 : decode b_A_rebuild 106 = .ok (.putfield 45, 3) ∧ 106 + 3 = 109 := ⟨by decide +kernel, rfl⟩
theorem d_A_rebuild_109 : decode b_A_rebuild 109 = .ok (.iload_n 3, 1) ∧ 109 + 1 = 110 := ⟨by decide +kernel, rfl⟩
theorem d_A_rebuild_110 : decode b_A_rebuild 110 = .ok (.ireturn, 1) := by decide +kernel
theorem d_A_regenerate_0 : decode b_A_regenerate 0 = .ok (.iload_n 1, 1) ∧ 0 + 1 = 1 := ⟨by decide +kernel, rfl⟩
theorem d_A_regenerate_1 : decode b_A_regenerate 1 = .ok (.invokestatic 95, 3) ∧ 1 + 3 = 4 := ⟨by decide +kernel, rfl⟩
theorem d_A_regenerate_4 : decode b_A_regenerate 4 = .ok (.aload_n 0, 1) ∧ 4 + 1 = 5 := ⟨by decide +kernel, rfl⟩
theorem d_A_regenerate_5 : decode b_A_regenerate 5 = .ok (.getfield 22, 3) ∧ 5 + 3 = 8 := ⟨by decide +kernel, rfl⟩
theorem d_A_regenerate_8 : decode b_A_regenerate 8 = .ok (.iload_n 1, 1) ∧ 8 + 1 = 9 := ⟨by decide +kernel, rfl⟩
theorem d_A_regenerate_9 : decode b_A_regenerate 9 = .ok (.aaload, 1) ∧ 9 + 1 = 10 := ⟨by decide +kernel, rfl⟩
theorem d_A_regenerate_10 : decode b_A_regenerate 10 = .ok (.astore_n 2, 1) ∧ 10 + 1 = 11 := ⟨by decide +kernel, rfl⟩
theorem d_A_regenerate_11 : decode b_A_regenerate 11 = .ok (.aload_n 2, 1) ∧ 11 + 1 = 12 := ⟨by decide +kernel, rfl⟩
theorem d_A_regenerate_12 : decode b_A_regenerate 12 = .ok (.getfield 117, 3) ∧ 12 + 3 = 15 := ⟨by decide +kernel, rfl⟩
theorem d_A_regenerate_15 : decode b_A_regenerate 15 = .ok (.ifCond .eq 14, 3) ∧ 15 + 3 = 18 ∧ ((15 : Nat) : Int) + 14 = ((29 : Nat) : Int) := ⟨by decide +kernel, rfl, by decide⟩
theorem d_A_regenerate_18 : decode b_A_regenerate 18 = .ok (.aload_n 2, 1) ∧ 18 + 1 = 19 := ⟨by decide +kernel, rfl⟩
theorem d_A_regenerate_19 : decode b_A_regenerate 19 = .ok (.getfield 129, 3) ∧ 19 + 3 = 22 := ⟨by decide +kernel, rfl⟩
theorem d_A_regenerate_22 : decode b_A_regenerate 22 = .ok (.ifCond .ne 7, 3) ∧ 22 + 3 = 25 ∧ ((22 : Nat) : Int) + 7 = ((29 : Nat) : Int) := ⟨by decide +kernel, rfl, by decide⟩
theorem d_A_regenerate_25 : decode b_A_regenerate 25 = .ok (.iconst 1, 1) ∧ 25 + 1 = 26 := ⟨by decide +kernel, rfl⟩
theorem d_A_regenerate_26 : decode b_A_regenerate 26 = .ok (.goto 4, 3) ∧ ((26 : Nat) : Int) + 4 = ((30 : Nat) : Int) := ⟨by decide +kernel, by decide⟩
theorem d_A_regenerate_29 : decode b_A_regenerate 29 = .ok (.iconst 0, 1) ∧ 29 + 1 = 30 := ⟨by decide +kernel, rfl⟩
theorem d_A_regenerate_30 : decode b_A_regenerate 30 = .ok (.invokestatic 86, 3) ∧ 30 + 3 = 33 := ⟨by decide +kernel, rfl⟩
theorem d_A_regenerate_33 : decode b_A_regenerate 33 = .ok (.aload_n 0, 1) ∧ 33 + 1 = 34 := ⟨by decide +kernel, rfl⟩
theorem d_A_regenerate_34 : decode b_A_regenerate 34 = .ok (.aload_n 0, 1) ∧ 34 + 1 = 35 := ⟨by decide +kernel, rfl⟩
theorem d_A_regenerate_35 : decode b_A_regenerate 35 = .ok (.invokevirtual 153, 3) ∧ 35 + 3 = 38 := ⟨by decide +kernel, rfl⟩
theorem d_A_regenerate_38 : decode b_A_regenerate 38 = .ok (.invokevirtual 157, 3) ∧ 38 + 3 = 41 := ⟨by decide +kernel, rfl⟩
theorem d_A_regenerate_41 : decode b_A_regenerate 41 = .ok (.aload_n 0, 1) ∧ 41 + 1 = 42 := ⟨by decide +kernel, rfl⟩
theorem d_A_regenerate_42 : decode b_A_regenerate 42 = .ok (.getfield 9, 3) ∧ 42 + 3 = 45 := ⟨by decide +kernel, rfl⟩
theorem d_A_regenerate_45 : decode b_A_regenerate 45 = .ok (.aload_n 0, 1) ∧ 45 + 1 = 46 := ⟨by decide +kernel, rfl⟩
theorem d_A_regenerate_46 : decode b_A_regenerate 46 = .ok (.getfield 13, 3) ∧ 46 + 3 = 49 := ⟨by decide +kernel, rfl⟩
theorem d_A_regenerate_49 : decode b_A_regenerate 49 = .ok (.imul, 1) ∧ 49 + 1 = 50 := ⟨by decide +kernel, rfl⟩
theorem d_A_regenerate_50 : decode b_A_regenerate 50 = .ok (.if_icmp .ge 5, 3) ∧ 50 + 3 = 53 ∧ ((50 : Nat) : Int) + 5 = ((55 : Nat) : Int) := ⟨by decide +kernel, rfl, by decide⟩
theorem d_A_regenerate_53 : decode b_A_regenerate 53 = .ok (.iconst 0, 1) ∧ 53 + 1 = 54 := ⟨by decide +kernel, rfl⟩
theorem d_A_regenerate_54 : decode b_A_regenerate 54 = .ok (.ireturn, 1) := by decide +kernel
theorem d_A_regenerate_55 : decode b_A_regenerate 55 = .ok (.aload_n 2, 1) ∧ 55 + 1 = 56 := ⟨by decide +kernel, rfl⟩
theorem d_A_regenerate_56 : decode b_A_regenerate 56 = .ok (.aload_n 0, 1) ∧ 56 + 1 = 57 := ⟨by decide +kernel, rfl⟩
theorem d_A_regenerate_57 : decode b_A_regenerate 57 = .ok (.getfield 48, 3) ∧ 57 + 3 = 60 := ⟨by decide +kernel, rfl⟩
theorem d_A_regenerate_60 : decode b_A_regenerate 60 = .ok (.aload_n 0, 1) ∧ 60 + 1 = 61 := ⟨by decide +kernel, rfl⟩
theorem d_A_regenerate_61 : decode b_A_regenerate 61 = .ok (.getfield 9, 3) ∧ 61 + 3 = 64 := ⟨by decide +kernel, rfl⟩
theorem d_A_regenerate_64 : decode b_A_regenerate 64 = .ok (.aload_n 0, 1) ∧ 64 + 1 = 65 := ⟨by decide +kernel, rfl⟩
theorem d_A_regenerate_65 : decode b_A_regenerate 65 = .ok (.getfield 13, 3) ∧ 65 + 3 = 68 := ⟨by decide +kernel, rfl⟩
theorem d_A_regenerate_68 : decode b_A_regenerate 68 = .ok (.invokevirtual 132, 3) ∧ 68 + 3 = 71 := ⟨by decide +kernel, rfl⟩
theorem d_A_regenerate_71 : decode b_A_regenerate 71 = .ok (.iconst 1, 1) ∧ 71 + 1 = 72 := ⟨by decide +kernel, rfl⟩
theorem d_A_regenerate_72 : decode b_A_regenerate 72 = .ok (.ireturn, 1) := by decide +kernel
theorem d_A_requireBin_0 : decode b_A_requireBin 0 = .ok (.iload_n 1, 1) ∧ 0 + 1 = 1 := ⟨by decide +kernel, rfl⟩
theorem d_A_requireBin_1 : decode b_A_requireBin 1 = .ok (.invokestatic 95, 3) ∧ 1 + 3 = 4 := ⟨by decide +kernel, rfl⟩
theorem d_A_requireBin_4 : decode b_A_requireBin 4 = .ok (.aload_n 0, 1) ∧ 4 + 1 = 5 := ⟨by decide +kernel, rfl⟩
theorem d_A_requireBin_5 : decode b_A_requireBin 5 = .ok (.getfield 22, 3) ∧ 5 + 3 = 8 := ⟨by decide +kernel, rfl⟩
theorem d_A_requireBin_8 : decode b_A_requireBin 8 = .ok (.iload_n 1, 1) ∧ 8 + 1 = 9 := ⟨by decide +kernel, rfl⟩
theorem d_A_requireBin_9 : decode b_A_requireBin 9 = .ok (.aaload, 1) ∧ 9 + 1 = 10 := ⟨by decide +kernel, rfl⟩
theorem d_A_requireBin_10 : decode b_A_requireBin 10 = .ok (.getfield 129, 3) ∧ 10 + 3 = 13 := ⟨by decide +kernel, rfl⟩
theorem d_A_requireBin_13 : decode b_A_requireBin 13 = .ok (.invokestatic 86, 3) ∧ 13 + 3 = 16 := ⟨by decide +kernel, rfl⟩
theorem d_A_requireBin_16 : decode b_A_requireBin 16 = .ok (.iload_n 2, 1) ∧ 16 + 1 = 17 := ⟨by decide +kernel, rfl⟩
theorem d_A_requireBin_17 : decode b_A_requireBin 17 = .ok (.ifCond .lt 16, 3) ∧ 17 + 3 = 20 ∧ ((17 : Nat) : Int) + 16 = ((33 : Nat) : Int) := ⟨by decide +kernel, rfl, by decide⟩
theorem d_A_requireBin_20 : decode b_A_requireBin 20 = .ok (.iload_n 2, 1) ∧ 20 + 1 = 21 := ⟨by decide +kernel, rfl⟩
theorem d_A_requireBin_21 : decode b_A_requireBin 21 = .ok (.aload_n 0, 1) ∧ 21 + 1 = 22 := ⟨by decide +kernel, rfl⟩
theorem d_A_requireBin_22 : decode b_A_requireBin 22 = .ok (.getfield 22, 3) ∧ 22 + 3 = 25 := ⟨by decide +kernel, rfl⟩
theorem d_A_requireBin_25 : decode b_A_requireBin 25 = .ok (.iload_n 1, 1) ∧ 25 + 1 = 26 := ⟨by decide +kernel, rfl⟩
theorem d_A_requireBin_26 : decode b_A_requireBin 26 = .ok (.aaload, 1) ∧ 26 + 1 = 27 := ⟨by decide +kernel, rfl⟩
theorem d_A_requireBin_27 : decode b_A_requireBin 27 = .ok (.getfield 126, 3) ∧ 27 + 3 = 30 := ⟨by decide +kernel, rfl⟩
theorem d_A_requireBin_30 : decode b_A_requireBin 30 = .ok (.if_icmp .lt 13, 3) ∧ 30 + 3 = 33 ∧ ((30 : Nat) : Int) + 13 = ((43 : Nat) : Int) := ⟨by decide +kernel, rfl, by decide⟩
theorem d_A_requireBin_33 : decode b_A_requireBin 33 = .ok (.new 90, 3) ∧ 33 + 3 = 36 := ⟨by decide +kernel, rfl⟩
theorem d_A_requireBin_36 : decode b_A_requireBin 36 = .ok (.dup, 1) ∧ 36 + 1 = 37 := ⟨by decide +kernel, rfl⟩
theorem d_A_requireBin_37 : decode b_A_requireBin 37 = .ok (.ldc 199, 2) ∧ 37 + 2 = 39 := ⟨by decide +kernel, rfl⟩
theorem d_A_requireBin_39 : decode b_A_requireBin 39 = .ok (.invokespecial 94, 3) ∧ 39 + 3 = 42 := ⟨by decide +kernel, rfl⟩
theorem d_A_requireBin_42 : decode b_A_requireBin 42 = .ok (.athrow, 1) := by decide +kernel
theorem d_A_requireBin_43 : decode b_A_requireBin 43 = .ok (.return_, 1) := by decide +kernel
theorem d_A_requireMask_0 : decode b_A_requireMask 0 = .ok (.iload_n 0, 1) ∧ 0 + 1 = 1 := ⟨by decide +kernel, rfl⟩
theorem d_A_requireMask_1 : decode b_A_requireMask 1 = .ok (.ifCond .lt 10, 3) ∧ 1 + 3 = 4 ∧ ((1 : Nat) : Int) + 10 = ((11 : Nat) : Int) := ⟨by decide +kernel, rfl, by decide⟩
theorem d_A_requireMask_4 : decode b_A_requireMask 4 = .ok (.iload_n 0, 1) ∧ 4 + 1 = 5 := ⟨by decide +kernel, rfl⟩
theorem d_A_requireMask_5 : decode b_A_requireMask 5 = .ok (.sipush 255, 3) ∧ 5 + 3 = 8 := ⟨by decide +kernel, rfl⟩
theorem d_A_requireMask_8 : decode b_A_requireMask 8 = .ok (.if_icmp .le 13, 3) ∧ 8 + 3 = 11 ∧ ((8 : Nat) : Int) + 13 = ((21 : Nat) : Int) := ⟨by decide +kernel, rfl, by decide⟩
theorem d_A_requireMask_11 : decode b_A_requireMask 11 = .ok (.new 62, 3) ∧ 11 + 3 = 14 := ⟨by decide +kernel, rfl⟩
theorem d_A_requireMask_14 : decode b_A_requireMask 14 = .ok (.dup, 1) ∧ 14 + 1 = 15 := ⟨by decide +kernel, rfl⟩
theorem d_A_requireMask_15 : decode b_A_requireMask 15 = .ok (.ldc 201, 2) ∧ 15 + 2 = 17 := ⟨by decide +kernel, rfl⟩
theorem d_A_requireMask_17 : decode b_A_requireMask 17 = .ok (.invokespecial 66, 3) ∧ 17 + 3 = 20 := ⟨by decide +kernel, rfl⟩
theorem d_A_requireMask_20 : decode b_A_requireMask 20 = .ok (.athrow, 1) := by decide +kernel
theorem d_A_requireMask_21 : decode b_A_requireMask 21 = .ok (.return_, 1) := by decide +kernel
theorem d_A_requirePixel_0 : decode b_A_requirePixel 0 = .ok (.iload_n 1, 1) ∧ 0 + 1 = 1 := ⟨by decide +kernel, rfl⟩
theorem d_A_requirePixel_1 : decode b_A_requirePixel 1 = .ok (.ifCond .lt 23, 3) ∧ 1 + 3 = 4 ∧ ((1 : Nat) : Int) + 23 = ((24 : Nat) : Int) := ⟨by decide +kernel, rfl, by decide⟩
theorem d_A_requirePixel_4 : decode b_A_requirePixel 4 = .ok (.iload_n 1, 1) ∧ 4 + 1 = 5 := ⟨by decide +kernel, rfl⟩
theorem d_A_requirePixel_5 : decode b_A_requirePixel 5 = .ok (.aload_n 0, 1) ∧ 5 + 1 = 6 := ⟨by decide +kernel, rfl⟩
theorem d_A_requirePixel_6 : decode b_A_requirePixel 6 = .ok (.getfield 9, 3) ∧ 6 + 3 = 9 := ⟨by decide +kernel, rfl⟩
theorem d_A_requirePixel_9 : decode b_A_requirePixel 9 = .ok (.if_icmp .ge 15, 3) ∧ 9 + 3 = 12 ∧ ((9 : Nat) : Int) + 15 = ((24 : Nat) : Int) := ⟨by decide +kernel, rfl, by decide⟩
theorem d_A_requirePixel_12 : decode b_A_requirePixel 12 = .ok (.iload_n 2, 1) ∧ 12 + 1 = 13 := ⟨by decide +kernel, rfl⟩
theorem d_A_requirePixel_13 : decode b_A_requirePixel 13 = .ok (.ifCond .lt 11, 3) ∧ 13 + 3 = 16 ∧ ((13 : Nat) : Int) + 11 = ((24 : Nat) : Int) := ⟨by decide +kernel, rfl, by decide⟩
theorem d_A_requirePixel_16 : decode b_A_requirePixel 16 = .ok (.iload_n 2, 1) ∧ 16 + 1 = 17 := ⟨by decide +kernel, rfl⟩
theorem d_A_requirePixel_17 : decode b_A_requirePixel 17 = .ok (.aload_n 0, 1) ∧ 17 + 1 = 18 := ⟨by decide +kernel, rfl⟩
theorem d_A_requirePixel_18 : decode b_A_requirePixel 18 = .ok (.getfield 13, 3) ∧ 18 + 3 = 21 := ⟨by decide +kernel, rfl⟩
theorem d_A_requirePixel_21 : decode b_A_requirePixel 21 = .ok (.if_icmp .lt 13, 3) ∧ 21 + 3 = 24 ∧ ((21 : Nat) : Int) + 13 = ((34 : Nat) : Int) := ⟨by decide +kernel, rfl, by decide⟩
theorem d_A_requirePixel_24 : decode b_A_requirePixel 24 = .ok (.new 90, 3) ∧ 24 + 3 = 27 := ⟨by decide +kernel, rfl⟩
theorem d_A_requirePixel_27 : decode b_A_requirePixel 27 = .ok (.dup, 1) ∧ 27 + 1 = 28 := ⟨by decide +kernel, rfl⟩
theorem d_A_requirePixel_28 : decode b_A_requirePixel 28 = .ok (.ldc 195, 2) ∧ 28 + 2 = 30 := ⟨by decide +kernel, rfl⟩
theorem d_A_requirePixel_30 : decode b_A_requirePixel 30 = .ok (.invokespecial 94, 3) ∧ 30 + 3 = 33 := ⟨by decide +kernel, rfl⟩
theorem d_A_requirePixel_33 : decode b_A_requirePixel 33 = .ok (.athrow, 1) := by decide +kernel
theorem d_A_requirePixel_34 : decode b_A_requirePixel 34 = .ok (.return_, 1) := by decide +kernel
theorem d_A_requireShelf_0 : decode b_A_requireShelf 0 = .ok (.iload_n 0, 1) ∧ 0 + 1 = 1 := ⟨by decide +kernel, rfl⟩
theorem d_A_requireShelf_1 : decode b_A_requireShelf 1 = .ok (.ifCond .lt 9, 3) ∧ 1 + 3 = 4 ∧ ((1 : Nat) : Int) + 9 = ((10 : Nat) : Int) := ⟨by decide +kernel, rfl, by decide⟩
theorem d_A_requireShelf_4 : decode b_A_requireShelf 4 = .ok (.iload_n 0, 1) ∧ 4 + 1 = 5 := ⟨by decide +kernel, rfl⟩
theorem d_A_requireShelf_5 : decode b_A_requireShelf 5 = .ok (.bipush 8, 2) ∧ 5 + 2 = 7 := ⟨by decide +kernel, rfl⟩
theorem d_A_requireShelf_7 : decode b_A_requireShelf 7 = .ok (.if_icmp .lt 13, 3) ∧ 7 + 3 = 10 ∧ ((7 : Nat) : Int) + 13 = ((20 : Nat) : Int) := ⟨by decide +kernel, rfl, by decide⟩
theorem d_A_requireShelf_10 : decode b_A_requireShelf 10 = .ok (.new 90, 3) ∧ 10 + 3 = 13 := ⟨by decide +kernel, rfl⟩
theorem d_A_requireShelf_13 : decode b_A_requireShelf 13 = .ok (.dup, 1) ∧ 13 + 1 = 14 := ⟨by decide +kernel, rfl⟩
theorem d_A_requireShelf_14 : decode b_A_requireShelf 14 = .ok (.ldc 197, 2) ∧ 14 + 2 = 16 := ⟨by decide +kernel, rfl⟩
theorem d_A_requireShelf_16 : decode b_A_requireShelf 16 = .ok (.invokespecial 94, 3) ∧ 16 + 3 = 19 := ⟨by decide +kernel, rfl⟩
theorem d_A_requireShelf_19 : decode b_A_requireShelf 19 = .ok (.athrow, 1) := by decide +kernel
theorem d_A_requireShelf_20 : decode b_A_requireShelf 20 = .ok (.return_, 1) := by decide +kernel
theorem d_A_requireState_0 : decode b_A_requireState 0 = .ok (.iload_n 0, 1) ∧ 0 + 1 = 1 := ⟨by decide +kernel, rfl⟩
theorem d_A_requireState_1 : decode b_A_requireState 1 = .ok (.ifCond .ne 13, 3) ∧ 1 + 3 = 4 ∧ ((1 : Nat) : Int) + 13 = ((14 : Nat) : Int) := ⟨by decide +kernel, rfl, by decide⟩
theorem d_A_requireState_4 : decode b_A_requireState 4 = .ok (.new 203, 3) ∧ 4 + 3 = 7 := ⟨by decide +kernel, rfl⟩
theorem d_A_requireState_7 : decode b_A_requireState 7 = .ok (.dup, 1) ∧ 7 + 1 = 8 := ⟨by decide +kernel, rfl⟩
theorem d_A_requireState_8 : decode b_A_requireState 8 = .ok (.ldc 205, 2) ∧ 8 + 2 = 10 := ⟨by decide +kernel, rfl⟩
theorem d_A_requireState_10 : decode b_A_requireState 10 = .ok (.invokespecial 207, 3) ∧ 10 + 3 = 13 := ⟨by decide +kernel, rfl⟩
theorem d_A_requireState_13 : decode b_A_requireState 13 = .ok (.athrow, 1) := by decide +kernel
theorem d_A_requireState_14 : decode b_A_requireState 14 = .ok (.return_, 1) := by decide +kernel
theorem d_A_shelf_0 : decode b_A_shelf 0 = .ok (.iload_n 1, 1) ∧ 0 + 1 = 1 := ⟨by decide +kernel, rfl⟩
theorem d_A_shelf_1 : decode b_A_shelf 1 = .ok (.invokestatic 95, 3) ∧ 1 + 3 = 4 := ⟨by decide +kernel, rfl⟩
theorem d_A_shelf_4 : decode b_A_shelf 4 = .ok (.iload_n 2, 1) ∧ 4 + 1 = 5 := ⟨by decide +kernel, rfl⟩
theorem d_A_shelf_5 : decode b_A_shelf 5 = .ok (.ifCond .lt 8, 3) ∧ 5 + 3 = 8 ∧ ((5 : Nat) : Int) + 8 = ((13 : Nat) : Int) := ⟨by decide +kernel, rfl, by decide⟩
theorem d_A_shelf_8 : decode b_A_shelf 8 = .ok (.iload_n 2, 1) ∧ 8 + 1 = 9 := ⟨by decide +kernel, rfl⟩
theorem d_A_shelf_9 : decode b_A_shelf 9 = .ok (.iconst 3, 1) ∧ 9 + 1 = 10 := ⟨by decide +kernel, rfl⟩
theorem d_A_shelf_10 : decode b_A_shelf 10 = .ok (.if_icmp .le 13, 3) ∧ 10 + 3 = 13 ∧ ((10 : Nat) : Int) + 13 = ((23 : Nat) : Int) := ⟨by decide +kernel, rfl, by decide⟩
theorem d_A_shelf_13 : decode b_A_shelf 13 = .ok (.new 90, 3) ∧ 13 + 3 = 16 := ⟨by decide +kernel, rfl⟩
theorem d_A_shelf_16 : decode b_A_shelf 16 = .ok (.dup, 1) ∧ 16 + 1 = 17 := ⟨by decide +kernel, rfl⟩
theorem d_A_shelf_17 : decode b_A_shelf 17 = .ok (.ldc 115, 2) ∧ 17 + 2 = 19 := ⟨by decide +kernel, rfl⟩
theorem d_A_shelf_19 : decode b_A_shelf 19 = .ok (.invokespecial 94, 3) ∧ 19 + 3 = 22 := ⟨by decide +kernel, rfl⟩
theorem d_A_shelf_22 : decode b_A_shelf 22 = .ok (.athrow, 1) := by decide +kernel
theorem d_A_shelf_23 : decode b_A_shelf 23 = .ok (.aload_n 0, 1) ∧ 23 + 1 = 24 := ⟨by decide +kernel, rfl⟩
theorem d_A_shelf_24 : decode b_A_shelf 24 = .ok (.getfield 22, 3) ∧ 24 + 3 = 27 := ⟨by decide +kernel, rfl⟩
theorem d_A_shelf_27 : decode b_A_shelf 27 = .ok (.iload_n 1, 1) ∧ 27 + 1 = 28 := ⟨by decide +kernel, rfl⟩
theorem d_A_shelf_28 : decode b_A_shelf 28 = .ok (.aaload, 1) ∧ 28 + 1 = 29 := ⟨by decide +kernel, rfl⟩
theorem d_A_shelf_29 : decode b_A_shelf 29 = .ok (.astore_n 3, 1) ∧ 29 + 1 = 30 := ⟨by decide +kernel, rfl⟩
theorem d_A_shelf_30 : decode b_A_shelf 30 = .ok (.aload_n 3, 1) ∧ 30 + 1 = 31 := ⟨by decide +kernel, rfl⟩
theorem d_A_shelf_31 : decode b_A_shelf 31 = .ok (.getfield 117, 3) ∧ 31 + 3 = 34 := ⟨by decide +kernel, rfl⟩
theorem d_A_shelf_34 : decode b_A_shelf 34 = .ok (.invokestatic 86, 3) ∧ 34 + 3 = 37 := ⟨by decide +kernel, rfl⟩
theorem d_A_shelf_37 : decode b_A_shelf 37 = .ok (.iload_n 2, 1) ∧ 37 + 1 = 38 := ⟨by decide +kernel, rfl⟩
theorem d_A_shelf_38 : decode b_A_shelf 38 = .ok (.tableswitch 41 0 2 #[26, 31, 36], 26) := by decide +kernel
theorem d_A_shelf_64 : decode b_A_shelf 64 = .ok (.aload_n 3, 1) ∧ 64 + 1 = 65 := ⟨by decide +kernel, rfl⟩
theorem d_A_shelf_65 : decode b_A_shelf 65 = .ok (.getfield 120, 3) ∧ 65 + 3 = 68 := ⟨by decide +kernel, rfl⟩
theorem d_A_shelf_68 : decode b_A_shelf 68 = .ok (.ireturn, 1) := by decide +kernel
theorem d_A_shelf_69 : decode b_A_shelf 69 = .ok (.aload_n 3, 1) ∧ 69 + 1 = 70 := ⟨by decide +kernel, rfl⟩
theorem d_A_shelf_70 : decode b_A_shelf 70 = .ok (.getfield 123, 3) ∧ 70 + 3 = 73 := ⟨by decide +kernel, rfl⟩
theorem d_A_shelf_73 : decode b_A_shelf 73 = .ok (.ireturn, 1) := by decide +kernel
theorem d_A_shelf_74 : decode b_A_shelf 74 = .ok (.aload_n 3, 1) ∧ 74 + 1 = 75 := ⟨by decide +kernel, rfl⟩
theorem d_A_shelf_75 : decode b_A_shelf 75 = .ok (.getfield 126, 3) ∧ 75 + 3 = 78 := ⟨by decide +kernel, rfl⟩
theorem d_A_shelf_78 : decode b_A_shelf 78 = .ok (.ireturn, 1) := by decide +kernel
theorem d_A_shelf_79 : decode b_A_shelf 79 = .ok (.aload_n 3, 1) ∧ 79 + 1 = 80 := ⟨by decide +kernel, rfl⟩
theorem d_A_shelf_80 : decode b_A_shelf 80 = .ok (.getfield 129, 3) ∧ 80 + 3 = 83 := ⟨by decide +kernel, rfl⟩
theorem d_A_shelf_83 : decode b_A_shelf 83 = .ok (.ifCond .eq 7, 3) ∧ 83 + 3 = 86 ∧ ((83 : Nat) : Int) + 7 = ((90 : Nat) : Int) := ⟨by decide +kernel, rfl, by decide⟩
theorem d_A_shelf_86 : decode b_A_shelf 86 = .ok (.iconst 1, 1) ∧ 86 + 1 = 87 := ⟨by decide +kernel, rfl⟩
theorem d_A_shelf_87 : decode b_A_shelf 87 = .ok (.goto 4, 3) ∧ ((87 : Nat) : Int) + 4 = ((91 : Nat) : Int) := ⟨by decide +kernel, by decide⟩
theorem d_A_shelf_90 : decode b_A_shelf 90 = .ok (.iconst 0, 1) ∧ 90 + 1 = 91 := ⟨by decide +kernel, rfl⟩
theorem d_A_shelf_91 : decode b_A_shelf 91 = .ok (.ireturn, 1) := by decide +kernel
theorem d_A_size_0 : decode b_A_size 0 = .ok (.iload_n 1, 1) ∧ 0 + 1 = 1 := ⟨by decide +kernel, rfl⟩
theorem d_A_size_1 : decode b_A_size 1 = .ok (.iconst 1, 1) ∧ 1 + 1 = 2 := ⟨by decide +kernel, rfl⟩
theorem d_A_size_2 : decode b_A_size 2 = .ok (.if_icmp .lt 20, 3) ∧ 2 + 3 = 5 ∧ ((2 : Nat) : Int) + 20 = ((22 : Nat) : Int) := ⟨by decide +kernel, rfl, by decide⟩
theorem d_A_size_5 : decode b_A_size 5 = .ok (.iload_n 1, 1) ∧ 5 + 1 = 6 := ⟨by decide +kernel, rfl⟩
theorem d_A_size_6 : decode b_A_size 6 = .ok (.bipush 16, 2) ∧ 6 + 2 = 8 := ⟨by decide +kernel, rfl⟩
theorem d_A_size_8 : decode b_A_size 8 = .ok (.if_icmp .gt 14, 3) ∧ 8 + 3 = 11 ∧ ((8 : Nat) : Int) + 14 = ((22 : Nat) : Int) := ⟨by decide +kernel, rfl, by decide⟩
theorem d_A_size_11 : decode b_A_size 11 = .ok (.iload_n 2, 1) ∧ 11 + 1 = 12 := ⟨by decide +kernel, rfl⟩
theorem d_A_size_12 : decode b_A_size 12 = .ok (.iconst 1, 1) ∧ 12 + 1 = 13 := ⟨by decide +kernel, rfl⟩
theorem d_A_size_13 : decode b_A_size 13 = .ok (.if_icmp .lt 9, 3) ∧ 13 + 3 = 16 ∧ ((13 : Nat) : Int) + 9 = ((22 : Nat) : Int) := ⟨by decide +kernel, rfl, by decide⟩
theorem d_A_size_16 : decode b_A_size 16 = .ok (.iload_n 2, 1) ∧ 16 + 1 = 17 := ⟨by decide +kernel, rfl⟩
theorem d_A_size_17 : decode b_A_size 17 = .ok (.bipush 16, 2) ∧ 17 + 2 = 19 := ⟨by decide +kernel, rfl⟩
theorem d_A_size_19 : decode b_A_size 19 = .ok (.if_icmp .le 13, 3) ∧ 19 + 3 = 22 ∧ ((19 : Nat) : Int) + 13 = ((32 : Nat) : Int) := ⟨by decide +kernel, rfl, by decide⟩
theorem d_A_size_22 : decode b_A_size 22 = .ok (.new 62, 3) ∧ 22 + 3 = 25 := ⟨by decide +kernel, rfl⟩
theorem d_A_size_25 : decode b_A_size 25 = .ok (.dup, 1) ∧ 25 + 1 = 26 := ⟨by decide +kernel, rfl⟩
theorem d_A_size_26 : decode b_A_size 26 = .ok (.ldc 64, 2) ∧ 26 + 2 = 28 := ⟨by decide +kernel, rfl⟩
theorem d_A_size_28 : decode b_A_size 28 = .ok (.invokespecial 66, 3) ∧ 28 + 3 = 31 := ⟨by decide +kernel, rfl⟩
theorem d_A_size_31 : decode b_A_size 31 = .ok (.athrow, 1) := by decide +kernel
theorem d_A_size_32 : decode b_A_size 32 = .ok (.aload_n 0, 1) ∧ 32 + 1 = 33 := ⟨by decide +kernel, rfl⟩
theorem d_A_size_33 : decode b_A_size 33 = .ok (.iload_n 1, 1) ∧ 33 + 1 = 34 := ⟨by decide +kernel, rfl⟩
theorem d_A_size_34 : decode b_A_size 34 = .ok (.putfield 9, 3) ∧ 34 + 3 = 37 := ⟨by decide +kernel, rfl⟩
theorem d_A_size_37 : decode b_A_size 37 = .ok (.aload_n 0, 1) ∧ 37 + 1 = 38 := ⟨by decide +kernel, rfl⟩
theorem d_A_size_38 : decode b_A_size 38 = .ok (.iload_n 2, 1) ∧ 38 + 1 = 39 := ⟨by decide +kernel, rfl⟩
theorem d_A_size_39 : decode b_A_size 39 = .ok (.putfield 13, 3) ∧ 39 + 3 = 42 := ⟨by decide +kernel, rfl⟩
theorem d_A_size_42 : decode b_A_size 42 = .ok (.aload_n 0, 1) ∧ 42 + 1 = 43 := ⟨by decide +kernel, rfl⟩
theorem d_A_size_43 : decode b_A_size 43 = .ok (.getfield 16, 3) ∧ 43 + 3 = 46 := ⟨by decide +kernel, rfl⟩
theorem d_A_size_46 : decode b_A_size 46 = .ok (.iconst 0, 1) ∧ 46 + 1 = 47 := ⟨by decide +kernel, rfl⟩
theorem d_A_size_47 : decode b_A_size 47 = .ok (.invokestatic 69, 3) ∧ 47 + 3 = 50 := ⟨by decide +kernel, rfl⟩
theorem d_A_size_50 : decode b_A_size 50 = .ok (.iconst 0, 1) ∧ 50 + 1 = 51 := ⟨by decide +kernel, rfl⟩
theorem d_A_size_51 : decode b_A_size 51 = .ok (.istore_n 3, 1) ∧ 51 + 1 = 52 := ⟨by decide +kernel, rfl⟩
theorem d_A_size_52 : decode b_A_size 52 = .ok (.iload_n 3, 1) ∧ 52 + 1 = 53 := ⟨by decide +kernel, rfl⟩
theorem d_A_size_53 : decode b_A_size 53 = .ok (.bipush 8, 2) ∧ 53 + 2 = 55 := ⟨by decide +kernel, rfl⟩
theorem d_A_size_55 : decode b_A_size 55 = .ok (.if_icmp .ge 18, 3) ∧ 55 + 3 = 58 ∧ ((55 : Nat) : Int) + 18 = ((73 : Nat) : Int) := ⟨by decide +kernel, rfl, by decide⟩
theorem d_A_size_58 : decode b_A_size 58 = .ok (.aload_n 0, 1) ∧ 58 + 1 = 59 := ⟨by decide +kernel, rfl⟩
theorem d_A_size_59 : decode b_A_size 59 = .ok (.getfield 22, 3) ∧ 59 + 3 = 62 := ⟨by decide +kernel, rfl⟩
theorem d_A_size_62 : decode b_A_size 62 = .ok (.iload_n 3, 1) ∧ 62 + 1 = 63 := ⟨by decide +kernel, rfl⟩
theorem d_A_size_63 : decode b_A_size 63 = .ok (.aaload, 1) ∧ 63 + 1 = 64 := ⟨by decide +kernel, rfl⟩
theorem d_A_size_64 : decode b_A_size 64 = .ok (.invokevirtual 75, 3) ∧ 64 + 3 = 67 := ⟨by decide +kernel, rfl⟩
theorem d_A_size_67 : decode b_A_size 67 = .ok (.iinc 3 1, 3) ∧ 67 + 3 = 70 := ⟨by decide +kernel, rfl⟩
theorem d_A_size_70 : decode b_A_size 70 = .ok (.goto (-18), 3) ∧ ((70 : Nat) : Int) + (-18) = ((52 : Nat) : Int) := ⟨by decide +kernel, by decide⟩
theorem d_A_size_73 : decode b_A_size 73 = .ok (.aload_n 0, 1) ∧ 73 + 1 = 74 := ⟨by decide +kernel, rfl⟩
theorem d_A_size_74 : decode b_A_size 74 = .ok (.iconst 0, 1) ∧ 74 + 1 = 75 := ⟨by decide +kernel, rfl⟩
theorem d_A_size_75 : decode b_A_size 75 = .ok (.putfield 26, 3) ∧ 75 + 3 = 78 := ⟨by decide +kernel, rfl⟩
theorem d_A_size_78 : decode b_A_size 78 = .ok (.aload_n 0, 1) ∧ 78 + 1 = 79 := ⟨by decide +kernel, rfl⟩
theorem d_A_size_79 : decode b_A_size 79 = .ok (.iconst 0, 1) ∧ 79 + 1 = 80 := ⟨by decide +kernel, rfl⟩
theorem d_A_size_80 : decode b_A_size 80 = .ok (.putfield 36, 3) ∧ 80 + 3 = 83 := ⟨by decide +kernel, rfl⟩
theorem d_A_size_83 : decode b_A_size 83 = .ok (.return_, 1) := by decide +kernel
theorem d_A_solve_0 : decode b_A_solve 0 = .ok (.iconst 0, 1) ∧ 0 + 1 = 1 := ⟨by decide +kernel, rfl⟩
theorem d_A_solve_1 : decode b_A_solve 1 = .ok (.istore_n 2, 1) ∧ 1 + 1 = 2 := ⟨by decide +kernel, rfl⟩
theorem d_A_solve_2 : decode b_A_solve 2 = .ok (.iload_n 2, 1) ∧ 2 + 1 = 3 := ⟨by decide +kernel, rfl⟩
theorem d_A_solve_3 : decode b_A_solve 3 = .ok (.bipush 8, 2) ∧ 3 + 2 = 5 := ⟨by decide +kernel, rfl⟩
theorem d_A_solve_5 : decode b_A_solve 5 = .ok (.if_icmp .ge 40, 3) ∧ 5 + 3 = 8 ∧ ((5 : Nat) : Int) + 40 = ((45 : Nat) : Int) := ⟨by decide +kernel, rfl, by decide⟩
theorem d_A_solve_8 : decode b_A_solve 8 = .ok (.iload_n 1, 1) ∧ 8 + 1 = 9 := ⟨by decide +kernel, rfl⟩
theorem d_A_solve_9 : decode b_A_solve 9 = .ok (.iload_n 2, 1) ∧ 9 + 1 = 10 := ⟨by decide +kernel, rfl⟩
theorem d_A_solve_10 : decode b_A_solve 10 = .ok (.invokestatic 177, 3) ∧ 10 + 3 = 13 := ⟨by decide +kernel, rfl⟩
theorem d_A_solve_13 : decode b_A_solve 13 = .ok (.ifCond .eq 26, 3) ∧ 13 + 3 = 16 ∧ ((13 : Nat) : Int) + 26 = ((39 : Nat) : Int) := ⟨by decide +kernel, rfl, by decide⟩
theorem d_A_solve_16 : decode b_A_solve 16 = .ok (.aload_n 0, 1) ∧ 16 + 1 = 17 := ⟨by decide +kernel, rfl⟩
theorem d_A_solve_17 : decode b_A_solve 17 = .ok (.getfield 53, 3) ∧ 17 + 3 = 20 := ⟨by decide +kernel, rfl⟩
theorem d_A_solve_20 : decode b_A_solve 20 = .ok (.iload_n 2, 1) ∧ 20 + 1 = 21 := ⟨by decide +kernel, rfl⟩
theorem d_A_solve_21 : decode b_A_solve 21 = .ok (.aaload, 1) ∧ 21 + 1 = 22 := ⟨by decide +kernel, rfl⟩
theorem d_A_solve_22 : decode b_A_solve 22 = .ok (.aload_n 0, 1) ∧ 22 + 1 = 23 := ⟨by decide +kernel, rfl⟩
theorem d_A_solve_23 : decode b_A_solve 23 = .ok (.getfield 22, 3) ∧ 23 + 3 = 26 := ⟨by decide +kernel, rfl⟩
theorem d_A_solve_26 : decode b_A_solve 26 = .ok (.iload_n 2, 1) ∧ 26 + 1 = 27 := ⟨by decide +kernel, rfl⟩
theorem d_A_solve_27 : decode b_A_solve 27 = .ok (.aaload, 1) ∧ 27 + 1 = 28 := ⟨by decide +kernel, rfl⟩
theorem d_A_solve_28 : decode b_A_solve 28 = .ok (.aload_n 0, 1) ∧ 28 + 1 = 29 := ⟨by decide +kernel, rfl⟩
theorem d_A_solve_29 : decode b_A_solve 29 = .ok (.getfield 9, 3) ∧ 29 + 3 = 32 := ⟨by decide +kernel, rfl⟩
theorem d_A_solve_32 : decode b_A_solve 32 = .ok (.aload_n 0, 1) ∧ 32 + 1 = 33 := ⟨by decide +kernel, rfl⟩
theorem d_A_solve_33 : decode b_A_solve 33 = .ok (.getfield 13, 3) ∧ 33 + 3 = 36 := ⟨by decide +kernel, rfl⟩
theorem d_A_solve_36 : decode b_A_solve 36 = .ok (.invokevirtual 216, 3) ∧ 36 + 3 = 39 := ⟨by decide +kernel, rfl⟩
theorem d_A_solve_39 : decode b_A_solve 39 = .ok (.iinc 2 1, 3) ∧ 39 + 3 = 42 := ⟨by decide +kernel, rfl⟩
theorem d_A_solve_42 : decode b_A_solve 42 = .ok (.goto (-40), 3) ∧ ((42 : Nat) : Int) + (-40) = ((2 : Nat) : Int) := ⟨by decide +kernel, by decide⟩
theorem d_A_solve_45 : decode b_A_solve 45 = .ok (.aload_n 0, 1) ∧ 45 + 1 = 46 := ⟨by decide +kernel, rfl⟩
theorem d_A_solve_46 : decode b_A_solve 46 = .ok (.getfield 9, 3) ∧ 46 + 3 = 49 := ⟨by decide +kernel, rfl⟩
theorem d_A_solve_49 : decode b_A_solve 49 = .ok (.aload_n 0, 1) ∧ 49 + 1 = 50 := ⟨by decide +kernel, rfl⟩
theorem d_A_solve_50 : decode b_A_solve 50 = .ok (.getfield 13, 3) ∧ 50 + 3 = 53 := ⟨by decide +kernel, rfl⟩
theorem d_A_solve_53 : decode b_A_solve 53 = .ok (.imul, 1) ∧ 53 + 1 = 54 := ⟨by decide +kernel, rfl⟩
theorem d_A_solve_54 : decode b_A_solve 54 = .ok (.istore_n 2, 1) ∧ 54 + 1 = 55 := ⟨by decide +kernel, rfl⟩
theorem d_A_solve_55 : decode b_A_solve 55 = .ok (.iconst 0, 1) ∧ 55 + 1 = 56 := ⟨by decide +kernel, rfl⟩
theorem d_A_solve_56 : decode b_A_solve 56 = .ok (.istore_n 3, 1) ∧ 56 + 1 = 57 := ⟨by decide +kernel, rfl⟩
theorem d_A_solve_57 : decode b_A_solve 57 = .ok (.iload_n 3, 1) ∧ 57 + 1 = 58 := ⟨by decide +kernel, rfl⟩
theorem d_A_solve_58 : decode b_A_solve 58 = .ok (.iload_n 2, 1) ∧ 58 + 1 = 59 := ⟨by decide +kernel, rfl⟩
theorem d_A_solve_59 : decode b_A_solve 59 = .ok (.if_icmp .ge 49, 3) ∧ 59 + 3 = 62 ∧ ((59 : Nat) : Int) + 49 = ((108 : Nat) : Int) := ⟨by decide +kernel, rfl, by decide⟩
theorem d_A_solve_62 : decode b_A_solve 62 = .ok (.aload_n 0, 1) ∧ 62 + 1 = 63 := ⟨by decide +kernel, rfl⟩
theorem d_A_solve_63 : decode b_A_solve 63 = .ok (.iload_n 1, 1) ∧ 63 + 1 = 64 := ⟨by decide +kernel, rfl⟩
theorem d_A_solve_64 : decode b_A_solve 64 = .ok (.invokevirtual 220, 3) ∧ 64 + 3 = 67 := ⟨by decide +kernel, rfl⟩
theorem d_A_solve_67 : decode b_A_solve 67 = .ok (.istore 4, 2) ∧ 67 + 2 = 69 := ⟨by decide +kernel, rfl⟩
theorem d_A_solve_69 : decode b_A_solve 69 = .ok (.iload 4, 2) ∧ 69 + 2 = 71 := ⟨by decide +kernel, rfl⟩
theorem d_A_solve_71 : decode b_A_solve 71 = .ok (.iconst (-1), 1) ∧ 71 + 1 = 72 := ⟨by decide +kernel, rfl⟩
theorem d_A_solve_72 : decode b_A_solve 72 = .ok (.if_icmp .ne 5, 3) ∧ 72 + 3 = 75 ∧ ((72 : Nat) : Int) + 5 = ((77 : Nat) : Int) := ⟨by decide +kernel, rfl, by decide⟩
theorem d_A_solve_75 : decode b_A_solve 75 = .ok (.iload_n 3, 1) ∧ 75 + 1 = 76 := ⟨by decide +kernel, rfl⟩
theorem d_A_solve_76 : decode b_A_solve 76 = .ok (.ireturn, 1) := by decide +kernel
theorem d_A_solve_77 : decode b_A_solve 77 = .ok (.aload_n 0, 1) ∧ 77 + 1 = 78 := ⟨by decide +kernel, rfl⟩
theorem d_A_solve_78 : decode b_A_solve 78 = .ok (.iload_n 1, 1) ∧ 78 + 1 = 79 := ⟨by decide +kernel, rfl⟩
theorem d_A_solve_79 : decode b_A_solve 79 = .ok (.aload_n 0, 1) ∧ 79 + 1 = 80 := ⟨by decide +kernel, rfl⟩
theorem d_A_solve_80 : decode b_A_solve 80 = .ok (.getfield 53, 3) ∧ 80 + 3 = 83 := ⟨by decide +kernel, rfl⟩
theorem d_A_solve_83 : decode b_A_solve 83 = .ok (.iload 4, 2) ∧ 83 + 2 = 85 := ⟨by decide +kernel, rfl⟩
theorem d_A_solve_85 : decode b_A_solve 85 = .ok (.aaload, 1) ∧ 85 + 1 = 86 := ⟨by decide +kernel, rfl⟩
theorem d_A_solve_86 : decode b_A_solve 86 = .ok (.invokevirtual 223, 3) ∧ 86 + 3 = 89 := ⟨by decide +kernel, rfl⟩
theorem d_A_solve_89 : decode b_A_solve 89 = .ok (.aload_n 0, 1) ∧ 89 + 1 = 90 := ⟨by decide +kernel, rfl⟩
theorem d_A_solve_90 : decode b_A_solve 90 = .ok (.getfield 53, 3) ∧ 90 + 3 = 93 := ⟨by decide +kernel, rfl⟩
theorem d_A_solve_93 : decode b_A_solve 93 = .ok (.iload 4, 2) ∧ 93 + 2 = 95 := ⟨by decide +kernel, rfl⟩
theorem d_A_solve_95 : decode b_A_solve 95 = .ok (.aaload, 1) ∧ 95 + 1 = 96 := ⟨by decide +kernel, rfl⟩
theorem d_A_solve_96 : decode b_A_solve 96 = .ok (.invokevirtual 226, 3) ∧ 96 + 3 = 99 := ⟨by decide +kernel, rfl⟩
theorem d_A_solve_99 : decode b_A_solve 99 = .ok (.invokevirtual 229, 3) ∧ 99 + 3 = 102 := ⟨by decide +kernel, rfl⟩
theorem d_A_solve_102 : decode b_A_solve 102 = .ok (.iinc 3 1, 3) ∧ 102 + 3 = 105 := ⟨by decide +kernel, rfl⟩
theorem d_A_solve_105 : decode b_A_solve 105 = .ok (.goto (-48), 3) ∧ ((105 : Nat) : Int) + (-48) = ((57 : Nat) : Int) := ⟨by decide +kernel, by decide⟩
theorem d_A_solve_108 : decode b_A_solve 108 = .ok (.iload_n 2, 1) ∧ 108 + 1 = 109 := ⟨by decide +kernel, rfl⟩
theorem d_A_solve_109 : decode b_A_solve 109 = .ok (.ireturn, 1) := by decide +kernel
theorem d_A_takeGhostMoved_0 : decode b_A_takeGhostMoved 0 = .ok (.aload_n 0, 1) ∧ 0 + 1 = 1 := ⟨by decide +kernel, rfl⟩
theorem d_A_takeGhostMoved_1 : decode b_A_takeGhostMoved 1 = .ok (.getfield 13, 3) ∧ 1 + 3 = 4 := ⟨by decide +kernel, rfl⟩
theorem d_A_takeGhostMoved_4 : decode b_A_takeGhostMoved 4 = .ok (.iconst 1, 1) ∧ 4 + 1 = 5 := ⟨by decide +kernel, rfl⟩
theorem d_A_takeGhostMoved_5 : decode b_A_takeGhostMoved 5 = .ok (.isub, 1) ∧ 5 + 1 = 6 := ⟨by decide +kernel, rfl⟩
theorem d_A_takeGhostMoved_6 : decode b_A_takeGhostMoved 6 = .ok (.istore_n 3, 1) ∧ 6 + 1 = 7 := ⟨by decide +kernel, rfl⟩
theorem d_A_takeGhostMoved_7 : decode b_A_takeGhostMoved 7 = .ok (.iload_n 3, 1) ∧ 7 + 1 = 8 := ⟨by decide +kernel, rfl⟩
theorem d_A_takeGhostMoved_8 : decode b_A_takeGhostMoved 8 = .ok (.iload_n 2, 1) ∧ 8 + 1 = 9 := ⟨by decide +kernel, rfl⟩
theorem d_A_takeGhostMoved_9 : decode b_A_takeGhostMoved 9 = .ok (.if_icmp .lt 75, 3) ∧ 9 + 3 = 12 ∧ ((9 : Nat) : Int) + 75 = ((84 : Nat) : Int) := ⟨by decide +kernel, rfl, by decide⟩
theorem d_A_takeGhostMoved_12 : decode b_A_takeGhostMoved 12 = .ok (.aload_n 0, 1) ∧ 12 + 1 = 13 := ⟨by decide +kernel, rfl⟩
theorem d_A_takeGhostMoved_13 : decode b_A_takeGhostMoved 13 = .ok (.getfield 9, 3) ∧ 13 + 3 = 16 := ⟨by decide +kernel, rfl⟩
theorem d_A_takeGhostMoved_16 : decode b_A_takeGhostMoved 16 = .ok (.iconst 1, 1) ∧ 16 + 1 = 17 := ⟨by decide +kernel, rfl⟩
theorem d_A_takeGhostMoved_17 : decode b_A_takeGhostMoved 17 = .ok (.isub, 1) ∧ 17 + 1 = 18 := ⟨by decide +kernel, rfl⟩
theorem d_A_takeGhostMoved_18 : decode b_A_takeGhostMoved 18 = .ok (.istore 4, 2) ∧ 18 + 2 = 20 := ⟨by decide +kernel, rfl⟩
theorem d_A_takeGhostMoved_20 : decode b_A_takeGhostMoved 20 = .ok (.iload 4, 2) ∧ 20 + 2 = 22 := ⟨by decide +kernel, rfl⟩
theorem d_A_takeGhostMoved_22 : decode b_A_takeGhostMoved 22 = .ok (.ifCond .lt 56, 3) ∧ 22 + 3 = 25 ∧ ((22 : Nat) : Int) + 56 = ((78 : Nat) : Int) := ⟨by decide +kernel, rfl, by decide⟩
theorem d_A_takeGhostMoved_25 : decode b_A_takeGhostMoved 25 = .ok (.iload 4, 2) ∧ 25 + 2 = 27 := ⟨by decide +kernel, rfl⟩
theorem d_A_takeGhostMoved_27 : decode b_A_takeGhostMoved 27 = .ok (.iload_n 1, 1) ∧ 27 + 1 = 28 := ⟨by decide +kernel, rfl⟩
theorem d_A_takeGhostMoved_28 : decode b_A_takeGhostMoved 28 = .ok (.isub, 1) ∧ 28 + 1 = 29 := ⟨by decide +kernel, rfl⟩
theorem d_A_takeGhostMoved_29 : decode b_A_takeGhostMoved 29 = .ok (.istore 5, 2) ∧ 29 + 2 = 31 := ⟨by decide +kernel, rfl⟩
theorem d_A_takeGhostMoved_31 : decode b_A_takeGhostMoved 31 = .ok (.iload 5, 2) ∧ 31 + 2 = 33 := ⟨by decide +kernel, rfl⟩
theorem d_A_takeGhostMoved_33 : decode b_A_takeGhostMoved 33 = .ok (.ifCond .lt 39, 3) ∧ 33 + 3 = 36 ∧ ((33 : Nat) : Int) + 39 = ((72 : Nat) : Int) := ⟨by decide +kernel, rfl, by decide⟩
theorem d_A_takeGhostMoved_36 : decode b_A_takeGhostMoved 36 = .ok (.iload 5, 2) ∧ 36 + 2 = 38 := ⟨by decide +kernel, rfl⟩
theorem d_A_takeGhostMoved_38 : decode b_A_takeGhostMoved 38 = .ok (.aload_n 0, 1) ∧ 38 + 1 = 39 := ⟨by decide +kernel, rfl⟩
theorem d_A_takeGhostMoved_39 : decode b_A_takeGhostMoved 39 = .ok (.getfield 9, 3) ∧ 39 + 3 = 42 := ⟨by decide +kernel, rfl⟩
theorem d_A_takeGhostMoved_42 : decode b_A_takeGhostMoved 42 = .ok (.if_icmp .ge 30, 3) ∧ 42 + 3 = 45 ∧ ((42 : Nat) : Int) + 30 = ((72 : Nat) : Int) := ⟨by decide +kernel, rfl, by decide⟩
theorem d_A_takeGhostMoved_45 : decode b_A_takeGhostMoved 45 = .ok (.aload_n 0, 1) ∧ 45 + 1 = 46 := ⟨by decide +kernel, rfl⟩
theorem d_A_takeGhostMoved_46 : decode b_A_takeGhostMoved 46 = .ok (.getfield 57, 3) ∧ 46 + 3 = 49 := ⟨by decide +kernel, rfl⟩
theorem d_A_takeGhostMoved_49 : decode b_A_takeGhostMoved 49 = .ok (.iload 4, 2) ∧ 49 + 2 = 51 := ⟨by decide +kernel, rfl⟩
theorem d_A_takeGhostMoved_51 : decode b_A_takeGhostMoved 51 = .ok (.iload_n 3, 1) ∧ 51 + 1 = 52 := ⟨by decide +kernel, rfl⟩
theorem d_A_takeGhostMoved_52 : decode b_A_takeGhostMoved 52 = .ok (.invokestatic 82, 3) ∧ 52 + 3 = 55 := ⟨by decide +kernel, rfl⟩
theorem d_A_takeGhostMoved_55 : decode b_A_takeGhostMoved 55 = .ok (.dup2, 1) ∧ 55 + 1 = 56 := ⟨by decide +kernel, rfl⟩
theorem d_A_takeGhostMoved_56 : decode b_A_takeGhostMoved 56 = .ok (.iaload, 1) ∧ 56 + 1 = 57 := ⟨by decide +kernel, rfl⟩
theorem d_A_takeGhostMoved_57 : decode b_A_takeGhostMoved 57 = .ok (.aload_n 0, 1) ∧ 57 + 1 = 58 := ⟨by decide +kernel, rfl⟩
theorem d_A_takeGhostMoved_58 : decode b_A_takeGhostMoved 58 = .ok (.getfield 57, 3) ∧ 58 + 3 = 61 := ⟨by decide +kernel, rfl⟩
theorem d_A_takeGhostMoved_61 : decode b_A_takeGhostMoved 61 = .ok (.iload 5, 2) ∧ 61 + 2 = 63 := ⟨by decide +kernel, rfl⟩
theorem d_A_takeGhostMoved_63 : decode b_A_takeGhostMoved 63 = .ok (.iload_n 3, 1) ∧ 63 + 1 = 64 := ⟨by decide +kernel, rfl⟩
theorem d_A_takeGhostMoved_64 : decode b_A_takeGhostMoved 64 = .ok (.iload_n 2, 1) ∧ 64 + 1 = 65 := ⟨by decide +kernel, rfl⟩
theorem d_A_takeGhostMoved_65 : decode b_A_takeGhostMoved 65 = .ok (.isub, 1) ∧ 65 + 1 = 66 := ⟨by decide +kernel, rfl⟩
theorem d_A_takeGhostMoved_66 : decode b_A_takeGhostMoved 66 = .ok (.invokestatic 82, 3) ∧ 66 + 3 = 69 := ⟨by decide +kernel, rfl⟩
theorem d_A_takeGhostMoved_69 : decode b_A_takeGhostMoved 69 = .ok (.iaload, 1) ∧ 69 + 1 = 70 := ⟨by decide +kernel, rfl⟩
theorem d_A_takeGhostMoved_70 : decode b_A_takeGhostMoved 70 = .ok (.isub, 1) ∧ 70 + 1 = 71 := ⟨by decide +kernel, rfl⟩
theorem d_A_takeGhostMoved_71 : decode b_A_takeGhostMoved 71 = .ok (.iastore, 1) ∧ 71 + 1 = 72 := ⟨by decide +kernel, rfl⟩
theorem d_A_takeGhostMoved_72 : decode b_A_takeGhostMoved 72 = .ok (.iinc 4 (-1), 3) ∧ 72 + 3 = 75 := ⟨by decide +kernel, rfl⟩
theorem d_A_takeGhostMoved_75 : decode b_A_takeGhostMoved 75 = .ok (.goto (-55), 3) ∧ ((75 : Nat) : Int) + (-55) = ((20 : Nat) : Int) := ⟨by decide +kernel, by decide⟩
theorem d_A_takeGhostMoved_78 : decode b_A_takeGhostMoved 78 = .ok (.iinc 3 (-1), 3) ∧ 78 + 3 = 81 := ⟨by decide +kernel, rfl⟩
theorem d_A_takeGhostMoved_81 : decode b_A_takeGhostMoved 81 = .ok (.goto (-74), 3) ∧ ((81 : Nat) : Int) + (-74) = ((7 : Nat) : Int) := ⟨by decide +kernel, by decide⟩
theorem d_A_takeGhostMoved_84 : decode b_A_takeGhostMoved 84 = .ok (.return_, 1) := by decide +kernel
end
section
theorem d_L_about_0 : decode b_L_about 0 = .ok (.aload_n 2, 1) ∧ 0 + 1 = 1 := ⟨by decide +kernel, rfl⟩
theorem d_L_about_1 : decode b_L_about 1 = .ok (.iconst 0, 1) ∧ 1 + 1 = 2 := ⟨by decide +kernel, rfl⟩
theorem d_L_about_2 : decode b_L_about 2 = .ok (.aload_n 0, 1) ∧ 2 + 1 = 3 := ⟨by decide +kernel, rfl⟩
theorem d_L_about_3 : decode b_L_about 3 = .ok (.iload_n 1, 1) ∧ 3 + 1 = 4 := ⟨by decide +kernel, rfl⟩
theorem d_L_about_4 : decode b_L_about 4 = .ok (.invokevirtual 55, 3) ∧ 4 + 3 = 7 := ⟨by decide +kernel, rfl⟩
theorem d_L_about_7 : decode b_L_about 7 = .ok (.i2l, 1) ∧ 7 + 1 = 8 := ⟨by decide +kernel, rfl⟩
theorem d_L_about_8 : decode b_L_about 8 = .ok (.lastore, 1) ∧ 8 + 1 = 9 := ⟨by decide +kernel, rfl⟩
theorem d_L_about_9 : decode b_L_about 9 = .ok (.goto 6, 3) ∧ ((9 : Nat) : Int) + 6 = ((15 : Nat) : Int) := ⟨by decide +kernel, by decide⟩
theorem d_L_about_12 : decode b_L_about 12 = .ok (.astore_n 3, 1) ∧ 12 + 1 = 13 := ⟨by decide +kernel, rfl⟩
theorem d_L_about_13 : decode b_L_about 13 = .ok (.iconst 1, 1) ∧ 13 + 1 = 14 := ⟨by decide +kernel, rfl⟩
theorem d_L_about_14 : decode b_L_about 14 = .ok (.ireturn, 1) := by decide +kernel
theorem d_L_about_15 : decode b_L_about 15 = .ok (.iconst 0, 1) ∧ 15 + 1 = 16 := ⟨by decide +kernel, rfl⟩
theorem d_L_about_16 : decode b_L_about 16 = .ok (.ireturn, 1) := by decide +kernel
theorem d_L_add_0 : decode b_L_add 0 = .ok (.aload_n 2, 1) ∧ 0 + 1 = 1 := ⟨by decide +kernel, rfl⟩
theorem d_L_add_1 : decode b_L_add 1 = .ok (.iconst 0, 1) ∧ 1 + 1 = 2 := ⟨by decide +kernel, rfl⟩
theorem d_L_add_2 : decode b_L_add 2 = .ok (.aload_n 0, 1) ∧ 2 + 1 = 3 := ⟨by decide +kernel, rfl⟩
theorem d_L_add_3 : decode b_L_add 3 = .ok (.iload_n 1, 1) ∧ 3 + 1 = 4 := ⟨by decide +kernel, rfl⟩
theorem d_L_add_4 : decode b_L_add 4 = .ok (.invokevirtual 64, 3) ∧ 4 + 3 = 7 := ⟨by decide +kernel, rfl⟩
theorem d_L_add_7 : decode b_L_add 7 = .ok (.i2l, 1) ∧ 7 + 1 = 8 := ⟨by decide +kernel, rfl⟩
theorem d_L_add_8 : decode b_L_add 8 = .ok (.lastore, 1) ∧ 8 + 1 = 9 := ⟨by decide +kernel, rfl⟩
theorem d_L_add_9 : decode b_L_add 9 = .ok (.goto 6, 3) ∧ ((9 : Nat) : Int) + 6 = ((15 : Nat) : Int) := ⟨by decide +kernel, by decide⟩
theorem d_L_add_12 : decode b_L_add 12 = .ok (.astore_n 3, 1) ∧ 12 + 1 = 13 := ⟨by decide +kernel, rfl⟩
theorem d_L_add_13 : decode b_L_add 13 = .ok (.iconst 1, 1) ∧ 13 + 1 = 14 := ⟨by decide +kernel, rfl⟩
theorem d_L_add_14 : decode b_L_add 14 = .ok (.ireturn, 1) := by decide +kernel
theorem d_L_add_15 : decode b_L_add 15 = .ok (.iconst 0, 1) ∧ 15 + 1 = 16 := ⟨by decide +kernel, rfl⟩
theorem d_L_add_16 : decode b_L_add 16 = .ok (.ireturn, 1) := by decide +kernel
theorem d_L_bin_0 : decode b_L_bin 0 = .ok (.aload_n 3, 1) ∧ 0 + 1 = 1 := ⟨by decide +kernel, rfl⟩
theorem d_L_bin_1 : decode b_L_bin 1 = .ok (.iconst 0, 1) ∧ 1 + 1 = 2 := ⟨by decide +kernel, rfl⟩
theorem d_L_bin_2 : decode b_L_bin 2 = .ok (.aload_n 0, 1) ∧ 2 + 1 = 3 := ⟨by decide +kernel, rfl⟩
theorem d_L_bin_3 : decode b_L_bin 3 = .ok (.iload_n 1, 1) ∧ 3 + 1 = 4 := ⟨by decide +kernel, rfl⟩
theorem d_L_bin_4 : decode b_L_bin 4 = .ok (.iload_n 2, 1) ∧ 4 + 1 = 5 := ⟨by decide +kernel, rfl⟩
theorem d_L_bin_5 : decode b_L_bin 5 = .ok (.invokevirtual 42, 3) ∧ 5 + 3 = 8 := ⟨by decide +kernel, rfl⟩
theorem d_L_bin_8 : decode b_L_bin 8 = .ok (.i2l, 1) ∧ 8 + 1 = 9 := ⟨by decide +kernel, rfl⟩
theorem d_L_bin_9 : decode b_L_bin 9 = .ok (.lastore, 1) ∧ 9 + 1 = 10 := ⟨by decide +kernel, rfl⟩
theorem d_L_bin_10 : decode b_L_bin 10 = .ok (.goto 11, 3) ∧ ((10 : Nat) : Int) + 11 = ((21 : Nat) : Int) := ⟨by decide +kernel, by decide⟩
theorem d_L_bin_13 : decode b_L_bin 13 = .ok (.astore 4, 2) ∧ 13 + 2 = 15 := ⟨by decide +kernel, rfl⟩
theorem d_L_bin_15 : decode b_L_bin 15 = .ok (.iconst 1, 1) ∧ 15 + 1 = 16 := ⟨by decide +kernel, rfl⟩
theorem d_L_bin_16 : decode b_L_bin 16 = .ok (.ireturn, 1) := by decide +kernel
theorem d_L_bin_17 : decode b_L_bin 17 = .ok (.astore 4, 2) ∧ 17 + 2 = 19 := ⟨by decide +kernel, rfl⟩
theorem d_L_bin_19 : decode b_L_bin 19 = .ok (.iconst 2, 1) ∧ 19 + 1 = 20 := ⟨by decide +kernel, rfl⟩
theorem d_L_bin_20 : decode b_L_bin 20 = .ok (.ireturn, 1) := by decide +kernel
theorem d_L_bin_21 : decode b_L_bin 21 = .ok (.iconst 0, 1) ∧ 21 + 1 = 22 := ⟨by decide +kernel, rfl⟩
theorem d_L_bin_22 : decode b_L_bin 22 = .ok (.ireturn, 1) := by decide +kernel
theorem d_L_direction_0 : decode b_L_direction 0 = .ok (.aload_n 0, 1) ∧ 0 + 1 = 1 := ⟨by decide +kernel, rfl⟩
theorem d_L_direction_1 : decode b_L_direction 1 = .ok (.iload_n 1, 1) ∧ 1 + 1 = 2 := ⟨by decide +kernel, rfl⟩
theorem d_L_direction_2 : decode b_L_direction 2 = .ok (.iload_n 2, 1) ∧ 2 + 1 = 3 := ⟨by decide +kernel, rfl⟩
theorem d_L_direction_3 : decode b_L_direction 3 = .ok (.iload_n 3, 1) ∧ 3 + 1 = 4 := ⟨by decide +kernel, rfl⟩
theorem d_L_direction_4 : decode b_L_direction 4 = .ok (.invokevirtual 26, 3) ∧ 4 + 3 = 7 := ⟨by decide +kernel, rfl⟩
theorem d_L_direction_7 : decode b_L_direction 7 = .ok (.goto 11, 3) ∧ ((7 : Nat) : Int) + 11 = ((18 : Nat) : Int) := ⟨by decide +kernel, by decide⟩
theorem d_L_direction_10 : decode b_L_direction 10 = .ok (.astore 4, 2) ∧ 10 + 2 = 12 := ⟨by decide +kernel, rfl⟩
theorem d_L_direction_12 : decode b_L_direction 12 = .ok (.iconst 1, 1) ∧ 12 + 1 = 13 := ⟨by decide +kernel, rfl⟩
theorem d_L_direction_13 : decode b_L_direction 13 = .ok (.ireturn, 1) := by decide +kernel
theorem d_L_direction_14 : decode b_L_direction 14 = .ok (.astore 4, 2) ∧ 14 + 2 = 16 := ⟨by decide +kernel, rfl⟩
theorem d_L_direction_16 : decode b_L_direction 16 = .ok (.iconst 2, 1) ∧ 16 + 1 = 17 := ⟨by decide +kernel, rfl⟩
theorem d_L_direction_17 : decode b_L_direction 17 = .ok (.ireturn, 1) := by decide +kernel
theorem d_L_direction_18 : decode b_L_direction 18 = .ok (.iconst 0, 1) ∧ 18 + 1 = 19 := ⟨by decide +kernel, rfl⟩
theorem d_L_direction_19 : decode b_L_direction 19 = .ok (.ireturn, 1) := by decide +kernel
theorem d_L_drop_0 : decode b_L_drop 0 = .ok (.aload_n 2, 1) ∧ 0 + 1 = 1 := ⟨by decide +kernel, rfl⟩
theorem d_L_drop_1 : decode b_L_drop 1 = .ok (.iconst 0, 1) ∧ 1 + 1 = 2 := ⟨by decide +kernel, rfl⟩
theorem d_L_drop_2 : decode b_L_drop 2 = .ok (.aload_n 0, 1) ∧ 2 + 1 = 3 := ⟨by decide +kernel, rfl⟩
theorem d_L_drop_3 : decode b_L_drop 3 = .ok (.iload_n 1, 1) ∧ 3 + 1 = 4 := ⟨by decide +kernel, rfl⟩
theorem d_L_drop_4 : decode b_L_drop 4 = .ok (.invokevirtual 38, 3) ∧ 4 + 3 = 7 := ⟨by decide +kernel, rfl⟩
theorem d_L_drop_7 : decode b_L_drop 7 = .ok (.ifCond .eq 7, 3) ∧ 7 + 3 = 10 ∧ ((7 : Nat) : Int) + 7 = ((14 : Nat) : Int) := ⟨by decide +kernel, rfl, by decide⟩
theorem d_L_drop_10 : decode b_L_drop 10 = .ok (.lconst 1, 1) ∧ 10 + 1 = 11 := ⟨by decide +kernel, rfl⟩
theorem d_L_drop_11 : decode b_L_drop 11 = .ok (.goto 4, 3) ∧ ((11 : Nat) : Int) + 4 = ((15 : Nat) : Int) := ⟨by decide +kernel, by decide⟩
theorem d_L_drop_14 : decode b_L_drop 14 = .ok (.lconst 0, 1) ∧ 14 + 1 = 15 := ⟨by decide +kernel, rfl⟩
theorem d_L_drop_15 : decode b_L_drop 15 = .ok (.lastore, 1) ∧ 15 + 1 = 16 := ⟨by decide +kernel, rfl⟩
theorem d_L_drop_16 : decode b_L_drop 16 = .ok (.goto 6, 3) ∧ ((16 : Nat) : Int) + 6 = ((22 : Nat) : Int) := ⟨by decide +kernel, by decide⟩
theorem d_L_drop_19 : decode b_L_drop 19 = .ok (.astore_n 3, 1) ∧ 19 + 1 = 20 := ⟨by decide +kernel, rfl⟩
theorem d_L_drop_20 : decode b_L_drop 20 = .ok (.iconst 1, 1) ∧ 20 + 1 = 21 := ⟨by decide +kernel, rfl⟩
theorem d_L_drop_21 : decode b_L_drop 21 = .ok (.ireturn, 1) := by decide +kernel
theorem d_L_drop_22 : decode b_L_drop 22 = .ok (.iconst 0, 1) ∧ 22 + 1 = 23 := ⟨by decide +kernel, rfl⟩
theorem d_L_drop_23 : decode b_L_drop 23 = .ok (.ireturn, 1) := by decide +kernel
theorem d_L_enough_0 : decode b_L_enough 0 = .ok (.aload_n 2, 1) ∧ 0 + 1 = 1 := ⟨by decide +kernel, rfl⟩
theorem d_L_enough_1 : decode b_L_enough 1 = .ok (.iconst 0, 1) ∧ 1 + 1 = 2 := ⟨by decide +kernel, rfl⟩
theorem d_L_enough_2 : decode b_L_enough 2 = .ok (.aload_n 0, 1) ∧ 2 + 1 = 3 := ⟨by decide +kernel, rfl⟩
theorem d_L_enough_3 : decode b_L_enough 3 = .ok (.iload_n 1, 1) ∧ 3 + 1 = 4 := ⟨by decide +kernel, rfl⟩
theorem d_L_enough_4 : decode b_L_enough 4 = .ok (.invokevirtual 48, 3) ∧ 4 + 3 = 7 := ⟨by decide +kernel, rfl⟩
theorem d_L_enough_7 : decode b_L_enough 7 = .ok (.ifCond .eq 7, 3) ∧ 7 + 3 = 10 ∧ ((7 : Nat) : Int) + 7 = ((14 : Nat) : Int) := ⟨by decide +kernel, rfl, by decide⟩
theorem d_L_enough_10 : decode b_L_enough 10 = .ok (.lconst 1, 1) ∧ 10 + 1 = 11 := ⟨by decide +kernel, rfl⟩
theorem d_L_enough_11 : decode b_L_enough 11 = .ok (.goto 4, 3) ∧ ((11 : Nat) : Int) + 4 = ((15 : Nat) : Int) := ⟨by decide +kernel, by decide⟩
theorem d_L_enough_14 : decode b_L_enough 14 = .ok (.lconst 0, 1) ∧ 14 + 1 = 15 := ⟨by decide +kernel, rfl⟩
theorem d_L_enough_15 : decode b_L_enough 15 = .ok (.lastore, 1) ∧ 15 + 1 = 16 := ⟨by decide +kernel, rfl⟩
theorem d_L_enough_16 : decode b_L_enough 16 = .ok (.goto 6, 3) ∧ ((16 : Nat) : Int) + 6 = ((22 : Nat) : Int) := ⟨by decide +kernel, by decide⟩
theorem d_L_enough_19 : decode b_L_enough 19 = .ok (.astore_n 3, 1) ∧ 19 + 1 = 20 := ⟨by decide +kernel, rfl⟩
theorem d_L_enough_20 : decode b_L_enough 20 = .ok (.iconst 1, 1) ∧ 20 + 1 = 21 := ⟨by decide +kernel, rfl⟩
theorem d_L_enough_21 : decode b_L_enough 21 = .ok (.ireturn, 1) := by decide +kernel
theorem d_L_enough_22 : decode b_L_enough 22 = .ok (.iconst 0, 1) ∧ 22 + 1 = 23 := ⟨by decide +kernel, rfl⟩
theorem d_L_enough_23 : decode b_L_enough 23 = .ok (.ireturn, 1) := by decide +kernel
theorem d_L_ghost_0 : decode b_L_ghost 0 = .ok (.aload 4, 2) ∧ 0 + 2 = 2 := ⟨by decide +kernel, rfl⟩
theorem d_L_ghost_2 : decode b_L_ghost 2 = .ok (.iconst 0, 1) ∧ 2 + 1 = 3 := ⟨by decide +kernel, rfl⟩
theorem d_L_ghost_3 : decode b_L_ghost 3 = .ok (.aload_n 0, 1) ∧ 3 + 1 = 4 := ⟨by decide +kernel, rfl⟩
theorem d_L_ghost_4 : decode b_L_ghost 4 = .ok (.iload_n 1, 1) ∧ 4 + 1 = 5 := ⟨by decide +kernel, rfl⟩
theorem d_L_ghost_5 : decode b_L_ghost 5 = .ok (.iload_n 2, 1) ∧ 5 + 1 = 6 := ⟨by decide +kernel, rfl⟩
theorem d_L_ghost_6 : decode b_L_ghost 6 = .ok (.iload_n 3, 1) ∧ 6 + 1 = 7 := ⟨by decide +kernel, rfl⟩
theorem d_L_ghost_7 : decode b_L_ghost 7 = .ok (.invokevirtual 61, 3) ∧ 7 + 3 = 10 := ⟨by decide +kernel, rfl⟩
theorem d_L_ghost_10 : decode b_L_ghost 10 = .ok (.i2l, 1) ∧ 10 + 1 = 11 := ⟨by decide +kernel, rfl⟩
theorem d_L_ghost_11 : decode b_L_ghost 11 = .ok (.lastore, 1) ∧ 11 + 1 = 12 := ⟨by decide +kernel, rfl⟩
theorem d_L_ghost_12 : decode b_L_ghost 12 = .ok (.goto 15, 3) ∧ ((12 : Nat) : Int) + 15 = ((27 : Nat) : Int) := ⟨by decide +kernel, by decide⟩
theorem d_L_ghost_15 : decode b_L_ghost 15 = .ok (.astore 5, 2) ∧ 15 + 2 = 17 := ⟨by decide +kernel, rfl⟩
theorem d_L_ghost_17 : decode b_L_ghost 17 = .ok (.iconst 1, 1) ∧ 17 + 1 = 18 := ⟨by decide +kernel, rfl⟩
theorem d_L_ghost_18 : decode b_L_ghost 18 = .ok (.ireturn, 1) := by decide +kernel
theorem d_L_ghost_19 : decode b_L_ghost 19 = .ok (.astore 5, 2) ∧ 19 + 2 = 21 := ⟨by decide +kernel, rfl⟩
theorem d_L_ghost_21 : decode b_L_ghost 21 = .ok (.iconst 2, 1) ∧ 21 + 1 = 22 := ⟨by decide +kernel, rfl⟩
theorem d_L_ghost_22 : decode b_L_ghost 22 = .ok (.ireturn, 1) := by decide +kernel
theorem d_L_ghost_23 : decode b_L_ghost 23 = .ok (.astore 5, 2) ∧ 23 + 2 = 25 := ⟨by decide +kernel, rfl⟩
theorem d_L_ghost_25 : decode b_L_ghost 25 = .ok (.iconst 3, 1) ∧ 25 + 1 = 26 := ⟨by decide +kernel, rfl⟩
theorem d_L_ghost_26 : decode b_L_ghost 26 = .ok (.ireturn, 1) := by decide +kernel
theorem d_L_ghost_27 : decode b_L_ghost 27 = .ok (.iconst 0, 1) ∧ 27 + 1 = 28 := ⟨by decide +kernel, rfl⟩
theorem d_L_ghost_28 : decode b_L_ghost 28 = .ok (.ireturn, 1) := by decide +kernel
theorem d_L_law_0 : decode b_L_law 0 = .ok (.new 8, 3) ∧ 0 + 3 = 3 := ⟨by decide +kernel, rfl⟩
theorem d_L_law_3 : decode b_L_law 3 = .ok (.dup, 1) ∧ 3 + 1 = 4 := ⟨by decide +kernel, rfl⟩
theorem d_L_law_4 : decode b_L_law 4 = .ok (.invokespecial 68, 3) ∧ 4 + 3 = 7 := ⟨by decide +kernel, rfl⟩
theorem d_L_law_7 : decode b_L_law 7 = .ok (.astore_n 1, 1) ∧ 7 + 1 = 8 := ⟨by decide +kernel, rfl⟩
theorem d_L_law_8 : decode b_L_law 8 = .ok (.new 69, 3) ∧ 8 + 3 = 11 := ⟨by decide +kernel, rfl⟩
theorem d_L_law_11 : decode b_L_law 11 = .ok (.dup, 1) ∧ 11 + 1 = 12 := ⟨by decide +kernel, rfl⟩
theorem d_L_law_12 : decode b_L_law 12 = .ok (.invokespecial 71, 3) ∧ 12 + 3 = 15 := ⟨by decide +kernel, rfl⟩
theorem d_L_law_15 : decode b_L_law 15 = .ok (.astore_n 2, 1) ∧ 15 + 1 = 16 := ⟨by decide +kernel, rfl⟩
theorem d_L_law_16 : decode b_L_law 16 = .ok (.iconst 1, 1) ∧ 16 + 1 = 17 := ⟨by decide +kernel, rfl⟩
theorem d_L_law_17 : decode b_L_law 17 = .ok (.newarray .long, 2) ∧ 17 + 2 = 19 := ⟨by decide +kernel, rfl⟩
theorem d_L_law_19 : decode b_L_law 19 = .ok (.astore_n 3, 1) ∧ 19 + 1 = 20 := ⟨by decide +kernel, rfl⟩
theorem d_L_law_20 : decode b_L_law 20 = .ok (.iconst 0, 1) ∧ 20 + 1 = 21 := ⟨by decide +kernel, rfl⟩
theorem d_L_law_21 : decode b_L_law 21 = .ok (.istore 4, 2) ∧ 21 + 2 = 23 := ⟨by decide +kernel, rfl⟩
theorem d_L_law_23 : decode b_L_law 23 = .ok (.iload 4, 2) ∧ 23 + 2 = 25 := ⟨by decide +kernel, rfl⟩
theorem d_L_law_25 : decode b_L_law 25 = .ok (.aload_n 0, 1) ∧ 25 + 1 = 26 := ⟨by decide +kernel, rfl⟩
theorem d_L_law_26 : decode b_L_law 26 = .ok (.arraylength, 1) ∧ 26 + 1 = 27 := ⟨by decide +kernel, rfl⟩
theorem d_L_law_27 : decode b_L_law 27 = .ok (.iconst 4, 1) ∧ 27 + 1 = 28 := ⟨by decide +kernel, rfl⟩
theorem d_L_law_28 : decode b_L_law 28 = .ok (.isub, 1) ∧ 28 + 1 = 29 := ⟨by decide +kernel, rfl⟩
theorem d_L_law_29 : decode b_L_law 29 = .ok (.if_icmp .gt 1094, 3) ∧ 29 + 3 = 32 ∧ ((29 : Nat) : Int) + 1094 = ((1123 : Nat) : Int) := ⟨by decide +kernel, rfl, by decide⟩
theorem d_L_law_32 : decode b_L_law 32 = .ok (.aload_n 0, 1) ∧ 32 + 1 = 33 := ⟨by decide +kernel, rfl⟩
theorem d_L_law_33 : decode b_L_law 33 = .ok (.iload 4, 2) ∧ 33 + 2 = 35 := ⟨by decide +kernel, rfl⟩
theorem d_L_law_35 : decode b_L_law 35 = .ok (.iaload, 1) ∧ 35 + 1 = 36 := ⟨by decide +kernel, rfl⟩
theorem d_L_law_36 : decode b_L_law 36 = .ok (.bipush 31, 2) ∧ 36 + 2 = 38 := ⟨by decide +kernel, rfl⟩
theorem d_L_law_38 : decode b_L_law 38 = .ok (.iand, 1) ∧ 38 + 1 = 39 := ⟨by decide +kernel, rfl⟩
theorem d_L_law_39 : decode b_L_law 39 = .ok (.tableswitch 1078 0 16 #[81, 129, 209, 289, 349, 417, 453, 516, 584, 664, 727, 783, 839, 902, 915, 995, 1006], 81) := by decide +kernel
theorem d_L_law_120 : decode b_L_law 120 = .ok (.aload_n 1, 1) ∧ 120 + 1 = 121 := ⟨by decide +kernel, rfl⟩
theorem d_L_law_121 : decode b_L_law 121 = .ok (.aload_n 0, 1) ∧ 121 + 1 = 122 := ⟨by decide +kernel, rfl⟩
theorem d_L_law_122 : decode b_L_law 122 = .ok (.iload 4, 2) ∧ 122 + 2 = 124 := ⟨by decide +kernel, rfl⟩
theorem d_L_law_124 : decode b_L_law 124 = .ok (.iconst 1, 1) ∧ 124 + 1 = 125 := ⟨by decide +kernel, rfl⟩
theorem d_L_law_125 : decode b_L_law 125 = .ok (.iadd, 1) ∧ 125 + 1 = 126 := ⟨by decide +kernel, rfl⟩
theorem d_L_law_126 : decode b_L_law 126 = .ok (.iaload, 1) ∧ 126 + 1 = 127 := ⟨by decide +kernel, rfl⟩
theorem d_L_law_127 : decode b_L_law 127 = .ok (.aload_n 0, 1) ∧ 127 + 1 = 128 := ⟨by decide +kernel, rfl⟩
theorem d_L_law_128 : decode b_L_law 128 = .ok (.iload 4, 2) ∧ 128 + 2 = 130 := ⟨by decide +kernel, rfl⟩
theorem d_L_law_130 : decode b_L_law 130 = .ok (.iconst 2, 1) ∧ 130 + 1 = 131 := ⟨by decide +kernel, rfl⟩
theorem d_L_law_131 : decode b_L_law 131 = .ok (.iadd, 1) ∧ 131 + 1 = 132 := ⟨by decide +kernel, rfl⟩
theorem d_L_law_132 : decode b_L_law 132 = .ok (.iaload, 1) ∧ 132 + 1 = 133 := ⟨by decide +kernel, rfl⟩
theorem d_L_law_133 : decode b_L_law 133 = .ok (.invokestatic 72, 3) ∧ 133 + 3 = 136 := ⟨by decide +kernel, rfl⟩
theorem d_L_law_136 : decode b_L_law 136 = .ok (.istore 5, 2) ∧ 136 + 2 = 138 := ⟨by decide +kernel, rfl⟩
theorem d_L_law_138 : decode b_L_law 138 = .ok (.aload_n 2, 1) ∧ 138 + 1 = 139 := ⟨by decide +kernel, rfl⟩
theorem d_L_law_139 : decode b_L_law 139 = .ok (.aload_n 0, 1) ∧ 139 + 1 = 140 := ⟨by decide +kernel, rfl⟩
theorem d_L_law_140 : decode b_L_law 140 = .ok (.iload 4, 2) ∧ 140 + 2 = 142 := ⟨by decide +kernel, rfl⟩
theorem d_L_law_142 : decode b_L_law 142 = .ok (.iconst 1, 1) ∧ 142 + 1 = 143 := ⟨by decide +kernel, rfl⟩
theorem d_L_law_143 : decode b_L_law 143 = .ok (.iadd, 1) ∧ 143 + 1 = 144 := ⟨by decide +kernel, rfl⟩
theorem d_L_law_144 : decode b_L_law 144 = .ok (.iaload, 1) ∧ 144 + 1 = 145 := ⟨by decide +kernel, rfl⟩
theorem d_L_law_145 : decode b_L_law 145 = .ok (.aload_n 0, 1) ∧ 145 + 1 = 146 := ⟨by decide +kernel, rfl⟩
theorem d_L_law_146 : decode b_L_law 146 = .ok (.iload 4, 2) ∧ 146 + 2 = 148 := ⟨by decide +kernel, rfl⟩
theorem d_L_law_148 : decode b_L_law 148 = .ok (.iconst 2, 1) ∧ 148 + 1 = 149 := ⟨by decide +kernel, rfl⟩
theorem d_L_law_149 : decode b_L_law 149 = .ok (.iadd, 1) ∧ 149 + 1 = 150 := ⟨by decide +kernel, rfl⟩
theorem d_L_law_150 : decode b_L_law 150 = .ok (.iaload, 1) ∧ 150 + 1 = 151 := ⟨by decide +kernel, rfl⟩
theorem d_L_law_151 : decode b_L_law 151 = .ok (.invokevirtual 77, 3) ∧ 151 + 3 = 154 := ⟨by decide +kernel, rfl⟩
theorem d_L_law_154 : decode b_L_law 154 = .ok (.aload_n 2, 1) ∧ 154 + 1 = 155 := ⟨by decide +kernel, rfl⟩
theorem d_L_law_155 : decode b_L_law 155 = .ok (.invokevirtual 78, 3) ∧ 155 + 3 = 158 := ⟨by decide +kernel, rfl⟩
theorem d_L_law_158 : decode b_L_law 158 = .ok (.iload 5, 2) ∧ 158 + 2 = 160 := ⟨by decide +kernel, rfl⟩
theorem d_L_law_160 : decode b_L_law 160 = .ok (.if_icmp .eq 5, 3) ∧ 160 + 3 = 163 ∧ ((160 : Nat) : Int) + 5 = ((165 : Nat) : Int) := ⟨by decide +kernel, rfl, by decide⟩
theorem d_L_law_163 : decode b_L_law 163 = .ok (.iconst 0, 1) ∧ 163 + 1 = 164 := ⟨by decide +kernel, rfl⟩
theorem d_L_law_164 : decode b_L_law 164 = .ok (.ireturn, 1) := by decide +kernel
theorem d_L_law_165 : decode b_L_law 165 = .ok (.goto 952, 3) ∧ ((165 : Nat) : Int) + 952 = ((1117 : Nat) : Int) := ⟨by decide +kernel, by decide⟩
theorem d_L_law_168 : decode b_L_law 168 = .ok (.aload_n 1, 1) ∧ 168 + 1 = 169 := ⟨by decide +kernel, rfl⟩
theorem d_L_law_169 : decode b_L_law 169 = .ok (.aload_n 0, 1) ∧ 169 + 1 = 170 := ⟨by decide +kernel, rfl⟩
theorem d_L_law_170 : decode b_L_law 170 = .ok (.iload 4, 2) ∧ 170 + 2 = 172 := ⟨by decide +kernel, rfl⟩
theorem d_L_law_172 : decode b_L_law 172 = .ok (.iconst 1, 1) ∧ 172 + 1 = 173 := ⟨by decide +kernel, rfl⟩
theorem d_L_law_173 : decode b_L_law 173 = .ok (.iadd, 1) ∧ 173 + 1 = 174 := ⟨by decide +kernel, rfl⟩
theorem d_L_law_174 : decode b_L_law 174 = .ok (.iaload, 1) ∧ 174 + 1 = 175 := ⟨by decide +kernel, rfl⟩
theorem d_L_law_175 : decode b_L_law 175 = .ok (.aload_n 0, 1) ∧ 175 + 1 = 176 := ⟨by decide +kernel, rfl⟩
theorem d_L_law_176 : decode b_L_law 176 = .ok (.iload 4, 2) ∧ 176 + 2 = 178 := ⟨by decide +kernel, rfl⟩
theorem d_L_law_178 : decode b_L_law 178 = .ok (.iconst 2, 1) ∧ 178 + 1 = 179 := ⟨by decide +kernel, rfl⟩
theorem d_L_law_179 : decode b_L_law 179 = .ok (.iadd, 1) ∧ 179 + 1 = 180 := ⟨by decide +kernel, rfl⟩
theorem d_L_law_180 : decode b_L_law 180 = .ok (.iaload, 1) ∧ 180 + 1 = 181 := ⟨by decide +kernel, rfl⟩
theorem d_L_law_181 : decode b_L_law 181 = .ok (.aload_n 0, 1) ∧ 181 + 1 = 182 := ⟨by decide +kernel, rfl⟩
theorem d_L_law_182 : decode b_L_law 182 = .ok (.iload 4, 2) ∧ 182 + 2 = 184 := ⟨by decide +kernel, rfl⟩
theorem d_L_law_184 : decode b_L_law 184 = .ok (.iconst 3, 1) ∧ 184 + 1 = 185 := ⟨by decide +kernel, rfl⟩
theorem d_L_law_185 : decode b_L_law 185 = .ok (.iadd, 1) ∧ 185 + 1 = 186 := ⟨by decide +kernel, rfl⟩
theorem d_L_law_186 : decode b_L_law 186 = .ok (.iaload, 1) ∧ 186 + 1 = 187 := ⟨by decide +kernel, rfl⟩
theorem d_L_law_187 : decode b_L_law 187 = .ok (.aload_n 3, 1) ∧ 187 + 1 = 188 := ⟨by decide +kernel, rfl⟩
theorem d_L_law_188 : decode b_L_law 188 = .ok (.invokestatic 82, 3) ∧ 188 + 3 = 191 := ⟨by decide +kernel, rfl⟩
theorem d_L_law_191 : decode b_L_law 191 = .ok (.istore 5, 2) ∧ 191 + 2 = 193 := ⟨by decide +kernel, rfl⟩
theorem d_L_law_193 : decode b_L_law 193 = .ok (.aload_n 2, 1) ∧ 193 + 1 = 194 := ⟨by decide +kernel, rfl⟩
theorem d_L_law_194 : decode b_L_law 194 = .ok (.aload_n 0, 1) ∧ 194 + 1 = 195 := ⟨by decide +kernel, rfl⟩
theorem d_L_law_195 : decode b_L_law 195 = .ok (.iload 4, 2) ∧ 195 + 2 = 197 := ⟨by decide +kernel, rfl⟩
theorem d_L_law_197 : decode b_L_law 197 = .ok (.iconst 1, 1) ∧ 197 + 1 = 198 := ⟨by decide +kernel, rfl⟩
theorem d_L_law_198 : decode b_L_law 198 = .ok (.iadd, 1) ∧ 198 + 1 = 199 := ⟨by decide +kernel, rfl⟩
theorem d_L_law_199 : decode b_L_law 199 = .ok (.iaload, 1) ∧ 199 + 1 = 200 := ⟨by decide +kernel, rfl⟩
theorem d_L_law_200 : decode b_L_law 200 = .ok (.aload_n 0, 1) ∧ 200 + 1 = 201 := ⟨by decide +kernel, rfl⟩
theorem d_L_law_201 : decode b_L_law 201 = .ok (.iload 4, 2) ∧ 201 + 2 = 203 := ⟨by decide +kernel, rfl⟩
theorem d_L_law_203 : decode b_L_law 203 = .ok (.iconst 2, 1) ∧ 203 + 1 = 204 := ⟨by decide +kernel, rfl⟩
theorem d_L_law_204 : decode b_L_law 204 = .ok (.iadd, 1) ∧ 204 + 1 = 205 := ⟨by decide +kernel, rfl⟩
theorem d_L_law_205 : decode b_L_law 205 = .ok (.iaload, 1) ∧ 205 + 1 = 206 := ⟨by decide +kernel, rfl⟩
theorem d_L_law_206 : decode b_L_law 206 = .ok (.aload_n 0, 1) ∧ 206 + 1 = 207 := ⟨by decide +kernel, rfl⟩
theorem d_L_law_207 : decode b_L_law 207 = .ok (.iload 4, 2) ∧ 207 + 2 = 209 := ⟨by decide +kernel, rfl⟩
theorem d_L_law_209 : decode b_L_law 209 = .ok (.iconst 3, 1) ∧ 209 + 1 = 210 := ⟨by decide +kernel, rfl⟩
theorem d_L_law_210 : decode b_L_law 210 = .ok (.iadd, 1) ∧ 210 + 1 = 211 := ⟨by decide +kernel, rfl⟩
theorem d_L_law_211 : decode b_L_law 211 = .ok (.iaload, 1) ∧ 211 + 1 = 212 := ⟨by decide +kernel, rfl⟩
theorem d_L_law_212 : decode b_L_law 212 = .ok (.invokevirtual 85, 3) ∧ 212 + 3 = 215 := ⟨by decide +kernel, rfl⟩
theorem d_L_law_215 : decode b_L_law 215 = .ok (.istore 6, 2) ∧ 215 + 2 = 217 := ⟨by decide +kernel, rfl⟩
theorem d_L_law_217 : decode b_L_law 217 = .ok (.aload_n 2, 1) ∧ 217 + 1 = 218 := ⟨by decide +kernel, rfl⟩
theorem d_L_law_218 : decode b_L_law 218 = .ok (.invokevirtual 78, 3) ∧ 218 + 3 = 221 := ⟨by decide +kernel, rfl⟩
theorem d_L_law_221 : decode b_L_law 221 = .ok (.iload 5, 2) ∧ 221 + 2 = 223 := ⟨by decide +kernel, rfl⟩
theorem d_L_law_223 : decode b_L_law 223 = .ok (.if_icmp .eq 5, 3) ∧ 223 + 3 = 226 ∧ ((223 : Nat) : Int) + 5 = ((228 : Nat) : Int) := ⟨by decide +kernel, rfl, by decide⟩
theorem d_L_law_226 : decode b_L_law 226 = .ok (.iconst 0, 1) ∧ 226 + 1 = 227 := ⟨by decide +kernel, rfl⟩
theorem d_L_law_227 : decode b_L_law 227 = .ok (.ireturn, 1) := by decide +kernel
theorem d_L_law_228 : decode b_L_law 228 = .ok (.iload 5, 2) ∧ 228 + 2 = 230 := ⟨by decide +kernel, rfl⟩
theorem d_L_law_230 : decode b_L_law 230 = .ok (.ifCond .ne 15, 3) ∧ 230 + 3 = 233 ∧ ((230 : Nat) : Int) + 15 = ((245 : Nat) : Int) := ⟨by decide +kernel, rfl, by decide⟩
theorem d_L_law_233 : decode b_L_law 233 = .ok (.aload_n 3, 1) ∧ 233 + 1 = 234 := ⟨by decide +kernel, rfl⟩
theorem d_L_law_234 : decode b_L_law 234 = .ok (.iconst 0, 1) ∧ 234 + 1 = 235 := ⟨by decide +kernel, rfl⟩
theorem d_L_law_235 : decode b_L_law 235 = .ok (.laload, 1) ∧ 235 + 1 = 236 := ⟨by decide +kernel, rfl⟩
theorem d_L_law_236 : decode b_L_law 236 = .ok (.iload 6, 2) ∧ 236 + 2 = 238 := ⟨by decide +kernel, rfl⟩
theorem d_L_law_238 : decode b_L_law 238 = .ok (.i2l, 1) ∧ 238 + 1 = 239 := ⟨by decide +kernel, rfl⟩
theorem d_L_law_239 : decode b_L_law 239 = .ok (.lcmp, 1) ∧ 239 + 1 = 240 := ⟨by decide +kernel, rfl⟩
theorem d_L_law_240 : decode b_L_law 240 = .ok (.ifCond .eq 5, 3) ∧ 240 + 3 = 243 ∧ ((240 : Nat) : Int) + 5 = ((245 : Nat) : Int) := ⟨by decide +kernel, rfl, by decide⟩
theorem d_L_law_243 : decode b_L_law 243 = .ok (.iconst 0, 1) ∧ 243 + 1 = 244 := ⟨by decide +kernel, rfl⟩
theorem d_L_law_244 : decode b_L_law 244 = .ok (.ireturn, 1) := by decide +kernel
theorem d_L_law_245 : decode b_L_law 245 = .ok (.goto 872, 3) ∧ ((245 : Nat) : Int) + 872 = ((1117 : Nat) : Int) := ⟨by decide +kernel, by decide⟩
theorem d_L_law_248 : decode b_L_law 248 = .ok (.aload_n 1, 1) ∧ 248 + 1 = 249 := ⟨by decide +kernel, rfl⟩
theorem d_L_law_249 : decode b_L_law 249 = .ok (.aload_n 0, 1) ∧ 249 + 1 = 250 := ⟨by decide +kernel, rfl⟩
theorem d_L_law_250 : decode b_L_law 250 = .ok (.iload 4, 2) ∧ 250 + 2 = 252 := ⟨by decide +kernel, rfl⟩
theorem d_L_law_252 : decode b_L_law 252 = .ok (.iconst 1, 1) ∧ 252 + 1 = 253 := ⟨by decide +kernel, rfl⟩
theorem d_L_law_253 : decode b_L_law 253 = .ok (.iadd, 1) ∧ 253 + 1 = 254 := ⟨by decide +kernel, rfl⟩
theorem d_L_law_254 : decode b_L_law 254 = .ok (.iaload, 1) ∧ 254 + 1 = 255 := ⟨by decide +kernel, rfl⟩
theorem d_L_law_255 : decode b_L_law 255 = .ok (.aload_n 0, 1) ∧ 255 + 1 = 256 := ⟨by decide +kernel, rfl⟩
theorem d_L_law_256 : decode b_L_law 256 = .ok (.iload 4, 2) ∧ 256 + 2 = 258 := ⟨by decide +kernel, rfl⟩
theorem d_L_law_258 : decode b_L_law 258 = .ok (.iconst 2, 1) ∧ 258 + 1 = 259 := ⟨by decide +kernel, rfl⟩
theorem d_L_law_259 : decode b_L_law 259 = .ok (.iadd, 1) ∧ 259 + 1 = 260 := ⟨by decide +kernel, rfl⟩
theorem d_L_law_260 : decode b_L_law 260 = .ok (.iaload, 1) ∧ 260 + 1 = 261 := ⟨by decide +kernel, rfl⟩
theorem d_L_law_261 : decode b_L_law 261 = .ok (.aload_n 0, 1) ∧ 261 + 1 = 262 := ⟨by decide +kernel, rfl⟩
theorem d_L_law_262 : decode b_L_law 262 = .ok (.iload 4, 2) ∧ 262 + 2 = 264 := ⟨by decide +kernel, rfl⟩
theorem d_L_law_264 : decode b_L_law 264 = .ok (.iconst 3, 1) ∧ 264 + 1 = 265 := ⟨by decide +kernel, rfl⟩
theorem d_L_law_265 : decode b_L_law 265 = .ok (.iadd, 1) ∧ 265 + 1 = 266 := ⟨by decide +kernel, rfl⟩
theorem d_L_law_266 : decode b_L_law 266 = .ok (.iaload, 1) ∧ 266 + 1 = 267 := ⟨by decide +kernel, rfl⟩
theorem d_L_law_267 : decode b_L_law 267 = .ok (.aload_n 3, 1) ∧ 267 + 1 = 268 := ⟨by decide +kernel, rfl⟩
theorem d_L_law_268 : decode b_L_law 268 = .ok (.invokestatic 86, 3) ∧ 268 + 3 = 271 := ⟨by decide +kernel, rfl⟩
theorem d_L_law_271 : decode b_L_law 271 = .ok (.istore 5, 2) ∧ 271 + 2 = 273 := ⟨by decide +kernel, rfl⟩
theorem d_L_law_273 : decode b_L_law 273 = .ok (.aload_n 2, 1) ∧ 273 + 1 = 274 := ⟨by decide +kernel, rfl⟩
theorem d_L_law_274 : decode b_L_law 274 = .ok (.aload_n 0, 1) ∧ 274 + 1 = 275 := ⟨by decide +kernel, rfl⟩
theorem d_L_law_275 : decode b_L_law 275 = .ok (.iload 4, 2) ∧ 275 + 2 = 277 := ⟨by decide +kernel, rfl⟩
theorem d_L_law_277 : decode b_L_law 277 = .ok (.iconst 1, 1) ∧ 277 + 1 = 278 := ⟨by decide +kernel, rfl⟩
theorem d_L_law_278 : decode b_L_law 278 = .ok (.iadd, 1) ∧ 278 + 1 = 279 := ⟨by decide +kernel, rfl⟩
theorem d_L_law_279 : decode b_L_law 279 = .ok (.iaload, 1) ∧ 279 + 1 = 280 := ⟨by decide +kernel, rfl⟩
theorem d_L_law_280 : decode b_L_law 280 = .ok (.aload_n 0, 1) ∧ 280 + 1 = 281 := ⟨by decide +kernel, rfl⟩
theorem d_L_law_281 : decode b_L_law 281 = .ok (.iload 4, 2) ∧ 281 + 2 = 283 := ⟨by decide +kernel, rfl⟩
theorem d_L_law_283 : decode b_L_law 283 = .ok (.iconst 2, 1) ∧ 283 + 1 = 284 := ⟨by decide +kernel, rfl⟩
theorem d_L_law_284 : decode b_L_law 284 = .ok (.iadd, 1) ∧ 284 + 1 = 285 := ⟨by decide +kernel, rfl⟩
theorem d_L_law_285 : decode b_L_law 285 = .ok (.iaload, 1) ∧ 285 + 1 = 286 := ⟨by decide +kernel, rfl⟩
theorem d_L_law_286 : decode b_L_law 286 = .ok (.aload_n 0, 1) ∧ 286 + 1 = 287 := ⟨by decide +kernel, rfl⟩
theorem d_L_law_287 : decode b_L_law 287 = .ok (.iload 4, 2) ∧ 287 + 2 = 289 := ⟨by decide +kernel, rfl⟩
theorem d_L_law_289 : decode b_L_law 289 = .ok (.iconst 3, 1) ∧ 289 + 1 = 290 := ⟨by decide +kernel, rfl⟩
theorem d_L_law_290 : decode b_L_law 290 = .ok (.iadd, 1) ∧ 290 + 1 = 291 := ⟨by decide +kernel, rfl⟩
theorem d_L_law_291 : decode b_L_law 291 = .ok (.iaload, 1) ∧ 291 + 1 = 292 := ⟨by decide +kernel, rfl⟩
theorem d_L_law_292 : decode b_L_law 292 = .ok (.invokevirtual 88, 3) ∧ 292 + 3 = 295 := ⟨by decide +kernel, rfl⟩
theorem d_L_law_295 : decode b_L_law 295 = .ok (.istore 6, 2) ∧ 295 + 2 = 297 := ⟨by decide +kernel, rfl⟩
theorem d_L_law_297 : decode b_L_law 297 = .ok (.aload_n 2, 1) ∧ 297 + 1 = 298 := ⟨by decide +kernel, rfl⟩
theorem d_L_law_298 : decode b_L_law 298 = .ok (.invokevirtual 78, 3) ∧ 298 + 3 = 301 := ⟨by decide +kernel, rfl⟩
theorem d_L_law_301 : decode b_L_law 301 = .ok (.iload 5, 2) ∧ 301 + 2 = 303 := ⟨by decide +kernel, rfl⟩
theorem d_L_law_303 : decode b_L_law 303 = .ok (.if_icmp .eq 5, 3) ∧ 303 + 3 = 306 ∧ ((303 : Nat) : Int) + 5 = ((308 : Nat) : Int) := ⟨by decide +kernel, rfl, by decide⟩
theorem d_L_law_306 : decode b_L_law 306 = .ok (.iconst 0, 1) ∧ 306 + 1 = 307 := ⟨by decide +kernel, rfl⟩
theorem d_L_law_307 : decode b_L_law 307 = .ok (.ireturn, 1) := by decide +kernel
theorem d_L_law_308 : decode b_L_law 308 = .ok (.iload 5, 2) ∧ 308 + 2 = 310 := ⟨by decide +kernel, rfl⟩
theorem d_L_law_310 : decode b_L_law 310 = .ok (.ifCond .ne 15, 3) ∧ 310 + 3 = 313 ∧ ((310 : Nat) : Int) + 15 = ((325 : Nat) : Int) := ⟨by decide +kernel, rfl, by decide⟩
theorem d_L_law_313 : decode b_L_law 313 = .ok (.aload_n 3, 1) ∧ 313 + 1 = 314 := ⟨by decide +kernel, rfl⟩
theorem d_L_law_314 : decode b_L_law 314 = .ok (.iconst 0, 1) ∧ 314 + 1 = 315 := ⟨by decide +kernel, rfl⟩
theorem d_L_law_315 : decode b_L_law 315 = .ok (.laload, 1) ∧ 315 + 1 = 316 := ⟨by decide +kernel, rfl⟩
theorem d_L_law_316 : decode b_L_law 316 = .ok (.iload 6, 2) ∧ 316 + 2 = 318 := ⟨by decide +kernel, rfl⟩
theorem d_L_law_318 : decode b_L_law 318 = .ok (.i2l, 1) ∧ 318 + 1 = 319 := ⟨by decide +kernel, rfl⟩
theorem d_L_law_319 : decode b_L_law 319 = .ok (.lcmp, 1) ∧ 319 + 1 = 320 := ⟨by decide +kernel, rfl⟩
theorem d_L_law_320 : decode b_L_law 320 = .ok (.ifCond .eq 5, 3) ∧ 320 + 3 = 323 ∧ ((320 : Nat) : Int) + 5 = ((325 : Nat) : Int) := ⟨by decide +kernel, rfl, by decide⟩
theorem d_L_law_323 : decode b_L_law 323 = .ok (.iconst 0, 1) ∧ 323 + 1 = 324 := ⟨by decide +kernel, rfl⟩
theorem d_L_law_324 : decode b_L_law 324 = .ok (.ireturn, 1) := by decide +kernel
theorem d_L_law_325 : decode b_L_law 325 = .ok (.goto 792, 3) ∧ ((325 : Nat) : Int) + 792 = ((1117 : Nat) : Int) := ⟨by decide +kernel, by decide⟩
theorem d_L_law_328 : decode b_L_law 328 = .ok (.aload_n 1, 1) ∧ 328 + 1 = 329 := ⟨by decide +kernel, rfl⟩
theorem d_L_law_329 : decode b_L_law 329 = .ok (.aload_n 0, 1) ∧ 329 + 1 = 330 := ⟨by decide +kernel, rfl⟩
theorem d_L_law_330 : decode b_L_law 330 = .ok (.iload 4, 2) ∧ 330 + 2 = 332 := ⟨by decide +kernel, rfl⟩
theorem d_L_law_332 : decode b_L_law 332 = .ok (.iconst 1, 1) ∧ 332 + 1 = 333 := ⟨by decide +kernel, rfl⟩
theorem d_L_law_333 : decode b_L_law 333 = .ok (.iadd, 1) ∧ 333 + 1 = 334 := ⟨by decide +kernel, rfl⟩
theorem d_L_law_334 : decode b_L_law 334 = .ok (.iaload, 1) ∧ 334 + 1 = 335 := ⟨by decide +kernel, rfl⟩
theorem d_L_law_335 : decode b_L_law 335 = .ok (.aload_n 0, 1) ∧ 335 + 1 = 336 := ⟨by decide +kernel, rfl⟩
theorem d_L_law_336 : decode b_L_law 336 = .ok (.iload 4, 2) ∧ 336 + 2 = 338 := ⟨by decide +kernel, rfl⟩
theorem d_L_law_338 : decode b_L_law 338 = .ok (.iconst 2, 1) ∧ 338 + 1 = 339 := ⟨by decide +kernel, rfl⟩
theorem d_L_law_339 : decode b_L_law 339 = .ok (.iadd, 1) ∧ 339 + 1 = 340 := ⟨by decide +kernel, rfl⟩
theorem d_L_law_340 : decode b_L_law 340 = .ok (.iaload, 1) ∧ 340 + 1 = 341 := ⟨by decide +kernel, rfl⟩
theorem d_L_law_341 : decode b_L_law 341 = .ok (.aload_n 0, 1) ∧ 341 + 1 = 342 := ⟨by decide +kernel, rfl⟩
theorem d_L_law_342 : decode b_L_law 342 = .ok (.iload 4, 2) ∧ 342 + 2 = 344 := ⟨by decide +kernel, rfl⟩
theorem d_L_law_344 : decode b_L_law 344 = .ok (.iconst 3, 1) ∧ 344 + 1 = 345 := ⟨by decide +kernel, rfl⟩
theorem d_L_law_345 : decode b_L_law 345 = .ok (.iadd, 1) ∧ 345 + 1 = 346 := ⟨by decide +kernel, rfl⟩
theorem d_L_law_346 : decode b_L_law 346 = .ok (.iaload, 1) ∧ 346 + 1 = 347 := ⟨by decide +kernel, rfl⟩
theorem d_L_law_347 : decode b_L_law 347 = .ok (.invokestatic 89, 3) ∧ 347 + 3 = 350 := ⟨by decide +kernel, rfl⟩
theorem d_L_law_350 : decode b_L_law 350 = .ok (.istore 5, 2) ∧ 350 + 2 = 352 := ⟨by decide +kernel, rfl⟩
theorem d_L_law_352 : decode b_L_law 352 = .ok (.aload_n 2, 1) ∧ 352 + 1 = 353 := ⟨by decide +kernel, rfl⟩
theorem d_L_law_353 : decode b_L_law 353 = .ok (.aload_n 0, 1) ∧ 353 + 1 = 354 := ⟨by decide +kernel, rfl⟩
theorem d_L_law_354 : decode b_L_law 354 = .ok (.iload 4, 2) ∧ 354 + 2 = 356 := ⟨by decide +kernel, rfl⟩
theorem d_L_law_356 : decode b_L_law 356 = .ok (.iconst 1, 1) ∧ 356 + 1 = 357 := ⟨by decide +kernel, rfl⟩
theorem d_L_law_357 : decode b_L_law 357 = .ok (.iadd, 1) ∧ 357 + 1 = 358 := ⟨by decide +kernel, rfl⟩
theorem d_L_law_358 : decode b_L_law 358 = .ok (.iaload, 1) ∧ 358 + 1 = 359 := ⟨by decide +kernel, rfl⟩
theorem d_L_law_359 : decode b_L_law 359 = .ok (.aload_n 0, 1) ∧ 359 + 1 = 360 := ⟨by decide +kernel, rfl⟩
theorem d_L_law_360 : decode b_L_law 360 = .ok (.iload 4, 2) ∧ 360 + 2 = 362 := ⟨by decide +kernel, rfl⟩
theorem d_L_law_362 : decode b_L_law 362 = .ok (.iconst 2, 1) ∧ 362 + 1 = 363 := ⟨by decide +kernel, rfl⟩
theorem d_L_law_363 : decode b_L_law 363 = .ok (.iadd, 1) ∧ 363 + 1 = 364 := ⟨by decide +kernel, rfl⟩
theorem d_L_law_364 : decode b_L_law 364 = .ok (.iaload, 1) ∧ 364 + 1 = 365 := ⟨by decide +kernel, rfl⟩
theorem d_L_law_365 : decode b_L_law 365 = .ok (.aload_n 0, 1) ∧ 365 + 1 = 366 := ⟨by decide +kernel, rfl⟩
theorem d_L_law_366 : decode b_L_law 366 = .ok (.iload 4, 2) ∧ 366 + 2 = 368 := ⟨by decide +kernel, rfl⟩
theorem d_L_law_368 : decode b_L_law 368 = .ok (.iconst 3, 1) ∧ 368 + 1 = 369 := ⟨by decide +kernel, rfl⟩
theorem d_L_law_369 : decode b_L_law 369 = .ok (.iadd, 1) ∧ 369 + 1 = 370 := ⟨by decide +kernel, rfl⟩
theorem d_L_law_370 : decode b_L_law 370 = .ok (.iaload, 1) ∧ 370 + 1 = 371 := ⟨by decide +kernel, rfl⟩
theorem d_L_law_371 : decode b_L_law 371 = .ok (.invokevirtual 92, 3) ∧ 371 + 3 = 374 := ⟨by decide +kernel, rfl⟩
theorem d_L_law_374 : decode b_L_law 374 = .ok (.aload_n 2, 1) ∧ 374 + 1 = 375 := ⟨by decide +kernel, rfl⟩
theorem d_L_law_375 : decode b_L_law 375 = .ok (.invokevirtual 78, 3) ∧ 375 + 3 = 378 := ⟨by decide +kernel, rfl⟩
theorem d_L_law_378 : decode b_L_law 378 = .ok (.iload 5, 2) ∧ 378 + 2 = 380 := ⟨by decide +kernel, rfl⟩
theorem d_L_law_380 : decode b_L_law 380 = .ok (.if_icmp .eq 5, 3) ∧ 380 + 3 = 383 ∧ ((380 : Nat) : Int) + 5 = ((385 : Nat) : Int) := ⟨by decide +kernel, rfl, by decide⟩
theorem d_L_law_383 : decode b_L_law 383 = .ok (.iconst 0, 1) ∧ 383 + 1 = 384 := ⟨by decide +kernel, rfl⟩
theorem d_L_law_384 : decode b_L_law 384 = .ok (.ireturn, 1) := by decide +kernel
theorem d_L_law_385 : decode b_L_law 385 = .ok (.goto 732, 3) ∧ ((385 : Nat) : Int) + 732 = ((1117 : Nat) : Int) := ⟨by decide +kernel, by decide⟩
theorem d_L_law_388 : decode b_L_law 388 = .ok (.aload_n 1, 1) ∧ 388 + 1 = 389 := ⟨by decide +kernel, rfl⟩
theorem d_L_law_389 : decode b_L_law 389 = .ok (.aload_n 0, 1) ∧ 389 + 1 = 390 := ⟨by decide +kernel, rfl⟩
theorem d_L_law_390 : decode b_L_law 390 = .ok (.iload 4, 2) ∧ 390 + 2 = 392 := ⟨by decide +kernel, rfl⟩
theorem d_L_law_392 : decode b_L_law 392 = .ok (.iconst 1, 1) ∧ 392 + 1 = 393 := ⟨by decide +kernel, rfl⟩
theorem d_L_law_393 : decode b_L_law 393 = .ok (.iadd, 1) ∧ 393 + 1 = 394 := ⟨by decide +kernel, rfl⟩
theorem d_L_law_394 : decode b_L_law 394 = .ok (.iaload, 1) ∧ 394 + 1 = 395 := ⟨by decide +kernel, rfl⟩
theorem d_L_law_395 : decode b_L_law 395 = .ok (.aload_n 0, 1) ∧ 395 + 1 = 396 := ⟨by decide +kernel, rfl⟩
theorem d_L_law_396 : decode b_L_law 396 = .ok (.iload 4, 2) ∧ 396 + 2 = 398 := ⟨by decide +kernel, rfl⟩
theorem d_L_law_398 : decode b_L_law 398 = .ok (.iconst 2, 1) ∧ 398 + 1 = 399 := ⟨by decide +kernel, rfl⟩
theorem d_L_law_399 : decode b_L_law 399 = .ok (.iadd, 1) ∧ 399 + 1 = 400 := ⟨by decide +kernel, rfl⟩
theorem d_L_law_400 : decode b_L_law 400 = .ok (.iaload, 1) ∧ 400 + 1 = 401 := ⟨by decide +kernel, rfl⟩
theorem d_L_law_401 : decode b_L_law 401 = .ok (.aload_n 3, 1) ∧ 401 + 1 = 402 := ⟨by decide +kernel, rfl⟩
theorem d_L_law_402 : decode b_L_law 402 = .ok (.invokestatic 93, 3) ∧ 402 + 3 = 405 := ⟨by decide +kernel, rfl⟩
theorem d_L_law_405 : decode b_L_law 405 = .ok (.istore 5, 2) ∧ 405 + 2 = 407 := ⟨by decide +kernel, rfl⟩
theorem d_L_law_407 : decode b_L_law 407 = .ok (.aload_n 2, 1) ∧ 407 + 1 = 408 := ⟨by decide +kernel, rfl⟩
theorem d_L_law_408 : decode b_L_law 408 = .ok (.aload_n 0, 1) ∧ 408 + 1 = 409 := ⟨by decide +kernel, rfl⟩
theorem d_L_law_409 : decode b_L_law 409 = .ok (.iload 4, 2) ∧ 409 + 2 = 411 := ⟨by decide +kernel, rfl⟩
theorem d_L_law_411 : decode b_L_law 411 = .ok (.iconst 1, 1) ∧ 411 + 1 = 412 := ⟨by decide +kernel, rfl⟩
theorem d_L_law_412 : decode b_L_law 412 = .ok (.iadd, 1) ∧ 412 + 1 = 413 := ⟨by decide +kernel, rfl⟩
theorem d_L_law_413 : decode b_L_law 413 = .ok (.iaload, 1) ∧ 413 + 1 = 414 := ⟨by decide +kernel, rfl⟩
theorem d_L_law_414 : decode b_L_law 414 = .ok (.aload_n 0, 1) ∧ 414 + 1 = 415 := ⟨by decide +kernel, rfl⟩
theorem d_L_law_415 : decode b_L_law 415 = .ok (.iload 4, 2) ∧ 415 + 2 = 417 := ⟨by decide +kernel, rfl⟩
theorem d_L_law_417 : decode b_L_law 417 = .ok (.iconst 2, 1) ∧ 417 + 1 = 418 := ⟨by decide +kernel, rfl⟩
theorem d_L_law_418 : decode b_L_law 418 = .ok (.iadd, 1) ∧ 418 + 1 = 419 := ⟨by decide +kernel, rfl⟩
theorem d_L_law_419 : decode b_L_law 419 = .ok (.iaload, 1) ∧ 419 + 1 = 420 := ⟨by decide +kernel, rfl⟩
theorem d_L_law_420 : decode b_L_law 420 = .ok (.invokevirtual 96, 3) ∧ 420 + 3 = 423 := ⟨by decide +kernel, rfl⟩
theorem d_L_law_423 : decode b_L_law 423 = .ok (.istore 6, 2) ∧ 423 + 2 = 425 := ⟨by decide +kernel, rfl⟩
theorem d_L_law_425 : decode b_L_law 425 = .ok (.aload_n 2, 1) ∧ 425 + 1 = 426 := ⟨by decide +kernel, rfl⟩
theorem d_L_law_426 : decode b_L_law 426 = .ok (.invokevirtual 78, 3) ∧ 426 + 3 = 429 := ⟨by decide +kernel, rfl⟩
theorem d_L_law_429 : decode b_L_law 429 = .ok (.iload 5, 2) ∧ 429 + 2 = 431 := ⟨by decide +kernel, rfl⟩
theorem d_L_law_431 : decode b_L_law 431 = .ok (.if_icmp .eq 5, 3) ∧ 431 + 3 = 434 ∧ ((431 : Nat) : Int) + 5 = ((436 : Nat) : Int) := ⟨by decide +kernel, rfl, by decide⟩
theorem d_L_law_434 : decode b_L_law 434 = .ok (.iconst 0, 1) ∧ 434 + 1 = 435 := ⟨by decide +kernel, rfl⟩
theorem d_L_law_435 : decode b_L_law 435 = .ok (.ireturn, 1) := by decide +kernel
theorem d_L_law_436 : decode b_L_law 436 = .ok (.iload 5, 2) ∧ 436 + 2 = 438 := ⟨by decide +kernel, rfl⟩
theorem d_L_law_438 : decode b_L_law 438 = .ok (.ifCond .ne 15, 3) ∧ 438 + 3 = 441 ∧ ((438 : Nat) : Int) + 15 = ((453 : Nat) : Int) := ⟨by decide +kernel, rfl, by decide⟩
theorem d_L_law_441 : decode b_L_law 441 = .ok (.aload_n 3, 1) ∧ 441 + 1 = 442 := ⟨by decide +kernel, rfl⟩
theorem d_L_law_442 : decode b_L_law 442 = .ok (.iconst 0, 1) ∧ 442 + 1 = 443 := ⟨by decide +kernel, rfl⟩
theorem d_L_law_443 : decode b_L_law 443 = .ok (.laload, 1) ∧ 443 + 1 = 444 := ⟨by decide +kernel, rfl⟩
theorem d_L_law_444 : decode b_L_law 444 = .ok (.iload 6, 2) ∧ 444 + 2 = 446 := ⟨by decide +kernel, rfl⟩
theorem d_L_law_446 : decode b_L_law 446 = .ok (.i2l, 1) ∧ 446 + 1 = 447 := ⟨by decide +kernel, rfl⟩
theorem d_L_law_447 : decode b_L_law 447 = .ok (.lcmp, 1) ∧ 447 + 1 = 448 := ⟨by decide +kernel, rfl⟩
theorem d_L_law_448 : decode b_L_law 448 = .ok (.ifCond .eq 5, 3) ∧ 448 + 3 = 451 ∧ ((448 : Nat) : Int) + 5 = ((453 : Nat) : Int) := ⟨by decide +kernel, rfl, by decide⟩
theorem d_L_law_451 : decode b_L_law 451 = .ok (.iconst 0, 1) ∧ 451 + 1 = 452 := ⟨by decide +kernel, rfl⟩
theorem d_L_law_452 : decode b_L_law 452 = .ok (.ireturn, 1) := by decide +kernel
theorem d_L_law_453 : decode b_L_law 453 = .ok (.goto 664, 3) ∧ ((453 : Nat) : Int) + 664 = ((1117 : Nat) : Int) := ⟨by decide +kernel, by decide⟩
theorem d_L_law_456 : decode b_L_law 456 = .ok (.aload_n 1, 1) ∧ 456 + 1 = 457 := ⟨by decide +kernel, rfl⟩
theorem d_L_law_457 : decode b_L_law 457 = .ok (.aload_n 0, 1) ∧ 457 + 1 = 458 := ⟨by decide +kernel, rfl⟩
theorem d_L_law_458 : decode b_L_law 458 = .ok (.iload 4, 2) ∧ 458 + 2 = 460 := ⟨by decide +kernel, rfl⟩
theorem d_L_law_460 : decode b_L_law 460 = .ok (.iconst 1, 1) ∧ 460 + 1 = 461 := ⟨by decide +kernel, rfl⟩
theorem d_L_law_461 : decode b_L_law 461 = .ok (.iadd, 1) ∧ 461 + 1 = 462 := ⟨by decide +kernel, rfl⟩
theorem d_L_law_462 : decode b_L_law 462 = .ok (.iaload, 1) ∧ 462 + 1 = 463 := ⟨by decide +kernel, rfl⟩
theorem d_L_law_463 : decode b_L_law 463 = .ok (.invokestatic 97, 3) ∧ 463 + 3 = 466 := ⟨by decide +kernel, rfl⟩
theorem d_L_law_466 : decode b_L_law 466 = .ok (.istore 5, 2) ∧ 466 + 2 = 468 := ⟨by decide +kernel, rfl⟩
theorem d_L_law_468 : decode b_L_law 468 = .ok (.aload_n 2, 1) ∧ 468 + 1 = 469 := ⟨by decide +kernel, rfl⟩
theorem d_L_law_469 : decode b_L_law 469 = .ok (.aload_n 0, 1) ∧ 469 + 1 = 470 := ⟨by decide +kernel, rfl⟩
theorem d_L_law_470 : decode b_L_law 470 = .ok (.iload 4, 2) ∧ 470 + 2 = 472 := ⟨by decide +kernel, rfl⟩
theorem d_L_law_472 : decode b_L_law 472 = .ok (.iconst 1, 1) ∧ 472 + 1 = 473 := ⟨by decide +kernel, rfl⟩
theorem d_L_law_473 : decode b_L_law 473 = .ok (.iadd, 1) ∧ 473 + 1 = 474 := ⟨by decide +kernel, rfl⟩
theorem d_L_law_474 : decode b_L_law 474 = .ok (.iaload, 1) ∧ 474 + 1 = 475 := ⟨by decide +kernel, rfl⟩
theorem d_L_law_475 : decode b_L_law 475 = .ok (.invokevirtual 100, 3) ∧ 475 + 3 = 478 := ⟨by decide +kernel, rfl⟩
theorem d_L_law_478 : decode b_L_law 478 = .ok (.aload_n 2, 1) ∧ 478 + 1 = 479 := ⟨by decide +kernel, rfl⟩
theorem d_L_law_479 : decode b_L_law 479 = .ok (.invokevirtual 78, 3) ∧ 479 + 3 = 482 := ⟨by decide +kernel, rfl⟩
theorem d_L_law_482 : decode b_L_law 482 = .ok (.iload 5, 2) ∧ 482 + 2 = 484 := ⟨by decide +kernel, rfl⟩
theorem d_L_law_484 : decode b_L_law 484 = .ok (.if_icmp .eq 5, 3) ∧ 484 + 3 = 487 ∧ ((484 : Nat) : Int) + 5 = ((489 : Nat) : Int) := ⟨by decide +kernel, rfl, by decide⟩
theorem d_L_law_487 : decode b_L_law 487 = .ok (.iconst 0, 1) ∧ 487 + 1 = 488 := ⟨by decide +kernel, rfl⟩
theorem d_L_law_488 : decode b_L_law 488 = .ok (.ireturn, 1) := by decide +kernel
theorem d_L_law_489 : decode b_L_law 489 = .ok (.goto 628, 3) ∧ ((489 : Nat) : Int) + 628 = ((1117 : Nat) : Int) := ⟨by decide +kernel, by decide⟩
theorem d_L_law_492 : decode b_L_law 492 = .ok (.aload_n 1, 1) ∧ 492 + 1 = 493 := ⟨by decide +kernel, rfl⟩
theorem d_L_law_493 : decode b_L_law 493 = .ok (.aload_n 0, 1) ∧ 493 + 1 = 494 := ⟨by decide +kernel, rfl⟩
theorem d_L_law_494 : decode b_L_law 494 = .ok (.iload 4, 2) ∧ 494 + 2 = 496 := ⟨by decide +kernel, rfl⟩
theorem d_L_law_496 : decode b_L_law 496 = .ok (.iconst 1, 1) ∧ 496 + 1 = 497 := ⟨by decide +kernel, rfl⟩
theorem d_L_law_497 : decode b_L_law 497 = .ok (.iadd, 1) ∧ 497 + 1 = 498 := ⟨by decide +kernel, rfl⟩
theorem d_L_law_498 : decode b_L_law 498 = .ok (.iaload, 1) ∧ 498 + 1 = 499 := ⟨by decide +kernel, rfl⟩
theorem d_L_law_499 : decode b_L_law 499 = .ok (.aload_n 3, 1) ∧ 499 + 1 = 500 := ⟨by decide +kernel, rfl⟩
theorem d_L_law_500 : decode b_L_law 500 = .ok (.invokestatic 101, 3) ∧ 500 + 3 = 503 := ⟨by decide +kernel, rfl⟩
theorem d_L_law_503 : decode b_L_law 503 = .ok (.istore 5, 2) ∧ 503 + 2 = 505 := ⟨by decide +kernel, rfl⟩
theorem d_L_law_505 : decode b_L_law 505 = .ok (.aload_n 2, 1) ∧ 505 + 1 = 506 := ⟨by decide +kernel, rfl⟩
theorem d_L_law_506 : decode b_L_law 506 = .ok (.aload_n 0, 1) ∧ 506 + 1 = 507 := ⟨by decide +kernel, rfl⟩
theorem d_L_law_507 : decode b_L_law 507 = .ok (.iload 4, 2) ∧ 507 + 2 = 509 := ⟨by decide +kernel, rfl⟩
theorem d_L_law_509 : decode b_L_law 509 = .ok (.iconst 1, 1) ∧ 509 + 1 = 510 := ⟨by decide +kernel, rfl⟩
theorem d_L_law_510 : decode b_L_law 510 = .ok (.iadd, 1) ∧ 510 + 1 = 511 := ⟨by decide +kernel, rfl⟩
theorem d_L_law_511 : decode b_L_law 511 = .ok (.iaload, 1) ∧ 511 + 1 = 512 := ⟨by decide +kernel, rfl⟩
theorem d_L_law_512 : decode b_L_law 512 = .ok (.invokevirtual 104, 3) ∧ 512 + 3 = 515 := ⟨by decide +kernel, rfl⟩
theorem d_L_law_515 : decode b_L_law 515 = .ok (.istore 6, 2) ∧ 515 + 2 = 517 := ⟨by decide +kernel, rfl⟩
theorem d_L_law_517 : decode b_L_law 517 = .ok (.aload_n 2, 1) ∧ 517 + 1 = 518 := ⟨by decide +kernel, rfl⟩
theorem d_L_law_518 : decode b_L_law 518 = .ok (.invokevirtual 78, 3) ∧ 518 + 3 = 521 := ⟨by decide +kernel, rfl⟩
theorem d_L_law_521 : decode b_L_law 521 = .ok (.iload 5, 2) ∧ 521 + 2 = 523 := ⟨by decide +kernel, rfl⟩
theorem d_L_law_523 : decode b_L_law 523 = .ok (.if_icmp .eq 5, 3) ∧ 523 + 3 = 526 ∧ ((523 : Nat) : Int) + 5 = ((528 : Nat) : Int) := ⟨by decide +kernel, rfl, by decide⟩
theorem d_L_law_526 : decode b_L_law 526 = .ok (.iconst 0, 1) ∧ 526 + 1 = 527 := ⟨by decide +kernel, rfl⟩
theorem d_L_law_527 : decode b_L_law 527 = .ok (.ireturn, 1) := by decide +kernel
theorem d_L_law_528 : decode b_L_law 528 = .ok (.iload 5, 2) ∧ 528 + 2 = 530 := ⟨by decide +kernel, rfl⟩
theorem d_L_law_530 : decode b_L_law 530 = .ok (.ifCond .ne 22, 3) ∧ 530 + 3 = 533 ∧ ((530 : Nat) : Int) + 22 = ((552 : Nat) : Int) := ⟨by decide +kernel, rfl, by decide⟩
theorem d_L_law_533 : decode b_L_law 533 = .ok (.aload_n 3, 1) ∧ 533 + 1 = 534 := ⟨by decide +kernel, rfl⟩
theorem d_L_law_534 : decode b_L_law 534 = .ok (.iconst 0, 1) ∧ 534 + 1 = 535 := ⟨by decide +kernel, rfl⟩
theorem d_L_law_535 : decode b_L_law 535 = .ok (.laload, 1) ∧ 535 + 1 = 536 := ⟨by decide +kernel, rfl⟩
theorem d_L_law_536 : decode b_L_law 536 = .ok (.iload 6, 2) ∧ 536 + 2 = 538 := ⟨by decide +kernel, rfl⟩
theorem d_L_law_538 : decode b_L_law 538 = .ok (.ifCond .eq 7, 3) ∧ 538 + 3 = 541 ∧ ((538 : Nat) : Int) + 7 = ((545 : Nat) : Int) := ⟨by decide +kernel, rfl, by decide⟩
theorem d_L_law_541 : decode b_L_law 541 = .ok (.lconst 1, 1) ∧ 541 + 1 = 542 := ⟨by decide +kernel, rfl⟩
theorem d_L_law_542 : decode b_L_law 542 = .ok (.goto 4, 3) ∧ ((542 : Nat) : Int) + 4 = ((546 : Nat) : Int) := ⟨by decide +kernel, by decide⟩
theorem d_L_law_545 : decode b_L_law 545 = .ok (.lconst 0, 1) ∧ 545 + 1 = 546 := ⟨by decide +kernel, rfl⟩
theorem d_L_law_546 : decode b_L_law 546 = .ok (.lcmp, 1) ∧ 546 + 1 = 547 := ⟨by decide +kernel, rfl⟩
theorem d_L_law_547 : decode b_L_law 547 = .ok (.ifCond .eq 5, 3) ∧ 547 + 3 = 550 ∧ ((547 : Nat) : Int) + 5 = ((552 : Nat) : Int) := ⟨by decide +kernel, rfl, by decide⟩
theorem d_L_law_550 : decode b_L_law 550 = .ok (.iconst 0, 1) ∧ 550 + 1 = 551 := ⟨by decide +kernel, rfl⟩
theorem d_L_law_551 : decode b_L_law 551 = .ok (.ireturn, 1) := by decide +kernel
theorem d_L_law_552 : decode b_L_law 552 = .ok (.goto 565, 3) ∧ ((552 : Nat) : Int) + 565 = ((1117 : Nat) : Int) := ⟨by decide +kernel, by decide⟩
theorem d_L_law_555 : decode b_L_law 555 = .ok (.aload_n 1, 1) ∧ 555 + 1 = 556 := ⟨by decide +kernel, rfl⟩
theorem d_L_law_556 : decode b_L_law 556 = .ok (.aload_n 0, 1) ∧ 556 + 1 = 557 := ⟨by decide +kernel, rfl⟩
theorem d_L_law_557 : decode b_L_law 557 = .ok (.iload 4, 2) ∧ 557 + 2 = 559 := ⟨by decide +kernel, rfl⟩
theorem d_L_law_559 : decode b_L_law 559 = .ok (.iconst 1, 1) ∧ 559 + 1 = 560 := ⟨by decide +kernel, rfl⟩
theorem d_L_law_560 : decode b_L_law 560 = .ok (.iadd, 1) ∧ 560 + 1 = 561 := ⟨by decide +kernel, rfl⟩
theorem d_L_law_561 : decode b_L_law 561 = .ok (.iaload, 1) ∧ 561 + 1 = 562 := ⟨by decide +kernel, rfl⟩
theorem d_L_law_562 : decode b_L_law 562 = .ok (.aload_n 0, 1) ∧ 562 + 1 = 563 := ⟨by decide +kernel, rfl⟩
theorem d_L_law_563 : decode b_L_law 563 = .ok (.iload 4, 2) ∧ 563 + 2 = 565 := ⟨by decide +kernel, rfl⟩
theorem d_L_law_565 : decode b_L_law 565 = .ok (.iconst 2, 1) ∧ 565 + 1 = 566 := ⟨by decide +kernel, rfl⟩
theorem d_L_law_566 : decode b_L_law 566 = .ok (.iadd, 1) ∧ 566 + 1 = 567 := ⟨by decide +kernel, rfl⟩
theorem d_L_law_567 : decode b_L_law 567 = .ok (.iaload, 1) ∧ 567 + 1 = 568 := ⟨by decide +kernel, rfl⟩
theorem d_L_law_568 : decode b_L_law 568 = .ok (.aload_n 3, 1) ∧ 568 + 1 = 569 := ⟨by decide +kernel, rfl⟩
theorem d_L_law_569 : decode b_L_law 569 = .ok (.invokestatic 105, 3) ∧ 569 + 3 = 572 := ⟨by decide +kernel, rfl⟩
theorem d_L_law_572 : decode b_L_law 572 = .ok (.istore 5, 2) ∧ 572 + 2 = 574 := ⟨by decide +kernel, rfl⟩
theorem d_L_law_574 : decode b_L_law 574 = .ok (.aload_n 2, 1) ∧ 574 + 1 = 575 := ⟨by decide +kernel, rfl⟩
theorem d_L_law_575 : decode b_L_law 575 = .ok (.aload_n 0, 1) ∧ 575 + 1 = 576 := ⟨by decide +kernel, rfl⟩
theorem d_L_law_576 : decode b_L_law 576 = .ok (.iload 4, 2) ∧ 576 + 2 = 578 := ⟨by decide +kernel, rfl⟩
theorem d_L_law_578 : decode b_L_law 578 = .ok (.iconst 1, 1) ∧ 578 + 1 = 579 := ⟨by decide +kernel, rfl⟩
theorem d_L_law_579 : decode b_L_law 579 = .ok (.iadd, 1) ∧ 579 + 1 = 580 := ⟨by decide +kernel, rfl⟩
theorem d_L_law_580 : decode b_L_law 580 = .ok (.iaload, 1) ∧ 580 + 1 = 581 := ⟨by decide +kernel, rfl⟩
theorem d_L_law_581 : decode b_L_law 581 = .ok (.aload_n 0, 1) ∧ 581 + 1 = 582 := ⟨by decide +kernel, rfl⟩
theorem d_L_law_582 : decode b_L_law 582 = .ok (.iload 4, 2) ∧ 582 + 2 = 584 := ⟨by decide +kernel, rfl⟩
theorem d_L_law_584 : decode b_L_law 584 = .ok (.iconst 2, 1) ∧ 584 + 1 = 585 := ⟨by decide +kernel, rfl⟩
theorem d_L_law_585 : decode b_L_law 585 = .ok (.iadd, 1) ∧ 585 + 1 = 586 := ⟨by decide +kernel, rfl⟩
theorem d_L_law_586 : decode b_L_law 586 = .ok (.iaload, 1) ∧ 586 + 1 = 587 := ⟨by decide +kernel, rfl⟩
theorem d_L_law_587 : decode b_L_law 587 = .ok (.invokevirtual 107, 3) ∧ 587 + 3 = 590 := ⟨by decide +kernel, rfl⟩
theorem d_L_law_590 : decode b_L_law 590 = .ok (.istore 6, 2) ∧ 590 + 2 = 592 := ⟨by decide +kernel, rfl⟩
theorem d_L_law_592 : decode b_L_law 592 = .ok (.aload_n 2, 1) ∧ 592 + 1 = 593 := ⟨by decide +kernel, rfl⟩
theorem d_L_law_593 : decode b_L_law 593 = .ok (.invokevirtual 78, 3) ∧ 593 + 3 = 596 := ⟨by decide +kernel, rfl⟩
theorem d_L_law_596 : decode b_L_law 596 = .ok (.iload 5, 2) ∧ 596 + 2 = 598 := ⟨by decide +kernel, rfl⟩
theorem d_L_law_598 : decode b_L_law 598 = .ok (.if_icmp .eq 5, 3) ∧ 598 + 3 = 601 ∧ ((598 : Nat) : Int) + 5 = ((603 : Nat) : Int) := ⟨by decide +kernel, rfl, by decide⟩
theorem d_L_law_601 : decode b_L_law 601 = .ok (.iconst 0, 1) ∧ 601 + 1 = 602 := ⟨by decide +kernel, rfl⟩
theorem d_L_law_602 : decode b_L_law 602 = .ok (.ireturn, 1) := by decide +kernel
theorem d_L_law_603 : decode b_L_law 603 = .ok (.iload 5, 2) ∧ 603 + 2 = 605 := ⟨by decide +kernel, rfl⟩
theorem d_L_law_605 : decode b_L_law 605 = .ok (.ifCond .ne 15, 3) ∧ 605 + 3 = 608 ∧ ((605 : Nat) : Int) + 15 = ((620 : Nat) : Int) := ⟨by decide +kernel, rfl, by decide⟩
theorem d_L_law_608 : decode b_L_law 608 = .ok (.aload_n 3, 1) ∧ 608 + 1 = 609 := ⟨by decide +kernel, rfl⟩
theorem d_L_law_609 : decode b_L_law 609 = .ok (.iconst 0, 1) ∧ 609 + 1 = 610 := ⟨by decide +kernel, rfl⟩
theorem d_L_law_610 : decode b_L_law 610 = .ok (.laload, 1) ∧ 610 + 1 = 611 := ⟨by decide +kernel, rfl⟩
theorem d_L_law_611 : decode b_L_law 611 = .ok (.iload 6, 2) ∧ 611 + 2 = 613 := ⟨by decide +kernel, rfl⟩
theorem d_L_law_613 : decode b_L_law 613 = .ok (.i2l, 1) ∧ 613 + 1 = 614 := ⟨by decide +kernel, rfl⟩
theorem d_L_law_614 : decode b_L_law 614 = .ok (.lcmp, 1) ∧ 614 + 1 = 615 := ⟨by decide +kernel, rfl⟩
theorem d_L_law_615 : decode b_L_law 615 = .ok (.ifCond .eq 5, 3) ∧ 615 + 3 = 618 ∧ ((615 : Nat) : Int) + 5 = ((620 : Nat) : Int) := ⟨by decide +kernel, rfl, by decide⟩
theorem d_L_law_618 : decode b_L_law 618 = .ok (.iconst 0, 1) ∧ 618 + 1 = 619 := ⟨by decide +kernel, rfl⟩
theorem d_L_law_619 : decode b_L_law 619 = .ok (.ireturn, 1) := by decide +kernel
theorem d_L_law_620 : decode b_L_law 620 = .ok (.goto 497, 3) ∧ ((620 : Nat) : Int) + 497 = ((1117 : Nat) : Int) := ⟨by decide +kernel, by decide⟩
theorem d_L_law_623 : decode b_L_law 623 = .ok (.aload_n 1, 1) ∧ 623 + 1 = 624 := ⟨by decide +kernel, rfl⟩
theorem d_L_law_624 : decode b_L_law 624 = .ok (.aload_n 0, 1) ∧ 624 + 1 = 625 := ⟨by decide +kernel, rfl⟩
theorem d_L_law_625 : decode b_L_law 625 = .ok (.iload 4, 2) ∧ 625 + 2 = 627 := ⟨by decide +kernel, rfl⟩
theorem d_L_law_627 : decode b_L_law 627 = .ok (.iconst 1, 1) ∧ 627 + 1 = 628 := ⟨by decide +kernel, rfl⟩
theorem d_L_law_628 : decode b_L_law 628 = .ok (.iadd, 1) ∧ 628 + 1 = 629 := ⟨by decide +kernel, rfl⟩
theorem d_L_law_629 : decode b_L_law 629 = .ok (.iaload, 1) ∧ 629 + 1 = 630 := ⟨by decide +kernel, rfl⟩
theorem d_L_law_630 : decode b_L_law 630 = .ok (.aload_n 0, 1) ∧ 630 + 1 = 631 := ⟨by decide +kernel, rfl⟩
theorem d_L_law_631 : decode b_L_law 631 = .ok (.iload 4, 2) ∧ 631 + 2 = 633 := ⟨by decide +kernel, rfl⟩
theorem d_L_law_633 : decode b_L_law 633 = .ok (.iconst 2, 1) ∧ 633 + 1 = 634 := ⟨by decide +kernel, rfl⟩
theorem d_L_law_634 : decode b_L_law 634 = .ok (.iadd, 1) ∧ 634 + 1 = 635 := ⟨by decide +kernel, rfl⟩
theorem d_L_law_635 : decode b_L_law 635 = .ok (.iaload, 1) ∧ 635 + 1 = 636 := ⟨by decide +kernel, rfl⟩
theorem d_L_law_636 : decode b_L_law 636 = .ok (.aload_n 0, 1) ∧ 636 + 1 = 637 := ⟨by decide +kernel, rfl⟩
theorem d_L_law_637 : decode b_L_law 637 = .ok (.iload 4, 2) ∧ 637 + 2 = 639 := ⟨by decide +kernel, rfl⟩
theorem d_L_law_639 : decode b_L_law 639 = .ok (.iconst 3, 1) ∧ 639 + 1 = 640 := ⟨by decide +kernel, rfl⟩
theorem d_L_law_640 : decode b_L_law 640 = .ok (.iadd, 1) ∧ 640 + 1 = 641 := ⟨by decide +kernel, rfl⟩
theorem d_L_law_641 : decode b_L_law 641 = .ok (.iaload, 1) ∧ 641 + 1 = 642 := ⟨by decide +kernel, rfl⟩
theorem d_L_law_642 : decode b_L_law 642 = .ok (.aload_n 3, 1) ∧ 642 + 1 = 643 := ⟨by decide +kernel, rfl⟩
theorem d_L_law_643 : decode b_L_law 643 = .ok (.invokestatic 108, 3) ∧ 643 + 3 = 646 := ⟨by decide +kernel, rfl⟩
theorem d_L_law_646 : decode b_L_law 646 = .ok (.istore 5, 2) ∧ 646 + 2 = 648 := ⟨by decide +kernel, rfl⟩
theorem d_L_law_648 : decode b_L_law 648 = .ok (.aload_n 2, 1) ∧ 648 + 1 = 649 := ⟨by decide +kernel, rfl⟩
theorem d_L_law_649 : decode b_L_law 649 = .ok (.aload_n 0, 1) ∧ 649 + 1 = 650 := ⟨by decide +kernel, rfl⟩
theorem d_L_law_650 : decode b_L_law 650 = .ok (.iload 4, 2) ∧ 650 + 2 = 652 := ⟨by decide +kernel, rfl⟩
theorem d_L_law_652 : decode b_L_law 652 = .ok (.iconst 1, 1) ∧ 652 + 1 = 653 := ⟨by decide +kernel, rfl⟩
theorem d_L_law_653 : decode b_L_law 653 = .ok (.iadd, 1) ∧ 653 + 1 = 654 := ⟨by decide +kernel, rfl⟩
theorem d_L_law_654 : decode b_L_law 654 = .ok (.iaload, 1) ∧ 654 + 1 = 655 := ⟨by decide +kernel, rfl⟩
theorem d_L_law_655 : decode b_L_law 655 = .ok (.aload_n 0, 1) ∧ 655 + 1 = 656 := ⟨by decide +kernel, rfl⟩
theorem d_L_law_656 : decode b_L_law 656 = .ok (.iload 4, 2) ∧ 656 + 2 = 658 := ⟨by decide +kernel, rfl⟩
theorem d_L_law_658 : decode b_L_law 658 = .ok (.iconst 2, 1) ∧ 658 + 1 = 659 := ⟨by decide +kernel, rfl⟩
theorem d_L_law_659 : decode b_L_law 659 = .ok (.iadd, 1) ∧ 659 + 1 = 660 := ⟨by decide +kernel, rfl⟩
theorem d_L_law_660 : decode b_L_law 660 = .ok (.iaload, 1) ∧ 660 + 1 = 661 := ⟨by decide +kernel, rfl⟩
theorem d_L_law_661 : decode b_L_law 661 = .ok (.aload_n 0, 1) ∧ 661 + 1 = 662 := ⟨by decide +kernel, rfl⟩
theorem d_L_law_662 : decode b_L_law 662 = .ok (.iload 4, 2) ∧ 662 + 2 = 664 := ⟨by decide +kernel, rfl⟩
theorem d_L_law_664 : decode b_L_law 664 = .ok (.iconst 3, 1) ∧ 664 + 1 = 665 := ⟨by decide +kernel, rfl⟩
theorem d_L_law_665 : decode b_L_law 665 = .ok (.iadd, 1) ∧ 665 + 1 = 666 := ⟨by decide +kernel, rfl⟩
theorem d_L_law_666 : decode b_L_law 666 = .ok (.iaload, 1) ∧ 666 + 1 = 667 := ⟨by decide +kernel, rfl⟩
theorem d_L_law_667 : decode b_L_law 667 = .ok (.invokevirtual 110, 3) ∧ 667 + 3 = 670 := ⟨by decide +kernel, rfl⟩
theorem d_L_law_670 : decode b_L_law 670 = .ok (.istore 6, 2) ∧ 670 + 2 = 672 := ⟨by decide +kernel, rfl⟩
theorem d_L_law_672 : decode b_L_law 672 = .ok (.aload_n 2, 1) ∧ 672 + 1 = 673 := ⟨by decide +kernel, rfl⟩
theorem d_L_law_673 : decode b_L_law 673 = .ok (.invokevirtual 78, 3) ∧ 673 + 3 = 676 := ⟨by decide +kernel, rfl⟩
theorem d_L_law_676 : decode b_L_law 676 = .ok (.iload 5, 2) ∧ 676 + 2 = 678 := ⟨by decide +kernel, rfl⟩
theorem d_L_law_678 : decode b_L_law 678 = .ok (.if_icmp .eq 5, 3) ∧ 678 + 3 = 681 ∧ ((678 : Nat) : Int) + 5 = ((683 : Nat) : Int) := ⟨by decide +kernel, rfl, by decide⟩
theorem d_L_law_681 : decode b_L_law 681 = .ok (.iconst 0, 1) ∧ 681 + 1 = 682 := ⟨by decide +kernel, rfl⟩
theorem d_L_law_682 : decode b_L_law 682 = .ok (.ireturn, 1) := by decide +kernel
theorem d_L_law_683 : decode b_L_law 683 = .ok (.iload 5, 2) ∧ 683 + 2 = 685 := ⟨by decide +kernel, rfl⟩
theorem d_L_law_685 : decode b_L_law 685 = .ok (.ifCond .ne 15, 3) ∧ 685 + 3 = 688 ∧ ((685 : Nat) : Int) + 15 = ((700 : Nat) : Int) := ⟨by decide +kernel, rfl, by decide⟩
theorem d_L_law_688 : decode b_L_law 688 = .ok (.aload_n 3, 1) ∧ 688 + 1 = 689 := ⟨by decide +kernel, rfl⟩
theorem d_L_law_689 : decode b_L_law 689 = .ok (.iconst 0, 1) ∧ 689 + 1 = 690 := ⟨by decide +kernel, rfl⟩
theorem d_L_law_690 : decode b_L_law 690 = .ok (.laload, 1) ∧ 690 + 1 = 691 := ⟨by decide +kernel, rfl⟩
theorem d_L_law_691 : decode b_L_law 691 = .ok (.iload 6, 2) ∧ 691 + 2 = 693 := ⟨by decide +kernel, rfl⟩
theorem d_L_law_693 : decode b_L_law 693 = .ok (.i2l, 1) ∧ 693 + 1 = 694 := ⟨by decide +kernel, rfl⟩
theorem d_L_law_694 : decode b_L_law 694 = .ok (.lcmp, 1) ∧ 694 + 1 = 695 := ⟨by decide +kernel, rfl⟩
theorem d_L_law_695 : decode b_L_law 695 = .ok (.ifCond .eq 5, 3) ∧ 695 + 3 = 698 ∧ ((695 : Nat) : Int) + 5 = ((700 : Nat) : Int) := ⟨by decide +kernel, rfl, by decide⟩
theorem d_L_law_698 : decode b_L_law 698 = .ok (.iconst 0, 1) ∧ 698 + 1 = 699 := ⟨by decide +kernel, rfl⟩
theorem d_L_law_699 : decode b_L_law 699 = .ok (.ireturn, 1) := by decide +kernel
theorem d_L_law_700 : decode b_L_law 700 = .ok (.goto 417, 3) ∧ ((700 : Nat) : Int) + 417 = ((1117 : Nat) : Int) := ⟨by decide +kernel, by decide⟩
theorem d_L_law_703 : decode b_L_law 703 = .ok (.aload_n 1, 1) ∧ 703 + 1 = 704 := ⟨by decide +kernel, rfl⟩
theorem d_L_law_704 : decode b_L_law 704 = .ok (.aload_n 0, 1) ∧ 704 + 1 = 705 := ⟨by decide +kernel, rfl⟩
theorem d_L_law_705 : decode b_L_law 705 = .ok (.iload 4, 2) ∧ 705 + 2 = 707 := ⟨by decide +kernel, rfl⟩
theorem d_L_law_707 : decode b_L_law 707 = .ok (.iconst 1, 1) ∧ 707 + 1 = 708 := ⟨by decide +kernel, rfl⟩
theorem d_L_law_708 : decode b_L_law 708 = .ok (.iadd, 1) ∧ 708 + 1 = 709 := ⟨by decide +kernel, rfl⟩
theorem d_L_law_709 : decode b_L_law 709 = .ok (.iaload, 1) ∧ 709 + 1 = 710 := ⟨by decide +kernel, rfl⟩
theorem d_L_law_710 : decode b_L_law 710 = .ok (.aload_n 3, 1) ∧ 710 + 1 = 711 := ⟨by decide +kernel, rfl⟩
theorem d_L_law_711 : decode b_L_law 711 = .ok (.invokestatic 111, 3) ∧ 711 + 3 = 714 := ⟨by decide +kernel, rfl⟩
theorem d_L_law_714 : decode b_L_law 714 = .ok (.istore 5, 2) ∧ 714 + 2 = 716 := ⟨by decide +kernel, rfl⟩
theorem d_L_law_716 : decode b_L_law 716 = .ok (.aload_n 2, 1) ∧ 716 + 1 = 717 := ⟨by decide +kernel, rfl⟩
theorem d_L_law_717 : decode b_L_law 717 = .ok (.aload_n 0, 1) ∧ 717 + 1 = 718 := ⟨by decide +kernel, rfl⟩
theorem d_L_law_718 : decode b_L_law 718 = .ok (.iload 4, 2) ∧ 718 + 2 = 720 := ⟨by decide +kernel, rfl⟩
theorem d_L_law_720 : decode b_L_law 720 = .ok (.iconst 1, 1) ∧ 720 + 1 = 721 := ⟨by decide +kernel, rfl⟩
theorem d_L_law_721 : decode b_L_law 721 = .ok (.iadd, 1) ∧ 721 + 1 = 722 := ⟨by decide +kernel, rfl⟩
theorem d_L_law_722 : decode b_L_law 722 = .ok (.iaload, 1) ∧ 722 + 1 = 723 := ⟨by decide +kernel, rfl⟩
theorem d_L_law_723 : decode b_L_law 723 = .ok (.invokevirtual 113, 3) ∧ 723 + 3 = 726 := ⟨by decide +kernel, rfl⟩
theorem d_L_law_726 : decode b_L_law 726 = .ok (.istore 6, 2) ∧ 726 + 2 = 728 := ⟨by decide +kernel, rfl⟩
theorem d_L_law_728 : decode b_L_law 728 = .ok (.aload_n 2, 1) ∧ 728 + 1 = 729 := ⟨by decide +kernel, rfl⟩
theorem d_L_law_729 : decode b_L_law 729 = .ok (.invokevirtual 78, 3) ∧ 729 + 3 = 732 := ⟨by decide +kernel, rfl⟩
theorem d_L_law_732 : decode b_L_law 732 = .ok (.iload 5, 2) ∧ 732 + 2 = 734 := ⟨by decide +kernel, rfl⟩
theorem d_L_law_734 : decode b_L_law 734 = .ok (.if_icmp .eq 5, 3) ∧ 734 + 3 = 737 ∧ ((734 : Nat) : Int) + 5 = ((739 : Nat) : Int) := ⟨by decide +kernel, rfl, by decide⟩
theorem d_L_law_737 : decode b_L_law 737 = .ok (.iconst 0, 1) ∧ 737 + 1 = 738 := ⟨by decide +kernel, rfl⟩
theorem d_L_law_738 : decode b_L_law 738 = .ok (.ireturn, 1) := by decide +kernel
theorem d_L_law_739 : decode b_L_law 739 = .ok (.iload 5, 2) ∧ 739 + 2 = 741 := ⟨by decide +kernel, rfl⟩
theorem d_L_law_741 : decode b_L_law 741 = .ok (.ifCond .ne 22, 3) ∧ 741 + 3 = 744 ∧ ((741 : Nat) : Int) + 22 = ((763 : Nat) : Int) := ⟨by decide +kernel, rfl, by decide⟩
theorem d_L_law_744 : decode b_L_law 744 = .ok (.aload_n 3, 1) ∧ 744 + 1 = 745 := ⟨by decide +kernel, rfl⟩
theorem d_L_law_745 : decode b_L_law 745 = .ok (.iconst 0, 1) ∧ 745 + 1 = 746 := ⟨by decide +kernel, rfl⟩
theorem d_L_law_746 : decode b_L_law 746 = .ok (.laload, 1) ∧ 746 + 1 = 747 := ⟨by decide +kernel, rfl⟩
theorem d_L_law_747 : decode b_L_law 747 = .ok (.iload 6, 2) ∧ 747 + 2 = 749 := ⟨by decide +kernel, rfl⟩
theorem d_L_law_749 : decode b_L_law 749 = .ok (.ifCond .eq 7, 3) ∧ 749 + 3 = 752 ∧ ((749 : Nat) : Int) + 7 = ((756 : Nat) : Int) := ⟨by decide +kernel, rfl, by decide⟩
theorem d_L_law_752 : decode b_L_law 752 = .ok (.lconst 1, 1) ∧ 752 + 1 = 753 := ⟨by decide +kernel, rfl⟩
theorem d_L_law_753 : decode b_L_law 753 = .ok (.goto 4, 3) ∧ ((753 : Nat) : Int) + 4 = ((757 : Nat) : Int) := ⟨by decide +kernel, by decide⟩
theorem d_L_law_756 : decode b_L_law 756 = .ok (.lconst 0, 1) ∧ 756 + 1 = 757 := ⟨by decide +kernel, rfl⟩
theorem d_L_law_757 : decode b_L_law 757 = .ok (.lcmp, 1) ∧ 757 + 1 = 758 := ⟨by decide +kernel, rfl⟩
theorem d_L_law_758 : decode b_L_law 758 = .ok (.ifCond .eq 5, 3) ∧ 758 + 3 = 761 ∧ ((758 : Nat) : Int) + 5 = ((763 : Nat) : Int) := ⟨by decide +kernel, rfl, by decide⟩
theorem d_L_law_761 : decode b_L_law 761 = .ok (.iconst 0, 1) ∧ 761 + 1 = 762 := ⟨by decide +kernel, rfl⟩
theorem d_L_law_762 : decode b_L_law 762 = .ok (.ireturn, 1) := by decide +kernel
theorem d_L_law_763 : decode b_L_law 763 = .ok (.goto 354, 3) ∧ ((763 : Nat) : Int) + 354 = ((1117 : Nat) : Int) := ⟨by decide +kernel, by decide⟩
theorem d_L_law_766 : decode b_L_law 766 = .ok (.aload_n 1, 1) ∧ 766 + 1 = 767 := ⟨by decide +kernel, rfl⟩
theorem d_L_law_767 : decode b_L_law 767 = .ok (.aload_n 0, 1) ∧ 767 + 1 = 768 := ⟨by decide +kernel, rfl⟩
theorem d_L_law_768 : decode b_L_law 768 = .ok (.iload 4, 2) ∧ 768 + 2 = 770 := ⟨by decide +kernel, rfl⟩
theorem d_L_law_770 : decode b_L_law 770 = .ok (.iconst 1, 1) ∧ 770 + 1 = 771 := ⟨by decide +kernel, rfl⟩
theorem d_L_law_771 : decode b_L_law 771 = .ok (.iadd, 1) ∧ 771 + 1 = 772 := ⟨by decide +kernel, rfl⟩
theorem d_L_law_772 : decode b_L_law 772 = .ok (.iaload, 1) ∧ 772 + 1 = 773 := ⟨by decide +kernel, rfl⟩
theorem d_L_law_773 : decode b_L_law 773 = .ok (.aload_n 3, 1) ∧ 773 + 1 = 774 := ⟨by decide +kernel, rfl⟩
theorem d_L_law_774 : decode b_L_law 774 = .ok (.invokestatic 114, 3) ∧ 774 + 3 = 777 := ⟨by decide +kernel, rfl⟩
theorem d_L_law_777 : decode b_L_law 777 = .ok (.istore 5, 2) ∧ 777 + 2 = 779 := ⟨by decide +kernel, rfl⟩
theorem d_L_law_779 : decode b_L_law 779 = .ok (.aload_n 2, 1) ∧ 779 + 1 = 780 := ⟨by decide +kernel, rfl⟩
theorem d_L_law_780 : decode b_L_law 780 = .ok (.aload_n 0, 1) ∧ 780 + 1 = 781 := ⟨by decide +kernel, rfl⟩
theorem d_L_law_781 : decode b_L_law 781 = .ok (.iload 4, 2) ∧ 781 + 2 = 783 := ⟨by decide +kernel, rfl⟩
theorem d_L_law_783 : decode b_L_law 783 = .ok (.iconst 1, 1) ∧ 783 + 1 = 784 := ⟨by decide +kernel, rfl⟩
theorem d_L_law_784 : decode b_L_law 784 = .ok (.iadd, 1) ∧ 784 + 1 = 785 := ⟨by decide +kernel, rfl⟩
theorem d_L_law_785 : decode b_L_law 785 = .ok (.iaload, 1) ∧ 785 + 1 = 786 := ⟨by decide +kernel, rfl⟩
theorem d_L_law_786 : decode b_L_law 786 = .ok (.invokevirtual 116, 3) ∧ 786 + 3 = 789 := ⟨by decide +kernel, rfl⟩
theorem d_L_law_789 : decode b_L_law 789 = .ok (.istore 6, 2) ∧ 789 + 2 = 791 := ⟨by decide +kernel, rfl⟩
theorem d_L_law_791 : decode b_L_law 791 = .ok (.aload_n 2, 1) ∧ 791 + 1 = 792 := ⟨by decide +kernel, rfl⟩
theorem d_L_law_792 : decode b_L_law 792 = .ok (.invokevirtual 78, 3) ∧ 792 + 3 = 795 := ⟨by decide +kernel, rfl⟩
theorem d_L_law_795 : decode b_L_law 795 = .ok (.iload 5, 2) ∧ 795 + 2 = 797 := ⟨by decide +kernel, rfl⟩
theorem d_L_law_797 : decode b_L_law 797 = .ok (.if_icmp .eq 5, 3) ∧ 797 + 3 = 800 ∧ ((797 : Nat) : Int) + 5 = ((802 : Nat) : Int) := ⟨by decide +kernel, rfl, by decide⟩
theorem d_L_law_800 : decode b_L_law 800 = .ok (.iconst 0, 1) ∧ 800 + 1 = 801 := ⟨by decide +kernel, rfl⟩
theorem d_L_law_801 : decode b_L_law 801 = .ok (.ireturn, 1) := by decide +kernel
theorem d_L_law_802 : decode b_L_law 802 = .ok (.iload 5, 2) ∧ 802 + 2 = 804 := ⟨by decide +kernel, rfl⟩
theorem d_L_law_804 : decode b_L_law 804 = .ok (.ifCond .ne 15, 3) ∧ 804 + 3 = 807 ∧ ((804 : Nat) : Int) + 15 = ((819 : Nat) : Int) := ⟨by decide +kernel, rfl, by decide⟩
theorem d_L_law_807 : decode b_L_law 807 = .ok (.aload_n 3, 1) ∧ 807 + 1 = 808 := ⟨by decide +kernel, rfl⟩
theorem d_L_law_808 : decode b_L_law 808 = .ok (.iconst 0, 1) ∧ 808 + 1 = 809 := ⟨by decide +kernel, rfl⟩
theorem d_L_law_809 : decode b_L_law 809 = .ok (.laload, 1) ∧ 809 + 1 = 810 := ⟨by decide +kernel, rfl⟩
theorem d_L_law_810 : decode b_L_law 810 = .ok (.iload 6, 2) ∧ 810 + 2 = 812 := ⟨by decide +kernel, rfl⟩
theorem d_L_law_812 : decode b_L_law 812 = .ok (.i2l, 1) ∧ 812 + 1 = 813 := ⟨by decide +kernel, rfl⟩
theorem d_L_law_813 : decode b_L_law 813 = .ok (.lcmp, 1) ∧ 813 + 1 = 814 := ⟨by decide +kernel, rfl⟩
theorem d_L_law_814 : decode b_L_law 814 = .ok (.ifCond .eq 5, 3) ∧ 814 + 3 = 817 ∧ ((814 : Nat) : Int) + 5 = ((819 : Nat) : Int) := ⟨by decide +kernel, rfl, by decide⟩
theorem d_L_law_817 : decode b_L_law 817 = .ok (.iconst 0, 1) ∧ 817 + 1 = 818 := ⟨by decide +kernel, rfl⟩
theorem d_L_law_818 : decode b_L_law 818 = .ok (.ireturn, 1) := by decide +kernel
theorem d_L_law_819 : decode b_L_law 819 = .ok (.goto 298, 3) ∧ ((819 : Nat) : Int) + 298 = ((1117 : Nat) : Int) := ⟨by decide +kernel, by decide⟩
theorem d_L_law_822 : decode b_L_law 822 = .ok (.aload_n 1, 1) ∧ 822 + 1 = 823 := ⟨by decide +kernel, rfl⟩
theorem d_L_law_823 : decode b_L_law 823 = .ok (.aload_n 0, 1) ∧ 823 + 1 = 824 := ⟨by decide +kernel, rfl⟩
theorem d_L_law_824 : decode b_L_law 824 = .ok (.iload 4, 2) ∧ 824 + 2 = 826 := ⟨by decide +kernel, rfl⟩
theorem d_L_law_826 : decode b_L_law 826 = .ok (.iconst 1, 1) ∧ 826 + 1 = 827 := ⟨by decide +kernel, rfl⟩
theorem d_L_law_827 : decode b_L_law 827 = .ok (.iadd, 1) ∧ 827 + 1 = 828 := ⟨by decide +kernel, rfl⟩
theorem d_L_law_828 : decode b_L_law 828 = .ok (.iaload, 1) ∧ 828 + 1 = 829 := ⟨by decide +kernel, rfl⟩
theorem d_L_law_829 : decode b_L_law 829 = .ok (.aload_n 3, 1) ∧ 829 + 1 = 830 := ⟨by decide +kernel, rfl⟩
theorem d_L_law_830 : decode b_L_law 830 = .ok (.invokestatic 117, 3) ∧ 830 + 3 = 833 := ⟨by decide +kernel, rfl⟩
theorem d_L_law_833 : decode b_L_law 833 = .ok (.istore 5, 2) ∧ 833 + 2 = 835 := ⟨by decide +kernel, rfl⟩
theorem d_L_law_835 : decode b_L_law 835 = .ok (.aload_n 2, 1) ∧ 835 + 1 = 836 := ⟨by decide +kernel, rfl⟩
theorem d_L_law_836 : decode b_L_law 836 = .ok (.aload_n 0, 1) ∧ 836 + 1 = 837 := ⟨by decide +kernel, rfl⟩
theorem d_L_law_837 : decode b_L_law 837 = .ok (.iload 4, 2) ∧ 837 + 2 = 839 := ⟨by decide +kernel, rfl⟩
theorem d_L_law_839 : decode b_L_law 839 = .ok (.iconst 1, 1) ∧ 839 + 1 = 840 := ⟨by decide +kernel, rfl⟩
theorem d_L_law_840 : decode b_L_law 840 = .ok (.iadd, 1) ∧ 840 + 1 = 841 := ⟨by decide +kernel, rfl⟩
theorem d_L_law_841 : decode b_L_law 841 = .ok (.iaload, 1) ∧ 841 + 1 = 842 := ⟨by decide +kernel, rfl⟩
theorem d_L_law_842 : decode b_L_law 842 = .ok (.invokevirtual 119, 3) ∧ 842 + 3 = 845 := ⟨by decide +kernel, rfl⟩
theorem d_L_law_845 : decode b_L_law 845 = .ok (.istore 6, 2) ∧ 845 + 2 = 847 := ⟨by decide +kernel, rfl⟩
theorem d_L_law_847 : decode b_L_law 847 = .ok (.aload_n 2, 1) ∧ 847 + 1 = 848 := ⟨by decide +kernel, rfl⟩
theorem d_L_law_848 : decode b_L_law 848 = .ok (.invokevirtual 78, 3) ∧ 848 + 3 = 851 := ⟨by decide +kernel, rfl⟩
theorem d_L_law_851 : decode b_L_law 851 = .ok (.iload 5, 2) ∧ 851 + 2 = 853 := ⟨by decide +kernel, rfl⟩
theorem d_L_law_853 : decode b_L_law 853 = .ok (.if_icmp .eq 5, 3) ∧ 853 + 3 = 856 ∧ ((853 : Nat) : Int) + 5 = ((858 : Nat) : Int) := ⟨by decide +kernel, rfl, by decide⟩
theorem d_L_law_856 : decode b_L_law 856 = .ok (.iconst 0, 1) ∧ 856 + 1 = 857 := ⟨by decide +kernel, rfl⟩
theorem d_L_law_857 : decode b_L_law 857 = .ok (.ireturn, 1) := by decide +kernel
theorem d_L_law_858 : decode b_L_law 858 = .ok (.iload 5, 2) ∧ 858 + 2 = 860 := ⟨by decide +kernel, rfl⟩
theorem d_L_law_860 : decode b_L_law 860 = .ok (.ifCond .ne 15, 3) ∧ 860 + 3 = 863 ∧ ((860 : Nat) : Int) + 15 = ((875 : Nat) : Int) := ⟨by decide +kernel, rfl, by decide⟩
theorem d_L_law_863 : decode b_L_law 863 = .ok (.aload_n 3, 1) ∧ 863 + 1 = 864 := ⟨by decide +kernel, rfl⟩
theorem d_L_law_864 : decode b_L_law 864 = .ok (.iconst 0, 1) ∧ 864 + 1 = 865 := ⟨by decide +kernel, rfl⟩
theorem d_L_law_865 : decode b_L_law 865 = .ok (.laload, 1) ∧ 865 + 1 = 866 := ⟨by decide +kernel, rfl⟩
theorem d_L_law_866 : decode b_L_law 866 = .ok (.iload 6, 2) ∧ 866 + 2 = 868 := ⟨by decide +kernel, rfl⟩
theorem d_L_law_868 : decode b_L_law 868 = .ok (.i2l, 1) ∧ 868 + 1 = 869 := ⟨by decide +kernel, rfl⟩
theorem d_L_law_869 : decode b_L_law 869 = .ok (.lcmp, 1) ∧ 869 + 1 = 870 := ⟨by decide +kernel, rfl⟩
theorem d_L_law_870 : decode b_L_law 870 = .ok (.ifCond .eq 5, 3) ∧ 870 + 3 = 873 ∧ ((870 : Nat) : Int) + 5 = ((875 : Nat) : Int) := ⟨by decide +kernel, rfl, by decide⟩
theorem d_L_law_873 : decode b_L_law 873 = .ok (.iconst 0, 1) ∧ 873 + 1 = 874 := ⟨by decide +kernel, rfl⟩
theorem d_L_law_874 : decode b_L_law 874 = .ok (.ireturn, 1) := by decide +kernel
theorem d_L_law_875 : decode b_L_law 875 = .ok (.goto 242, 3) ∧ ((875 : Nat) : Int) + 242 = ((1117 : Nat) : Int) := ⟨by decide +kernel, by decide⟩
theorem d_L_law_878 : decode b_L_law 878 = .ok (.aload_n 1, 1) ∧ 878 + 1 = 879 := ⟨by decide +kernel, rfl⟩
theorem d_L_law_879 : decode b_L_law 879 = .ok (.aload_n 0, 1) ∧ 879 + 1 = 880 := ⟨by decide +kernel, rfl⟩
theorem d_L_law_880 : decode b_L_law 880 = .ok (.iload 4, 2) ∧ 880 + 2 = 882 := ⟨by decide +kernel, rfl⟩
theorem d_L_law_882 : decode b_L_law 882 = .ok (.iconst 1, 1) ∧ 882 + 1 = 883 := ⟨by decide +kernel, rfl⟩
theorem d_L_law_883 : decode b_L_law 883 = .ok (.iadd, 1) ∧ 883 + 1 = 884 := ⟨by decide +kernel, rfl⟩
theorem d_L_law_884 : decode b_L_law 884 = .ok (.iaload, 1) ∧ 884 + 1 = 885 := ⟨by decide +kernel, rfl⟩
theorem d_L_law_885 : decode b_L_law 885 = .ok (.aload_n 3, 1) ∧ 885 + 1 = 886 := ⟨by decide +kernel, rfl⟩
theorem d_L_law_886 : decode b_L_law 886 = .ok (.invokestatic 120, 3) ∧ 886 + 3 = 889 := ⟨by decide +kernel, rfl⟩
theorem d_L_law_889 : decode b_L_law 889 = .ok (.istore 5, 2) ∧ 889 + 2 = 891 := ⟨by decide +kernel, rfl⟩
theorem d_L_law_891 : decode b_L_law 891 = .ok (.aload_n 2, 1) ∧ 891 + 1 = 892 := ⟨by decide +kernel, rfl⟩
theorem d_L_law_892 : decode b_L_law 892 = .ok (.aload_n 0, 1) ∧ 892 + 1 = 893 := ⟨by decide +kernel, rfl⟩
theorem d_L_law_893 : decode b_L_law 893 = .ok (.iload 4, 2) ∧ 893 + 2 = 895 := ⟨by decide +kernel, rfl⟩
theorem d_L_law_895 : decode b_L_law 895 = .ok (.iconst 1, 1) ∧ 895 + 1 = 896 := ⟨by decide +kernel, rfl⟩
theorem d_L_law_896 : decode b_L_law 896 = .ok (.iadd, 1) ∧ 896 + 1 = 897 := ⟨by decide +kernel, rfl⟩
theorem d_L_law_897 : decode b_L_law 897 = .ok (.iaload, 1) ∧ 897 + 1 = 898 := ⟨by decide +kernel, rfl⟩
theorem d_L_law_898 : decode b_L_law 898 = .ok (.invokevirtual 122, 3) ∧ 898 + 3 = 901 := ⟨by decide +kernel, rfl⟩
theorem d_L_law_901 : decode b_L_law 901 = .ok (.istore 6, 2) ∧ 901 + 2 = 903 := ⟨by decide +kernel, rfl⟩
theorem d_L_law_903 : decode b_L_law 903 = .ok (.aload_n 2, 1) ∧ 903 + 1 = 904 := ⟨by decide +kernel, rfl⟩
end
section
theorem d_L_law_904 : decode b_L_law 904 = .ok (.invokevirtual 78, 3) ∧ 904 + 3 = 907 := ⟨by decide +kernel, rfl⟩
theorem d_L_law_907 : decode b_L_law 907 = .ok (.iload 5, 2) ∧ 907 + 2 = 909 := ⟨by decide +kernel, rfl⟩
theorem d_L_law_909 : decode b_L_law 909 = .ok (.if_icmp .eq 5, 3) ∧ 909 + 3 = 912 ∧ ((909 : Nat) : Int) + 5 = ((914 : Nat) : Int) := ⟨by decide +kernel, rfl, by decide⟩
theorem d_L_law_912 : decode b_L_law 912 = .ok (.iconst 0, 1) ∧ 912 + 1 = 913 := ⟨by decide +kernel, rfl⟩
theorem d_L_law_913 : decode b_L_law 913 = .ok (.ireturn, 1) := by decide +kernel
theorem d_L_law_914 : decode b_L_law 914 = .ok (.iload 5, 2) ∧ 914 + 2 = 916 := ⟨by decide +kernel, rfl⟩
theorem d_L_law_916 : decode b_L_law 916 = .ok (.ifCond .ne 22, 3) ∧ 916 + 3 = 919 ∧ ((916 : Nat) : Int) + 22 = ((938 : Nat) : Int) := ⟨by decide +kernel, rfl, by decide⟩
theorem d_L_law_919 : decode b_L_law 919 = .ok (.aload_n 3, 1) ∧ 919 + 1 = 920 := ⟨by decide +kernel, rfl⟩
theorem d_L_law_920 : decode b_L_law 920 = .ok (.iconst 0, 1) ∧ 920 + 1 = 921 := ⟨by decide +kernel, rfl⟩
theorem d_L_law_921 : decode b_L_law 921 = .ok (.laload, 1) ∧ 921 + 1 = 922 := ⟨by decide +kernel, rfl⟩
theorem d_L_law_922 : decode b_L_law 922 = .ok (.iload 6, 2) ∧ 922 + 2 = 924 := ⟨by decide +kernel, rfl⟩
theorem d_L_law_924 : decode b_L_law 924 = .ok (.ifCond .eq 7, 3) ∧ 924 + 3 = 927 ∧ ((924 : Nat) : Int) + 7 = ((931 : Nat) : Int) := ⟨by decide +kernel, rfl, by decide⟩
theorem d_L_law_927 : decode b_L_law 927 = .ok (.lconst 1, 1) ∧ 927 + 1 = 928 := ⟨by decide +kernel, rfl⟩
theorem d_L_law_928 : decode b_L_law 928 = .ok (.goto 4, 3) ∧ ((928 : Nat) : Int) + 4 = ((932 : Nat) : Int) := ⟨by decide +kernel, by decide⟩
theorem d_L_law_931 : decode b_L_law 931 = .ok (.lconst 0, 1) ∧ 931 + 1 = 932 := ⟨by decide +kernel, rfl⟩
theorem d_L_law_932 : decode b_L_law 932 = .ok (.lcmp, 1) ∧ 932 + 1 = 933 := ⟨by decide +kernel, rfl⟩
theorem d_L_law_933 : decode b_L_law 933 = .ok (.ifCond .eq 5, 3) ∧ 933 + 3 = 936 ∧ ((933 : Nat) : Int) + 5 = ((938 : Nat) : Int) := ⟨by decide +kernel, rfl, by decide⟩
theorem d_L_law_936 : decode b_L_law 936 = .ok (.iconst 0, 1) ∧ 936 + 1 = 937 := ⟨by decide +kernel, rfl⟩
theorem d_L_law_937 : decode b_L_law 937 = .ok (.ireturn, 1) := by decide +kernel
theorem d_L_law_938 : decode b_L_law 938 = .ok (.goto 179, 3) ∧ ((938 : Nat) : Int) + 179 = ((1117 : Nat) : Int) := ⟨by decide +kernel, by decide⟩
theorem d_L_law_941 : decode b_L_law 941 = .ok (.aload_n 1, 1) ∧ 941 + 1 = 942 := ⟨by decide +kernel, rfl⟩
theorem d_L_law_942 : decode b_L_law 942 = .ok (.invokevirtual 123, 3) ∧ 942 + 3 = 945 := ⟨by decide +kernel, rfl⟩
theorem d_L_law_945 : decode b_L_law 945 = .ok (.aload_n 2, 1) ∧ 945 + 1 = 946 := ⟨by decide +kernel, rfl⟩
theorem d_L_law_946 : decode b_L_law 946 = .ok (.invokevirtual 126, 3) ∧ 946 + 3 = 949 := ⟨by decide +kernel, rfl⟩
theorem d_L_law_949 : decode b_L_law 949 = .ok (.if_icmp .eq 168, 3) ∧ 949 + 3 = 952 ∧ ((949 : Nat) : Int) + 168 = ((1117 : Nat) : Int) := ⟨by decide +kernel, rfl, by decide⟩
theorem d_L_law_952 : decode b_L_law 952 = .ok (.iconst 0, 1) ∧ 952 + 1 = 953 := ⟨by decide +kernel, rfl⟩
theorem d_L_law_953 : decode b_L_law 953 = .ok (.ireturn, 1) := by decide +kernel
theorem d_L_law_954 : decode b_L_law 954 = .ok (.aload_n 1, 1) ∧ 954 + 1 = 955 := ⟨by decide +kernel, rfl⟩
theorem d_L_law_955 : decode b_L_law 955 = .ok (.aload_n 0, 1) ∧ 955 + 1 = 956 := ⟨by decide +kernel, rfl⟩
theorem d_L_law_956 : decode b_L_law 956 = .ok (.iload 4, 2) ∧ 956 + 2 = 958 := ⟨by decide +kernel, rfl⟩
theorem d_L_law_958 : decode b_L_law 958 = .ok (.iconst 1, 1) ∧ 958 + 1 = 959 := ⟨by decide +kernel, rfl⟩
theorem d_L_law_959 : decode b_L_law 959 = .ok (.iadd, 1) ∧ 959 + 1 = 960 := ⟨by decide +kernel, rfl⟩
theorem d_L_law_960 : decode b_L_law 960 = .ok (.iaload, 1) ∧ 960 + 1 = 961 := ⟨by decide +kernel, rfl⟩
theorem d_L_law_961 : decode b_L_law 961 = .ok (.aload_n 0, 1) ∧ 961 + 1 = 962 := ⟨by decide +kernel, rfl⟩
theorem d_L_law_962 : decode b_L_law 962 = .ok (.iload 4, 2) ∧ 962 + 2 = 964 := ⟨by decide +kernel, rfl⟩
theorem d_L_law_964 : decode b_L_law 964 = .ok (.iconst 2, 1) ∧ 964 + 1 = 965 := ⟨by decide +kernel, rfl⟩
theorem d_L_law_965 : decode b_L_law 965 = .ok (.iadd, 1) ∧ 965 + 1 = 966 := ⟨by decide +kernel, rfl⟩
theorem d_L_law_966 : decode b_L_law 966 = .ok (.iaload, 1) ∧ 966 + 1 = 967 := ⟨by decide +kernel, rfl⟩
theorem d_L_law_967 : decode b_L_law 967 = .ok (.aload_n 0, 1) ∧ 967 + 1 = 968 := ⟨by decide +kernel, rfl⟩
theorem d_L_law_968 : decode b_L_law 968 = .ok (.iload 4, 2) ∧ 968 + 2 = 970 := ⟨by decide +kernel, rfl⟩
theorem d_L_law_970 : decode b_L_law 970 = .ok (.iconst 3, 1) ∧ 970 + 1 = 971 := ⟨by decide +kernel, rfl⟩
theorem d_L_law_971 : decode b_L_law 971 = .ok (.iadd, 1) ∧ 971 + 1 = 972 := ⟨by decide +kernel, rfl⟩
theorem d_L_law_972 : decode b_L_law 972 = .ok (.iaload, 1) ∧ 972 + 1 = 973 := ⟨by decide +kernel, rfl⟩
theorem d_L_law_973 : decode b_L_law 973 = .ok (.aload_n 3, 1) ∧ 973 + 1 = 974 := ⟨by decide +kernel, rfl⟩
theorem d_L_law_974 : decode b_L_law 974 = .ok (.invokestatic 127, 3) ∧ 974 + 3 = 977 := ⟨by decide +kernel, rfl⟩
theorem d_L_law_977 : decode b_L_law 977 = .ok (.istore 5, 2) ∧ 977 + 2 = 979 := ⟨by decide +kernel, rfl⟩
theorem d_L_law_979 : decode b_L_law 979 = .ok (.aload_n 2, 1) ∧ 979 + 1 = 980 := ⟨by decide +kernel, rfl⟩
theorem d_L_law_980 : decode b_L_law 980 = .ok (.aload_n 0, 1) ∧ 980 + 1 = 981 := ⟨by decide +kernel, rfl⟩
theorem d_L_law_981 : decode b_L_law 981 = .ok (.iload 4, 2) ∧ 981 + 2 = 983 := ⟨by decide +kernel, rfl⟩
theorem d_L_law_983 : decode b_L_law 983 = .ok (.iconst 1, 1) ∧ 983 + 1 = 984 := ⟨by decide +kernel, rfl⟩
theorem d_L_law_984 : decode b_L_law 984 = .ok (.iadd, 1) ∧ 984 + 1 = 985 := ⟨by decide +kernel, rfl⟩
theorem d_L_law_985 : decode b_L_law 985 = .ok (.iaload, 1) ∧ 985 + 1 = 986 := ⟨by decide +kernel, rfl⟩
theorem d_L_law_986 : decode b_L_law 986 = .ok (.aload_n 0, 1) ∧ 986 + 1 = 987 := ⟨by decide +kernel, rfl⟩
theorem d_L_law_987 : decode b_L_law 987 = .ok (.iload 4, 2) ∧ 987 + 2 = 989 := ⟨by decide +kernel, rfl⟩
theorem d_L_law_989 : decode b_L_law 989 = .ok (.iconst 2, 1) ∧ 989 + 1 = 990 := ⟨by decide +kernel, rfl⟩
theorem d_L_law_990 : decode b_L_law 990 = .ok (.iadd, 1) ∧ 990 + 1 = 991 := ⟨by decide +kernel, rfl⟩
theorem d_L_law_991 : decode b_L_law 991 = .ok (.iaload, 1) ∧ 991 + 1 = 992 := ⟨by decide +kernel, rfl⟩
theorem d_L_law_992 : decode b_L_law 992 = .ok (.aload_n 0, 1) ∧ 992 + 1 = 993 := ⟨by decide +kernel, rfl⟩
theorem d_L_law_993 : decode b_L_law 993 = .ok (.iload 4, 2) ∧ 993 + 2 = 995 := ⟨by decide +kernel, rfl⟩
theorem d_L_law_995 : decode b_L_law 995 = .ok (.iconst 3, 1) ∧ 995 + 1 = 996 := ⟨by decide +kernel, rfl⟩
theorem d_L_law_996 : decode b_L_law 996 = .ok (.iadd, 1) ∧ 996 + 1 = 997 := ⟨by decide +kernel, rfl⟩
theorem d_L_law_997 : decode b_L_law 997 = .ok (.iaload, 1) ∧ 997 + 1 = 998 := ⟨by decide +kernel, rfl⟩
theorem d_L_law_998 : decode b_L_law 998 = .ok (.invokevirtual 129, 3) ∧ 998 + 3 = 1001 := ⟨by decide +kernel, rfl⟩
theorem d_L_law_1001 : decode b_L_law 1001 = .ok (.istore 6, 2) ∧ 1001 + 2 = 1003 := ⟨by decide +kernel, rfl⟩
theorem d_L_law_1003 : decode b_L_law 1003 = .ok (.aload_n 2, 1) ∧ 1003 + 1 = 1004 := ⟨by decide +kernel, rfl⟩
theorem d_L_law_1004 : decode b_L_law 1004 = .ok (.invokevirtual 78, 3) ∧ 1004 + 3 = 1007 := ⟨by decide +kernel, rfl⟩
theorem d_L_law_1007 : decode b_L_law 1007 = .ok (.iload 5, 2) ∧ 1007 + 2 = 1009 := ⟨by decide +kernel, rfl⟩
theorem d_L_law_1009 : decode b_L_law 1009 = .ok (.if_icmp .eq 5, 3) ∧ 1009 + 3 = 1012 ∧ ((1009 : Nat) : Int) + 5 = ((1014 : Nat) : Int) := ⟨by decide +kernel, rfl, by decide⟩
theorem d_L_law_1012 : decode b_L_law 1012 = .ok (.iconst 0, 1) ∧ 1012 + 1 = 1013 := ⟨by decide +kernel, rfl⟩
theorem d_L_law_1013 : decode b_L_law 1013 = .ok (.ireturn, 1) := by decide +kernel
theorem d_L_law_1014 : decode b_L_law 1014 = .ok (.iload 5, 2) ∧ 1014 + 2 = 1016 := ⟨by decide +kernel, rfl⟩
theorem d_L_law_1016 : decode b_L_law 1016 = .ok (.ifCond .ne 15, 3) ∧ 1016 + 3 = 1019 ∧ ((1016 : Nat) : Int) + 15 = ((1031 : Nat) : Int) := ⟨by decide +kernel, rfl, by decide⟩
theorem d_L_law_1019 : decode b_L_law 1019 = .ok (.aload_n 3, 1) ∧ 1019 + 1 = 1020 := ⟨by decide +kernel, rfl⟩
theorem d_L_law_1020 : decode b_L_law 1020 = .ok (.iconst 0, 1) ∧ 1020 + 1 = 1021 := ⟨by decide +kernel, rfl⟩
theorem d_L_law_1021 : decode b_L_law 1021 = .ok (.laload, 1) ∧ 1021 + 1 = 1022 := ⟨by decide +kernel, rfl⟩
theorem d_L_law_1022 : decode b_L_law 1022 = .ok (.iload 6, 2) ∧ 1022 + 2 = 1024 := ⟨by decide +kernel, rfl⟩
theorem d_L_law_1024 : decode b_L_law 1024 = .ok (.i2l, 1) ∧ 1024 + 1 = 1025 := ⟨by decide +kernel, rfl⟩
theorem d_L_law_1025 : decode b_L_law 1025 = .ok (.lcmp, 1) ∧ 1025 + 1 = 1026 := ⟨by decide +kernel, rfl⟩
theorem d_L_law_1026 : decode b_L_law 1026 = .ok (.ifCond .eq 5, 3) ∧ 1026 + 3 = 1029 ∧ ((1026 : Nat) : Int) + 5 = ((1031 : Nat) : Int) := ⟨by decide +kernel, rfl, by decide⟩
theorem d_L_law_1029 : decode b_L_law 1029 = .ok (.iconst 0, 1) ∧ 1029 + 1 = 1030 := ⟨by decide +kernel, rfl⟩
theorem d_L_law_1030 : decode b_L_law 1030 = .ok (.ireturn, 1) := by decide +kernel
theorem d_L_law_1031 : decode b_L_law 1031 = .ok (.goto 86, 3) ∧ ((1031 : Nat) : Int) + 86 = ((1117 : Nat) : Int) := ⟨by decide +kernel, by decide⟩
theorem d_L_law_1034 : decode b_L_law 1034 = .ok (.aload_n 1, 1) ∧ 1034 + 1 = 1035 := ⟨by decide +kernel, rfl⟩
theorem d_L_law_1035 : decode b_L_law 1035 = .ok (.invokevirtual 130, 3) ∧ 1035 + 3 = 1038 := ⟨by decide +kernel, rfl⟩
theorem d_L_law_1038 : decode b_L_law 1038 = .ok (.aload_n 2, 1) ∧ 1038 + 1 = 1039 := ⟨by decide +kernel, rfl⟩
theorem d_L_law_1039 : decode b_L_law 1039 = .ok (.invokevirtual 133, 3) ∧ 1039 + 3 = 1042 := ⟨by decide +kernel, rfl⟩
theorem d_L_law_1042 : decode b_L_law 1042 = .ok (.goto 75, 3) ∧ ((1042 : Nat) : Int) + 75 = ((1117 : Nat) : Int) := ⟨by decide +kernel, by decide⟩
theorem d_L_law_1045 : decode b_L_law 1045 = .ok (.aload_n 1, 1) ∧ 1045 + 1 = 1046 := ⟨by decide +kernel, rfl⟩
theorem d_L_law_1046 : decode b_L_law 1046 = .ok (.aload_n 0, 1) ∧ 1046 + 1 = 1047 := ⟨by decide +kernel, rfl⟩
theorem d_L_law_1047 : decode b_L_law 1047 = .ok (.iload 4, 2) ∧ 1047 + 2 = 1049 := ⟨by decide +kernel, rfl⟩
theorem d_L_law_1049 : decode b_L_law 1049 = .ok (.iconst 1, 1) ∧ 1049 + 1 = 1050 := ⟨by decide +kernel, rfl⟩
theorem d_L_law_1050 : decode b_L_law 1050 = .ok (.iadd, 1) ∧ 1050 + 1 = 1051 := ⟨by decide +kernel, rfl⟩
theorem d_L_law_1051 : decode b_L_law 1051 = .ok (.iaload, 1) ∧ 1051 + 1 = 1052 := ⟨by decide +kernel, rfl⟩
theorem d_L_law_1052 : decode b_L_law 1052 = .ok (.ifCond .eq 7, 3) ∧ 1052 + 3 = 1055 ∧ ((1052 : Nat) : Int) + 7 = ((1059 : Nat) : Int) := ⟨by decide +kernel, rfl, by decide⟩
theorem d_L_law_1055 : decode b_L_law 1055 = .ok (.iconst 1, 1) ∧ 1055 + 1 = 1056 := ⟨by decide +kernel, rfl⟩
theorem d_L_law_1056 : decode b_L_law 1056 = .ok (.goto 4, 3) ∧ ((1056 : Nat) : Int) + 4 = ((1060 : Nat) : Int) := ⟨by decide +kernel, by decide⟩
theorem d_L_law_1059 : decode b_L_law 1059 = .ok (.iconst 0, 1) ∧ 1059 + 1 = 1060 := ⟨by decide +kernel, rfl⟩
theorem d_L_law_1060 : decode b_L_law 1060 = .ok (.aload_n 3, 1) ∧ 1060 + 1 = 1061 := ⟨by decide +kernel, rfl⟩
theorem d_L_law_1061 : decode b_L_law 1061 = .ok (.invokestatic 134, 3) ∧ 1061 + 3 = 1064 := ⟨by decide +kernel, rfl⟩
theorem d_L_law_1064 : decode b_L_law 1064 = .ok (.istore 5, 2) ∧ 1064 + 2 = 1066 := ⟨by decide +kernel, rfl⟩
theorem d_L_law_1066 : decode b_L_law 1066 = .ok (.aload_n 2, 1) ∧ 1066 + 1 = 1067 := ⟨by decide +kernel, rfl⟩
theorem d_L_law_1067 : decode b_L_law 1067 = .ok (.aload_n 0, 1) ∧ 1067 + 1 = 1068 := ⟨by decide +kernel, rfl⟩
theorem d_L_law_1068 : decode b_L_law 1068 = .ok (.iload 4, 2) ∧ 1068 + 2 = 1070 := ⟨by decide +kernel, rfl⟩
theorem d_L_law_1070 : decode b_L_law 1070 = .ok (.iconst 1, 1) ∧ 1070 + 1 = 1071 := ⟨by decide +kernel, rfl⟩
theorem d_L_law_1071 : decode b_L_law 1071 = .ok (.iadd, 1) ∧ 1071 + 1 = 1072 := ⟨by decide +kernel, rfl⟩
theorem d_L_law_1072 : decode b_L_law 1072 = .ok (.iaload, 1) ∧ 1072 + 1 = 1073 := ⟨by decide +kernel, rfl⟩
theorem d_L_law_1073 : decode b_L_law 1073 = .ok (.ifCond .eq 7, 3) ∧ 1073 + 3 = 1076 ∧ ((1073 : Nat) : Int) + 7 = ((1080 : Nat) : Int) := ⟨by decide +kernel, rfl, by decide⟩
theorem d_L_law_1076 : decode b_L_law 1076 = .ok (.iconst 1, 1) ∧ 1076 + 1 = 1077 := ⟨by decide +kernel, rfl⟩
theorem d_L_law_1077 : decode b_L_law 1077 = .ok (.goto 4, 3) ∧ ((1077 : Nat) : Int) + 4 = ((1081 : Nat) : Int) := ⟨by decide +kernel, by decide⟩
theorem d_L_law_1080 : decode b_L_law 1080 = .ok (.iconst 0, 1) ∧ 1080 + 1 = 1081 := ⟨by decide +kernel, rfl⟩
theorem d_L_law_1081 : decode b_L_law 1081 = .ok (.invokevirtual 137, 3) ∧ 1081 + 3 = 1084 := ⟨by decide +kernel, rfl⟩
theorem d_L_law_1084 : decode b_L_law 1084 = .ok (.istore 6, 2) ∧ 1084 + 2 = 1086 := ⟨by decide +kernel, rfl⟩
theorem d_L_law_1086 : decode b_L_law 1086 = .ok (.aload_n 2, 1) ∧ 1086 + 1 = 1087 := ⟨by decide +kernel, rfl⟩
theorem d_L_law_1087 : decode b_L_law 1087 = .ok (.invokevirtual 78, 3) ∧ 1087 + 3 = 1090 := ⟨by decide +kernel, rfl⟩
theorem d_L_law_1090 : decode b_L_law 1090 = .ok (.iload 5, 2) ∧ 1090 + 2 = 1092 := ⟨by decide +kernel, rfl⟩
theorem d_L_law_1092 : decode b_L_law 1092 = .ok (.if_icmp .eq 5, 3) ∧ 1092 + 3 = 1095 ∧ ((1092 : Nat) : Int) + 5 = ((1097 : Nat) : Int) := ⟨by decide +kernel, rfl, by decide⟩
theorem d_L_law_1095 : decode b_L_law 1095 = .ok (.iconst 0, 1) ∧ 1095 + 1 = 1096 := ⟨by decide +kernel, rfl⟩
theorem d_L_law_1096 : decode b_L_law 1096 = .ok (.ireturn, 1) := by decide +kernel
theorem d_L_law_1097 : decode b_L_law 1097 = .ok (.iload 5, 2) ∧ 1097 + 2 = 1099 := ⟨by decide +kernel, rfl⟩
theorem d_L_law_1099 : decode b_L_law 1099 = .ok (.ifCond .ne 15, 3) ∧ 1099 + 3 = 1102 ∧ ((1099 : Nat) : Int) + 15 = ((1114 : Nat) : Int) := ⟨by decide +kernel, rfl, by decide⟩
theorem d_L_law_1102 : decode b_L_law 1102 = .ok (.aload_n 3, 1) ∧ 1102 + 1 = 1103 := ⟨by decide +kernel, rfl⟩
theorem d_L_law_1103 : decode b_L_law 1103 = .ok (.iconst 0, 1) ∧ 1103 + 1 = 1104 := ⟨by decide +kernel, rfl⟩
theorem d_L_law_1104 : decode b_L_law 1104 = .ok (.laload, 1) ∧ 1104 + 1 = 1105 := ⟨by decide +kernel, rfl⟩
theorem d_L_law_1105 : decode b_L_law 1105 = .ok (.iload 6, 2) ∧ 1105 + 2 = 1107 := ⟨by decide +kernel, rfl⟩
theorem d_L_law_1107 : decode b_L_law 1107 = .ok (.i2l, 1) ∧ 1107 + 1 = 1108 := ⟨by decide +kernel, rfl⟩
theorem d_L_law_1108 : decode b_L_law 1108 = .ok (.lcmp, 1) ∧ 1108 + 1 = 1109 := ⟨by decide +kernel, rfl⟩
theorem d_L_law_1109 : decode b_L_law 1109 = .ok (.ifCond .eq 5, 3) ∧ 1109 + 3 = 1112 ∧ ((1109 : Nat) : Int) + 5 = ((1114 : Nat) : Int) := ⟨by decide +kernel, rfl, by decide⟩
theorem d_L_law_1112 : decode b_L_law 1112 = .ok (.iconst 0, 1) ∧ 1112 + 1 = 1113 := ⟨by decide +kernel, rfl⟩
theorem d_L_law_1113 : decode b_L_law 1113 = .ok (.ireturn, 1) := by decide +kernel
theorem d_L_law_1114 : decode b_L_law 1114 = .ok (.goto 3, 3) ∧ ((1114 : Nat) : Int) + 3 = ((1117 : Nat) : Int) := ⟨by decide +kernel, by decide⟩
theorem d_L_law_1117 : decode b_L_law 1117 = .ok (.iinc 4 4, 3) ∧ 1117 + 3 = 1120 := ⟨by decide +kernel, rfl⟩
theorem d_L_law_1120 : decode b_L_law 1120 = .ok (.goto (-1097), 3) ∧ ((1120 : Nat) : Int) + (-1097) = ((23 : Nat) : Int) := ⟨by decide +kernel, by decide⟩
theorem d_L_law_1123 : decode b_L_law 1123 = .ok (.iconst 1, 1) ∧ 1123 + 1 = 1124 := ⟨by decide +kernel, rfl⟩
theorem d_L_law_1124 : decode b_L_law 1124 = .ok (.ireturn, 1) := by decide +kernel
theorem d_L_look_0 : decode b_L_look 0 = .ok (.aload 4, 2) ∧ 0 + 2 = 2 := ⟨by decide +kernel, rfl⟩
theorem d_L_look_2 : decode b_L_look 2 = .ok (.iconst 0, 1) ∧ 2 + 1 = 3 := ⟨by decide +kernel, rfl⟩
theorem d_L_look_3 : decode b_L_look 3 = .ok (.aload_n 0, 1) ∧ 3 + 1 = 4 := ⟨by decide +kernel, rfl⟩
theorem d_L_look_4 : decode b_L_look 4 = .ok (.iload_n 1, 1) ∧ 4 + 1 = 5 := ⟨by decide +kernel, rfl⟩
theorem d_L_look_5 : decode b_L_look 5 = .ok (.iload_n 2, 1) ∧ 5 + 1 = 6 := ⟨by decide +kernel, rfl⟩
theorem d_L_look_6 : decode b_L_look 6 = .ok (.iload_n 3, 1) ∧ 6 + 1 = 7 := ⟨by decide +kernel, rfl⟩
theorem d_L_look_7 : decode b_L_look 7 = .ok (.invokevirtual 21, 3) ∧ 7 + 3 = 10 := ⟨by decide +kernel, rfl⟩
theorem d_L_look_10 : decode b_L_look 10 = .ok (.i2l, 1) ∧ 10 + 1 = 11 := ⟨by decide +kernel, rfl⟩
theorem d_L_look_11 : decode b_L_look 11 = .ok (.lastore, 1) ∧ 11 + 1 = 12 := ⟨by decide +kernel, rfl⟩
theorem d_L_look_12 : decode b_L_look 12 = .ok (.goto 11, 3) ∧ ((12 : Nat) : Int) + 11 = ((23 : Nat) : Int) := ⟨by decide +kernel, by decide⟩
theorem d_L_look_15 : decode b_L_look 15 = .ok (.astore 5, 2) ∧ 15 + 2 = 17 := ⟨by decide +kernel, rfl⟩
theorem d_L_look_17 : decode b_L_look 17 = .ok (.iconst 1, 1) ∧ 17 + 1 = 18 := ⟨by decide +kernel, rfl⟩
theorem d_L_look_18 : decode b_L_look 18 = .ok (.ireturn, 1) := by decide +kernel
theorem d_L_look_19 : decode b_L_look 19 = .ok (.astore 5, 2) ∧ 19 + 2 = 21 := ⟨by decide +kernel, rfl⟩
theorem d_L_look_21 : decode b_L_look 21 = .ok (.iconst 2, 1) ∧ 21 + 1 = 22 := ⟨by decide +kernel, rfl⟩
theorem d_L_look_22 : decode b_L_look 22 = .ok (.ireturn, 1) := by decide +kernel
theorem d_L_look_23 : decode b_L_look 23 = .ok (.iconst 0, 1) ∧ 23 + 1 = 24 := ⟨by decide +kernel, rfl⟩
theorem d_L_look_24 : decode b_L_look 24 = .ok (.ireturn, 1) := by decide +kernel
theorem d_L_pixel_0 : decode b_L_pixel 0 = .ok (.aload 4, 2) ∧ 0 + 2 = 2 := ⟨by decide +kernel, rfl⟩
theorem d_L_pixel_2 : decode b_L_pixel 2 = .ok (.iconst 0, 1) ∧ 2 + 1 = 3 := ⟨by decide +kernel, rfl⟩
theorem d_L_pixel_3 : decode b_L_pixel 3 = .ok (.aload_n 0, 1) ∧ 3 + 1 = 4 := ⟨by decide +kernel, rfl⟩
theorem d_L_pixel_4 : decode b_L_pixel 4 = .ok (.iload_n 1, 1) ∧ 4 + 1 = 5 := ⟨by decide +kernel, rfl⟩
theorem d_L_pixel_5 : decode b_L_pixel 5 = .ok (.iload_n 2, 1) ∧ 5 + 1 = 6 := ⟨by decide +kernel, rfl⟩
theorem d_L_pixel_6 : decode b_L_pixel 6 = .ok (.iload_n 3, 1) ∧ 6 + 1 = 7 := ⟨by decide +kernel, rfl⟩
theorem d_L_pixel_7 : decode b_L_pixel 7 = .ok (.invokevirtual 15, 3) ∧ 7 + 3 = 10 := ⟨by decide +kernel, rfl⟩
theorem d_L_pixel_10 : decode b_L_pixel 10 = .ok (.i2l, 1) ∧ 10 + 1 = 11 := ⟨by decide +kernel, rfl⟩
theorem d_L_pixel_11 : decode b_L_pixel 11 = .ok (.lastore, 1) ∧ 11 + 1 = 12 := ⟨by decide +kernel, rfl⟩
theorem d_L_pixel_12 : decode b_L_pixel 12 = .ok (.goto 7, 3) ∧ ((12 : Nat) : Int) + 7 = ((19 : Nat) : Int) := ⟨by decide +kernel, by decide⟩
theorem d_L_pixel_15 : decode b_L_pixel 15 = .ok (.astore 5, 2) ∧ 15 + 2 = 17 := ⟨by decide +kernel, rfl⟩
theorem d_L_pixel_17 : decode b_L_pixel 17 = .ok (.iconst 1, 1) ∧ 17 + 1 = 18 := ⟨by decide +kernel, rfl⟩
theorem d_L_pixel_18 : decode b_L_pixel 18 = .ok (.ireturn, 1) := by decide +kernel
theorem d_L_pixel_19 : decode b_L_pixel 19 = .ok (.iconst 0, 1) ∧ 19 + 1 = 20 := ⟨by decide +kernel, rfl⟩
theorem d_L_pixel_20 : decode b_L_pixel 20 = .ok (.ireturn, 1) := by decide +kernel
theorem d_L_project_0 : decode b_L_project 0 = .ok (.aload_n 0, 1) ∧ 0 + 1 = 1 := ⟨by decide +kernel, rfl⟩
theorem d_L_project_1 : decode b_L_project 1 = .ok (.iload_n 1, 1) ∧ 1 + 1 = 2 := ⟨by decide +kernel, rfl⟩
theorem d_L_project_2 : decode b_L_project 2 = .ok (.invokevirtual 34, 3) ∧ 2 + 3 = 5 := ⟨by decide +kernel, rfl⟩
theorem d_L_project_5 : decode b_L_project 5 = .ok (.goto 9, 3) ∧ ((5 : Nat) : Int) + 9 = ((14 : Nat) : Int) := ⟨by decide +kernel, by decide⟩
theorem d_L_project_8 : decode b_L_project 8 = .ok (.astore_n 2, 1) ∧ 8 + 1 = 9 := ⟨by decide +kernel, rfl⟩
theorem d_L_project_9 : decode b_L_project 9 = .ok (.iconst 1, 1) ∧ 9 + 1 = 10 := ⟨by decide +kernel, rfl⟩
theorem d_L_project_10 : decode b_L_project 10 = .ok (.ireturn, 1) := by decide +kernel
theorem d_L_project_11 : decode b_L_project 11 = .ok (.astore_n 2, 1) ∧ 11 + 1 = 12 := ⟨by decide +kernel, rfl⟩
theorem d_L_project_12 : decode b_L_project 12 = .ok (.iconst 2, 1) ∧ 12 + 1 = 13 := ⟨by decide +kernel, rfl⟩
theorem d_L_project_13 : decode b_L_project 13 = .ok (.ireturn, 1) := by decide +kernel
theorem d_L_project_14 : decode b_L_project 14 = .ok (.iconst 0, 1) ∧ 14 + 1 = 15 := ⟨by decide +kernel, rfl⟩
theorem d_L_project_15 : decode b_L_project 15 = .ok (.ireturn, 1) := by decide +kernel
theorem d_L_put_0 : decode b_L_put 0 = .ok (.aload 4, 2) ∧ 0 + 2 = 2 := ⟨by decide +kernel, rfl⟩
theorem d_L_put_2 : decode b_L_put 2 = .ok (.iconst 0, 1) ∧ 2 + 1 = 3 := ⟨by decide +kernel, rfl⟩
theorem d_L_put_3 : decode b_L_put 3 = .ok (.aload_n 0, 1) ∧ 3 + 1 = 4 := ⟨by decide +kernel, rfl⟩
theorem d_L_put_4 : decode b_L_put 4 = .ok (.iload_n 1, 1) ∧ 4 + 1 = 5 := ⟨by decide +kernel, rfl⟩
theorem d_L_put_5 : decode b_L_put 5 = .ok (.iload_n 2, 1) ∧ 5 + 1 = 6 := ⟨by decide +kernel, rfl⟩
theorem d_L_put_6 : decode b_L_put 6 = .ok (.iload_n 3, 1) ∧ 6 + 1 = 7 := ⟨by decide +kernel, rfl⟩
theorem d_L_put_7 : decode b_L_put 7 = .ok (.invokevirtual 45, 3) ∧ 7 + 3 = 10 := ⟨by decide +kernel, rfl⟩
theorem d_L_put_10 : decode b_L_put 10 = .ok (.i2l, 1) ∧ 10 + 1 = 11 := ⟨by decide +kernel, rfl⟩
theorem d_L_put_11 : decode b_L_put 11 = .ok (.lastore, 1) ∧ 11 + 1 = 12 := ⟨by decide +kernel, rfl⟩
theorem d_L_put_12 : decode b_L_put 12 = .ok (.goto 11, 3) ∧ ((12 : Nat) : Int) + 11 = ((23 : Nat) : Int) := ⟨by decide +kernel, by decide⟩
theorem d_L_put_15 : decode b_L_put 15 = .ok (.astore 5, 2) ∧ 15 + 2 = 17 := ⟨by decide +kernel, rfl⟩
theorem d_L_put_17 : decode b_L_put 17 = .ok (.iconst 1, 1) ∧ 17 + 1 = 18 := ⟨by decide +kernel, rfl⟩
theorem d_L_put_18 : decode b_L_put 18 = .ok (.ireturn, 1) := by decide +kernel
theorem d_L_put_19 : decode b_L_put 19 = .ok (.astore 5, 2) ∧ 19 + 2 = 21 := ⟨by decide +kernel, rfl⟩
theorem d_L_put_21 : decode b_L_put 21 = .ok (.iconst 2, 1) ∧ 21 + 1 = 22 := ⟨by decide +kernel, rfl⟩
theorem d_L_put_22 : decode b_L_put 22 = .ok (.ireturn, 1) := by decide +kernel
theorem d_L_put_23 : decode b_L_put 23 = .ok (.iconst 0, 1) ∧ 23 + 1 = 24 := ⟨by decide +kernel, rfl⟩
theorem d_L_put_24 : decode b_L_put 24 = .ok (.ireturn, 1) := by decide +kernel
theorem d_L_rebuild_0 : decode b_L_rebuild 0 = .ok (.aload_n 2, 1) ∧ 0 + 1 = 1 := ⟨by decide +kernel, rfl⟩
theorem d_L_rebuild_1 : decode b_L_rebuild 1 = .ok (.iconst 0, 1) ∧ 1 + 1 = 2 := ⟨by decide +kernel, rfl⟩
theorem d_L_rebuild_2 : decode b_L_rebuild 2 = .ok (.aload_n 0, 1) ∧ 2 + 1 = 3 := ⟨by decide +kernel, rfl⟩
theorem d_L_rebuild_3 : decode b_L_rebuild 3 = .ok (.iload_n 1, 1) ∧ 3 + 1 = 4 := ⟨by decide +kernel, rfl⟩
theorem d_L_rebuild_4 : decode b_L_rebuild 4 = .ok (.invokevirtual 51, 3) ∧ 4 + 3 = 7 := ⟨by decide +kernel, rfl⟩
theorem d_L_rebuild_7 : decode b_L_rebuild 7 = .ok (.i2l, 1) ∧ 7 + 1 = 8 := ⟨by decide +kernel, rfl⟩
theorem d_L_rebuild_8 : decode b_L_rebuild 8 = .ok (.lastore, 1) ∧ 8 + 1 = 9 := ⟨by decide +kernel, rfl⟩
theorem d_L_rebuild_9 : decode b_L_rebuild 9 = .ok (.goto 9, 3) ∧ ((9 : Nat) : Int) + 9 = ((18 : Nat) : Int) := ⟨by decide +kernel, by decide⟩
theorem d_L_rebuild_12 : decode b_L_rebuild 12 = .ok (.astore_n 3, 1) ∧ 12 + 1 = 13 := ⟨by decide +kernel, rfl⟩
theorem d_L_rebuild_13 : decode b_L_rebuild 13 = .ok (.iconst 1, 1) ∧ 13 + 1 = 14 := ⟨by decide +kernel, rfl⟩
theorem d_L_rebuild_14 : decode b_L_rebuild 14 = .ok (.ireturn, 1) := by decide +kernel
theorem d_L_rebuild_15 : decode b_L_rebuild 15 = .ok (.astore_n 3, 1) ∧ 15 + 1 = 16 := ⟨by decide +kernel, rfl⟩
theorem d_L_rebuild_16 : decode b_L_rebuild 16 = .ok (.iconst 2, 1) ∧ 16 + 1 = 17 := ⟨by decide +kernel, rfl⟩
theorem d_L_rebuild_17 : decode b_L_rebuild 17 = .ok (.ireturn, 1) := by decide +kernel
theorem d_L_rebuild_18 : decode b_L_rebuild 18 = .ok (.iconst 0, 1) ∧ 18 + 1 = 19 := ⟨by decide +kernel, rfl⟩
theorem d_L_rebuild_19 : decode b_L_rebuild 19 = .ok (.ireturn, 1) := by decide +kernel
theorem d_L_regenerate_0 : decode b_L_regenerate 0 = .ok (.aload_n 2, 1) ∧ 0 + 1 = 1 := ⟨by decide +kernel, rfl⟩
theorem d_L_regenerate_1 : decode b_L_regenerate 1 = .ok (.iconst 0, 1) ∧ 1 + 1 = 2 := ⟨by decide +kernel, rfl⟩
theorem d_L_regenerate_2 : decode b_L_regenerate 2 = .ok (.aload_n 0, 1) ∧ 2 + 1 = 3 := ⟨by decide +kernel, rfl⟩
theorem d_L_regenerate_3 : decode b_L_regenerate 3 = .ok (.iload_n 1, 1) ∧ 3 + 1 = 4 := ⟨by decide +kernel, rfl⟩
theorem d_L_regenerate_4 : decode b_L_regenerate 4 = .ok (.invokevirtual 58, 3) ∧ 4 + 3 = 7 := ⟨by decide +kernel, rfl⟩
theorem d_L_regenerate_7 : decode b_L_regenerate 7 = .ok (.ifCond .eq 7, 3) ∧ 7 + 3 = 10 ∧ ((7 : Nat) : Int) + 7 = ((14 : Nat) : Int) := ⟨by decide +kernel, rfl, by decide⟩
theorem d_L_regenerate_10 : decode b_L_regenerate 10 = .ok (.lconst 1, 1) ∧ 10 + 1 = 11 := ⟨by decide +kernel, rfl⟩
theorem d_L_regenerate_11 : decode b_L_regenerate 11 = .ok (.goto 4, 3) ∧ ((11 : Nat) : Int) + 4 = ((15 : Nat) : Int) := ⟨by decide +kernel, by decide⟩
theorem d_L_regenerate_14 : decode b_L_regenerate 14 = .ok (.lconst 0, 1) ∧ 14 + 1 = 15 := ⟨by decide +kernel, rfl⟩
theorem d_L_regenerate_15 : decode b_L_regenerate 15 = .ok (.lastore, 1) ∧ 15 + 1 = 16 := ⟨by decide +kernel, rfl⟩
theorem d_L_regenerate_16 : decode b_L_regenerate 16 = .ok (.goto 9, 3) ∧ ((16 : Nat) : Int) + 9 = ((25 : Nat) : Int) := ⟨by decide +kernel, by decide⟩
theorem d_L_regenerate_19 : decode b_L_regenerate 19 = .ok (.astore_n 3, 1) ∧ 19 + 1 = 20 := ⟨by decide +kernel, rfl⟩
theorem d_L_regenerate_20 : decode b_L_regenerate 20 = .ok (.iconst 1, 1) ∧ 20 + 1 = 21 := ⟨by decide +kernel, rfl⟩
theorem d_L_regenerate_21 : decode b_L_regenerate 21 = .ok (.ireturn, 1) := by decide +kernel
theorem d_L_regenerate_22 : decode b_L_regenerate 22 = .ok (.astore_n 3, 1) ∧ 22 + 1 = 23 := ⟨by decide +kernel, rfl⟩
theorem d_L_regenerate_23 : decode b_L_regenerate 23 = .ok (.iconst 2, 1) ∧ 23 + 1 = 24 := ⟨by decide +kernel, rfl⟩
theorem d_L_regenerate_24 : decode b_L_regenerate 24 = .ok (.ireturn, 1) := by decide +kernel
theorem d_L_regenerate_25 : decode b_L_regenerate 25 = .ok (.iconst 0, 1) ∧ 25 + 1 = 26 := ⟨by decide +kernel, rfl⟩
theorem d_L_regenerate_26 : decode b_L_regenerate 26 = .ok (.ireturn, 1) := by decide +kernel
theorem d_L_shelf_0 : decode b_L_shelf 0 = .ok (.aload_n 3, 1) ∧ 0 + 1 = 1 := ⟨by decide +kernel, rfl⟩
theorem d_L_shelf_1 : decode b_L_shelf 1 = .ok (.iconst 0, 1) ∧ 1 + 1 = 2 := ⟨by decide +kernel, rfl⟩
theorem d_L_shelf_2 : decode b_L_shelf 2 = .ok (.aload_n 0, 1) ∧ 2 + 1 = 3 := ⟨by decide +kernel, rfl⟩
theorem d_L_shelf_3 : decode b_L_shelf 3 = .ok (.iload_n 1, 1) ∧ 3 + 1 = 4 := ⟨by decide +kernel, rfl⟩
theorem d_L_shelf_4 : decode b_L_shelf 4 = .ok (.iload_n 2, 1) ∧ 4 + 1 = 5 := ⟨by decide +kernel, rfl⟩
theorem d_L_shelf_5 : decode b_L_shelf 5 = .ok (.invokevirtual 30, 3) ∧ 5 + 3 = 8 := ⟨by decide +kernel, rfl⟩
theorem d_L_shelf_8 : decode b_L_shelf 8 = .ok (.i2l, 1) ∧ 8 + 1 = 9 := ⟨by decide +kernel, rfl⟩
theorem d_L_shelf_9 : decode b_L_shelf 9 = .ok (.lastore, 1) ∧ 9 + 1 = 10 := ⟨by decide +kernel, rfl⟩
theorem d_L_shelf_10 : decode b_L_shelf 10 = .ok (.goto 11, 3) ∧ ((10 : Nat) : Int) + 11 = ((21 : Nat) : Int) := ⟨by decide +kernel, by decide⟩
theorem d_L_shelf_13 : decode b_L_shelf 13 = .ok (.astore 4, 2) ∧ 13 + 2 = 15 := ⟨by decide +kernel, rfl⟩
theorem d_L_shelf_15 : decode b_L_shelf 15 = .ok (.iconst 1, 1) ∧ 15 + 1 = 16 := ⟨by decide +kernel, rfl⟩
theorem d_L_shelf_16 : decode b_L_shelf 16 = .ok (.ireturn, 1) := by decide +kernel
theorem d_L_shelf_17 : decode b_L_shelf 17 = .ok (.astore 4, 2) ∧ 17 + 2 = 19 := ⟨by decide +kernel, rfl⟩
theorem d_L_shelf_19 : decode b_L_shelf 19 = .ok (.iconst 2, 1) ∧ 19 + 1 = 20 := ⟨by decide +kernel, rfl⟩
theorem d_L_shelf_20 : decode b_L_shelf 20 = .ok (.ireturn, 1) := by decide +kernel
theorem d_L_shelf_21 : decode b_L_shelf 21 = .ok (.iconst 0, 1) ∧ 21 + 1 = 22 := ⟨by decide +kernel, rfl⟩
theorem d_L_shelf_22 : decode b_L_shelf 22 = .ok (.ireturn, 1) := by decide +kernel
theorem d_L_size_0 : decode b_L_size 0 = .ok (.aload_n 0, 1) ∧ 0 + 1 = 1 := ⟨by decide +kernel, rfl⟩
theorem d_L_size_1 : decode b_L_size 1 = .ok (.iload_n 1, 1) ∧ 1 + 1 = 2 := ⟨by decide +kernel, rfl⟩
theorem d_L_size_2 : decode b_L_size 2 = .ok (.iload_n 2, 1) ∧ 2 + 1 = 3 := ⟨by decide +kernel, rfl⟩
theorem d_L_size_3 : decode b_L_size 3 = .ok (.invokevirtual 7, 3) ∧ 3 + 3 = 6 := ⟨by decide +kernel, rfl⟩
theorem d_L_size_6 : decode b_L_size 6 = .ok (.goto 6, 3) ∧ ((6 : Nat) : Int) + 6 = ((12 : Nat) : Int) := ⟨by decide +kernel, by decide⟩
theorem d_L_size_9 : decode b_L_size 9 = .ok (.astore_n 3, 1) ∧ 9 + 1 = 10 := ⟨by decide +kernel, rfl⟩
theorem d_L_size_10 : decode b_L_size 10 = .ok (.iconst 1, 1) ∧ 10 + 1 = 11 := ⟨by decide +kernel, rfl⟩
theorem d_L_size_11 : decode b_L_size 11 = .ok (.ireturn, 1) := by decide +kernel
theorem d_L_size_12 : decode b_L_size 12 = .ok (.iconst 0, 1) ∧ 12 + 1 = 13 := ⟨by decide +kernel, rfl⟩
theorem d_L_size_13 : decode b_L_size 13 = .ok (.ireturn, 1) := by decide +kernel
end
section
theorem d_M_about_0 : decode b_M_about 0 = .ok (.aload_n 0, 1) ∧ 0 + 1 = 1 := ⟨by decide +kernel, rfl⟩
theorem d_M_about_1 : decode b_M_about 1 = .ok (.iload_n 1, 1) ∧ 1 + 1 = 2 := ⟨by decide +kernel, rfl⟩
theorem d_M_about_2 : decode b_M_about 2 = .ok (.ifCond .eq 12, 3) ∧ 2 + 3 = 5 ∧ ((2 : Nat) : Int) + 12 = ((14 : Nat) : Int) := ⟨by decide +kernel, rfl, by decide⟩
theorem d_M_about_5 : decode b_M_about 5 = .ok (.iload_n 1, 1) ∧ 5 + 1 = 6 := ⟨by decide +kernel, rfl⟩
theorem d_M_about_6 : decode b_M_about 6 = .ok (.iconst 1, 1) ∧ 6 + 1 = 7 := ⟨by decide +kernel, rfl⟩
theorem d_M_about_7 : decode b_M_about 7 = .ok (.if_icmp .eq 7, 3) ∧ 7 + 3 = 10 ∧ ((7 : Nat) : Int) + 7 = ((14 : Nat) : Int) := ⟨by decide +kernel, rfl, by decide⟩
theorem d_M_about_10 : decode b_M_about 10 = .ok (.iconst 1, 1) ∧ 10 + 1 = 11 := ⟨by decide +kernel, rfl⟩
theorem d_M_about_11 : decode b_M_about 11 = .ok (.goto 4, 3) ∧ ((11 : Nat) : Int) + 4 = ((15 : Nat) : Int) := ⟨by decide +kernel, by decide⟩
theorem d_M_about_14 : decode b_M_about 14 = .ok (.iconst 0, 1) ∧ 14 + 1 = 15 := ⟨by decide +kernel, rfl⟩
theorem d_M_about_15 : decode b_M_about 15 = .ok (.iconst 0, 1) ∧ 15 + 1 = 16 := ⟨by decide +kernel, rfl⟩
theorem d_M_about_16 : decode b_M_about 16 = .ok (.invokevirtual 88, 3) ∧ 16 + 3 = 19 := ⟨by decide +kernel, rfl⟩
theorem d_M_about_19 : decode b_M_about 19 = .ok (.ifCond .eq 5, 3) ∧ 19 + 3 = 22 ∧ ((19 : Nat) : Int) + 5 = ((24 : Nat) : Int) := ⟨by decide +kernel, rfl, by decide⟩
theorem d_M_about_22 : decode b_M_about 22 = .ok (.iconst 0, 1) ∧ 22 + 1 = 23 := ⟨by decide +kernel, rfl⟩
theorem d_M_about_23 : decode b_M_about 23 = .ok (.ireturn, 1) := by decide +kernel
theorem d_M_about_24 : decode b_M_about 24 = .ok (.iload_n 1, 1) ∧ 24 + 1 = 25 := ⟨by decide +kernel, rfl⟩
theorem d_M_about_25 : decode b_M_about 25 = .ok (.ifCond .ne 10, 3) ∧ 25 + 3 = 28 ∧ ((25 : Nat) : Int) + 10 = ((35 : Nat) : Int) := ⟨by decide +kernel, rfl, by decide⟩
theorem d_M_about_28 : decode b_M_about 28 = .ok (.aload_n 0, 1) ∧ 28 + 1 = 29 := ⟨by decide +kernel, rfl⟩
theorem d_M_about_29 : decode b_M_about 29 = .ok (.getfield 167, 3) ∧ 29 + 3 = 32 := ⟨by decide +kernel, rfl⟩
theorem d_M_about_32 : decode b_M_about 32 = .ok (.goto 7, 3) ∧ ((32 : Nat) : Int) + 7 = ((39 : Nat) : Int) := ⟨by decide +kernel, by decide⟩
theorem d_M_about_35 : decode b_M_about 35 = .ok (.aload_n 0, 1) ∧ 35 + 1 = 36 := ⟨by decide +kernel, rfl⟩
theorem d_M_about_36 : decode b_M_about 36 = .ok (.getfield 72, 3) ∧ 36 + 3 = 39 := ⟨by decide +kernel, rfl⟩
theorem d_M_about_39 : decode b_M_about 39 = .ok (.ireturn, 1) := by decide +kernel
theorem d_M_add_0 : decode b_M_add 0 = .ok (.aload_n 0, 1) ∧ 0 + 1 = 1 := ⟨by decide +kernel, rfl⟩
theorem d_M_add_1 : decode b_M_add 1 = .ok (.aload_n 0, 1) ∧ 1 + 1 = 2 := ⟨by decide +kernel, rfl⟩
theorem d_M_add_2 : decode b_M_add 2 = .ok (.getfield 92, 3) ∧ 2 + 3 = 5 := ⟨by decide +kernel, rfl⟩
theorem d_M_add_5 : decode b_M_add 5 = .ok (.ifCond .ne 7, 3) ∧ 5 + 3 = 8 ∧ ((5 : Nat) : Int) + 7 = ((12 : Nat) : Int) := ⟨by decide +kernel, rfl, by decide⟩
theorem d_M_add_8 : decode b_M_add 8 = .ok (.iconst 1, 1) ∧ 8 + 1 = 9 := ⟨by decide +kernel, rfl⟩
theorem d_M_add_9 : decode b_M_add 9 = .ok (.goto 4, 3) ∧ ((9 : Nat) : Int) + 4 = ((13 : Nat) : Int) := ⟨by decide +kernel, by decide⟩
theorem d_M_add_12 : decode b_M_add 12 = .ok (.iconst 0, 1) ∧ 12 + 1 = 13 := ⟨by decide +kernel, rfl⟩
theorem d_M_add_13 : decode b_M_add 13 = .ok (.iconst 0, 1) ∧ 13 + 1 = 14 := ⟨by decide +kernel, rfl⟩
theorem d_M_add_14 : decode b_M_add 14 = .ok (.invokevirtual 88, 3) ∧ 14 + 3 = 17 := ⟨by decide +kernel, rfl⟩
theorem d_M_add_17 : decode b_M_add 17 = .ok (.ifCond .eq 5, 3) ∧ 17 + 3 = 20 ∧ ((17 : Nat) : Int) + 5 = ((22 : Nat) : Int) := ⟨by decide +kernel, rfl, by decide⟩
theorem d_M_add_20 : decode b_M_add 20 = .ok (.iconst 0, 1) ∧ 20 + 1 = 21 := ⟨by decide +kernel, rfl⟩
theorem d_M_add_21 : decode b_M_add 21 = .ok (.ireturn, 1) := by decide +kernel
theorem d_M_add_22 : decode b_M_add 22 = .ok (.iconst 0, 1) ∧ 22 + 1 = 23 := ⟨by decide +kernel, rfl⟩
theorem d_M_add_23 : decode b_M_add 23 = .ok (.istore_n 2, 1) ∧ 23 + 1 = 24 := ⟨by decide +kernel, rfl⟩
theorem d_M_add_24 : decode b_M_add 24 = .ok (.iload_n 2, 1) ∧ 24 + 1 = 25 := ⟨by decide +kernel, rfl⟩
theorem d_M_add_25 : decode b_M_add 25 = .ok (.sipush 256, 3) ∧ 25 + 3 = 28 := ⟨by decide +kernel, rfl⟩
theorem d_M_add_28 : decode b_M_add 28 = .ok (.if_icmp .ge 38, 3) ∧ 28 + 3 = 31 ∧ ((28 : Nat) : Int) + 38 = ((66 : Nat) : Int) := ⟨by decide +kernel, rfl, by decide⟩
theorem d_M_add_31 : decode b_M_add 31 = .ok (.aload_n 0, 1) ∧ 31 + 1 = 32 := ⟨by decide +kernel, rfl⟩
theorem d_M_add_32 : decode b_M_add 32 = .ok (.getfield 16, 3) ∧ 32 + 3 = 35 := ⟨by decide +kernel, rfl⟩
theorem d_M_add_35 : decode b_M_add 35 = .ok (.iload_n 2, 1) ∧ 35 + 1 = 36 := ⟨by decide +kernel, rfl⟩
theorem d_M_add_36 : decode b_M_add 36 = .ok (.dup2, 1) ∧ 36 + 1 = 37 := ⟨by decide +kernel, rfl⟩
theorem d_M_add_37 : decode b_M_add 37 = .ok (.iaload, 1) ∧ 37 + 1 = 38 := ⟨by decide +kernel, rfl⟩
theorem d_M_add_38 : decode b_M_add 38 = .ok (.iload_n 1, 1) ∧ 38 + 1 = 39 := ⟨by decide +kernel, rfl⟩
theorem d_M_add_39 : decode b_M_add 39 = .ok (.ifCond .eq 12, 3) ∧ 39 + 3 = 42 ∧ ((39 : Nat) : Int) + 12 = ((51 : Nat) : Int) := ⟨by decide +kernel, rfl, by decide⟩
theorem d_M_add_42 : decode b_M_add 42 = .ok (.aload_n 0, 1) ∧ 42 + 1 = 43 := ⟨by decide +kernel, rfl⟩
theorem d_M_add_43 : decode b_M_add 43 = .ok (.getfield 20, 3) ∧ 43 + 3 = 46 := ⟨by decide +kernel, rfl⟩
theorem d_M_add_46 : decode b_M_add 46 = .ok (.iload_n 2, 1) ∧ 46 + 1 = 47 := ⟨by decide +kernel, rfl⟩
theorem d_M_add_47 : decode b_M_add 47 = .ok (.iaload, 1) ∧ 47 + 1 = 48 := ⟨by decide +kernel, rfl⟩
theorem d_M_add_48 : decode b_M_add 48 = .ok (.goto 10, 3) ∧ ((48 : Nat) : Int) + 10 = ((58 : Nat) : Int) := ⟨by decide +kernel, by decide⟩
theorem d_M_add_51 : decode b_M_add 51 = .ok (.aload_n 0, 1) ∧ 51 + 1 = 52 := ⟨by decide +kernel, rfl⟩
theorem d_M_add_52 : decode b_M_add 52 = .ok (.getfield 20, 3) ∧ 52 + 3 = 55 := ⟨by decide +kernel, rfl⟩
theorem d_M_add_55 : decode b_M_add 55 = .ok (.iload_n 2, 1) ∧ 55 + 1 = 56 := ⟨by decide +kernel, rfl⟩
theorem d_M_add_56 : decode b_M_add 56 = .ok (.iaload, 1) ∧ 56 + 1 = 57 := ⟨by decide +kernel, rfl⟩
theorem d_M_add_57 : decode b_M_add 57 = .ok (.ineg, 1) ∧ 57 + 1 = 58 := ⟨by decide +kernel, rfl⟩
theorem d_M_add_58 : decode b_M_add 58 = .ok (.iadd, 1) ∧ 58 + 1 = 59 := ⟨by decide +kernel, rfl⟩
theorem d_M_add_59 : decode b_M_add 59 = .ok (.iastore, 1) ∧ 59 + 1 = 60 := ⟨by decide +kernel, rfl⟩
theorem d_M_add_60 : decode b_M_add 60 = .ok (.iinc 2 1, 3) ∧ 60 + 3 = 63 := ⟨by decide +kernel, rfl⟩
theorem d_M_add_63 : decode b_M_add 63 = .ok (.goto (-39), 3) ∧ ((63 : Nat) : Int) + (-39) = ((24 : Nat) : Int) := ⟨by decide +kernel, by decide⟩
theorem d_M_add_66 : decode b_M_add 66 = .ok (.iconst 0, 1) ∧ 66 + 1 = 67 := ⟨by decide +kernel, rfl⟩
theorem d_M_add_67 : decode b_M_add 67 = .ok (.istore_n 2, 1) ∧ 67 + 1 = 68 := ⟨by decide +kernel, rfl⟩
theorem d_M_add_68 : decode b_M_add 68 = .ok (.iconst 0, 1) ∧ 68 + 1 = 69 := ⟨by decide +kernel, rfl⟩
theorem d_M_add_69 : decode b_M_add 69 = .ok (.istore_n 3, 1) ∧ 69 + 1 = 70 := ⟨by decide +kernel, rfl⟩
theorem d_M_add_70 : decode b_M_add 70 = .ok (.iload_n 3, 1) ∧ 70 + 1 = 71 := ⟨by decide +kernel, rfl⟩
theorem d_M_add_71 : decode b_M_add 71 = .ok (.bipush 8, 2) ∧ 71 + 2 = 73 := ⟨by decide +kernel, rfl⟩
theorem d_M_add_73 : decode b_M_add 73 = .ok (.if_icmp .ge 174, 3) ∧ 73 + 3 = 76 ∧ ((73 : Nat) : Int) + 174 = ((247 : Nat) : Int) := ⟨by decide +kernel, rfl, by decide⟩
theorem d_M_add_76 : decode b_M_add 76 = .ok (.aload_n 0, 1) ∧ 76 + 1 = 77 := ⟨by decide +kernel, rfl⟩
theorem d_M_add_77 : decode b_M_add 77 = .ok (.getfield 48, 3) ∧ 77 + 3 = 80 := ⟨by decide +kernel, rfl⟩
theorem d_M_add_80 : decode b_M_add 80 = .ok (.iload_n 3, 1) ∧ 80 + 1 = 81 := ⟨by decide +kernel, rfl⟩
theorem d_M_add_81 : decode b_M_add 81 = .ok (.baload, 1) ∧ 81 + 1 = 82 := ⟨by decide +kernel, rfl⟩
theorem d_M_add_82 : decode b_M_add 82 = .ok (.ifCond .eq 46, 3) ∧ 82 + 3 = 85 ∧ ((82 : Nat) : Int) + 46 = ((128 : Nat) : Int) := ⟨by decide +kernel, rfl, by decide⟩
theorem d_M_add_85 : decode b_M_add 85 = .ok (.aload_n 0, 1) ∧ 85 + 1 = 86 := ⟨by decide +kernel, rfl⟩
theorem d_M_add_86 : decode b_M_add 86 = .ok (.getfield 57, 3) ∧ 86 + 3 = 89 := ⟨by decide +kernel, rfl⟩
theorem d_M_add_89 : decode b_M_add 89 = .ok (.iload_n 3, 1) ∧ 89 + 1 = 90 := ⟨by decide +kernel, rfl⟩
theorem d_M_add_90 : decode b_M_add 90 = .ok (.baload, 1) ∧ 90 + 1 = 91 := ⟨by decide +kernel, rfl⟩
theorem d_M_add_91 : decode b_M_add 91 = .ok (.ifCond .eq 37, 3) ∧ 91 + 3 = 94 ∧ ((91 : Nat) : Int) + 37 = ((128 : Nat) : Int) := ⟨by decide +kernel, rfl, by decide⟩
theorem d_M_add_94 : decode b_M_add 94 = .ok (.aload_n 0, 1) ∧ 94 + 1 = 95 := ⟨by decide +kernel, rfl⟩
theorem d_M_add_95 : decode b_M_add 95 = .ok (.getfield 51, 3) ∧ 95 + 3 = 98 := ⟨by decide +kernel, rfl⟩
theorem d_M_add_98 : decode b_M_add 98 = .ok (.iload_n 3, 1) ∧ 98 + 1 = 99 := ⟨by decide +kernel, rfl⟩
theorem d_M_add_99 : decode b_M_add 99 = .ok (.iaload, 1) ∧ 99 + 1 = 100 := ⟨by decide +kernel, rfl⟩
theorem d_M_add_100 : decode b_M_add 100 = .ok (.aload_n 0, 1) ∧ 100 + 1 = 101 := ⟨by decide +kernel, rfl⟩
theorem d_M_add_101 : decode b_M_add 101 = .ok (.getfield 36, 3) ∧ 101 + 3 = 104 := ⟨by decide +kernel, rfl⟩
theorem d_M_add_104 : decode b_M_add 104 = .ok (.iload_n 3, 1) ∧ 104 + 1 = 105 := ⟨by decide +kernel, rfl⟩
theorem d_M_add_105 : decode b_M_add 105 = .ok (.iaload, 1) ∧ 105 + 1 = 106 := ⟨by decide +kernel, rfl⟩
theorem d_M_add_106 : decode b_M_add 106 = .ok (.if_icmp .ne 22, 3) ∧ 106 + 3 = 109 ∧ ((106 : Nat) : Int) + 22 = ((128 : Nat) : Int) := ⟨by decide +kernel, rfl, by decide⟩
theorem d_M_add_109 : decode b_M_add 109 = .ok (.aload_n 0, 1) ∧ 109 + 1 = 110 := ⟨by decide +kernel, rfl⟩
theorem d_M_add_110 : decode b_M_add 110 = .ok (.getfield 54, 3) ∧ 110 + 3 = 113 := ⟨by decide +kernel, rfl⟩
theorem d_M_add_113 : decode b_M_add 113 = .ok (.iload_n 3, 1) ∧ 113 + 1 = 114 := ⟨by decide +kernel, rfl⟩
theorem d_M_add_114 : decode b_M_add 114 = .ok (.iaload, 1) ∧ 114 + 1 = 115 := ⟨by decide +kernel, rfl⟩
theorem d_M_add_115 : decode b_M_add 115 = .ok (.aload_n 0, 1) ∧ 115 + 1 = 116 := ⟨by decide +kernel, rfl⟩
theorem d_M_add_116 : decode b_M_add 116 = .ok (.getfield 39, 3) ∧ 116 + 3 = 119 := ⟨by decide +kernel, rfl⟩
theorem d_M_add_119 : decode b_M_add 119 = .ok (.iload_n 3, 1) ∧ 119 + 1 = 120 := ⟨by decide +kernel, rfl⟩
theorem d_M_add_120 : decode b_M_add 120 = .ok (.iaload, 1) ∧ 120 + 1 = 121 := ⟨by decide +kernel, rfl⟩
theorem d_M_add_121 : decode b_M_add 121 = .ok (.if_icmp .ne 7, 3) ∧ 121 + 3 = 124 ∧ ((121 : Nat) : Int) + 7 = ((128 : Nat) : Int) := ⟨by decide +kernel, rfl, by decide⟩
theorem d_M_add_124 : decode b_M_add 124 = .ok (.iconst 1, 1) ∧ 124 + 1 = 125 := ⟨by decide +kernel, rfl⟩
theorem d_M_add_125 : decode b_M_add 125 = .ok (.goto 4, 3) ∧ ((125 : Nat) : Int) + 4 = ((129 : Nat) : Int) := ⟨by decide +kernel, by decide⟩
theorem d_M_add_128 : decode b_M_add 128 = .ok (.iconst 0, 1) ∧ 128 + 1 = 129 := ⟨by decide +kernel, rfl⟩
theorem d_M_add_129 : decode b_M_add 129 = .ok (.istore 4, 2) ∧ 129 + 2 = 131 := ⟨by decide +kernel, rfl⟩
theorem d_M_add_131 : decode b_M_add 131 = .ok (.aload_n 0, 1) ∧ 131 + 1 = 132 := ⟨by decide +kernel, rfl⟩
theorem d_M_add_132 : decode b_M_add 132 = .ok (.getfield 42, 3) ∧ 132 + 3 = 135 := ⟨by decide +kernel, rfl⟩
theorem d_M_add_135 : decode b_M_add 135 = .ok (.iload_n 3, 1) ∧ 135 + 1 = 136 := ⟨by decide +kernel, rfl⟩
theorem d_M_add_136 : decode b_M_add 136 = .ok (.aload_n 0, 1) ∧ 136 + 1 = 137 := ⟨by decide +kernel, rfl⟩
theorem d_M_add_137 : decode b_M_add 137 = .ok (.getfield 42, 3) ∧ 137 + 3 = 140 := ⟨by decide +kernel, rfl⟩
theorem d_M_add_140 : decode b_M_add 140 = .ok (.iload_n 3, 1) ∧ 140 + 1 = 141 := ⟨by decide +kernel, rfl⟩
theorem d_M_add_141 : decode b_M_add 141 = .ok (.baload, 1) ∧ 141 + 1 = 142 := ⟨by decide +kernel, rfl⟩
theorem d_M_add_142 : decode b_M_add 142 = .ok (.ifCond .eq 12, 3) ∧ 142 + 3 = 145 ∧ ((142 : Nat) : Int) + 12 = ((154 : Nat) : Int) := ⟨by decide +kernel, rfl, by decide⟩
theorem d_M_add_145 : decode b_M_add 145 = .ok (.iload 4, 2) ∧ 145 + 2 = 147 := ⟨by decide +kernel, rfl⟩
theorem d_M_add_147 : decode b_M_add 147 = .ok (.ifCond .eq 7, 3) ∧ 147 + 3 = 150 ∧ ((147 : Nat) : Int) + 7 = ((154 : Nat) : Int) := ⟨by decide +kernel, rfl, by decide⟩
theorem d_M_add_150 : decode b_M_add 150 = .ok (.iconst 1, 1) ∧ 150 + 1 = 151 := ⟨by decide +kernel, rfl⟩
theorem d_M_add_151 : decode b_M_add 151 = .ok (.goto 4, 3) ∧ ((151 : Nat) : Int) + 4 = ((155 : Nat) : Int) := ⟨by decide +kernel, by decide⟩
theorem d_M_add_154 : decode b_M_add 154 = .ok (.iconst 0, 1) ∧ 154 + 1 = 155 := ⟨by decide +kernel, rfl⟩
theorem d_M_add_155 : decode b_M_add 155 = .ok (.bastore, 1) ∧ 155 + 1 = 156 := ⟨by decide +kernel, rfl⟩
theorem d_M_add_156 : decode b_M_add 156 = .ok (.sipush 481, 3) ∧ 156 + 3 = 159 := ⟨by decide +kernel, rfl⟩
theorem d_M_add_159 : decode b_M_add 159 = .ok (.iload_n 3, 1) ∧ 159 + 1 = 160 := ⟨by decide +kernel, rfl⟩
theorem d_M_add_160 : decode b_M_add 160 = .ok (.imul, 1) ∧ 160 + 1 = 161 := ⟨by decide +kernel, rfl⟩
theorem d_M_add_161 : decode b_M_add 161 = .ok (.istore 5, 2) ∧ 161 + 2 = 163 := ⟨by decide +kernel, rfl⟩
theorem d_M_add_163 : decode b_M_add 163 = .ok (.iload 5, 2) ∧ 163 + 2 = 165 := ⟨by decide +kernel, rfl⟩
theorem d_M_add_165 : decode b_M_add 165 = .ok (.sipush 481, 3) ∧ 165 + 3 = 168 := ⟨by decide +kernel, rfl⟩
theorem d_M_add_168 : decode b_M_add 168 = .ok (.iload_n 3, 1) ∧ 168 + 1 = 169 := ⟨by decide +kernel, rfl⟩
theorem d_M_add_169 : decode b_M_add 169 = .ok (.imul, 1) ∧ 169 + 1 = 170 := ⟨by decide +kernel, rfl⟩
theorem d_M_add_170 : decode b_M_add 170 = .ok (.sipush 481, 3) ∧ 170 + 3 = 173 := ⟨by decide +kernel, rfl⟩
theorem d_M_add_173 : decode b_M_add 173 = .ok (.iadd, 1) ∧ 173 + 1 = 174 := ⟨by decide +kernel, rfl⟩
theorem d_M_add_174 : decode b_M_add 174 = .ok (.if_icmp .ge 50, 3) ∧ 174 + 3 = 177 ∧ ((174 : Nat) : Int) + 50 = ((224 : Nat) : Int) := ⟨by decide +kernel, rfl, by decide⟩
theorem d_M_add_177 : decode b_M_add 177 = .ok (.aload_n 0, 1) ∧ 177 + 1 = 178 := ⟨by decide +kernel, rfl⟩
theorem d_M_add_178 : decode b_M_add 178 = .ok (.getfield 42, 3) ∧ 178 + 3 = 181 := ⟨by decide +kernel, rfl⟩
theorem d_M_add_181 : decode b_M_add 181 = .ok (.iload_n 3, 1) ∧ 181 + 1 = 182 := ⟨by decide +kernel, rfl⟩
theorem d_M_add_182 : decode b_M_add 182 = .ok (.baload, 1) ∧ 182 + 1 = 183 := ⟨by decide +kernel, rfl⟩
theorem d_M_add_183 : decode b_M_add 183 = .ok (.ifCond .eq 41, 3) ∧ 183 + 3 = 186 ∧ ((183 : Nat) : Int) + 41 = ((224 : Nat) : Int) := ⟨by decide +kernel, rfl, by decide⟩
theorem d_M_add_186 : decode b_M_add 186 = .ok (.aload_n 0, 1) ∧ 186 + 1 = 187 := ⟨by decide +kernel, rfl⟩
theorem d_M_add_187 : decode b_M_add 187 = .ok (.getfield 45, 3) ∧ 187 + 3 = 190 := ⟨by decide +kernel, rfl⟩
theorem d_M_add_190 : decode b_M_add 190 = .ok (.iload 5, 2) ∧ 190 + 2 = 192 := ⟨by decide +kernel, rfl⟩
theorem d_M_add_192 : decode b_M_add 192 = .ok (.dup2, 1) ∧ 192 + 1 = 193 := ⟨by decide +kernel, rfl⟩
theorem d_M_add_193 : decode b_M_add 193 = .ok (.iaload, 1) ∧ 193 + 1 = 194 := ⟨by decide +kernel, rfl⟩
theorem d_M_add_194 : decode b_M_add 194 = .ok (.iload_n 1, 1) ∧ 194 + 1 = 195 := ⟨by decide +kernel, rfl⟩
theorem d_M_add_195 : decode b_M_add 195 = .ok (.ifCond .eq 13, 3) ∧ 195 + 3 = 198 ∧ ((195 : Nat) : Int) + 13 = ((208 : Nat) : Int) := ⟨by decide +kernel, rfl, by decide⟩
theorem d_M_add_198 : decode b_M_add 198 = .ok (.aload_n 0, 1) ∧ 198 + 1 = 199 := ⟨by decide +kernel, rfl⟩
theorem d_M_add_199 : decode b_M_add 199 = .ok (.getfield 60, 3) ∧ 199 + 3 = 202 := ⟨by decide +kernel, rfl⟩
theorem d_M_add_202 : decode b_M_add 202 = .ok (.iload 5, 2) ∧ 202 + 2 = 204 := ⟨by decide +kernel, rfl⟩
theorem d_M_add_204 : decode b_M_add 204 = .ok (.iaload, 1) ∧ 204 + 1 = 205 := ⟨by decide +kernel, rfl⟩
theorem d_M_add_205 : decode b_M_add 205 = .ok (.goto 11, 3) ∧ ((205 : Nat) : Int) + 11 = ((216 : Nat) : Int) := ⟨by decide +kernel, by decide⟩
theorem d_M_add_208 : decode b_M_add 208 = .ok (.aload_n 0, 1) ∧ 208 + 1 = 209 := ⟨by decide +kernel, rfl⟩
theorem d_M_add_209 : decode b_M_add 209 = .ok (.getfield 60, 3) ∧ 209 + 3 = 212 := ⟨by decide +kernel, rfl⟩
theorem d_M_add_212 : decode b_M_add 212 = .ok (.iload 5, 2) ∧ 212 + 2 = 214 := ⟨by decide +kernel, rfl⟩
theorem d_M_add_214 : decode b_M_add 214 = .ok (.iaload, 1) ∧ 214 + 1 = 215 := ⟨by decide +kernel, rfl⟩
theorem d_M_add_215 : decode b_M_add 215 = .ok (.ineg, 1) ∧ 215 + 1 = 216 := ⟨by decide +kernel, rfl⟩
theorem d_M_add_216 : decode b_M_add 216 = .ok (.iadd, 1) ∧ 216 + 1 = 217 := ⟨by decide +kernel, rfl⟩
theorem d_M_add_217 : decode b_M_add 217 = .ok (.iastore, 1) ∧ 217 + 1 = 218 := ⟨by decide +kernel, rfl⟩
theorem d_M_add_218 : decode b_M_add 218 = .ok (.iinc 5 1, 3) ∧ 218 + 3 = 221 := ⟨by decide +kernel, rfl⟩
theorem d_M_add_221 : decode b_M_add 221 = .ok (.goto (-58), 3) ∧ ((221 : Nat) : Int) + (-58) = ((163 : Nat) : Int) := ⟨by decide +kernel, by decide⟩
theorem d_M_add_224 : decode b_M_add 224 = .ok (.iload_n 2, 1) ∧ 224 + 1 = 225 := ⟨by decide +kernel, rfl⟩
theorem d_M_add_225 : decode b_M_add 225 = .ok (.aload_n 0, 1) ∧ 225 + 1 = 226 := ⟨by decide +kernel, rfl⟩
theorem d_M_add_226 : decode b_M_add 226 = .ok (.getfield 42, 3) ∧ 226 + 3 = 229 := ⟨by decide +kernel, rfl⟩
theorem d_M_add_229 : decode b_M_add 229 = .ok (.iload_n 3, 1) ∧ 229 + 1 = 230 := ⟨by decide +kernel, rfl⟩
theorem d_M_add_230 : decode b_M_add 230 = .ok (.baload, 1) ∧ 230 + 1 = 231 := ⟨by decide +kernel, rfl⟩
theorem d_M_add_231 : decode b_M_add 231 = .ok (.ifCond .eq 7, 3) ∧ 231 + 3 = 234 ∧ ((231 : Nat) : Int) + 7 = ((238 : Nat) : Int) := ⟨by decide +kernel, rfl, by decide⟩
theorem d_M_add_234 : decode b_M_add 234 = .ok (.iconst 1, 1) ∧ 234 + 1 = 235 := ⟨by decide +kernel, rfl⟩
theorem d_M_add_235 : decode b_M_add 235 = .ok (.goto 4, 3) ∧ ((235 : Nat) : Int) + 4 = ((239 : Nat) : Int) := ⟨by decide +kernel, by decide⟩
theorem d_M_add_238 : decode b_M_add 238 = .ok (.iconst 0, 1) ∧ 238 + 1 = 239 := ⟨by decide +kernel, rfl⟩
theorem d_M_add_239 : decode b_M_add 239 = .ok (.iadd, 1) ∧ 239 + 1 = 240 := ⟨by decide +kernel, rfl⟩
theorem d_M_add_240 : decode b_M_add 240 = .ok (.istore_n 2, 1) ∧ 240 + 1 = 241 := ⟨by decide +kernel, rfl⟩
theorem d_M_add_241 : decode b_M_add 241 = .ok (.iinc 3 1, 3) ∧ 241 + 3 = 244 := ⟨by decide +kernel, rfl⟩
theorem d_M_add_244 : decode b_M_add 244 = .ok (.goto (-174), 3) ∧ ((244 : Nat) : Int) + (-174) = ((70 : Nat) : Int) := ⟨by decide +kernel, by decide⟩
theorem d_M_add_247 : decode b_M_add 247 = .ok (.iload_n 2, 1) ∧ 247 + 1 = 248 := ⟨by decide +kernel, rfl⟩
theorem d_M_add_248 : decode b_M_add 248 = .ok (.ireturn, 1) := by decide +kernel
theorem d_M_areEnough_0 : decode b_M_areEnough 0 = .ok (.iconst 0, 1) ∧ 0 + 1 = 1 := ⟨by decide +kernel, rfl⟩
theorem d_M_areEnough_1 : decode b_M_areEnough 1 = .ok (.istore_n 2, 1) ∧ 1 + 1 = 2 := ⟨by decide +kernel, rfl⟩
theorem d_M_areEnough_2 : decode b_M_areEnough 2 = .ok (.iconst 0, 1) ∧ 2 + 1 = 3 := ⟨by decide +kernel, rfl⟩
theorem d_M_areEnough_3 : decode b_M_areEnough 3 = .ok (.istore_n 3, 1) ∧ 3 + 1 = 4 := ⟨by decide +kernel, rfl⟩
theorem d_M_areEnough_4 : decode b_M_areEnough 4 = .ok (.iconst 0, 1) ∧ 4 + 1 = 5 := ⟨by decide +kernel, rfl⟩
theorem d_M_areEnough_5 : decode b_M_areEnough 5 = .ok (.istore 4, 2) ∧ 5 + 2 = 7 := ⟨by decide +kernel, rfl⟩
theorem d_M_areEnough_7 : decode b_M_areEnough 7 = .ok (.iload 4, 2) ∧ 7 + 2 = 9 := ⟨by decide +kernel, rfl⟩
theorem d_M_areEnough_9 : decode b_M_areEnough 9 = .ok (.bipush 8, 2) ∧ 9 + 2 = 11 := ⟨by decide +kernel, rfl⟩
theorem d_M_areEnough_11 : decode b_M_areEnough 11 = .ok (.if_icmp .ge 45, 3) ∧ 11 + 3 = 14 ∧ ((11 : Nat) : Int) + 45 = ((56 : Nat) : Int) := ⟨by decide +kernel, rfl, by decide⟩
theorem d_M_areEnough_14 : decode b_M_areEnough 14 = .ok (.aload_n 0, 1) ∧ 14 + 1 = 15 := ⟨by decide +kernel, rfl⟩
theorem d_M_areEnough_15 : decode b_M_areEnough 15 = .ok (.iload_n 1, 1) ∧ 15 + 1 = 16 := ⟨by decide +kernel, rfl⟩
theorem d_M_areEnough_16 : decode b_M_areEnough 16 = .ok (.iload 4, 2) ∧ 16 + 2 = 18 := ⟨by decide +kernel, rfl⟩
theorem d_M_areEnough_18 : decode b_M_areEnough 18 = .ok (.invokevirtual 134, 3) ∧ 18 + 3 = 21 := ⟨by decide +kernel, rfl⟩
theorem d_M_areEnough_21 : decode b_M_areEnough 21 = .ok (.ifCond .ne 6, 3) ∧ 21 + 3 = 24 ∧ ((21 : Nat) : Int) + 6 = ((27 : Nat) : Int) := ⟨by decide +kernel, rfl, by decide⟩
theorem d_M_areEnough_24 : decode b_M_areEnough 24 = .ok (.goto 26, 3) ∧ ((24 : Nat) : Int) + 26 = ((50 : Nat) : Int) := ⟨by decide +kernel, by decide⟩
theorem d_M_areEnough_27 : decode b_M_areEnough 27 = .ok (.iload_n 2, 1) ∧ 27 + 1 = 28 := ⟨by decide +kernel, rfl⟩
theorem d_M_areEnough_28 : decode b_M_areEnough 28 = .ok (.aload_n 0, 1) ∧ 28 + 1 = 29 := ⟨by decide +kernel, rfl⟩
theorem d_M_areEnough_29 : decode b_M_areEnough 29 = .ok (.getfield 36, 3) ∧ 29 + 3 = 32 := ⟨by decide +kernel, rfl⟩
theorem d_M_areEnough_32 : decode b_M_areEnough 32 = .ok (.iload 4, 2) ∧ 32 + 2 = 34 := ⟨by decide +kernel, rfl⟩
theorem d_M_areEnough_34 : decode b_M_areEnough 34 = .ok (.iaload, 1) ∧ 34 + 1 = 35 := ⟨by decide +kernel, rfl⟩
theorem d_M_areEnough_35 : decode b_M_areEnough 35 = .ok (.invokestatic 110, 3) ∧ 35 + 3 = 38 := ⟨by decide +kernel, rfl⟩
theorem d_M_areEnough_38 : decode b_M_areEnough 38 = .ok (.iadd, 1) ∧ 38 + 1 = 39 := ⟨by decide +kernel, rfl⟩
theorem d_M_areEnough_39 : decode b_M_areEnough 39 = .ok (.istore_n 2, 1) ∧ 39 + 1 = 40 := ⟨by decide +kernel, rfl⟩
theorem d_M_areEnough_40 : decode b_M_areEnough 40 = .ok (.iload_n 3, 1) ∧ 40 + 1 = 41 := ⟨by decide +kernel, rfl⟩
theorem d_M_areEnough_41 : decode b_M_areEnough 41 = .ok (.aload_n 0, 1) ∧ 41 + 1 = 42 := ⟨by decide +kernel, rfl⟩
theorem d_M_areEnough_42 : decode b_M_areEnough 42 = .ok (.getfield 39, 3) ∧ 42 + 3 = 45 := ⟨by decide +kernel, rfl⟩
theorem d_M_areEnough_45 : decode b_M_areEnough 45 = .ok (.iload 4, 2) ∧ 45 + 2 = 47 := ⟨by decide +kernel, rfl⟩
theorem d_M_areEnough_47 : decode b_M_areEnough 47 = .ok (.iaload, 1) ∧ 47 + 1 = 48 := ⟨by decide +kernel, rfl⟩
theorem d_M_areEnough_48 : decode b_M_areEnough 48 = .ok (.iadd, 1) ∧ 48 + 1 = 49 := ⟨by decide +kernel, rfl⟩
theorem d_M_areEnough_49 : decode b_M_areEnough 49 = .ok (.istore_n 3, 1) ∧ 49 + 1 = 50 := ⟨by decide +kernel, rfl⟩
theorem d_M_areEnough_50 : decode b_M_areEnough 50 = .ok (.iinc 4 1, 3) ∧ 50 + 3 = 53 := ⟨by decide +kernel, rfl⟩
theorem d_M_areEnough_53 : decode b_M_areEnough 53 = .ok (.goto (-46), 3) ∧ ((53 : Nat) : Int) + (-46) = ((7 : Nat) : Int) := ⟨by decide +kernel, by decide⟩
theorem d_M_areEnough_56 : decode b_M_areEnough 56 = .ok (.iload_n 2, 1) ∧ 56 + 1 = 57 := ⟨by decide +kernel, rfl⟩
theorem d_M_areEnough_57 : decode b_M_areEnough 57 = .ok (.aload_n 0, 1) ∧ 57 + 1 = 58 := ⟨by decide +kernel, rfl⟩
theorem d_M_areEnough_58 : decode b_M_areEnough 58 = .ok (.getfield 7, 3) ∧ 58 + 3 = 61 := ⟨by decide +kernel, rfl⟩
theorem d_M_areEnough_61 : decode b_M_areEnough 61 = .ok (.if_icmp .ge 11, 3) ∧ 61 + 3 = 64 ∧ ((61 : Nat) : Int) + 11 = ((72 : Nat) : Int) := ⟨by decide +kernel, rfl, by decide⟩
theorem d_M_areEnough_64 : decode b_M_areEnough 64 = .ok (.iload_n 3, 1) ∧ 64 + 1 = 65 := ⟨by decide +kernel, rfl⟩
theorem d_M_areEnough_65 : decode b_M_areEnough 65 = .ok (.aload_n 0, 1) ∧ 65 + 1 = 66 := ⟨by decide +kernel, rfl⟩
theorem d_M_areEnough_66 : decode b_M_areEnough 66 = .ok (.getfield 13, 3) ∧ 66 + 3 = 69 := ⟨by decide +kernel, rfl⟩
theorem d_M_areEnough_69 : decode b_M_areEnough 69 = .ok (.if_icmp .lt 7, 3) ∧ 69 + 3 = 72 ∧ ((69 : Nat) : Int) + 7 = ((76 : Nat) : Int) := ⟨by decide +kernel, rfl, by decide⟩
theorem d_M_areEnough_72 : decode b_M_areEnough 72 = .ok (.iconst 1, 1) ∧ 72 + 1 = 73 := ⟨by decide +kernel, rfl⟩
theorem d_M_areEnough_73 : decode b_M_areEnough 73 = .ok (.goto 4, 3) ∧ ((73 : Nat) : Int) + 4 = ((77 : Nat) : Int) := ⟨by decide +kernel, by decide⟩
theorem d_M_areEnough_76 : decode b_M_areEnough 76 = .ok (.iconst 0, 1) ∧ 76 + 1 = 77 := ⟨by decide +kernel, rfl⟩
theorem d_M_areEnough_77 : decode b_M_areEnough 77 = .ok (.ireturn, 1) := by decide +kernel
theorem d_M_areOfOne_0 : decode b_M_areOfOne 0 = .ok (.aload_n 0, 1) ∧ 0 + 1 = 1 := ⟨by decide +kernel, rfl⟩
theorem d_M_areOfOne_1 : decode b_M_areOfOne 1 = .ok (.iload_n 1, 1) ∧ 1 + 1 = 2 := ⟨by decide +kernel, rfl⟩
theorem d_M_areOfOne_2 : decode b_M_areOfOne 2 = .ok (.invokevirtual 164, 3) ∧ 2 + 3 = 5 := ⟨by decide +kernel, rfl⟩
theorem d_M_areOfOne_5 : decode b_M_areOfOne 5 = .ok (.ifCond .eq 17, 3) ∧ 5 + 3 = 8 ∧ ((5 : Nat) : Int) + 17 = ((22 : Nat) : Int) := ⟨by decide +kernel, rfl, by decide⟩
theorem d_M_areOfOne_8 : decode b_M_areOfOne 8 = .ok (.aload_n 0, 1) ∧ 8 + 1 = 9 := ⟨by decide +kernel, rfl⟩
theorem d_M_areOfOne_9 : decode b_M_areOfOne 9 = .ok (.iload_n 1, 1) ∧ 9 + 1 = 10 := ⟨by decide +kernel, rfl⟩
theorem d_M_areOfOne_10 : decode b_M_areOfOne 10 = .ok (.invokevirtual 170, 3) ∧ 10 + 3 = 13 := ⟨by decide +kernel, rfl⟩
theorem d_M_areOfOne_13 : decode b_M_areOfOne 13 = .ok (.bipush 99, 2) ∧ 13 + 2 = 15 := ⟨by decide +kernel, rfl⟩
theorem d_M_areOfOne_15 : decode b_M_areOfOne 15 = .ok (.if_icmp .ne 7, 3) ∧ 15 + 3 = 18 ∧ ((15 : Nat) : Int) + 7 = ((22 : Nat) : Int) := ⟨by decide +kernel, rfl, by decide⟩
theorem d_M_areOfOne_18 : decode b_M_areOfOne 18 = .ok (.iconst 1, 1) ∧ 18 + 1 = 19 := ⟨by decide +kernel, rfl⟩
theorem d_M_areOfOne_19 : decode b_M_areOfOne 19 = .ok (.goto 4, 3) ∧ ((19 : Nat) : Int) + 4 = ((23 : Nat) : Int) := ⟨by decide +kernel, by decide⟩
theorem d_M_areOfOne_22 : decode b_M_areOfOne 22 = .ok (.iconst 0, 1) ∧ 22 + 1 = 23 := ⟨by decide +kernel, rfl⟩
theorem d_M_areOfOne_23 : decode b_M_areOfOne 23 = .ok (.ireturn, 1) := by decide +kernel
theorem d_M_audit_0 : decode b_M_audit 0 = .ok (.aload_n 0, 1) ∧ 0 + 1 = 1 := ⟨by decide +kernel, rfl⟩
theorem d_M_audit_1 : decode b_M_audit 1 = .ok (.iconst 0, 1) ∧ 1 + 1 = 2 := ⟨by decide +kernel, rfl⟩
theorem d_M_audit_2 : decode b_M_audit 2 = .ok (.putfield 81, 3) ∧ 2 + 3 = 5 := ⟨by decide +kernel, rfl⟩
theorem d_M_audit_5 : decode b_M_audit 5 = .ok (.aload_n 0, 1) ∧ 5 + 1 = 6 := ⟨by decide +kernel, rfl⟩
theorem d_M_audit_6 : decode b_M_audit 6 = .ok (.invokevirtual 173, 3) ∧ 6 + 3 = 9 := ⟨by decide +kernel, rfl⟩
theorem d_M_audit_9 : decode b_M_audit 9 = .ok (.istore_n 1, 1) ∧ 9 + 1 = 10 := ⟨by decide +kernel, rfl⟩
theorem d_M_audit_10 : decode b_M_audit 10 = .ok (.aload_n 0, 1) ∧ 10 + 1 = 11 := ⟨by decide +kernel, rfl⟩
theorem d_M_audit_11 : decode b_M_audit 11 = .ok (.iload_n 1, 1) ∧ 11 + 1 = 12 := ⟨by decide +kernel, rfl⟩
theorem d_M_audit_12 : decode b_M_audit 12 = .ok (.invokevirtual 177, 3) ∧ 12 + 3 = 15 := ⟨by decide +kernel, rfl⟩
theorem d_M_audit_15 : decode b_M_audit 15 = .ok (.ifCond .eq 5, 3) ∧ 15 + 3 = 18 ∧ ((15 : Nat) : Int) + 5 = ((20 : Nat) : Int) := ⟨by decide +kernel, rfl, by decide⟩
theorem d_M_audit_18 : decode b_M_audit 18 = .ok (.iconst (-1), 1) ∧ 18 + 1 = 19 := ⟨by decide +kernel, rfl⟩
theorem d_M_audit_19 : decode b_M_audit 19 = .ok (.ireturn, 1) := by decide +kernel
theorem d_M_audit_20 : decode b_M_audit 20 = .ok (.iconst 0, 1) ∧ 20 + 1 = 21 := ⟨by decide +kernel, rfl⟩
theorem d_M_audit_21 : decode b_M_audit 21 = .ok (.istore_n 2, 1) ∧ 21 + 1 = 22 := ⟨by decide +kernel, rfl⟩
theorem d_M_audit_22 : decode b_M_audit 22 = .ok (.iload_n 2, 1) ∧ 22 + 1 = 23 := ⟨by decide +kernel, rfl⟩
theorem d_M_audit_23 : decode b_M_audit 23 = .ok (.bipush 8, 2) ∧ 23 + 2 = 25 := ⟨by decide +kernel, rfl⟩
theorem d_M_audit_25 : decode b_M_audit 25 = .ok (.if_icmp .ge 32, 3) ∧ 25 + 3 = 28 ∧ ((25 : Nat) : Int) + 32 = ((57 : Nat) : Int) := ⟨by decide +kernel, rfl, by decide⟩
theorem d_M_audit_28 : decode b_M_audit 28 = .ok (.aload_n 0, 1) ∧ 28 + 1 = 29 := ⟨by decide +kernel, rfl⟩
theorem d_M_audit_29 : decode b_M_audit 29 = .ok (.getfield 42, 3) ∧ 29 + 3 = 32 := ⟨by decide +kernel, rfl⟩
theorem d_M_audit_32 : decode b_M_audit 32 = .ok (.iload_n 2, 1) ∧ 32 + 1 = 33 := ⟨by decide +kernel, rfl⟩
theorem d_M_audit_33 : decode b_M_audit 33 = .ok (.baload, 1) ∧ 33 + 1 = 34 := ⟨by decide +kernel, rfl⟩
theorem d_M_audit_34 : decode b_M_audit 34 = .ok (.ifCond .eq 17, 3) ∧ 34 + 3 = 37 ∧ ((34 : Nat) : Int) + 17 = ((51 : Nat) : Int) := ⟨by decide +kernel, rfl, by decide⟩
theorem d_M_audit_37 : decode b_M_audit 37 = .ok (.aload_n 0, 1) ∧ 37 + 1 = 38 := ⟨by decide +kernel, rfl⟩
theorem d_M_audit_38 : decode b_M_audit 38 = .ok (.iload_n 1, 1) ∧ 38 + 1 = 39 := ⟨by decide +kernel, rfl⟩
theorem d_M_audit_39 : decode b_M_audit 39 = .ok (.iconst 1, 1) ∧ 39 + 1 = 40 := ⟨by decide +kernel, rfl⟩
theorem d_M_audit_40 : decode b_M_audit 40 = .ok (.iload_n 2, 1) ∧ 40 + 1 = 41 := ⟨by decide +kernel, rfl⟩
theorem d_M_audit_41 : decode b_M_audit 41 = .ok (.ishl, 1) ∧ 41 + 1 = 42 := ⟨by decide +kernel, rfl⟩
theorem d_M_audit_42 : decode b_M_audit 42 = .ok (.isub, 1) ∧ 42 + 1 = 43 := ⟨by decide +kernel, rfl⟩
theorem d_M_audit_43 : decode b_M_audit 43 = .ok (.invokevirtual 177, 3) ∧ 43 + 3 = 46 := ⟨by decide +kernel, rfl⟩
theorem d_M_audit_46 : decode b_M_audit 46 = .ok (.ifCond .eq 5, 3) ∧ 46 + 3 = 49 ∧ ((46 : Nat) : Int) + 5 = ((51 : Nat) : Int) := ⟨by decide +kernel, rfl, by decide⟩
theorem d_M_audit_49 : decode b_M_audit 49 = .ok (.iload_n 2, 1) ∧ 49 + 1 = 50 := ⟨by decide +kernel, rfl⟩
theorem d_M_audit_50 : decode b_M_audit 50 = .ok (.ireturn, 1) := by decide +kernel
theorem d_M_audit_51 : decode b_M_audit 51 = .ok (.iinc 2 1, 3) ∧ 51 + 3 = 54 := ⟨by decide +kernel, rfl⟩
theorem d_M_audit_54 : decode b_M_audit 54 = .ok (.goto (-32), 3) ∧ ((54 : Nat) : Int) + (-32) = ((22 : Nat) : Int) := ⟨by decide +kernel, by decide⟩
theorem d_M_audit_57 : decode b_M_audit 57 = .ok (.bipush 99, 2) ∧ 57 + 2 = 59 := ⟨by decide +kernel, rfl⟩
theorem d_M_audit_59 : decode b_M_audit 59 = .ok (.ireturn, 1) := by decide +kernel
theorem d_M_beginTry_0 : decode b_M_beginTry 0 = .ok (.aload_n 0, 1) ∧ 0 + 1 = 1 := ⟨by decide +kernel, rfl⟩
theorem d_M_beginTry_1 : decode b_M_beginTry 1 = .ok (.iconst 0, 1) ∧ 1 + 1 = 2 := ⟨by decide +kernel, rfl⟩
theorem d_M_beginTry_2 : decode b_M_beginTry 2 = .ok (.putfield 143, 3) ∧ 2 + 3 = 5 := ⟨by decide +kernel, rfl⟩
theorem d_M_beginTry_5 : decode b_M_beginTry 5 = .ok (.iconst 0, 1) ∧ 5 + 1 = 6 := ⟨by decide +kernel, rfl⟩
theorem d_M_beginTry_6 : decode b_M_beginTry 6 = .ok (.istore_n 2, 1) ∧ 6 + 1 = 7 := ⟨by decide +kernel, rfl⟩
theorem d_M_beginTry_7 : decode b_M_beginTry 7 = .ok (.iload_n 2, 1) ∧ 7 + 1 = 8 := ⟨by decide +kernel, rfl⟩
theorem d_M_beginTry_8 : decode b_M_beginTry 8 = .ok (.sipush 256, 3) ∧ 8 + 3 = 11 := ⟨by decide +kernel, rfl⟩
theorem d_M_beginTry_11 : decode b_M_beginTry 11 = .ok (.if_icmp .ge 16, 3) ∧ 11 + 3 = 14 ∧ ((11 : Nat) : Int) + 16 = ((27 : Nat) : Int) := ⟨by decide +kernel, rfl, by decide⟩
theorem d_M_beginTry_14 : decode b_M_beginTry 14 = .ok (.aload_n 0, 1) ∧ 14 + 1 = 15 := ⟨by decide +kernel, rfl⟩
theorem d_M_beginTry_15 : decode b_M_beginTry 15 = .ok (.getfield 29, 3) ∧ 15 + 3 = 18 := ⟨by decide +kernel, rfl⟩
theorem d_M_beginTry_18 : decode b_M_beginTry 18 = .ok (.iload_n 2, 1) ∧ 18 + 1 = 19 := ⟨by decide +kernel, rfl⟩
theorem d_M_beginTry_19 : decode b_M_beginTry 19 = .ok (.iconst 0, 1) ∧ 19 + 1 = 20 := ⟨by decide +kernel, rfl⟩
theorem d_M_beginTry_20 : decode b_M_beginTry 20 = .ok (.bastore, 1) ∧ 20 + 1 = 21 := ⟨by decide +kernel, rfl⟩
theorem d_M_beginTry_21 : decode b_M_beginTry 21 = .ok (.iinc 2 1, 3) ∧ 21 + 3 = 24 := ⟨by decide +kernel, rfl⟩
theorem d_M_beginTry_24 : decode b_M_beginTry 24 = .ok (.goto (-17), 3) ∧ ((24 : Nat) : Int) + (-17) = ((7 : Nat) : Int) := ⟨by decide +kernel, by decide⟩
theorem d_M_beginTry_27 : decode b_M_beginTry 27 = .ok (.iconst 0, 1) ∧ 27 + 1 = 28 := ⟨by decide +kernel, rfl⟩
theorem d_M_beginTry_28 : decode b_M_beginTry 28 = .ok (.istore_n 2, 1) ∧ 28 + 1 = 29 := ⟨by decide +kernel, rfl⟩
theorem d_M_beginTry_29 : decode b_M_beginTry 29 = .ok (.iload_n 2, 1) ∧ 29 + 1 = 30 := ⟨by decide +kernel, rfl⟩
theorem d_M_beginTry_30 : decode b_M_beginTry 30 = .ok (.bipush 8, 2) ∧ 30 + 2 = 32 := ⟨by decide +kernel, rfl⟩
theorem d_M_beginTry_32 : decode b_M_beginTry 32 = .ok (.if_icmp .ge 130, 3) ∧ 32 + 3 = 35 ∧ ((32 : Nat) : Int) + 130 = ((162 : Nat) : Int) := ⟨by decide +kernel, rfl, by decide⟩
theorem d_M_beginTry_35 : decode b_M_beginTry 35 = .ok (.aload_n 0, 1) ∧ 35 + 1 = 36 := ⟨by decide +kernel, rfl⟩
theorem d_M_beginTry_36 : decode b_M_beginTry 36 = .ok (.iload_n 1, 1) ∧ 36 + 1 = 37 := ⟨by decide +kernel, rfl⟩
theorem d_M_beginTry_37 : decode b_M_beginTry 37 = .ok (.iload_n 2, 1) ∧ 37 + 1 = 38 := ⟨by decide +kernel, rfl⟩
theorem d_M_beginTry_38 : decode b_M_beginTry 38 = .ok (.invokevirtual 134, 3) ∧ 38 + 3 = 41 := ⟨by decide +kernel, rfl⟩
theorem d_M_beginTry_41 : decode b_M_beginTry 41 = .ok (.ifCond .ne 6, 3) ∧ 41 + 3 = 44 ∧ ((41 : Nat) : Int) + 6 = ((47 : Nat) : Int) := ⟨by decide +kernel, rfl, by decide⟩
theorem d_M_beginTry_44 : decode b_M_beginTry 44 = .ok (.goto 112, 3) ∧ ((44 : Nat) : Int) + 112 = ((156 : Nat) : Int) := ⟨by decide +kernel, by decide⟩
theorem d_M_beginTry_47 : decode b_M_beginTry 47 = .ok (.iconst 0, 1) ∧ 47 + 1 = 48 := ⟨by decide +kernel, rfl⟩
theorem d_M_beginTry_48 : decode b_M_beginTry 48 = .ok (.istore_n 3, 1) ∧ 48 + 1 = 49 := ⟨by decide +kernel, rfl⟩
theorem d_M_beginTry_49 : decode b_M_beginTry 49 = .ok (.iload_n 3, 1) ∧ 49 + 1 = 50 := ⟨by decide +kernel, rfl⟩
theorem d_M_beginTry_50 : decode b_M_beginTry 50 = .ok (.sipush 481, 3) ∧ 50 + 3 = 53 := ⟨by decide +kernel, rfl⟩
theorem d_M_beginTry_53 : decode b_M_beginTry 53 = .ok (.if_icmp .ge 46, 3) ∧ 53 + 3 = 56 ∧ ((53 : Nat) : Int) + 46 = ((99 : Nat) : Int) := ⟨by decide +kernel, rfl, by decide⟩
theorem d_M_beginTry_56 : decode b_M_beginTry 56 = .ok (.aload_n 0, 1) ∧ 56 + 1 = 57 := ⟨by decide +kernel, rfl⟩
theorem d_M_beginTry_57 : decode b_M_beginTry 57 = .ok (.getfield 63, 3) ∧ 57 + 3 = 60 := ⟨by decide +kernel, rfl⟩
theorem d_M_beginTry_60 : decode b_M_beginTry 60 = .ok (.sipush 481, 3) ∧ 60 + 3 = 63 := ⟨by decide +kernel, rfl⟩
theorem d_M_beginTry_63 : decode b_M_beginTry 63 = .ok (.iload_n 2, 1) ∧ 63 + 1 = 64 := ⟨by decide +kernel, rfl⟩
theorem d_M_beginTry_64 : decode b_M_beginTry 64 = .ok (.imul, 1) ∧ 64 + 1 = 65 := ⟨by decide +kernel, rfl⟩
theorem d_M_beginTry_65 : decode b_M_beginTry 65 = .ok (.iload_n 3, 1) ∧ 65 + 1 = 66 := ⟨by decide +kernel, rfl⟩
theorem d_M_beginTry_66 : decode b_M_beginTry 66 = .ok (.iadd, 1) ∧ 66 + 1 = 67 := ⟨by decide +kernel, rfl⟩
theorem d_M_beginTry_67 : decode b_M_beginTry 67 = .ok (.iconst 0, 1) ∧ 67 + 1 = 68 := ⟨by decide +kernel, rfl⟩
theorem d_M_beginTry_68 : decode b_M_beginTry 68 = .ok (.iastore, 1) ∧ 68 + 1 = 69 := ⟨by decide +kernel, rfl⟩
theorem d_M_beginTry_69 : decode b_M_beginTry 69 = .ok (.aload_n 0, 1) ∧ 69 + 1 = 70 := ⟨by decide +kernel, rfl⟩
theorem d_M_beginTry_70 : decode b_M_beginTry 70 = .ok (.getfield 66, 3) ∧ 70 + 3 = 73 := ⟨by decide +kernel, rfl⟩
theorem d_M_beginTry_73 : decode b_M_beginTry 73 = .ok (.sipush 481, 3) ∧ 73 + 3 = 76 := ⟨by decide +kernel, rfl⟩
theorem d_M_beginTry_76 : decode b_M_beginTry 76 = .ok (.iload_n 2, 1) ∧ 76 + 1 = 77 := ⟨by decide +kernel, rfl⟩
theorem d_M_beginTry_77 : decode b_M_beginTry 77 = .ok (.imul, 1) ∧ 77 + 1 = 78 := ⟨by decide +kernel, rfl⟩
theorem d_M_beginTry_78 : decode b_M_beginTry 78 = .ok (.iload_n 3, 1) ∧ 78 + 1 = 79 := ⟨by decide +kernel, rfl⟩
theorem d_M_beginTry_79 : decode b_M_beginTry 79 = .ok (.iadd, 1) ∧ 79 + 1 = 80 := ⟨by decide +kernel, rfl⟩
theorem d_M_beginTry_80 : decode b_M_beginTry 80 = .ok (.aload_n 0, 1) ∧ 80 + 1 = 81 := ⟨by decide +kernel, rfl⟩
theorem d_M_beginTry_81 : decode b_M_beginTry 81 = .ok (.getfield 45, 3) ∧ 81 + 3 = 84 := ⟨by decide +kernel, rfl⟩
theorem d_M_beginTry_84 : decode b_M_beginTry 84 = .ok (.sipush 481, 3) ∧ 84 + 3 = 87 := ⟨by decide +kernel, rfl⟩
theorem d_M_beginTry_87 : decode b_M_beginTry 87 = .ok (.iload_n 2, 1) ∧ 87 + 1 = 88 := ⟨by decide +kernel, rfl⟩
theorem d_M_beginTry_88 : decode b_M_beginTry 88 = .ok (.imul, 1) ∧ 88 + 1 = 89 := ⟨by decide +kernel, rfl⟩
theorem d_M_beginTry_89 : decode b_M_beginTry 89 = .ok (.iload_n 3, 1) ∧ 89 + 1 = 90 := ⟨by decide +kernel, rfl⟩
theorem d_M_beginTry_90 : decode b_M_beginTry 90 = .ok (.iadd, 1) ∧ 90 + 1 = 91 := ⟨by decide +kernel, rfl⟩
theorem d_M_beginTry_91 : decode b_M_beginTry 91 = .ok (.iaload, 1) ∧ 91 + 1 = 92 := ⟨by decide +kernel, rfl⟩
theorem d_M_beginTry_92 : decode b_M_beginTry 92 = .ok (.iastore, 1) ∧ 92 + 1 = 93 := ⟨by decide +kernel, rfl⟩
theorem d_M_beginTry_93 : decode b_M_beginTry 93 = .ok (.iinc 3 1, 3) ∧ 93 + 3 = 96 := ⟨by decide +kernel, rfl⟩
theorem d_M_beginTry_96 : decode b_M_beginTry 96 = .ok (.goto (-47), 3) ∧ ((96 : Nat) : Int) + (-47) = ((49 : Nat) : Int) := ⟨by decide +kernel, by decide⟩
theorem d_M_beginTry_99 : decode b_M_beginTry 99 = .ok (.iconst 0, 1) ∧ 99 + 1 = 100 := ⟨by decide +kernel, rfl⟩
theorem d_M_beginTry_100 : decode b_M_beginTry 100 = .ok (.istore_n 3, 1) ∧ 100 + 1 = 101 := ⟨by decide +kernel, rfl⟩
theorem d_M_beginTry_101 : decode b_M_beginTry 101 = .ok (.iload_n 3, 1) ∧ 101 + 1 = 102 := ⟨by decide +kernel, rfl⟩
theorem d_M_beginTry_102 : decode b_M_beginTry 102 = .ok (.aload_n 0, 1) ∧ 102 + 1 = 103 := ⟨by decide +kernel, rfl⟩
theorem d_M_beginTry_103 : decode b_M_beginTry 103 = .ok (.getfield 13, 3) ∧ 103 + 3 = 106 := ⟨by decide +kernel, rfl⟩
theorem d_M_beginTry_106 : decode b_M_beginTry 106 = .ok (.if_icmp .ge 50, 3) ∧ 106 + 3 = 109 ∧ ((106 : Nat) : Int) + 50 = ((156 : Nat) : Int) := ⟨by decide +kernel, rfl, by decide⟩
theorem d_M_beginTry_109 : decode b_M_beginTry 109 = .ok (.iconst 0, 1) ∧ 109 + 1 = 110 := ⟨by decide +kernel, rfl⟩
theorem d_M_beginTry_110 : decode b_M_beginTry 110 = .ok (.istore 4, 2) ∧ 110 + 2 = 112 := ⟨by decide +kernel, rfl⟩
theorem d_M_beginTry_112 : decode b_M_beginTry 112 = .ok (.iload 4, 2) ∧ 112 + 2 = 114 := ⟨by decide +kernel, rfl⟩
theorem d_M_beginTry_114 : decode b_M_beginTry 114 = .ok (.aload_n 0, 1) ∧ 114 + 1 = 115 := ⟨by decide +kernel, rfl⟩
theorem d_M_beginTry_115 : decode b_M_beginTry 115 = .ok (.getfield 7, 3) ∧ 115 + 3 = 118 := ⟨by decide +kernel, rfl⟩
theorem d_M_beginTry_118 : decode b_M_beginTry 118 = .ok (.if_icmp .ge 32, 3) ∧ 118 + 3 = 121 ∧ ((118 : Nat) : Int) + 32 = ((150 : Nat) : Int) := ⟨by decide +kernel, rfl, by decide⟩
theorem d_M_beginTry_121 : decode b_M_beginTry 121 = .ok (.aload_n 0, 1) ∧ 121 + 1 = 122 := ⟨by decide +kernel, rfl⟩
theorem d_M_beginTry_122 : decode b_M_beginTry 122 = .ok (.getfield 63, 3) ∧ 122 + 3 = 125 := ⟨by decide +kernel, rfl⟩
theorem d_M_beginTry_125 : decode b_M_beginTry 125 = .ok (.sipush 481, 3) ∧ 125 + 3 = 128 := ⟨by decide +kernel, rfl⟩
theorem d_M_beginTry_128 : decode b_M_beginTry 128 = .ok (.iload_n 2, 1) ∧ 128 + 1 = 129 := ⟨by decide +kernel, rfl⟩
theorem d_M_beginTry_129 : decode b_M_beginTry 129 = .ok (.imul, 1) ∧ 129 + 1 = 130 := ⟨by decide +kernel, rfl⟩
theorem d_M_beginTry_130 : decode b_M_beginTry 130 = .ok (.aload_n 0, 1) ∧ 130 + 1 = 131 := ⟨by decide +kernel, rfl⟩
theorem d_M_beginTry_131 : decode b_M_beginTry 131 = .ok (.iload_n 2, 1) ∧ 131 + 1 = 132 := ⟨by decide +kernel, rfl⟩
theorem d_M_beginTry_132 : decode b_M_beginTry 132 = .ok (.iload 4, 2) ∧ 132 + 2 = 134 := ⟨by decide +kernel, rfl⟩
theorem d_M_beginTry_134 : decode b_M_beginTry 134 = .ok (.iload_n 3, 1) ∧ 134 + 1 = 135 := ⟨by decide +kernel, rfl⟩
theorem d_M_beginTry_135 : decode b_M_beginTry 135 = .ok (.invokevirtual 120, 3) ∧ 135 + 3 = 138 := ⟨by decide +kernel, rfl⟩
theorem d_M_beginTry_138 : decode b_M_beginTry 138 = .ok (.iadd, 1) ∧ 138 + 1 = 139 := ⟨by decide +kernel, rfl⟩
theorem d_M_beginTry_139 : decode b_M_beginTry 139 = .ok (.dup2, 1) ∧ 139 + 1 = 140 := ⟨by decide +kernel, rfl⟩
theorem d_M_beginTry_140 : decode b_M_beginTry 140 = .ok (.iaload, 1) ∧ 140 + 1 = 141 := ⟨by decide +kernel, rfl⟩
theorem d_M_beginTry_141 : decode b_M_beginTry 141 = .ok (.iconst 1, 1) ∧ 141 + 1 = 142 := ⟨by decide +kernel, rfl⟩
theorem d_M_beginTry_142 : decode b_M_beginTry 142 = .ok (.iadd, 1) ∧ 142 + 1 = 143 := ⟨by decide +kernel, rfl⟩
theorem d_M_beginTry_143 : decode b_M_beginTry 143 = .ok (.iastore, 1) ∧ 143 + 1 = 144 := ⟨by decide +kernel, rfl⟩
theorem d_M_beginTry_144 : decode b_M_beginTry 144 = .ok (.iinc 4 1, 3) ∧ 144 + 3 = 147 := ⟨by decide +kernel, rfl⟩
theorem d_M_beginTry_147 : decode b_M_beginTry 147 = .ok (.goto (-35), 3) ∧ ((147 : Nat) : Int) + (-35) = ((112 : Nat) : Int) := ⟨by decide +kernel, by decide⟩
theorem d_M_beginTry_150 : decode b_M_beginTry 150 = .ok (.iinc 3 1, 3) ∧ 150 + 3 = 153 := ⟨by decide +kernel, rfl⟩
theorem d_M_beginTry_153 : decode b_M_beginTry 153 = .ok (.goto (-52), 3) ∧ ((153 : Nat) : Int) + (-52) = ((101 : Nat) : Int) := ⟨by decide +kernel, by decide⟩
theorem d_M_beginTry_156 : decode b_M_beginTry 156 = .ok (.iinc 2 1, 3) ∧ 156 + 3 = 159 := ⟨by decide +kernel, rfl⟩
theorem d_M_beginTry_159 : decode b_M_beginTry 159 = .ok (.goto (-130), 3) ∧ ((159 : Nat) : Int) + (-130) = ((29 : Nat) : Int) := ⟨by decide +kernel, by decide⟩
theorem d_M_beginTry_162 : decode b_M_beginTry 162 = .ok (.return_, 1) := by decide +kernel
theorem d_M_bin_0 : decode b_M_bin 0 = .ok (.aload_n 0, 1) ∧ 0 + 1 = 1 := ⟨by decide +kernel, rfl⟩
theorem d_M_bin_1 : decode b_M_bin 1 = .ok (.iload_n 1, 1) ∧ 1 + 1 = 2 := ⟨by decide +kernel, rfl⟩
theorem d_M_bin_2 : decode b_M_bin 2 = .ok (.iload_n 2, 1) ∧ 2 + 1 = 3 := ⟨by decide +kernel, rfl⟩
theorem d_M_bin_3 : decode b_M_bin 3 = .ok (.invokevirtual 131, 3) ∧ 3 + 3 = 6 := ⟨by decide +kernel, rfl⟩
theorem d_M_bin_6 : decode b_M_bin 6 = .ok (.ifCond .eq 7, 3) ∧ 6 + 3 = 9 ∧ ((6 : Nat) : Int) + 7 = ((13 : Nat) : Int) := ⟨by decide +kernel, rfl, by decide⟩
theorem d_M_bin_9 : decode b_M_bin 9 = .ok (.iconst 0, 1) ∧ 9 + 1 = 10 := ⟨by decide +kernel, rfl⟩
theorem d_M_bin_10 : decode b_M_bin 10 = .ok (.goto 15, 3) ∧ ((10 : Nat) : Int) + 15 = ((25 : Nat) : Int) := ⟨by decide +kernel, by decide⟩
theorem d_M_bin_13 : decode b_M_bin 13 = .ok (.aload_n 0, 1) ∧ 13 + 1 = 14 := ⟨by decide +kernel, rfl⟩
theorem d_M_bin_14 : decode b_M_bin 14 = .ok (.getfield 45, 3) ∧ 14 + 3 = 17 := ⟨by decide +kernel, rfl⟩
theorem d_M_bin_17 : decode b_M_bin 17 = .ok (.sipush 481, 3) ∧ 17 + 3 = 20 := ⟨by decide +kernel, rfl⟩
theorem d_M_bin_20 : decode b_M_bin 20 = .ok (.iload_n 1, 1) ∧ 20 + 1 = 21 := ⟨by decide +kernel, rfl⟩
theorem d_M_bin_21 : decode b_M_bin 21 = .ok (.imul, 1) ∧ 21 + 1 = 22 := ⟨by decide +kernel, rfl⟩
theorem d_M_bin_22 : decode b_M_bin 22 = .ok (.iload_n 2, 1) ∧ 22 + 1 = 23 := ⟨by decide +kernel, rfl⟩
theorem d_M_bin_23 : decode b_M_bin 23 = .ok (.iadd, 1) ∧ 23 + 1 = 24 := ⟨by decide +kernel, rfl⟩
theorem d_M_bin_24 : decode b_M_bin 24 = .ok (.iaload, 1) ∧ 24 + 1 = 25 := ⟨by decide +kernel, rfl⟩
theorem d_M_bin_25 : decode b_M_bin 25 = .ok (.ireturn, 1) := by decide +kernel
theorem d_M_binAt_0 : decode b_M_binAt 0 = .ok (.aload_n 0, 1) ∧ 0 + 1 = 1 := ⟨by decide +kernel, rfl⟩
theorem d_M_binAt_1 : decode b_M_binAt 1 = .ok (.getfield 36, 3) ∧ 1 + 3 = 4 := ⟨by decide +kernel, rfl⟩
theorem d_M_binAt_4 : decode b_M_binAt 4 = .ok (.iload_n 1, 1) ∧ 4 + 1 = 5 := ⟨by decide +kernel, rfl⟩
theorem d_M_binAt_5 : decode b_M_binAt 5 = .ok (.iaload, 1) ∧ 5 + 1 = 6 := ⟨by decide +kernel, rfl⟩
theorem d_M_binAt_6 : decode b_M_binAt 6 = .ok (.ifCond .ge 19, 3) ∧ 6 + 3 = 9 ∧ ((6 : Nat) : Int) + 19 = ((25 : Nat) : Int) := ⟨by decide +kernel, rfl, by decide⟩
theorem d_M_binAt_9 : decode b_M_binAt 9 = .ok (.aload_n 0, 1) ∧ 9 + 1 = 10 := ⟨by decide +kernel, rfl⟩
theorem d_M_binAt_10 : decode b_M_binAt 10 = .ok (.getfield 36, 3) ∧ 10 + 3 = 13 := ⟨by decide +kernel, rfl⟩
theorem d_M_binAt_13 : decode b_M_binAt 13 = .ok (.iload_n 1, 1) ∧ 13 + 1 = 14 := ⟨by decide +kernel, rfl⟩
theorem d_M_binAt_14 : decode b_M_binAt 14 = .ok (.iaload, 1) ∧ 14 + 1 = 15 := ⟨by decide +kernel, rfl⟩
theorem d_M_binAt_15 : decode b_M_binAt 15 = .ok (.aload_n 0, 1) ∧ 15 + 1 = 16 := ⟨by decide +kernel, rfl⟩
theorem d_M_binAt_16 : decode b_M_binAt 16 = .ok (.getfield 13, 3) ∧ 16 + 3 = 19 := ⟨by decide +kernel, rfl⟩
theorem d_M_binAt_19 : decode b_M_binAt 19 = .ok (.iconst 1, 1) ∧ 19 + 1 = 20 := ⟨by decide +kernel, rfl⟩
theorem d_M_binAt_20 : decode b_M_binAt 20 = .ok (.isub, 1) ∧ 20 + 1 = 21 := ⟨by decide +kernel, rfl⟩
theorem d_M_binAt_21 : decode b_M_binAt 21 = .ok (.imul, 1) ∧ 21 + 1 = 22 := ⟨by decide +kernel, rfl⟩
theorem d_M_binAt_22 : decode b_M_binAt 22 = .ok (.goto 4, 3) ∧ ((22 : Nat) : Int) + 4 = ((26 : Nat) : Int) := ⟨by decide +kernel, by decide⟩
theorem d_M_binAt_25 : decode b_M_binAt 25 = .ok (.iconst 0, 1) ∧ 25 + 1 = 26 := ⟨by decide +kernel, rfl⟩
theorem d_M_binAt_26 : decode b_M_binAt 26 = .ok (.aload_n 0, 1) ∧ 26 + 1 = 27 := ⟨by decide +kernel, rfl⟩
theorem d_M_binAt_27 : decode b_M_binAt 27 = .ok (.getfield 39, 3) ∧ 27 + 3 = 30 := ⟨by decide +kernel, rfl⟩
theorem d_M_binAt_30 : decode b_M_binAt 30 = .ok (.iload_n 1, 1) ∧ 30 + 1 = 31 := ⟨by decide +kernel, rfl⟩
theorem d_M_binAt_31 : decode b_M_binAt 31 = .ok (.iaload, 1) ∧ 31 + 1 = 32 := ⟨by decide +kernel, rfl⟩
theorem d_M_binAt_32 : decode b_M_binAt 32 = .ok (.aload_n 0, 1) ∧ 32 + 1 = 33 := ⟨by decide +kernel, rfl⟩
theorem d_M_binAt_33 : decode b_M_binAt 33 = .ok (.getfield 7, 3) ∧ 33 + 3 = 36 := ⟨by decide +kernel, rfl⟩
theorem d_M_binAt_36 : decode b_M_binAt 36 = .ok (.iconst 1, 1) ∧ 36 + 1 = 37 := ⟨by decide +kernel, rfl⟩
theorem d_M_binAt_37 : decode b_M_binAt 37 = .ok (.isub, 1) ∧ 37 + 1 = 38 := ⟨by decide +kernel, rfl⟩
theorem d_M_binAt_38 : decode b_M_binAt 38 = .ok (.imul, 1) ∧ 38 + 1 = 39 := ⟨by decide +kernel, rfl⟩
theorem d_M_binAt_39 : decode b_M_binAt 39 = .ok (.isub, 1) ∧ 39 + 1 = 40 := ⟨by decide +kernel, rfl⟩
theorem d_M_binAt_40 : decode b_M_binAt 40 = .ok (.istore 4, 2) ∧ 40 + 2 = 42 := ⟨by decide +kernel, rfl⟩
theorem d_M_binAt_42 : decode b_M_binAt 42 = .ok (.aload_n 0, 1) ∧ 42 + 1 = 43 := ⟨by decide +kernel, rfl⟩
theorem d_M_binAt_43 : decode b_M_binAt 43 = .ok (.getfield 36, 3) ∧ 43 + 3 = 46 := ⟨by decide +kernel, rfl⟩
theorem d_M_binAt_46 : decode b_M_binAt 46 = .ok (.iload_n 1, 1) ∧ 46 + 1 = 47 := ⟨by decide +kernel, rfl⟩
theorem d_M_binAt_47 : decode b_M_binAt 47 = .ok (.iaload, 1) ∧ 47 + 1 = 48 := ⟨by decide +kernel, rfl⟩
theorem d_M_binAt_48 : decode b_M_binAt 48 = .ok (.iload_n 3, 1) ∧ 48 + 1 = 49 := ⟨by decide +kernel, rfl⟩
theorem d_M_binAt_49 : decode b_M_binAt 49 = .ok (.imul, 1) ∧ 49 + 1 = 50 := ⟨by decide +kernel, rfl⟩
theorem d_M_binAt_50 : decode b_M_binAt 50 = .ok (.aload_n 0, 1) ∧ 50 + 1 = 51 := ⟨by decide +kernel, rfl⟩
theorem d_M_binAt_51 : decode b_M_binAt 51 = .ok (.getfield 39, 3) ∧ 51 + 3 = 54 := ⟨by decide +kernel, rfl⟩
theorem d_M_binAt_54 : decode b_M_binAt 54 = .ok (.iload_n 1, 1) ∧ 54 + 1 = 55 := ⟨by decide +kernel, rfl⟩
theorem d_M_binAt_55 : decode b_M_binAt 55 = .ok (.iaload, 1) ∧ 55 + 1 = 56 := ⟨by decide +kernel, rfl⟩
theorem d_M_binAt_56 : decode b_M_binAt 56 = .ok (.iload_n 2, 1) ∧ 56 + 1 = 57 := ⟨by decide +kernel, rfl⟩
theorem d_M_binAt_57 : decode b_M_binAt 57 = .ok (.imul, 1) ∧ 57 + 1 = 58 := ⟨by decide +kernel, rfl⟩
theorem d_M_binAt_58 : decode b_M_binAt 58 = .ok (.isub, 1) ∧ 58 + 1 = 59 := ⟨by decide +kernel, rfl⟩
theorem d_M_binAt_59 : decode b_M_binAt 59 = .ok (.iload 4, 2) ∧ 59 + 2 = 61 := ⟨by decide +kernel, rfl⟩
theorem d_M_binAt_61 : decode b_M_binAt 61 = .ok (.isub, 1) ∧ 61 + 1 = 62 := ⟨by decide +kernel, rfl⟩
theorem d_M_binAt_62 : decode b_M_binAt 62 = .ok (.ireturn, 1) := by decide +kernel
theorem d_M_binsOf_0 : decode b_M_binsOf 0 = .ok (.aload_n 0, 1) ∧ 0 + 1 = 1 := ⟨by decide +kernel, rfl⟩
theorem d_M_binsOf_1 : decode b_M_binsOf 1 = .ok (.getfield 36, 3) ∧ 1 + 3 = 4 := ⟨by decide +kernel, rfl⟩
theorem d_M_binsOf_4 : decode b_M_binsOf 4 = .ok (.iload_n 1, 1) ∧ 4 + 1 = 5 := ⟨by decide +kernel, rfl⟩
theorem d_M_binsOf_5 : decode b_M_binsOf 5 = .ok (.iaload, 1) ∧ 5 + 1 = 6 := ⟨by decide +kernel, rfl⟩
theorem d_M_binsOf_6 : decode b_M_binsOf 6 = .ok (.invokestatic 110, 3) ∧ 6 + 3 = 9 := ⟨by decide +kernel, rfl⟩
theorem d_M_binsOf_9 : decode b_M_binsOf 9 = .ok (.aload_n 0, 1) ∧ 9 + 1 = 10 := ⟨by decide +kernel, rfl⟩
theorem d_M_binsOf_10 : decode b_M_binsOf 10 = .ok (.getfield 13, 3) ∧ 10 + 3 = 13 := ⟨by decide +kernel, rfl⟩
theorem d_M_binsOf_13 : decode b_M_binsOf 13 = .ok (.iconst 1, 1) ∧ 13 + 1 = 14 := ⟨by decide +kernel, rfl⟩
theorem d_M_binsOf_14 : decode b_M_binsOf 14 = .ok (.isub, 1) ∧ 14 + 1 = 15 := ⟨by decide +kernel, rfl⟩
theorem d_M_binsOf_15 : decode b_M_binsOf 15 = .ok (.imul, 1) ∧ 15 + 1 = 16 := ⟨by decide +kernel, rfl⟩
theorem d_M_binsOf_16 : decode b_M_binsOf 16 = .ok (.aload_n 0, 1) ∧ 16 + 1 = 17 := ⟨by decide +kernel, rfl⟩
theorem d_M_binsOf_17 : decode b_M_binsOf 17 = .ok (.getfield 39, 3) ∧ 17 + 3 = 20 := ⟨by decide +kernel, rfl⟩
theorem d_M_binsOf_20 : decode b_M_binsOf 20 = .ok (.iload_n 1, 1) ∧ 20 + 1 = 21 := ⟨by decide +kernel, rfl⟩
theorem d_M_binsOf_21 : decode b_M_binsOf 21 = .ok (.iaload, 1) ∧ 21 + 1 = 22 := ⟨by decide +kernel, rfl⟩
theorem d_M_binsOf_22 : decode b_M_binsOf 22 = .ok (.aload_n 0, 1) ∧ 22 + 1 = 23 := ⟨by decide +kernel, rfl⟩
theorem d_M_binsOf_23 : decode b_M_binsOf 23 = .ok (.getfield 7, 3) ∧ 23 + 3 = 26 := ⟨by decide +kernel, rfl⟩
theorem d_M_binsOf_26 : decode b_M_binsOf 26 = .ok (.iconst 1, 1) ∧ 26 + 1 = 27 := ⟨by decide +kernel, rfl⟩
theorem d_M_binsOf_27 : decode b_M_binsOf 27 = .ok (.isub, 1) ∧ 27 + 1 = 28 := ⟨by decide +kernel, rfl⟩
theorem d_M_binsOf_28 : decode b_M_binsOf 28 = .ok (.imul, 1) ∧ 28 + 1 = 29 := ⟨by decide +kernel, rfl⟩
theorem d_M_binsOf_29 : decode b_M_binsOf 29 = .ok (.iadd, 1) ∧ 29 + 1 = 30 := ⟨by decide +kernel, rfl⟩
theorem d_M_binsOf_30 : decode b_M_binsOf 30 = .ok (.iconst 1, 1) ∧ 30 + 1 = 31 := ⟨by decide +kernel, rfl⟩
theorem d_M_binsOf_31 : decode b_M_binsOf 31 = .ok (.iadd, 1) ∧ 31 + 1 = 32 := ⟨by decide +kernel, rfl⟩
theorem d_M_binsOf_32 : decode b_M_binsOf 32 = .ok (.ireturn, 1) := by decide +kernel
theorem d_M_comes_0 : decode b_M_comes 0 = .ok (.aload_n 0, 1) ∧ 0 + 1 = 1 := ⟨by decide +kernel, rfl⟩
theorem d_M_comes_1 : decode b_M_comes 1 = .ok (.iload_n 1, 1) ∧ 1 + 1 = 2 := ⟨by decide +kernel, rfl⟩
theorem d_M_comes_2 : decode b_M_comes 2 = .ok (.invokevirtual 150, 3) ∧ 2 + 3 = 5 := ⟨by decide +kernel, rfl⟩
theorem d_M_comes_5 : decode b_M_comes 5 = .ok (.aload_n 0, 1) ∧ 5 + 1 = 6 := ⟨by decide +kernel, rfl⟩
theorem d_M_comes_6 : decode b_M_comes 6 = .ok (.iload_n 1, 1) ∧ 6 + 1 = 7 := ⟨by decide +kernel, rfl⟩
theorem d_M_comes_7 : decode b_M_comes 7 = .ok (.invokevirtual 154, 3) ∧ 7 + 3 = 10 := ⟨by decide +kernel, rfl⟩
theorem d_M_comes_10 : decode b_M_comes 10 = .ok (.istore_n 2, 1) ∧ 10 + 1 = 11 := ⟨by decide +kernel, rfl⟩
theorem d_M_comes_11 : decode b_M_comes 11 = .ok (.iload_n 2, 1) ∧ 11 + 1 = 12 := ⟨by decide +kernel, rfl⟩
theorem d_M_comes_12 : decode b_M_comes 12 = .ok (.ifCond .lt 18, 3) ∧ 12 + 3 = 15 ∧ ((12 : Nat) : Int) + 18 = ((30 : Nat) : Int) := ⟨by decide +kernel, rfl, by decide⟩
theorem d_M_comes_15 : decode b_M_comes 15 = .ok (.aload_n 0, 1) ∧ 15 + 1 = 16 := ⟨by decide +kernel, rfl⟩
theorem d_M_comes_16 : decode b_M_comes 16 = .ok (.iload_n 1, 1) ∧ 16 + 1 = 17 := ⟨by decide +kernel, rfl⟩
theorem d_M_comes_17 : decode b_M_comes 17 = .ok (.iload_n 2, 1) ∧ 17 + 1 = 18 := ⟨by decide +kernel, rfl⟩
theorem d_M_comes_18 : decode b_M_comes 18 = .ok (.invokevirtual 157, 3) ∧ 18 + 3 = 21 := ⟨by decide +kernel, rfl⟩
theorem d_M_comes_21 : decode b_M_comes 21 = .ok (.aload_n 0, 1) ∧ 21 + 1 = 22 := ⟨by decide +kernel, rfl⟩
theorem d_M_comes_22 : decode b_M_comes 22 = .ok (.iload_n 1, 1) ∧ 22 + 1 = 23 := ⟨by decide +kernel, rfl⟩
theorem d_M_comes_23 : decode b_M_comes 23 = .ok (.invokevirtual 154, 3) ∧ 23 + 3 = 26 := ⟨by decide +kernel, rfl⟩
theorem d_M_comes_26 : decode b_M_comes 26 = .ok (.istore_n 2, 1) ∧ 26 + 1 = 27 := ⟨by decide +kernel, rfl⟩
theorem d_M_comes_27 : decode b_M_comes 27 = .ok (.goto (-16), 3) ∧ ((27 : Nat) : Int) + (-16) = ((11 : Nat) : Int) := ⟨by decide +kernel, by decide⟩
theorem d_M_comes_30 : decode b_M_comes 30 = .ok (.aload_n 0, 1) ∧ 30 + 1 = 31 := ⟨by decide +kernel, rfl⟩
theorem d_M_comes_31 : decode b_M_comes 31 = .ok (.getfield 143, 3) ∧ 31 + 3 = 34 := ⟨by decide +kernel, rfl⟩
theorem d_M_comes_34 : decode b_M_comes 34 = .ok (.aload_n 0, 1) ∧ 34 + 1 = 35 := ⟨by decide +kernel, rfl⟩
theorem d_M_comes_35 : decode b_M_comes 35 = .ok (.getfield 7, 3) ∧ 35 + 3 = 38 := ⟨by decide +kernel, rfl⟩
theorem d_M_comes_38 : decode b_M_comes 38 = .ok (.aload_n 0, 1) ∧ 38 + 1 = 39 := ⟨by decide +kernel, rfl⟩
theorem d_M_comes_39 : decode b_M_comes 39 = .ok (.getfield 13, 3) ∧ 39 + 3 = 42 := ⟨by decide +kernel, rfl⟩
theorem d_M_comes_42 : decode b_M_comes 42 = .ok (.imul, 1) ∧ 42 + 1 = 43 := ⟨by decide +kernel, rfl⟩
theorem d_M_comes_43 : decode b_M_comes 43 = .ok (.if_icmp .ne 7, 3) ∧ 43 + 3 = 46 ∧ ((43 : Nat) : Int) + 7 = ((50 : Nat) : Int) := ⟨by decide +kernel, rfl, by decide⟩
theorem d_M_comes_46 : decode b_M_comes 46 = .ok (.iconst 1, 1) ∧ 46 + 1 = 47 := ⟨by decide +kernel, rfl⟩
theorem d_M_comes_47 : decode b_M_comes 47 = .ok (.goto 4, 3) ∧ ((47 : Nat) : Int) + 4 = ((51 : Nat) : Int) := ⟨by decide +kernel, by decide⟩
theorem d_M_comes_50 : decode b_M_comes 50 = .ok (.iconst 0, 1) ∧ 50 + 1 = 51 := ⟨by decide +kernel, rfl⟩
theorem d_M_comes_51 : decode b_M_comes 51 = .ok (.ireturn, 1) := by decide +kernel
theorem d_M_direction_0 : decode b_M_direction 0 = .ok (.iload_n 2, 1) ∧ 0 + 1 = 1 := ⟨by decide +kernel, rfl⟩
theorem d_M_direction_1 : decode b_M_direction 1 = .ok (.bipush (-16), 2) ∧ 1 + 2 = 3 := ⟨by decide +kernel, rfl⟩
theorem d_M_direction_3 : decode b_M_direction 3 = .ok (.if_icmp .lt 25, 3) ∧ 3 + 3 = 6 ∧ ((3 : Nat) : Int) + 25 = ((28 : Nat) : Int) := ⟨by decide +kernel, rfl, by decide⟩
theorem d_M_direction_6 : decode b_M_direction 6 = .ok (.iload_n 2, 1) ∧ 6 + 1 = 7 := ⟨by decide +kernel, rfl⟩
theorem d_M_direction_7 : decode b_M_direction 7 = .ok (.bipush 16, 2) ∧ 7 + 2 = 9 := ⟨by decide +kernel, rfl⟩
theorem d_M_direction_9 : decode b_M_direction 9 = .ok (.if_icmp .gt 19, 3) ∧ 9 + 3 = 12 ∧ ((9 : Nat) : Int) + 19 = ((28 : Nat) : Int) := ⟨by decide +kernel, rfl, by decide⟩
theorem d_M_direction_12 : decode b_M_direction 12 = .ok (.iload_n 3, 1) ∧ 12 + 1 = 13 := ⟨by decide +kernel, rfl⟩
theorem d_M_direction_13 : decode b_M_direction 13 = .ok (.bipush (-16), 2) ∧ 13 + 2 = 15 := ⟨by decide +kernel, rfl⟩
theorem d_M_direction_15 : decode b_M_direction 15 = .ok (.if_icmp .lt 13, 3) ∧ 15 + 3 = 18 ∧ ((15 : Nat) : Int) + 13 = ((28 : Nat) : Int) := ⟨by decide +kernel, rfl, by decide⟩
theorem d_M_direction_18 : decode b_M_direction 18 = .ok (.iload_n 3, 1) ∧ 18 + 1 = 19 := ⟨by decide +kernel, rfl⟩
theorem d_M_direction_19 : decode b_M_direction 19 = .ok (.bipush 16, 2) ∧ 19 + 2 = 21 := ⟨by decide +kernel, rfl⟩
theorem d_M_direction_21 : decode b_M_direction 21 = .ok (.if_icmp .gt 7, 3) ∧ 21 + 3 = 24 ∧ ((21 : Nat) : Int) + 7 = ((28 : Nat) : Int) := ⟨by decide +kernel, rfl, by decide⟩
theorem d_M_direction_24 : decode b_M_direction 24 = .ok (.iconst 1, 1) ∧ 24 + 1 = 25 := ⟨by decide +kernel, rfl⟩
theorem d_M_direction_25 : decode b_M_direction 25 = .ok (.goto 4, 3) ∧ ((25 : Nat) : Int) + 4 = ((29 : Nat) : Int) := ⟨by decide +kernel, by decide⟩
theorem d_M_direction_28 : decode b_M_direction 28 = .ok (.iconst 0, 1) ∧ 28 + 1 = 29 := ⟨by decide +kernel, rfl⟩
theorem d_M_direction_29 : decode b_M_direction 29 = .ok (.istore 4, 2) ∧ 29 + 2 = 31 := ⟨by decide +kernel, rfl⟩
theorem d_M_direction_31 : decode b_M_direction 31 = .ok (.iload 4, 2) ∧ 31 + 2 = 33 := ⟨by decide +kernel, rfl⟩
theorem d_M_direction_33 : decode b_M_direction 33 = .ok (.ifCond .eq 19, 3) ∧ 33 + 3 = 36 ∧ ((33 : Nat) : Int) + 19 = ((52 : Nat) : Int) := ⟨by decide +kernel, rfl, by decide⟩
theorem d_M_direction_36 : decode b_M_direction 36 = .ok (.iload_n 3, 1) ∧ 36 + 1 = 37 := ⟨by decide +kernel, rfl⟩
theorem d_M_direction_37 : decode b_M_direction 37 = .ok (.ifCond .lt 11, 3) ∧ 37 + 3 = 40 ∧ ((37 : Nat) : Int) + 11 = ((48 : Nat) : Int) := ⟨by decide +kernel, rfl, by decide⟩
theorem d_M_direction_40 : decode b_M_direction 40 = .ok (.iload_n 3, 1) ∧ 40 + 1 = 41 := ⟨by decide +kernel, rfl⟩
theorem d_M_direction_41 : decode b_M_direction 41 = .ok (.ifCond .ne 11, 3) ∧ 41 + 3 = 44 ∧ ((41 : Nat) : Int) + 11 = ((52 : Nat) : Int) := ⟨by decide +kernel, rfl, by decide⟩
theorem d_M_direction_44 : decode b_M_direction 44 = .ok (.iload_n 2, 1) ∧ 44 + 1 = 45 := ⟨by decide +kernel, rfl⟩
theorem d_M_direction_45 : decode b_M_direction 45 = .ok (.ifCond .ge 7, 3) ∧ 45 + 3 = 48 ∧ ((45 : Nat) : Int) + 7 = ((52 : Nat) : Int) := ⟨by decide +kernel, rfl, by decide⟩
theorem d_M_direction_48 : decode b_M_direction 48 = .ok (.iconst 1, 1) ∧ 48 + 1 = 49 := ⟨by decide +kernel, rfl⟩
theorem d_M_direction_49 : decode b_M_direction 49 = .ok (.goto 4, 3) ∧ ((49 : Nat) : Int) + 4 = ((53 : Nat) : Int) := ⟨by decide +kernel, by decide⟩
theorem d_M_direction_52 : decode b_M_direction 52 = .ok (.iconst 0, 1) ∧ 52 + 1 = 53 := ⟨by decide +kernel, rfl⟩
theorem d_M_direction_53 : decode b_M_direction 53 = .ok (.istore 5, 2) ∧ 53 + 2 = 55 := ⟨by decide +kernel, rfl⟩
theorem d_M_direction_55 : decode b_M_direction 55 = .ok (.iload 5, 2) ∧ 55 + 2 = 57 := ⟨by decide +kernel, rfl⟩
theorem d_M_direction_57 : decode b_M_direction 57 = .ok (.ifCond .eq 8, 3) ∧ 57 + 3 = 60 ∧ ((57 : Nat) : Int) + 8 = ((65 : Nat) : Int) := ⟨by decide +kernel, rfl, by decide⟩
theorem d_M_direction_60 : decode b_M_direction 60 = .ok (.iload_n 2, 1) ∧ 60 + 1 = 61 := ⟨by decide +kernel, rfl⟩
theorem d_M_direction_61 : decode b_M_direction 61 = .ok (.ineg, 1) ∧ 61 + 1 = 62 := ⟨by decide +kernel, rfl⟩
theorem d_M_direction_62 : decode b_M_direction 62 = .ok (.goto 4, 3) ∧ ((62 : Nat) : Int) + 4 = ((66 : Nat) : Int) := ⟨by decide +kernel, by decide⟩
theorem d_M_direction_65 : decode b_M_direction 65 = .ok (.iload_n 2, 1) ∧ 65 + 1 = 66 := ⟨by decide +kernel, rfl⟩
theorem d_M_direction_66 : decode b_M_direction 66 = .ok (.istore 6, 2) ∧ 66 + 2 = 68 := ⟨by decide +kernel, rfl⟩
theorem d_M_direction_68 : decode b_M_direction 68 = .ok (.iload 5, 2) ∧ 68 + 2 = 70 := ⟨by decide +kernel, rfl⟩
theorem d_M_direction_70 : decode b_M_direction 70 = .ok (.ifCond .eq 8, 3) ∧ 70 + 3 = 73 ∧ ((70 : Nat) : Int) + 8 = ((78 : Nat) : Int) := ⟨by decide +kernel, rfl, by decide⟩
theorem d_M_direction_73 : decode b_M_direction 73 = .ok (.iload_n 3, 1) ∧ 73 + 1 = 74 := ⟨by decide +kernel, rfl⟩
theorem d_M_direction_74 : decode b_M_direction 74 = .ok (.ineg, 1) ∧ 74 + 1 = 75 := ⟨by decide +kernel, rfl⟩
theorem d_M_direction_75 : decode b_M_direction 75 = .ok (.goto 4, 3) ∧ ((75 : Nat) : Int) + 4 = ((79 : Nat) : Int) := ⟨by decide +kernel, by decide⟩
theorem d_M_direction_78 : decode b_M_direction 78 = .ok (.iload_n 3, 1) ∧ 78 + 1 = 79 := ⟨by decide +kernel, rfl⟩
theorem d_M_direction_79 : decode b_M_direction 79 = .ok (.istore 7, 2) ∧ 79 + 2 = 81 := ⟨by decide +kernel, rfl⟩
theorem d_M_direction_81 : decode b_M_direction 81 = .ok (.aload_n 0, 1) ∧ 81 + 1 = 82 := ⟨by decide +kernel, rfl⟩
theorem d_M_direction_82 : decode b_M_direction 82 = .ok (.iload_n 1, 1) ∧ 82 + 1 = 83 := ⟨by decide +kernel, rfl⟩
theorem d_M_direction_83 : decode b_M_direction 83 = .ok (.invokestatic 84, 3) ∧ 83 + 3 = 86 := ⟨by decide +kernel, rfl⟩
theorem d_M_direction_86 : decode b_M_direction 86 = .ok (.ifCond .ne 7, 3) ∧ 86 + 3 = 89 ∧ ((86 : Nat) : Int) + 7 = ((93 : Nat) : Int) := ⟨by decide +kernel, rfl, by decide⟩
theorem d_M_direction_89 : decode b_M_direction 89 = .ok (.iconst 1, 1) ∧ 89 + 1 = 90 := ⟨by decide +kernel, rfl⟩
theorem d_M_direction_90 : decode b_M_direction 90 = .ok (.goto 4, 3) ∧ ((90 : Nat) : Int) + 4 = ((94 : Nat) : Int) := ⟨by decide +kernel, by decide⟩
theorem d_M_direction_93 : decode b_M_direction 93 = .ok (.iconst 0, 1) ∧ 93 + 1 = 94 := ⟨by decide +kernel, rfl⟩
theorem d_M_direction_94 : decode b_M_direction 94 = .ok (.iload 4, 2) ∧ 94 + 2 = 96 := ⟨by decide +kernel, rfl⟩
theorem d_M_direction_96 : decode b_M_direction 96 = .ok (.ifCond .eq 25, 3) ∧ 96 + 3 = 99 ∧ ((96 : Nat) : Int) + 25 = ((121 : Nat) : Int) := ⟨by decide +kernel, rfl, by decide⟩
theorem d_M_direction_99 : decode b_M_direction 99 = .ok (.iload 6, 2) ∧ 99 + 2 = 101 := ⟨by decide +kernel, rfl⟩
theorem d_M_direction_101 : decode b_M_direction 101 = .ok (.iload 7, 2) ∧ 101 + 2 = 103 := ⟨by decide +kernel, rfl⟩
theorem d_M_direction_103 : decode b_M_direction 103 = .ok (.invokestatic 103, 3) ∧ 103 + 3 = 106 := ⟨by decide +kernel, rfl⟩
theorem d_M_direction_106 : decode b_M_direction 106 = .ok (.ifCond .ne 15, 3) ∧ 106 + 3 = 109 ∧ ((106 : Nat) : Int) + 15 = ((121 : Nat) : Int) := ⟨by decide +kernel, rfl, by decide⟩
theorem d_M_direction_109 : decode b_M_direction 109 = .ok (.aload_n 0, 1) ∧ 109 + 1 = 110 := ⟨by decide +kernel, rfl⟩
theorem d_M_direction_110 : decode b_M_direction 110 = .ok (.iload_n 1, 1) ∧ 110 + 1 = 111 := ⟨by decide +kernel, rfl⟩
theorem d_M_direction_111 : decode b_M_direction 111 = .ok (.iload 6, 2) ∧ 111 + 2 = 113 := ⟨by decide +kernel, rfl⟩
theorem d_M_direction_113 : decode b_M_direction 113 = .ok (.iload 7, 2) ∧ 113 + 2 = 115 := ⟨by decide +kernel, rfl⟩
theorem d_M_direction_115 : decode b_M_direction 115 = .ok (.invokevirtual 106, 3) ∧ 115 + 3 = 118 := ⟨by decide +kernel, rfl⟩
theorem d_M_direction_118 : decode b_M_direction 118 = .ok (.ifCond .eq 7, 3) ∧ 118 + 3 = 121 ∧ ((118 : Nat) : Int) + 7 = ((125 : Nat) : Int) := ⟨by decide +kernel, rfl, by decide⟩
theorem d_M_direction_121 : decode b_M_direction 121 = .ok (.iconst 1, 1) ∧ 121 + 1 = 122 := ⟨by decide +kernel, rfl⟩
theorem d_M_direction_122 : decode b_M_direction 122 = .ok (.goto 4, 3) ∧ ((122 : Nat) : Int) + 4 = ((126 : Nat) : Int) := ⟨by decide +kernel, by decide⟩
theorem d_M_direction_125 : decode b_M_direction 125 = .ok (.iconst 0, 1) ∧ 125 + 1 = 126 := ⟨by decide +kernel, rfl⟩
theorem d_M_direction_126 : decode b_M_direction 126 = .ok (.invokevirtual 88, 3) ∧ 126 + 3 = 129 := ⟨by decide +kernel, rfl⟩
theorem d_M_direction_129 : decode b_M_direction 129 = .ok (.ifCond .eq 4, 3) ∧ 129 + 3 = 132 ∧ ((129 : Nat) : Int) + 4 = ((133 : Nat) : Int) := ⟨by decide +kernel, rfl, by decide⟩
theorem d_M_direction_132 : decode b_M_direction 132 = .ok (.return_, 1) := by decide +kernel
theorem d_M_direction_133 : decode b_M_direction 133 = .ok (.aload_n 0, 1) ∧ 133 + 1 = 134 := ⟨by decide +kernel, rfl⟩
theorem d_M_direction_134 : decode b_M_direction 134 = .ok (.getfield 33, 3) ∧ 134 + 3 = 137 := ⟨by decide +kernel, rfl⟩
theorem d_M_direction_137 : decode b_M_direction 137 = .ok (.iload_n 1, 1) ∧ 137 + 1 = 138 := ⟨by decide +kernel, rfl⟩
theorem d_M_direction_138 : decode b_M_direction 138 = .ok (.iconst 1, 1) ∧ 138 + 1 = 139 := ⟨by decide +kernel, rfl⟩
theorem d_M_direction_139 : decode b_M_direction 139 = .ok (.bastore, 1) ∧ 139 + 1 = 140 := ⟨by decide +kernel, rfl⟩
theorem d_M_direction_140 : decode b_M_direction 140 = .ok (.aload_n 0, 1) ∧ 140 + 1 = 141 := ⟨by decide +kernel, rfl⟩
theorem d_M_direction_141 : decode b_M_direction 141 = .ok (.getfield 36, 3) ∧ 141 + 3 = 144 := ⟨by decide +kernel, rfl⟩
theorem d_M_direction_144 : decode b_M_direction 144 = .ok (.iload_n 1, 1) ∧ 144 + 1 = 145 := ⟨by decide +kernel, rfl⟩
theorem d_M_direction_145 : decode b_M_direction 145 = .ok (.iload 6, 2) ∧ 145 + 2 = 147 := ⟨by decide +kernel, rfl⟩
theorem d_M_direction_147 : decode b_M_direction 147 = .ok (.iastore, 1) ∧ 147 + 1 = 148 := ⟨by decide +kernel, rfl⟩
theorem d_M_direction_148 : decode b_M_direction 148 = .ok (.aload_n 0, 1) ∧ 148 + 1 = 149 := ⟨by decide +kernel, rfl⟩
theorem d_M_direction_149 : decode b_M_direction 149 = .ok (.getfield 39, 3) ∧ 149 + 3 = 152 := ⟨by decide +kernel, rfl⟩
theorem d_M_direction_152 : decode b_M_direction 152 = .ok (.iload_n 1, 1) ∧ 152 + 1 = 153 := ⟨by decide +kernel, rfl⟩
theorem d_M_direction_153 : decode b_M_direction 153 = .ok (.iload 7, 2) ∧ 153 + 2 = 155 := ⟨by decide +kernel, rfl⟩
theorem d_M_direction_155 : decode b_M_direction 155 = .ok (.iastore, 1) ∧ 155 + 1 = 156 := ⟨by decide +kernel, rfl⟩
theorem d_M_direction_156 : decode b_M_direction 156 = .ok (.aload_n 0, 1) ∧ 156 + 1 = 157 := ⟨by decide +kernel, rfl⟩
theorem d_M_direction_157 : decode b_M_direction 157 = .ok (.getfield 42, 3) ∧ 157 + 3 = 160 := ⟨by decide +kernel, rfl⟩
theorem d_M_direction_160 : decode b_M_direction 160 = .ok (.iload_n 1, 1) ∧ 160 + 1 = 161 := ⟨by decide +kernel, rfl⟩
theorem d_M_direction_161 : decode b_M_direction 161 = .ok (.iconst 0, 1) ∧ 161 + 1 = 162 := ⟨by decide +kernel, rfl⟩
theorem d_M_direction_162 : decode b_M_direction 162 = .ok (.bastore, 1) ∧ 162 + 1 = 163 := ⟨by decide +kernel, rfl⟩
theorem d_M_direction_163 : decode b_M_direction 163 = .ok (.return_, 1) := by decide +kernel
theorem d_M_disagrees_0 : decode b_M_disagrees 0 = .ok (.iconst 0, 1) ∧ 0 + 1 = 1 := ⟨by decide +kernel, rfl⟩
theorem d_M_disagrees_1 : decode b_M_disagrees 1 = .ok (.istore_n 2, 1) ∧ 1 + 1 = 2 := ⟨by decide +kernel, rfl⟩
theorem d_M_disagrees_2 : decode b_M_disagrees 2 = .ok (.iload_n 2, 1) ∧ 2 + 1 = 3 := ⟨by decide +kernel, rfl⟩
theorem d_M_disagrees_3 : decode b_M_disagrees 3 = .ok (.bipush 8, 2) ∧ 3 + 2 = 5 := ⟨by decide +kernel, rfl⟩
theorem d_M_disagrees_5 : decode b_M_disagrees 5 = .ok (.if_icmp .ge 28, 3) ∧ 5 + 3 = 8 ∧ ((5 : Nat) : Int) + 28 = ((33 : Nat) : Int) := ⟨by decide +kernel, rfl, by decide⟩
theorem d_M_disagrees_8 : decode b_M_disagrees 8 = .ok (.aload_n 0, 1) ∧ 8 + 1 = 9 := ⟨by decide +kernel, rfl⟩
theorem d_M_disagrees_9 : decode b_M_disagrees 9 = .ok (.iload_n 1, 1) ∧ 9 + 1 = 10 := ⟨by decide +kernel, rfl⟩
theorem d_M_disagrees_10 : decode b_M_disagrees 10 = .ok (.iload_n 2, 1) ∧ 10 + 1 = 11 := ⟨by decide +kernel, rfl⟩
theorem d_M_disagrees_11 : decode b_M_disagrees 11 = .ok (.invokevirtual 134, 3) ∧ 11 + 3 = 14 := ⟨by decide +kernel, rfl⟩
theorem d_M_disagrees_14 : decode b_M_disagrees 14 = .ok (.ifCond .eq 13, 3) ∧ 14 + 3 = 17 ∧ ((14 : Nat) : Int) + 13 = ((27 : Nat) : Int) := ⟨by decide +kernel, rfl, by decide⟩
theorem d_M_disagrees_17 : decode b_M_disagrees 17 = .ok (.aload_n 0, 1) ∧ 17 + 1 = 18 := ⟨by decide +kernel, rfl⟩
theorem d_M_disagrees_18 : decode b_M_disagrees 18 = .ok (.iload_n 2, 1) ∧ 18 + 1 = 19 := ⟨by decide +kernel, rfl⟩
theorem d_M_disagrees_19 : decode b_M_disagrees 19 = .ok (.invokevirtual 161, 3) ∧ 19 + 3 = 22 := ⟨by decide +kernel, rfl⟩
theorem d_M_disagrees_22 : decode b_M_disagrees 22 = .ok (.ifCond .lt 5, 3) ∧ 22 + 3 = 25 ∧ ((22 : Nat) : Int) + 5 = ((27 : Nat) : Int) := ⟨by decide +kernel, rfl, by decide⟩
theorem d_M_disagrees_25 : decode b_M_disagrees 25 = .ok (.iload_n 2, 1) ∧ 25 + 1 = 26 := ⟨by decide +kernel, rfl⟩
theorem d_M_disagrees_26 : decode b_M_disagrees 26 = .ok (.ireturn, 1) := by decide +kernel
theorem d_M_disagrees_27 : decode b_M_disagrees 27 = .ok (.iinc 2 1, 3) ∧ 27 + 3 = 30 := ⟨by decide +kernel, rfl⟩
theorem d_M_disagrees_30 : decode b_M_disagrees 30 = .ok (.goto (-28), 3) ∧ ((30 : Nat) : Int) + (-28) = ((2 : Nat) : Int) := ⟨by decide +kernel, by decide⟩
theorem d_M_disagrees_33 : decode b_M_disagrees 33 = .ok (.bipush 99, 2) ∧ 33 + 2 = 35 := ⟨by decide +kernel, rfl⟩
theorem d_M_disagrees_35 : decode b_M_disagrees 35 = .ok (.ireturn, 1) := by decide +kernel
theorem d_M_drop_0 : decode b_M_drop 0 = .ok (.aload_n 0, 1) ∧ 0 + 1 = 1 := ⟨by decide +kernel, rfl⟩
theorem d_M_drop_1 : decode b_M_drop 1 = .ok (.iload_n 1, 1) ∧ 1 + 1 = 2 := ⟨by decide +kernel, rfl⟩
theorem d_M_drop_2 : decode b_M_drop 2 = .ok (.invokestatic 84, 3) ∧ 2 + 3 = 5 := ⟨by decide +kernel, rfl⟩
theorem d_M_drop_5 : decode b_M_drop 5 = .ok (.ifCond .ne 7, 3) ∧ 5 + 3 = 8 ∧ ((5 : Nat) : Int) + 7 = ((12 : Nat) : Int) := ⟨by decide +kernel, rfl, by decide⟩
theorem d_M_drop_8 : decode b_M_drop 8 = .ok (.iconst 1, 1) ∧ 8 + 1 = 9 := ⟨by decide +kernel, rfl⟩
theorem d_M_drop_9 : decode b_M_drop 9 = .ok (.goto 4, 3) ∧ ((9 : Nat) : Int) + 4 = ((13 : Nat) : Int) := ⟨by decide +kernel, by decide⟩
theorem d_M_drop_12 : decode b_M_drop 12 = .ok (.iconst 0, 1) ∧ 12 + 1 = 13 := ⟨by decide +kernel, rfl⟩
theorem d_M_drop_13 : decode b_M_drop 13 = .ok (.iconst 0, 1) ∧ 13 + 1 = 14 := ⟨by decide +kernel, rfl⟩
theorem d_M_drop_14 : decode b_M_drop 14 = .ok (.invokevirtual 88, 3) ∧ 14 + 3 = 17 := ⟨by decide +kernel, rfl⟩
theorem d_M_drop_17 : decode b_M_drop 17 = .ok (.ifCond .eq 5, 3) ∧ 17 + 3 = 20 ∧ ((17 : Nat) : Int) + 5 = ((22 : Nat) : Int) := ⟨by decide +kernel, rfl, by decide⟩
theorem d_M_drop_20 : decode b_M_drop 20 = .ok (.iconst 0, 1) ∧ 20 + 1 = 21 := ⟨by decide +kernel, rfl⟩
theorem d_M_drop_21 : decode b_M_drop 21 = .ok (.ireturn, 1) := by decide +kernel
theorem d_M_drop_22 : decode b_M_drop 22 = .ok (.aload_n 0, 1) ∧ 22 + 1 = 23 := ⟨by decide +kernel, rfl⟩
theorem d_M_drop_23 : decode b_M_drop 23 = .ok (.getfield 42, 3) ∧ 23 + 3 = 26 := ⟨by decide +kernel, rfl⟩
theorem d_M_drop_26 : decode b_M_drop 26 = .ok (.iload_n 1, 1) ∧ 26 + 1 = 27 := ⟨by decide +kernel, rfl⟩
theorem d_M_drop_27 : decode b_M_drop 27 = .ok (.baload, 1) ∧ 27 + 1 = 28 := ⟨by decide +kernel, rfl⟩
theorem d_M_drop_28 : decode b_M_drop 28 = .ok (.istore_n 2, 1) ∧ 28 + 1 = 29 := ⟨by decide +kernel, rfl⟩
theorem d_M_drop_29 : decode b_M_drop 29 = .ok (.aload_n 0, 1) ∧ 29 + 1 = 30 := ⟨by decide +kernel, rfl⟩
theorem d_M_drop_30 : decode b_M_drop 30 = .ok (.getfield 42, 3) ∧ 30 + 3 = 33 := ⟨by decide +kernel, rfl⟩
theorem d_M_drop_33 : decode b_M_drop 33 = .ok (.iload_n 1, 1) ∧ 33 + 1 = 34 := ⟨by decide +kernel, rfl⟩
theorem d_M_drop_34 : decode b_M_drop 34 = .ok (.iconst 0, 1) ∧ 34 + 1 = 35 := ⟨by decide +kernel, rfl⟩
theorem d_M_drop_35 : decode b_M_drop 35 = .ok (.bastore, 1) ∧ 35 + 1 = 36 := ⟨by decide +kernel, rfl⟩
theorem d_M_drop_36 : decode b_M_drop 36 = .ok (.iload_n 2, 1) ∧ 36 + 1 = 37 := ⟨by decide +kernel, rfl⟩
theorem d_M_drop_37 : decode b_M_drop 37 = .ok (.ireturn, 1) := by decide +kernel
theorem d_M_enough_0 : decode b_M_enough 0 = .ok (.aload_n 0, 1) ∧ 0 + 1 = 1 := ⟨by decide +kernel, rfl⟩
theorem d_M_enough_1 : decode b_M_enough 1 = .ok (.iload_n 1, 1) ∧ 1 + 1 = 2 := ⟨by decide +kernel, rfl⟩
theorem d_M_enough_2 : decode b_M_enough 2 = .ok (.invokestatic 137, 3) ∧ 2 + 3 = 5 := ⟨by decide +kernel, rfl⟩
theorem d_M_enough_5 : decode b_M_enough 5 = .ok (.ifCond .ne 7, 3) ∧ 5 + 3 = 8 ∧ ((5 : Nat) : Int) + 7 = ((12 : Nat) : Int) := ⟨by decide +kernel, rfl, by decide⟩
theorem d_M_enough_8 : decode b_M_enough 8 = .ok (.iconst 1, 1) ∧ 8 + 1 = 9 := ⟨by decide +kernel, rfl⟩
theorem d_M_enough_9 : decode b_M_enough 9 = .ok (.goto 4, 3) ∧ ((9 : Nat) : Int) + 4 = ((13 : Nat) : Int) := ⟨by decide +kernel, by decide⟩
theorem d_M_enough_12 : decode b_M_enough 12 = .ok (.iconst 0, 1) ∧ 12 + 1 = 13 := ⟨by decide +kernel, rfl⟩
theorem d_M_enough_13 : decode b_M_enough 13 = .ok (.iconst 0, 1) ∧ 13 + 1 = 14 := ⟨by decide +kernel, rfl⟩
theorem d_M_enough_14 : decode b_M_enough 14 = .ok (.invokevirtual 88, 3) ∧ 14 + 3 = 17 := ⟨by decide +kernel, rfl⟩
theorem d_M_enough_17 : decode b_M_enough 17 = .ok (.ifCond .ne 15, 3) ∧ 17 + 3 = 20 ∧ ((17 : Nat) : Int) + 15 = ((32 : Nat) : Int) := ⟨by decide +kernel, rfl, by decide⟩
theorem d_M_enough_20 : decode b_M_enough 20 = .ok (.aload_n 0, 1) ∧ 20 + 1 = 21 := ⟨by decide +kernel, rfl⟩
theorem d_M_enough_21 : decode b_M_enough 21 = .ok (.iload_n 1, 1) ∧ 21 + 1 = 22 := ⟨by decide +kernel, rfl⟩
theorem d_M_enough_22 : decode b_M_enough 22 = .ok (.invokevirtual 140, 3) ∧ 22 + 3 = 25 := ⟨by decide +kernel, rfl⟩
theorem d_M_enough_25 : decode b_M_enough 25 = .ok (.ifCond .eq 7, 3) ∧ 25 + 3 = 28 ∧ ((25 : Nat) : Int) + 7 = ((32 : Nat) : Int) := ⟨by decide +kernel, rfl, by decide⟩
theorem d_M_enough_28 : decode b_M_enough 28 = .ok (.iconst 1, 1) ∧ 28 + 1 = 29 := ⟨by decide +kernel, rfl⟩
theorem d_M_enough_29 : decode b_M_enough 29 = .ok (.goto 4, 3) ∧ ((29 : Nat) : Int) + 4 = ((33 : Nat) : Int) := ⟨by decide +kernel, by decide⟩
theorem d_M_enough_32 : decode b_M_enough 32 = .ok (.iconst 0, 1) ∧ 32 + 1 = 33 := ⟨by decide +kernel, rfl⟩
theorem d_M_enough_33 : decode b_M_enough 33 = .ok (.ireturn, 1) := by decide +kernel
theorem d_M_fill_0 : decode b_M_fill 0 = .ok (.aload_n 0, 1) ∧ 0 + 1 = 1 := ⟨by decide +kernel, rfl⟩
theorem d_M_fill_1 : decode b_M_fill 1 = .ok (.iload_n 1, 1) ∧ 1 + 1 = 2 := ⟨by decide +kernel, rfl⟩
theorem d_M_fill_2 : decode b_M_fill 2 = .ok (.aload_n 2, 1) ∧ 2 + 1 = 3 := ⟨by decide +kernel, rfl⟩
theorem d_M_fill_3 : decode b_M_fill 3 = .ok (.invokevirtual 124, 3) ∧ 3 + 3 = 6 := ⟨by decide +kernel, rfl⟩
theorem d_M_fill_6 : decode b_M_fill 6 = .ok (.iconst 0, 1) ∧ 6 + 1 = 7 := ⟨by decide +kernel, rfl⟩
theorem d_M_fill_7 : decode b_M_fill 7 = .ok (.istore_n 3, 1) ∧ 7 + 1 = 8 := ⟨by decide +kernel, rfl⟩
theorem d_M_fill_8 : decode b_M_fill 8 = .ok (.iload_n 3, 1) ∧ 8 + 1 = 9 := ⟨by decide +kernel, rfl⟩
theorem d_M_fill_9 : decode b_M_fill 9 = .ok (.sipush 481, 3) ∧ 9 + 3 = 12 := ⟨by decide +kernel, rfl⟩
theorem d_M_fill_12 : decode b_M_fill 12 = .ok (.if_icmp .ge 27, 3) ∧ 12 + 3 = 15 ∧ ((12 : Nat) : Int) + 27 = ((39 : Nat) : Int) := ⟨by decide +kernel, rfl, by decide⟩
theorem d_M_fill_15 : decode b_M_fill 15 = .ok (.aload_n 0, 1) ∧ 15 + 1 = 16 := ⟨by decide +kernel, rfl⟩
theorem d_M_fill_16 : decode b_M_fill 16 = .ok (.getfield 45, 3) ∧ 16 + 3 = 19 := ⟨by decide +kernel, rfl⟩
theorem d_M_fill_19 : decode b_M_fill 19 = .ok (.sipush 481, 3) ∧ 19 + 3 = 22 := ⟨by decide +kernel, rfl⟩
theorem d_M_fill_22 : decode b_M_fill 22 = .ok (.iload_n 1, 1) ∧ 22 + 1 = 23 := ⟨by decide +kernel, rfl⟩
theorem d_M_fill_23 : decode b_M_fill 23 = .ok (.imul, 1) ∧ 23 + 1 = 24 := ⟨by decide +kernel, rfl⟩
theorem d_M_fill_24 : decode b_M_fill 24 = .ok (.iload_n 3, 1) ∧ 24 + 1 = 25 := ⟨by decide +kernel, rfl⟩
theorem d_M_fill_25 : decode b_M_fill 25 = .ok (.iadd, 1) ∧ 25 + 1 = 26 := ⟨by decide +kernel, rfl⟩
theorem d_M_fill_26 : decode b_M_fill 26 = .ok (.aload_n 0, 1) ∧ 26 + 1 = 27 := ⟨by decide +kernel, rfl⟩
theorem d_M_fill_27 : decode b_M_fill 27 = .ok (.getfield 69, 3) ∧ 27 + 3 = 30 := ⟨by decide +kernel, rfl⟩
theorem d_M_fill_30 : decode b_M_fill 30 = .ok (.iload_n 3, 1) ∧ 30 + 1 = 31 := ⟨by decide +kernel, rfl⟩
theorem d_M_fill_31 : decode b_M_fill 31 = .ok (.iaload, 1) ∧ 31 + 1 = 32 := ⟨by decide +kernel, rfl⟩
theorem d_M_fill_32 : decode b_M_fill 32 = .ok (.iastore, 1) ∧ 32 + 1 = 33 := ⟨by decide +kernel, rfl⟩
theorem d_M_fill_33 : decode b_M_fill 33 = .ok (.iinc 3 1, 3) ∧ 33 + 3 = 36 := ⟨by decide +kernel, rfl⟩
theorem d_M_fill_36 : decode b_M_fill 36 = .ok (.goto (-28), 3) ∧ ((36 : Nat) : Int) + (-28) = ((8 : Nat) : Int) := ⟨by decide +kernel, by decide⟩
theorem d_M_fill_39 : decode b_M_fill 39 = .ok (.aload_n 0, 1) ∧ 39 + 1 = 40 := ⟨by decide +kernel, rfl⟩
theorem d_M_fill_40 : decode b_M_fill 40 = .ok (.getfield 42, 3) ∧ 40 + 3 = 43 := ⟨by decide +kernel, rfl⟩
theorem d_M_fill_43 : decode b_M_fill 43 = .ok (.iload_n 1, 1) ∧ 43 + 1 = 44 := ⟨by decide +kernel, rfl⟩
theorem d_M_fill_44 : decode b_M_fill 44 = .ok (.iconst 1, 1) ∧ 44 + 1 = 45 := ⟨by decide +kernel, rfl⟩
theorem d_M_fill_45 : decode b_M_fill 45 = .ok (.bastore, 1) ∧ 45 + 1 = 46 := ⟨by decide +kernel, rfl⟩
theorem d_M_fill_46 : decode b_M_fill 46 = .ok (.return_, 1) := by decide +kernel
theorem d_M_filledOnes_0 : decode b_M_filledOnes 0 = .ok (.iconst 0, 1) ∧ 0 + 1 = 1 := ⟨by decide +kernel, rfl⟩
theorem d_M_filledOnes_1 : decode b_M_filledOnes 1 = .ok (.istore_n 1, 1) ∧ 1 + 1 = 2 := ⟨by decide +kernel, rfl⟩
theorem d_M_filledOnes_2 : decode b_M_filledOnes 2 = .ok (.iconst 0, 1) ∧ 2 + 1 = 3 := ⟨by decide +kernel, rfl⟩
theorem d_M_filledOnes_3 : decode b_M_filledOnes 3 = .ok (.istore_n 2, 1) ∧ 3 + 1 = 4 := ⟨by decide +kernel, rfl⟩
theorem d_M_filledOnes_4 : decode b_M_filledOnes 4 = .ok (.iload_n 2, 1) ∧ 4 + 1 = 5 := ⟨by decide +kernel, rfl⟩
theorem d_M_filledOnes_5 : decode b_M_filledOnes 5 = .ok (.bipush 8, 2) ∧ 5 + 2 = 7 := ⟨by decide +kernel, rfl⟩
theorem d_M_filledOnes_7 : decode b_M_filledOnes 7 = .ok (.if_icmp .ge 28, 3) ∧ 7 + 3 = 10 ∧ ((7 : Nat) : Int) + 28 = ((35 : Nat) : Int) := ⟨by decide +kernel, rfl, by decide⟩
theorem d_M_filledOnes_10 : decode b_M_filledOnes 10 = .ok (.iload_n 1, 1) ∧ 10 + 1 = 11 := ⟨by decide +kernel, rfl⟩
end
section
theorem d_M_filledOnes_11 : decode b_M_filledOnes 11 = .ok (.aload_n 0, 1) ∧ 11 + 1 = 12 := ⟨by decide +kernel, rfl⟩
theorem d_M_filledOnes_12 : decode b_M_filledOnes 12 = .ok (.getfield 42, 3) ∧ 12 + 3 = 15 := ⟨by decide +kernel, rfl⟩
theorem d_M_filledOnes_15 : decode b_M_filledOnes 15 = .ok (.iload_n 2, 1) ∧ 15 + 1 = 16 := ⟨by decide +kernel, rfl⟩
theorem d_M_filledOnes_16 : decode b_M_filledOnes 16 = .ok (.baload, 1) ∧ 16 + 1 = 17 := ⟨by decide +kernel, rfl⟩
theorem d_M_filledOnes_17 : decode b_M_filledOnes 17 = .ok (.ifCond .eq 9, 3) ∧ 17 + 3 = 20 ∧ ((17 : Nat) : Int) + 9 = ((26 : Nat) : Int) := ⟨by decide +kernel, rfl, by decide⟩
theorem d_M_filledOnes_20 : decode b_M_filledOnes 20 = .ok (.iconst 1, 1) ∧ 20 + 1 = 21 := ⟨by decide +kernel, rfl⟩
theorem d_M_filledOnes_21 : decode b_M_filledOnes 21 = .ok (.iload_n 2, 1) ∧ 21 + 1 = 22 := ⟨by decide +kernel, rfl⟩
theorem d_M_filledOnes_22 : decode b_M_filledOnes 22 = .ok (.ishl, 1) ∧ 22 + 1 = 23 := ⟨by decide +kernel, rfl⟩
theorem d_M_filledOnes_23 : decode b_M_filledOnes 23 = .ok (.goto 4, 3) ∧ ((23 : Nat) : Int) + 4 = ((27 : Nat) : Int) := ⟨by decide +kernel, by decide⟩
theorem d_M_filledOnes_26 : decode b_M_filledOnes 26 = .ok (.iconst 0, 1) ∧ 26 + 1 = 27 := ⟨by decide +kernel, rfl⟩
theorem d_M_filledOnes_27 : decode b_M_filledOnes 27 = .ok (.iadd, 1) ∧ 27 + 1 = 28 := ⟨by decide +kernel, rfl⟩
theorem d_M_filledOnes_28 : decode b_M_filledOnes 28 = .ok (.istore_n 1, 1) ∧ 28 + 1 = 29 := ⟨by decide +kernel, rfl⟩
theorem d_M_filledOnes_29 : decode b_M_filledOnes 29 = .ok (.iinc 2 1, 3) ∧ 29 + 3 = 32 := ⟨by decide +kernel, rfl⟩
theorem d_M_filledOnes_32 : decode b_M_filledOnes 32 = .ok (.goto (-28), 3) ∧ ((32 : Nat) : Int) + (-28) = ((4 : Nat) : Int) := ⟨by decide +kernel, by decide⟩
theorem d_M_filledOnes_35 : decode b_M_filledOnes 35 = .ok (.iload_n 1, 1) ∧ 35 + 1 = 36 := ⟨by decide +kernel, rfl⟩
theorem d_M_filledOnes_36 : decode b_M_filledOnes 36 = .ok (.ireturn, 1) := by decide +kernel
theorem d_M_ghost_0 : decode b_M_ghost 0 = .ok (.iload_n 1, 1) ∧ 0 + 1 = 1 := ⟨by decide +kernel, rfl⟩
theorem d_M_ghost_1 : decode b_M_ghost 1 = .ok (.invokestatic 137, 3) ∧ 1 + 3 = 4 := ⟨by decide +kernel, rfl⟩
theorem d_M_ghost_4 : decode b_M_ghost 4 = .ok (.ifCond .ne 7, 3) ∧ 4 + 3 = 7 ∧ ((4 : Nat) : Int) + 7 = ((11 : Nat) : Int) := ⟨by decide +kernel, rfl, by decide⟩
theorem d_M_ghost_7 : decode b_M_ghost 7 = .ok (.iconst 1, 1) ∧ 7 + 1 = 8 := ⟨by decide +kernel, rfl⟩
theorem d_M_ghost_8 : decode b_M_ghost 8 = .ok (.goto 4, 3) ∧ ((8 : Nat) : Int) + 4 = ((12 : Nat) : Int) := ⟨by decide +kernel, by decide⟩
theorem d_M_ghost_11 : decode b_M_ghost 11 = .ok (.iconst 0, 1) ∧ 11 + 1 = 12 := ⟨by decide +kernel, rfl⟩
theorem d_M_ghost_12 : decode b_M_ghost 12 = .ok (.istore 4, 2) ∧ 12 + 2 = 14 := ⟨by decide +kernel, rfl⟩
theorem d_M_ghost_14 : decode b_M_ghost 14 = .ok (.aload_n 0, 1) ∧ 14 + 1 = 15 := ⟨by decide +kernel, rfl⟩
theorem d_M_ghost_15 : decode b_M_ghost 15 = .ok (.iload 4, 2) ∧ 15 + 2 = 17 := ⟨by decide +kernel, rfl⟩
theorem d_M_ghost_17 : decode b_M_ghost 17 = .ok (.aload_n 0, 1) ∧ 17 + 1 = 18 := ⟨by decide +kernel, rfl⟩
theorem d_M_ghost_18 : decode b_M_ghost 18 = .ok (.iload_n 2, 1) ∧ 18 + 1 = 19 := ⟨by decide +kernel, rfl⟩
theorem d_M_ghost_19 : decode b_M_ghost 19 = .ok (.iload_n 3, 1) ∧ 19 + 1 = 20 := ⟨by decide +kernel, rfl⟩
theorem d_M_ghost_20 : decode b_M_ghost 20 = .ok (.invokevirtual 99, 3) ∧ 20 + 3 = 23 := ⟨by decide +kernel, rfl⟩
theorem d_M_ghost_23 : decode b_M_ghost 23 = .ok (.ifCond .ne 7, 3) ∧ 23 + 3 = 26 ∧ ((23 : Nat) : Int) + 7 = ((30 : Nat) : Int) := ⟨by decide +kernel, rfl, by decide⟩
theorem d_M_ghost_26 : decode b_M_ghost 26 = .ok (.iconst 1, 1) ∧ 26 + 1 = 27 := ⟨by decide +kernel, rfl⟩
theorem d_M_ghost_27 : decode b_M_ghost 27 = .ok (.goto 4, 3) ∧ ((27 : Nat) : Int) + 4 = ((31 : Nat) : Int) := ⟨by decide +kernel, by decide⟩
theorem d_M_ghost_30 : decode b_M_ghost 30 = .ok (.iconst 0, 1) ∧ 30 + 1 = 31 := ⟨by decide +kernel, rfl⟩
theorem d_M_ghost_31 : decode b_M_ghost 31 = .ok (.invokevirtual 88, 3) ∧ 31 + 3 = 34 := ⟨by decide +kernel, rfl⟩
theorem d_M_ghost_34 : decode b_M_ghost 34 = .ok (.ifCond .eq 5, 3) ∧ 34 + 3 = 37 ∧ ((34 : Nat) : Int) + 5 = ((39 : Nat) : Int) := ⟨by decide +kernel, rfl, by decide⟩
theorem d_M_ghost_37 : decode b_M_ghost 37 = .ok (.iconst 0, 1) ∧ 37 + 1 = 38 := ⟨by decide +kernel, rfl⟩
theorem d_M_ghost_38 : decode b_M_ghost 38 = .ok (.ireturn, 1) := by decide +kernel
theorem d_M_ghost_39 : decode b_M_ghost 39 = .ok (.aload_n 0, 1) ∧ 39 + 1 = 40 := ⟨by decide +kernel, rfl⟩
theorem d_M_ghost_40 : decode b_M_ghost 40 = .ok (.iload_n 1, 1) ∧ 40 + 1 = 41 := ⟨by decide +kernel, rfl⟩
theorem d_M_ghost_41 : decode b_M_ghost 41 = .ok (.invokevirtual 140, 3) ∧ 41 + 3 = 44 := ⟨by decide +kernel, rfl⟩
theorem d_M_ghost_44 : decode b_M_ghost 44 = .ok (.ifCond .eq 10, 3) ∧ 44 + 3 = 47 ∧ ((44 : Nat) : Int) + 10 = ((54 : Nat) : Int) := ⟨by decide +kernel, rfl, by decide⟩
theorem d_M_ghost_47 : decode b_M_ghost 47 = .ok (.aload_n 0, 1) ∧ 47 + 1 = 48 := ⟨by decide +kernel, rfl⟩
theorem d_M_ghost_48 : decode b_M_ghost 48 = .ok (.iconst 3, 1) ∧ 48 + 1 = 49 := ⟨by decide +kernel, rfl⟩
theorem d_M_ghost_49 : decode b_M_ghost 49 = .ok (.putfield 81, 3) ∧ 49 + 3 = 52 := ⟨by decide +kernel, rfl⟩
theorem d_M_ghost_52 : decode b_M_ghost 52 = .ok (.iconst 0, 1) ∧ 52 + 1 = 53 := ⟨by decide +kernel, rfl⟩
theorem d_M_ghost_53 : decode b_M_ghost 53 = .ok (.ireturn, 1) := by decide +kernel
theorem d_M_ghost_54 : decode b_M_ghost 54 = .ok (.iconst 0, 1) ∧ 54 + 1 = 55 := ⟨by decide +kernel, rfl⟩
theorem d_M_ghost_55 : decode b_M_ghost 55 = .ok (.istore 5, 2) ∧ 55 + 2 = 57 := ⟨by decide +kernel, rfl⟩
theorem d_M_ghost_57 : decode b_M_ghost 57 = .ok (.iload 5, 2) ∧ 57 + 2 = 59 := ⟨by decide +kernel, rfl⟩
theorem d_M_ghost_59 : decode b_M_ghost 59 = .ok (.sipush 512, 3) ∧ 59 + 3 = 62 := ⟨by decide +kernel, rfl⟩
theorem d_M_ghost_62 : decode b_M_ghost 62 = .ok (.if_icmp .ge 17, 3) ∧ 62 + 3 = 65 ∧ ((62 : Nat) : Int) + 17 = ((79 : Nat) : Int) := ⟨by decide +kernel, rfl, by decide⟩
theorem d_M_ghost_65 : decode b_M_ghost 65 = .ok (.aload_n 0, 1) ∧ 65 + 1 = 66 := ⟨by decide +kernel, rfl⟩
theorem d_M_ghost_66 : decode b_M_ghost 66 = .ok (.getfield 75, 3) ∧ 66 + 3 = 69 := ⟨by decide +kernel, rfl⟩
theorem d_M_ghost_69 : decode b_M_ghost 69 = .ok (.iload 5, 2) ∧ 69 + 2 = 71 := ⟨by decide +kernel, rfl⟩
theorem d_M_ghost_71 : decode b_M_ghost 71 = .ok (.iconst 0, 1) ∧ 71 + 1 = 72 := ⟨by decide +kernel, rfl⟩
theorem d_M_ghost_72 : decode b_M_ghost 72 = .ok (.iastore, 1) ∧ 72 + 1 = 73 := ⟨by decide +kernel, rfl⟩
theorem d_M_ghost_73 : decode b_M_ghost 73 = .ok (.iinc 5 1, 3) ∧ 73 + 3 = 76 := ⟨by decide +kernel, rfl⟩
theorem d_M_ghost_76 : decode b_M_ghost 76 = .ok (.goto (-19), 3) ∧ ((76 : Nat) : Int) + (-19) = ((57 : Nat) : Int) := ⟨by decide +kernel, by decide⟩
theorem d_M_ghost_79 : decode b_M_ghost 79 = .ok (.aload_n 0, 1) ∧ 79 + 1 = 80 := ⟨by decide +kernel, rfl⟩
theorem d_M_ghost_80 : decode b_M_ghost 80 = .ok (.getfield 75, 3) ∧ 80 + 3 = 83 := ⟨by decide +kernel, rfl⟩
theorem d_M_ghost_83 : decode b_M_ghost 83 = .ok (.bipush 16, 2) ∧ 83 + 2 = 85 := ⟨by decide +kernel, rfl⟩
theorem d_M_ghost_85 : decode b_M_ghost 85 = .ok (.iconst 1, 1) ∧ 85 + 1 = 86 := ⟨by decide +kernel, rfl⟩
theorem d_M_ghost_86 : decode b_M_ghost 86 = .ok (.iastore, 1) ∧ 86 + 1 = 87 := ⟨by decide +kernel, rfl⟩
theorem d_M_ghost_87 : decode b_M_ghost 87 = .ok (.iconst 0, 1) ∧ 87 + 1 = 88 := ⟨by decide +kernel, rfl⟩
theorem d_M_ghost_88 : decode b_M_ghost 88 = .ok (.istore 5, 2) ∧ 88 + 2 = 90 := ⟨by decide +kernel, rfl⟩
theorem d_M_ghost_90 : decode b_M_ghost 90 = .ok (.iload 5, 2) ∧ 90 + 2 = 92 := ⟨by decide +kernel, rfl⟩
theorem d_M_ghost_92 : decode b_M_ghost 92 = .ok (.bipush 8, 2) ∧ 92 + 2 = 94 := ⟨by decide +kernel, rfl⟩
theorem d_M_ghost_94 : decode b_M_ghost 94 = .ok (.if_icmp .ge 37, 3) ∧ 94 + 3 = 97 ∧ ((94 : Nat) : Int) + 37 = ((131 : Nat) : Int) := ⟨by decide +kernel, rfl, by decide⟩
theorem d_M_ghost_97 : decode b_M_ghost 97 = .ok (.aload_n 0, 1) ∧ 97 + 1 = 98 := ⟨by decide +kernel, rfl⟩
theorem d_M_ghost_98 : decode b_M_ghost 98 = .ok (.iload_n 1, 1) ∧ 98 + 1 = 99 := ⟨by decide +kernel, rfl⟩
theorem d_M_ghost_99 : decode b_M_ghost 99 = .ok (.iload 5, 2) ∧ 99 + 2 = 101 := ⟨by decide +kernel, rfl⟩
theorem d_M_ghost_101 : decode b_M_ghost 101 = .ok (.invokevirtual 134, 3) ∧ 101 + 3 = 104 := ⟨by decide +kernel, rfl⟩
theorem d_M_ghost_104 : decode b_M_ghost 104 = .ok (.ifCond .eq 21, 3) ∧ 104 + 3 = 107 ∧ ((104 : Nat) : Int) + 21 = ((125 : Nat) : Int) := ⟨by decide +kernel, rfl, by decide⟩
theorem d_M_ghost_107 : decode b_M_ghost 107 = .ok (.aload_n 0, 1) ∧ 107 + 1 = 108 := ⟨by decide +kernel, rfl⟩
theorem d_M_ghost_108 : decode b_M_ghost 108 = .ok (.aload_n 0, 1) ∧ 108 + 1 = 109 := ⟨by decide +kernel, rfl⟩
theorem d_M_ghost_109 : decode b_M_ghost 109 = .ok (.getfield 36, 3) ∧ 109 + 3 = 112 := ⟨by decide +kernel, rfl⟩
theorem d_M_ghost_112 : decode b_M_ghost 112 = .ok (.iload 5, 2) ∧ 112 + 2 = 114 := ⟨by decide +kernel, rfl⟩
theorem d_M_ghost_114 : decode b_M_ghost 114 = .ok (.iaload, 1) ∧ 114 + 1 = 115 := ⟨by decide +kernel, rfl⟩
theorem d_M_ghost_115 : decode b_M_ghost 115 = .ok (.aload_n 0, 1) ∧ 115 + 1 = 116 := ⟨by decide +kernel, rfl⟩
theorem d_M_ghost_116 : decode b_M_ghost 116 = .ok (.getfield 39, 3) ∧ 116 + 3 = 119 := ⟨by decide +kernel, rfl⟩
theorem d_M_ghost_119 : decode b_M_ghost 119 = .ok (.iload 5, 2) ∧ 119 + 2 = 121 := ⟨by decide +kernel, rfl⟩
theorem d_M_ghost_121 : decode b_M_ghost 121 = .ok (.iaload, 1) ∧ 121 + 1 = 122 := ⟨by decide +kernel, rfl⟩
theorem d_M_ghost_122 : decode b_M_ghost 122 = .ok (.invokevirtual 180, 3) ∧ 122 + 3 = 125 := ⟨by decide +kernel, rfl⟩
theorem d_M_ghost_125 : decode b_M_ghost 125 = .ok (.iinc 5 1, 3) ∧ 125 + 3 = 128 := ⟨by decide +kernel, rfl⟩
theorem d_M_ghost_128 : decode b_M_ghost 128 = .ok (.goto (-38), 3) ∧ ((128 : Nat) : Int) + (-38) = ((90 : Nat) : Int) := ⟨by decide +kernel, by decide⟩
theorem d_M_ghost_131 : decode b_M_ghost 131 = .ok (.aload_n 0, 1) ∧ 131 + 1 = 132 := ⟨by decide +kernel, rfl⟩
theorem d_M_ghost_132 : decode b_M_ghost 132 = .ok (.getfield 75, 3) ∧ 132 + 3 = 135 := ⟨by decide +kernel, rfl⟩
theorem d_M_ghost_135 : decode b_M_ghost 135 = .ok (.bipush 32, 2) ∧ 135 + 2 = 137 := ⟨by decide +kernel, rfl⟩
theorem d_M_ghost_137 : decode b_M_ghost 137 = .ok (.iload_n 3, 1) ∧ 137 + 1 = 138 := ⟨by decide +kernel, rfl⟩
theorem d_M_ghost_138 : decode b_M_ghost 138 = .ok (.imul, 1) ∧ 138 + 1 = 139 := ⟨by decide +kernel, rfl⟩
theorem d_M_ghost_139 : decode b_M_ghost 139 = .ok (.iload_n 2, 1) ∧ 139 + 1 = 140 := ⟨by decide +kernel, rfl⟩
theorem d_M_ghost_140 : decode b_M_ghost 140 = .ok (.iadd, 1) ∧ 140 + 1 = 141 := ⟨by decide +kernel, rfl⟩
theorem d_M_ghost_141 : decode b_M_ghost 141 = .ok (.aload_n 0, 1) ∧ 141 + 1 = 142 := ⟨by decide +kernel, rfl⟩
theorem d_M_ghost_142 : decode b_M_ghost 142 = .ok (.invokevirtual 183, 3) ∧ 142 + 3 = 145 := ⟨by decide +kernel, rfl⟩
theorem d_M_ghost_145 : decode b_M_ghost 145 = .ok (.iadd, 1) ∧ 145 + 1 = 146 := ⟨by decide +kernel, rfl⟩
theorem d_M_ghost_146 : decode b_M_ghost 146 = .ok (.iaload, 1) ∧ 146 + 1 = 147 := ⟨by decide +kernel, rfl⟩
theorem d_M_ghost_147 : decode b_M_ghost 147 = .ok (.ireturn, 1) := by decide +kernel
theorem d_M_hasDirection_0 : decode b_M_hasDirection 0 = .ok (.iload_n 1, 1) ∧ 0 + 1 = 1 := ⟨by decide +kernel, rfl⟩
theorem d_M_hasDirection_1 : decode b_M_hasDirection 1 = .ok (.invokestatic 84, 3) ∧ 1 + 3 = 4 := ⟨by decide +kernel, rfl⟩
theorem d_M_hasDirection_4 : decode b_M_hasDirection 4 = .ok (.ifCond .eq 16, 3) ∧ 4 + 3 = 7 ∧ ((4 : Nat) : Int) + 16 = ((20 : Nat) : Int) := ⟨by decide +kernel, rfl, by decide⟩
theorem d_M_hasDirection_7 : decode b_M_hasDirection 7 = .ok (.aload_n 0, 1) ∧ 7 + 1 = 8 := ⟨by decide +kernel, rfl⟩
theorem d_M_hasDirection_8 : decode b_M_hasDirection 8 = .ok (.getfield 33, 3) ∧ 8 + 3 = 11 := ⟨by decide +kernel, rfl⟩
theorem d_M_hasDirection_11 : decode b_M_hasDirection 11 = .ok (.iload_n 1, 1) ∧ 11 + 1 = 12 := ⟨by decide +kernel, rfl⟩
theorem d_M_hasDirection_12 : decode b_M_hasDirection 12 = .ok (.baload, 1) ∧ 12 + 1 = 13 := ⟨by decide +kernel, rfl⟩
theorem d_M_hasDirection_13 : decode b_M_hasDirection 13 = .ok (.ifCond .eq 7, 3) ∧ 13 + 3 = 16 ∧ ((13 : Nat) : Int) + 7 = ((20 : Nat) : Int) := ⟨by decide +kernel, rfl, by decide⟩
theorem d_M_hasDirection_16 : decode b_M_hasDirection 16 = .ok (.iconst 1, 1) ∧ 16 + 1 = 17 := ⟨by decide +kernel, rfl⟩
theorem d_M_hasDirection_17 : decode b_M_hasDirection 17 = .ok (.goto 4, 3) ∧ ((17 : Nat) : Int) + 4 = ((21 : Nat) : Int) := ⟨by decide +kernel, by decide⟩
theorem d_M_hasDirection_20 : decode b_M_hasDirection 20 = .ok (.iconst 0, 1) ∧ 20 + 1 = 21 := ⟨by decide +kernel, rfl⟩
theorem d_M_hasDirection_21 : decode b_M_hasDirection 21 = .ok (.ireturn, 1) := by decide +kernel
theorem d_M_hasNoBin_0 : decode b_M_hasNoBin 0 = .ok (.aload_n 0, 1) ∧ 0 + 1 = 1 := ⟨by decide +kernel, rfl⟩
theorem d_M_hasNoBin_1 : decode b_M_hasNoBin 1 = .ok (.iload_n 1, 1) ∧ 1 + 1 = 2 := ⟨by decide +kernel, rfl⟩
theorem d_M_hasNoBin_2 : decode b_M_hasNoBin 2 = .ok (.invokestatic 84, 3) ∧ 2 + 3 = 5 := ⟨by decide +kernel, rfl⟩
theorem d_M_hasNoBin_5 : decode b_M_hasNoBin 5 = .ok (.ifCond .ne 7, 3) ∧ 5 + 3 = 8 ∧ ((5 : Nat) : Int) + 7 = ((12 : Nat) : Int) := ⟨by decide +kernel, rfl, by decide⟩
theorem d_M_hasNoBin_8 : decode b_M_hasNoBin 8 = .ok (.iconst 1, 1) ∧ 8 + 1 = 9 := ⟨by decide +kernel, rfl⟩
theorem d_M_hasNoBin_9 : decode b_M_hasNoBin 9 = .ok (.goto 4, 3) ∧ ((9 : Nat) : Int) + 4 = ((13 : Nat) : Int) := ⟨by decide +kernel, by decide⟩
theorem d_M_hasNoBin_12 : decode b_M_hasNoBin 12 = .ok (.iconst 0, 1) ∧ 12 + 1 = 13 := ⟨by decide +kernel, rfl⟩
theorem d_M_hasNoBin_13 : decode b_M_hasNoBin 13 = .ok (.aload_n 0, 1) ∧ 13 + 1 = 14 := ⟨by decide +kernel, rfl⟩
theorem d_M_hasNoBin_14 : decode b_M_hasNoBin 14 = .ok (.iload_n 1, 1) ∧ 14 + 1 = 15 := ⟨by decide +kernel, rfl⟩
theorem d_M_hasNoBin_15 : decode b_M_hasNoBin 15 = .ok (.invokevirtual 114, 3) ∧ 15 + 3 = 18 := ⟨by decide +kernel, rfl⟩
theorem d_M_hasNoBin_18 : decode b_M_hasNoBin 18 = .ok (.ifCond .eq 12, 3) ∧ 18 + 3 = 21 ∧ ((18 : Nat) : Int) + 12 = ((30 : Nat) : Int) := ⟨by decide +kernel, rfl, by decide⟩
theorem d_M_hasNoBin_21 : decode b_M_hasNoBin 21 = .ok (.aload_n 0, 1) ∧ 21 + 1 = 22 := ⟨by decide +kernel, rfl⟩
theorem d_M_hasNoBin_22 : decode b_M_hasNoBin 22 = .ok (.getfield 42, 3) ∧ 22 + 3 = 25 := ⟨by decide +kernel, rfl⟩
theorem d_M_hasNoBin_25 : decode b_M_hasNoBin 25 = .ok (.iload_n 1, 1) ∧ 25 + 1 = 26 := ⟨by decide +kernel, rfl⟩
theorem d_M_hasNoBin_26 : decode b_M_hasNoBin 26 = .ok (.baload, 1) ∧ 26 + 1 = 27 := ⟨by decide +kernel, rfl⟩
theorem d_M_hasNoBin_27 : decode b_M_hasNoBin 27 = .ok (.ifCond .ne 7, 3) ∧ 27 + 3 = 30 ∧ ((27 : Nat) : Int) + 7 = ((34 : Nat) : Int) := ⟨by decide +kernel, rfl, by decide⟩
theorem d_M_hasNoBin_30 : decode b_M_hasNoBin 30 = .ok (.iconst 1, 1) ∧ 30 + 1 = 31 := ⟨by decide +kernel, rfl⟩
theorem d_M_hasNoBin_31 : decode b_M_hasNoBin 31 = .ok (.goto 4, 3) ∧ ((31 : Nat) : Int) + 4 = ((35 : Nat) : Int) := ⟨by decide +kernel, by decide⟩
theorem d_M_hasNoBin_34 : decode b_M_hasNoBin 34 = .ok (.iconst 0, 1) ∧ 34 + 1 = 35 := ⟨by decide +kernel, rfl⟩
theorem d_M_hasNoBin_35 : decode b_M_hasNoBin 35 = .ok (.invokevirtual 88, 3) ∧ 35 + 3 = 38 := ⟨by decide +kernel, rfl⟩
theorem d_M_hasNoBin_38 : decode b_M_hasNoBin 38 = .ok (.ifCond .eq 5, 3) ∧ 38 + 3 = 41 ∧ ((38 : Nat) : Int) + 5 = ((43 : Nat) : Int) := ⟨by decide +kernel, rfl, by decide⟩
theorem d_M_hasNoBin_41 : decode b_M_hasNoBin 41 = .ok (.iconst 1, 1) ∧ 41 + 1 = 42 := ⟨by decide +kernel, rfl⟩
theorem d_M_hasNoBin_42 : decode b_M_hasNoBin 42 = .ok (.ireturn, 1) := by decide +kernel
theorem d_M_hasNoBin_43 : decode b_M_hasNoBin 43 = .ok (.aload_n 0, 1) ∧ 43 + 1 = 44 := ⟨by decide +kernel, rfl⟩
theorem d_M_hasNoBin_44 : decode b_M_hasNoBin 44 = .ok (.iload_n 2, 1) ∧ 44 + 1 = 45 := ⟨by decide +kernel, rfl⟩
theorem d_M_hasNoBin_45 : decode b_M_hasNoBin 45 = .ok (.ifCond .lt 12, 3) ∧ 45 + 3 = 48 ∧ ((45 : Nat) : Int) + 12 = ((57 : Nat) : Int) := ⟨by decide +kernel, rfl, by decide⟩
theorem d_M_hasNoBin_48 : decode b_M_hasNoBin 48 = .ok (.iload_n 2, 1) ∧ 48 + 1 = 49 := ⟨by decide +kernel, rfl⟩
theorem d_M_hasNoBin_49 : decode b_M_hasNoBin 49 = .ok (.aload_n 0, 1) ∧ 49 + 1 = 50 := ⟨by decide +kernel, rfl⟩
theorem d_M_hasNoBin_50 : decode b_M_hasNoBin 50 = .ok (.iload_n 1, 1) ∧ 50 + 1 = 51 := ⟨by decide +kernel, rfl⟩
theorem d_M_hasNoBin_51 : decode b_M_hasNoBin 51 = .ok (.invokevirtual 117, 3) ∧ 51 + 3 = 54 := ⟨by decide +kernel, rfl⟩
theorem d_M_hasNoBin_54 : decode b_M_hasNoBin 54 = .ok (.if_icmp .lt 7, 3) ∧ 54 + 3 = 57 ∧ ((54 : Nat) : Int) + 7 = ((61 : Nat) : Int) := ⟨by decide +kernel, rfl, by decide⟩
theorem d_M_hasNoBin_57 : decode b_M_hasNoBin 57 = .ok (.iconst 1, 1) ∧ 57 + 1 = 58 := ⟨by decide +kernel, rfl⟩
theorem d_M_hasNoBin_58 : decode b_M_hasNoBin 58 = .ok (.goto 4, 3) ∧ ((58 : Nat) : Int) + 4 = ((62 : Nat) : Int) := ⟨by decide +kernel, by decide⟩
theorem d_M_hasNoBin_61 : decode b_M_hasNoBin 61 = .ok (.iconst 0, 1) ∧ 61 + 1 = 62 := ⟨by decide +kernel, rfl⟩
theorem d_M_hasNoBin_62 : decode b_M_hasNoBin 62 = .ok (.iconst 0, 1) ∧ 62 + 1 = 63 := ⟨by decide +kernel, rfl⟩
theorem d_M_hasNoBin_63 : decode b_M_hasNoBin 63 = .ok (.invokevirtual 88, 3) ∧ 63 + 3 = 66 := ⟨by decide +kernel, rfl⟩
theorem d_M_hasNoBin_66 : decode b_M_hasNoBin 66 = .ok (.ireturn, 1) := by decide +kernel
theorem d_M_haveFactor_0 : decode b_M_haveFactor 0 = .ok (.iload_n 0, 1) ∧ 0 + 1 = 1 := ⟨by decide +kernel, rfl⟩
theorem d_M_haveFactor_1 : decode b_M_haveFactor 1 = .ok (.ifCond .ne 11, 3) ∧ 1 + 3 = 4 ∧ ((1 : Nat) : Int) + 11 = ((12 : Nat) : Int) := ⟨by decide +kernel, rfl, by decide⟩
theorem d_M_haveFactor_4 : decode b_M_haveFactor 4 = .ok (.iload_n 1, 1) ∧ 4 + 1 = 5 := ⟨by decide +kernel, rfl⟩
theorem d_M_haveFactor_5 : decode b_M_haveFactor 5 = .ok (.ifCond .ne 7, 3) ∧ 5 + 3 = 8 ∧ ((5 : Nat) : Int) + 7 = ((12 : Nat) : Int) := ⟨by decide +kernel, rfl, by decide⟩
theorem d_M_haveFactor_8 : decode b_M_haveFactor 8 = .ok (.iconst 1, 1) ∧ 8 + 1 = 9 := ⟨by decide +kernel, rfl⟩
theorem d_M_haveFactor_9 : decode b_M_haveFactor 9 = .ok (.goto 4, 3) ∧ ((9 : Nat) : Int) + 4 = ((13 : Nat) : Int) := ⟨by decide +kernel, by decide⟩
theorem d_M_haveFactor_12 : decode b_M_haveFactor 12 = .ok (.iconst 0, 1) ∧ 12 + 1 = 13 := ⟨by decide +kernel, rfl⟩
theorem d_M_haveFactor_13 : decode b_M_haveFactor 13 = .ok (.istore_n 2, 1) ∧ 13 + 1 = 14 := ⟨by decide +kernel, rfl⟩
theorem d_M_haveFactor_14 : decode b_M_haveFactor 14 = .ok (.iconst 2, 1) ∧ 14 + 1 = 15 := ⟨by decide +kernel, rfl⟩
theorem d_M_haveFactor_15 : decode b_M_haveFactor 15 = .ok (.istore_n 3, 1) ∧ 15 + 1 = 16 := ⟨by decide +kernel, rfl⟩
theorem d_M_haveFactor_16 : decode b_M_haveFactor 16 = .ok (.iload_n 3, 1) ∧ 16 + 1 = 17 := ⟨by decide +kernel, rfl⟩
theorem d_M_haveFactor_17 : decode b_M_haveFactor 17 = .ok (.bipush 16, 2) ∧ 17 + 2 = 19 := ⟨by decide +kernel, rfl⟩
theorem d_M_haveFactor_19 : decode b_M_haveFactor 19 = .ok (.if_icmp .gt 31, 3) ∧ 19 + 3 = 22 ∧ ((19 : Nat) : Int) + 31 = ((50 : Nat) : Int) := ⟨by decide +kernel, rfl, by decide⟩
theorem d_M_haveFactor_22 : decode b_M_haveFactor 22 = .ok (.iload_n 2, 1) ∧ 22 + 1 = 23 := ⟨by decide +kernel, rfl⟩
theorem d_M_haveFactor_23 : decode b_M_haveFactor 23 = .ok (.ifCond .ne 15, 3) ∧ 23 + 3 = 26 ∧ ((23 : Nat) : Int) + 15 = ((38 : Nat) : Int) := ⟨by decide +kernel, rfl, by decide⟩
theorem d_M_haveFactor_26 : decode b_M_haveFactor 26 = .ok (.iload_n 0, 1) ∧ 26 + 1 = 27 := ⟨by decide +kernel, rfl⟩
theorem d_M_haveFactor_27 : decode b_M_haveFactor 27 = .ok (.iload_n 3, 1) ∧ 27 + 1 = 28 := ⟨by decide +kernel, rfl⟩
theorem d_M_haveFactor_28 : decode b_M_haveFactor 28 = .ok (.irem, 1) ∧ 28 + 1 = 29 := ⟨by decide +kernel, rfl⟩
theorem d_M_haveFactor_29 : decode b_M_haveFactor 29 = .ok (.ifCond .ne 13, 3) ∧ 29 + 3 = 32 ∧ ((29 : Nat) : Int) + 13 = ((42 : Nat) : Int) := ⟨by decide +kernel, rfl, by decide⟩
theorem d_M_haveFactor_32 : decode b_M_haveFactor 32 = .ok (.iload_n 1, 1) ∧ 32 + 1 = 33 := ⟨by decide +kernel, rfl⟩
theorem d_M_haveFactor_33 : decode b_M_haveFactor 33 = .ok (.iload_n 3, 1) ∧ 33 + 1 = 34 := ⟨by decide +kernel, rfl⟩
theorem d_M_haveFactor_34 : decode b_M_haveFactor 34 = .ok (.irem, 1) ∧ 34 + 1 = 35 := ⟨by decide +kernel, rfl⟩
theorem d_M_haveFactor_35 : decode b_M_haveFactor 35 = .ok (.ifCond .ne 7, 3) ∧ 35 + 3 = 38 ∧ ((35 : Nat) : Int) + 7 = ((42 : Nat) : Int) := ⟨by decide +kernel, rfl, by decide⟩
theorem d_M_haveFactor_38 : decode b_M_haveFactor 38 = .ok (.iconst 1, 1) ∧ 38 + 1 = 39 := ⟨by decide +kernel, rfl⟩
theorem d_M_haveFactor_39 : decode b_M_haveFactor 39 = .ok (.goto 4, 3) ∧ ((39 : Nat) : Int) + 4 = ((43 : Nat) : Int) := ⟨by decide +kernel, by decide⟩
theorem d_M_haveFactor_42 : decode b_M_haveFactor 42 = .ok (.iconst 0, 1) ∧ 42 + 1 = 43 := ⟨by decide +kernel, rfl⟩
theorem d_M_haveFactor_43 : decode b_M_haveFactor 43 = .ok (.istore_n 2, 1) ∧ 43 + 1 = 44 := ⟨by decide +kernel, rfl⟩
theorem d_M_haveFactor_44 : decode b_M_haveFactor 44 = .ok (.iinc 3 1, 3) ∧ 44 + 3 = 47 := ⟨by decide +kernel, rfl⟩
theorem d_M_haveFactor_47 : decode b_M_haveFactor 47 = .ok (.goto (-31), 3) ∧ ((47 : Nat) : Int) + (-31) = ((16 : Nat) : Int) := ⟨by decide +kernel, by decide⟩
theorem d_M_haveFactor_50 : decode b_M_haveFactor 50 = .ok (.iload_n 2, 1) ∧ 50 + 1 = 51 := ⟨by decide +kernel, rfl⟩
theorem d_M_haveFactor_51 : decode b_M_haveFactor 51 = .ok (.ireturn, 1) := by decide +kernel
theorem d_M_init_0 : decode b_M_init 0 = .ok (.aload_n 0, 1) ∧ 0 + 1 = 1 := ⟨by decide +kernel, rfl⟩
theorem d_M_init_1 : decode b_M_init 1 = .ok (.invokespecial 1, 3) ∧ 1 + 3 = 4 := ⟨by decide +kernel, rfl⟩
theorem d_M_init_4 : decode b_M_init 4 = .ok (.aload_n 0, 1) ∧ 4 + 1 = 5 := ⟨by decide +kernel, rfl⟩
theorem d_M_init_5 : decode b_M_init 5 = .ok (.iconst 1, 1) ∧ 5 + 1 = 6 := ⟨by decide +kernel, rfl⟩
theorem d_M_init_6 : decode b_M_init 6 = .ok (.putfield 7, 3) ∧ 6 + 3 = 9 := ⟨by decide +kernel, rfl⟩
theorem d_M_init_9 : decode b_M_init 9 = .ok (.aload_n 0, 1) ∧ 9 + 1 = 10 := ⟨by decide +kernel, rfl⟩
theorem d_M_init_10 : decode b_M_init 10 = .ok (.iconst 1, 1) ∧ 10 + 1 = 11 := ⟨by decide +kernel, rfl⟩
theorem d_M_init_11 : decode b_M_init 11 = .ok (.putfield 13, 3) ∧ 11 + 3 = 14 := ⟨by decide +kernel, rfl⟩
theorem d_M_init_14 : decode b_M_init 14 = .ok (.aload_n 0, 1) ∧ 14 + 1 = 15 := ⟨by decide +kernel, rfl⟩
theorem d_M_init_15 : decode b_M_init 15 = .ok (.sipush 256, 3) ∧ 15 + 3 = 18 := ⟨by decide +kernel, rfl⟩
theorem d_M_init_18 : decode b_M_init 18 = .ok (.newarray .int, 2) ∧ 18 + 2 = 20 := ⟨by decide +kernel, rfl⟩
theorem d_M_init_20 : decode b_M_init 20 = .ok (.putfield 16, 3) ∧ 20 + 3 = 23 := ⟨by decide +kernel, rfl⟩
theorem d_M_init_23 : decode b_M_init 23 = .ok (.aload_n 0, 1) ∧ 23 + 1 = 24 := ⟨by decide +kernel, rfl⟩
theorem d_M_init_24 : decode b_M_init 24 = .ok (.sipush 256, 3) ∧ 24 + 3 = 27 := ⟨by decide +kernel, rfl⟩
theorem d_M_init_27 : decode b_M_init 27 = .ok (.newarray .int, 2) ∧ 27 + 2 = 29 := ⟨by decide +kernel, rfl⟩
theorem d_M_init_29 : decode b_M_init 29 = .ok (.putfield 20, 3) ∧ 29 + 3 = 32 := ⟨by decide +kernel, rfl⟩
theorem d_M_init_32 : decode b_M_init 32 = .ok (.aload_n 0, 1) ∧ 32 + 1 = 33 := ⟨by decide +kernel, rfl⟩
theorem d_M_init_33 : decode b_M_init 33 = .ok (.sipush 256, 3) ∧ 33 + 3 = 36 := ⟨by decide +kernel, rfl⟩
theorem d_M_init_36 : decode b_M_init 36 = .ok (.newarray .int, 2) ∧ 36 + 2 = 38 := ⟨by decide +kernel, rfl⟩
theorem d_M_init_38 : decode b_M_init 38 = .ok (.putfield 23, 3) ∧ 38 + 3 = 41 := ⟨by decide +kernel, rfl⟩
theorem d_M_init_41 : decode b_M_init 41 = .ok (.aload_n 0, 1) ∧ 41 + 1 = 42 := ⟨by decide +kernel, rfl⟩
theorem d_M_init_42 : decode b_M_init 42 = .ok (.sipush 256, 3) ∧ 42 + 3 = 45 := ⟨by decide +kernel, rfl⟩
theorem d_M_init_45 : decode b_M_init 45 = .ok (.newarray .int, 2) ∧ 45 + 2 = 47 := ⟨by decide +kernel, rfl⟩
theorem d_M_init_47 : decode b_M_init 47 = .ok (.putfield 26, 3) ∧ 47 + 3 = 50 := ⟨by decide +kernel, rfl⟩
theorem d_M_init_50 : decode b_M_init 50 = .ok (.aload_n 0, 1) ∧ 50 + 1 = 51 := ⟨by decide +kernel, rfl⟩
theorem d_M_init_51 : decode b_M_init 51 = .ok (.sipush 256, 3) ∧ 51 + 3 = 54 := ⟨by decide +kernel, rfl⟩
theorem d_M_init_54 : decode b_M_init 54 = .ok (.newarray .boolean, 2) ∧ 54 + 2 = 56 := ⟨by decide +kernel, rfl⟩
theorem d_M_init_56 : decode b_M_init 56 = .ok (.putfield 29, 3) ∧ 56 + 3 = 59 := ⟨by decide +kernel, rfl⟩
theorem d_M_init_59 : decode b_M_init 59 = .ok (.aload_n 0, 1) ∧ 59 + 1 = 60 := ⟨by decide +kernel, rfl⟩
theorem d_M_init_60 : decode b_M_init 60 = .ok (.bipush 8, 2) ∧ 60 + 2 = 62 := ⟨by decide +kernel, rfl⟩
theorem d_M_init_62 : decode b_M_init 62 = .ok (.newarray .boolean, 2) ∧ 62 + 2 = 64 := ⟨by decide +kernel, rfl⟩
theorem d_M_init_64 : decode b_M_init 64 = .ok (.putfield 33, 3) ∧ 64 + 3 = 67 := ⟨by decide +kernel, rfl⟩
theorem d_M_init_67 : decode b_M_init 67 = .ok (.aload_n 0, 1) ∧ 67 + 1 = 68 := ⟨by decide +kernel, rfl⟩
theorem d_M_init_68 : decode b_M_init 68 = .ok (.bipush 8, 2) ∧ 68 + 2 = 70 := ⟨by decide +kernel, rfl⟩
theorem d_M_init_70 : decode b_M_init 70 = .ok (.newarray .int, 2) ∧ 70 + 2 = 72 := ⟨by decide +kernel, rfl⟩
theorem d_M_init_72 : decode b_M_init 72 = .ok (.putfield 36, 3) ∧ 72 + 3 = 75 := ⟨by decide +kernel, rfl⟩
theorem d_M_init_75 : decode b_M_init 75 = .ok (.aload_n 0, 1) ∧ 75 + 1 = 76 := ⟨by decide +kernel, rfl⟩
theorem d_M_init_76 : decode b_M_init 76 = .ok (.bipush 8, 2) ∧ 76 + 2 = 78 := ⟨by decide +kernel, rfl⟩
theorem d_M_init_78 : decode b_M_init 78 = .ok (.newarray .int, 2) ∧ 78 + 2 = 80 := ⟨by decide +kernel, rfl⟩
theorem d_M_init_80 : decode b_M_init 80 = .ok (.putfield 39, 3) ∧ 80 + 3 = 83 := ⟨by decide +kernel, rfl⟩
theorem d_M_init_83 : decode b_M_init 83 = .ok (.aload_n 0, 1) ∧ 83 + 1 = 84 := ⟨by decide +kernel, rfl⟩
theorem d_M_init_84 : decode b_M_init 84 = .ok (.bipush 8, 2) ∧ 84 + 2 = 86 := ⟨by decide +kernel, rfl⟩
theorem d_M_init_86 : decode b_M_init 86 = .ok (.newarray .boolean, 2) ∧ 86 + 2 = 88 := ⟨by decide +kernel, rfl⟩
theorem d_M_init_88 : decode b_M_init 88 = .ok (.putfield 42, 3) ∧ 88 + 3 = 91 := ⟨by decide +kernel, rfl⟩
theorem d_M_init_91 : decode b_M_init 91 = .ok (.aload_n 0, 1) ∧ 91 + 1 = 92 := ⟨by decide +kernel, rfl⟩
theorem d_M_init_92 : decode b_M_init 92 = .ok (.sipush 3848, 3) ∧ 92 + 3 = 95 := ⟨by decide +kernel, rfl⟩
theorem d_M_init_95 : decode b_M_init 95 = .ok (.newarray .int, 2) ∧ 95 + 2 = 97 := ⟨by decide +kernel, rfl⟩
theorem d_M_init_97 : decode b_M_init 97 = .ok (.putfield 45, 3) ∧ 97 + 3 = 100 := ⟨by decide +kernel, rfl⟩
theorem d_M_init_100 : decode b_M_init 100 = .ok (.aload_n 0, 1) ∧ 100 + 1 = 101 := ⟨by decide +kernel, rfl⟩
theorem d_M_init_101 : decode b_M_init 101 = .ok (.bipush 8, 2) ∧ 101 + 2 = 103 := ⟨by decide +kernel, rfl⟩
theorem d_M_init_103 : decode b_M_init 103 = .ok (.newarray .boolean, 2) ∧ 103 + 2 = 105 := ⟨by decide +kernel, rfl⟩
theorem d_M_init_105 : decode b_M_init 105 = .ok (.putfield 48, 3) ∧ 105 + 3 = 108 := ⟨by decide +kernel, rfl⟩
theorem d_M_init_108 : decode b_M_init 108 = .ok (.aload_n 0, 1) ∧ 108 + 1 = 109 := ⟨by decide +kernel, rfl⟩
theorem d_M_init_109 : decode b_M_init 109 = .ok (.bipush 8, 2) ∧ 109 + 2 = 111 := ⟨by decide +kernel, rfl⟩
theorem d_M_init_111 : decode b_M_init 111 = .ok (.newarray .int, 2) ∧ 111 + 2 = 113 := ⟨by decide +kernel, rfl⟩
theorem d_M_init_113 : decode b_M_init 113 = .ok (.putfield 51, 3) ∧ 113 + 3 = 116 := ⟨by decide +kernel, rfl⟩
theorem d_M_init_116 : decode b_M_init 116 = .ok (.aload_n 0, 1) ∧ 116 + 1 = 117 := ⟨by decide +kernel, rfl⟩
theorem d_M_init_117 : decode b_M_init 117 = .ok (.bipush 8, 2) ∧ 117 + 2 = 119 := ⟨by decide +kernel, rfl⟩
theorem d_M_init_119 : decode b_M_init 119 = .ok (.newarray .int, 2) ∧ 119 + 2 = 121 := ⟨by decide +kernel, rfl⟩
theorem d_M_init_121 : decode b_M_init 121 = .ok (.putfield 54, 3) ∧ 121 + 3 = 124 := ⟨by decide +kernel, rfl⟩
theorem d_M_init_124 : decode b_M_init 124 = .ok (.aload_n 0, 1) ∧ 124 + 1 = 125 := ⟨by decide +kernel, rfl⟩
theorem d_M_init_125 : decode b_M_init 125 = .ok (.bipush 8, 2) ∧ 125 + 2 = 127 := ⟨by decide +kernel, rfl⟩
theorem d_M_init_127 : decode b_M_init 127 = .ok (.newarray .boolean, 2) ∧ 127 + 2 = 129 := ⟨by decide +kernel, rfl⟩
theorem d_M_init_129 : decode b_M_init 129 = .ok (.putfield 57, 3) ∧ 129 + 3 = 132 := ⟨by decide +kernel, rfl⟩
theorem d_M_init_132 : decode b_M_init 132 = .ok (.aload_n 0, 1) ∧ 132 + 1 = 133 := ⟨by decide +kernel, rfl⟩
theorem d_M_init_133 : decode b_M_init 133 = .ok (.sipush 3848, 3) ∧ 133 + 3 = 136 := ⟨by decide +kernel, rfl⟩
theorem d_M_init_136 : decode b_M_init 136 = .ok (.newarray .int, 2) ∧ 136 + 2 = 138 := ⟨by decide +kernel, rfl⟩
theorem d_M_init_138 : decode b_M_init 138 = .ok (.putfield 60, 3) ∧ 138 + 3 = 141 := ⟨by decide +kernel, rfl⟩
theorem d_M_init_141 : decode b_M_init 141 = .ok (.aload_n 0, 1) ∧ 141 + 1 = 142 := ⟨by decide +kernel, rfl⟩
theorem d_M_init_142 : decode b_M_init 142 = .ok (.sipush 3848, 3) ∧ 142 + 3 = 145 := ⟨by decide +kernel, rfl⟩
theorem d_M_init_145 : decode b_M_init 145 = .ok (.newarray .int, 2) ∧ 145 + 2 = 147 := ⟨by decide +kernel, rfl⟩
theorem d_M_init_147 : decode b_M_init 147 = .ok (.putfield 63, 3) ∧ 147 + 3 = 150 := ⟨by decide +kernel, rfl⟩
theorem d_M_init_150 : decode b_M_init 150 = .ok (.aload_n 0, 1) ∧ 150 + 1 = 151 := ⟨by decide +kernel, rfl⟩
theorem d_M_init_151 : decode b_M_init 151 = .ok (.sipush 3848, 3) ∧ 151 + 3 = 154 := ⟨by decide +kernel, rfl⟩
theorem d_M_init_154 : decode b_M_init 154 = .ok (.newarray .int, 2) ∧ 154 + 2 = 156 := ⟨by decide +kernel, rfl⟩
theorem d_M_init_156 : decode b_M_init 156 = .ok (.putfield 66, 3) ∧ 156 + 3 = 159 := ⟨by decide +kernel, rfl⟩
theorem d_M_init_159 : decode b_M_init 159 = .ok (.aload_n 0, 1) ∧ 159 + 1 = 160 := ⟨by decide +kernel, rfl⟩
theorem d_M_init_160 : decode b_M_init 160 = .ok (.sipush 481, 3) ∧ 160 + 3 = 163 := ⟨by decide +kernel, rfl⟩
theorem d_M_init_163 : decode b_M_init 163 = .ok (.newarray .int, 2) ∧ 163 + 2 = 165 := ⟨by decide +kernel, rfl⟩
theorem d_M_init_165 : decode b_M_init 165 = .ok (.putfield 69, 3) ∧ 165 + 3 = 168 := ⟨by decide +kernel, rfl⟩
theorem d_M_init_168 : decode b_M_init 168 = .ok (.aload_n 0, 1) ∧ 168 + 1 = 169 := ⟨by decide +kernel, rfl⟩
theorem d_M_init_169 : decode b_M_init 169 = .ok (.iconst (-1), 1) ∧ 169 + 1 = 170 := ⟨by decide +kernel, rfl⟩
theorem d_M_init_170 : decode b_M_init 170 = .ok (.putfield 72, 3) ∧ 170 + 3 = 173 := ⟨by decide +kernel, rfl⟩
theorem d_M_init_173 : decode b_M_init 173 = .ok (.aload_n 0, 1) ∧ 173 + 1 = 174 := ⟨by decide +kernel, rfl⟩
theorem d_M_init_174 : decode b_M_init 174 = .ok (.sipush 512, 3) ∧ 174 + 3 = 177 := ⟨by decide +kernel, rfl⟩
theorem d_M_init_177 : decode b_M_init 177 = .ok (.newarray .int, 2) ∧ 177 + 2 = 179 := ⟨by decide +kernel, rfl⟩
theorem d_M_init_179 : decode b_M_init 179 = .ok (.putfield 75, 3) ∧ 179 + 3 = 182 := ⟨by decide +kernel, rfl⟩
theorem d_M_init_182 : decode b_M_init 182 = .ok (.aload_n 0, 1) ∧ 182 + 1 = 183 := ⟨by decide +kernel, rfl⟩
theorem d_M_init_183 : decode b_M_init 183 = .ok (.sipush 512, 3) ∧ 183 + 3 = 186 := ⟨by decide +kernel, rfl⟩
theorem d_M_init_186 : decode b_M_init 186 = .ok (.newarray .int, 2) ∧ 186 + 2 = 188 := ⟨by decide +kernel, rfl⟩
theorem d_M_init_188 : decode b_M_init 188 = .ok (.putfield 78, 3) ∧ 188 + 3 = 191 := ⟨by decide +kernel, rfl⟩
theorem d_M_init_191 : decode b_M_init 191 = .ok (.return_, 1) := by decide +kernel
theorem d_M_isMask_0 : decode b_M_isMask 0 = .ok (.iload_n 0, 1) ∧ 0 + 1 = 1 := ⟨by decide +kernel, rfl⟩
theorem d_M_isMask_1 : decode b_M_isMask 1 = .ok (.ifCond .lt 14, 3) ∧ 1 + 3 = 4 ∧ ((1 : Nat) : Int) + 14 = ((15 : Nat) : Int) := ⟨by decide +kernel, rfl, by decide⟩
theorem d_M_isMask_4 : decode b_M_isMask 4 = .ok (.iload_n 0, 1) ∧ 4 + 1 = 5 := ⟨by decide +kernel, rfl⟩
theorem d_M_isMask_5 : decode b_M_isMask 5 = .ok (.sipush 256, 3) ∧ 5 + 3 = 8 := ⟨by decide +kernel, rfl⟩
theorem d_M_isMask_8 : decode b_M_isMask 8 = .ok (.if_icmp .ge 7, 3) ∧ 8 + 3 = 11 ∧ ((8 : Nat) : Int) + 7 = ((15 : Nat) : Int) := ⟨by decide +kernel, rfl, by decide⟩
theorem d_M_isMask_11 : decode b_M_isMask 11 = .ok (.iconst 1, 1) ∧ 11 + 1 = 12 := ⟨by decide +kernel, rfl⟩
theorem d_M_isMask_12 : decode b_M_isMask 12 = .ok (.goto 4, 3) ∧ ((12 : Nat) : Int) + 4 = ((16 : Nat) : Int) := ⟨by decide +kernel, by decide⟩
theorem d_M_isMask_15 : decode b_M_isMask 15 = .ok (.iconst 0, 1) ∧ 15 + 1 = 16 := ⟨by decide +kernel, rfl⟩
theorem d_M_isMask_16 : decode b_M_isMask 16 = .ok (.ireturn, 1) := by decide +kernel
theorem d_M_isOf_0 : decode b_M_isOf 0 = .ok (.iload_n 1, 1) ∧ 0 + 1 = 1 := ⟨by decide +kernel, rfl⟩
theorem d_M_isOf_1 : decode b_M_isOf 1 = .ok (.iload_n 2, 1) ∧ 1 + 1 = 2 := ⟨by decide +kernel, rfl⟩
theorem d_M_isOf_2 : decode b_M_isOf 2 = .ok (.ishr, 1) ∧ 2 + 1 = 3 := ⟨by decide +kernel, rfl⟩
theorem d_M_isOf_3 : decode b_M_isOf 3 = .ok (.iconst 1, 1) ∧ 3 + 1 = 4 := ⟨by decide +kernel, rfl⟩
theorem d_M_isOf_4 : decode b_M_isOf 4 = .ok (.iand, 1) ∧ 4 + 1 = 5 := ⟨by decide +kernel, rfl⟩
theorem d_M_isOf_5 : decode b_M_isOf 5 = .ok (.iconst 1, 1) ∧ 5 + 1 = 6 := ⟨by decide +kernel, rfl⟩
theorem d_M_isOf_6 : decode b_M_isOf 6 = .ok (.if_icmp .ne 16, 3) ∧ 6 + 3 = 9 ∧ ((6 : Nat) : Int) + 16 = ((22 : Nat) : Int) := ⟨by decide +kernel, rfl, by decide⟩
theorem d_M_isOf_9 : decode b_M_isOf 9 = .ok (.aload_n 0, 1) ∧ 9 + 1 = 10 := ⟨by decide +kernel, rfl⟩
theorem d_M_isOf_10 : decode b_M_isOf 10 = .ok (.getfield 33, 3) ∧ 10 + 3 = 13 := ⟨by decide +kernel, rfl⟩
theorem d_M_isOf_13 : decode b_M_isOf 13 = .ok (.iload_n 2, 1) ∧ 13 + 1 = 14 := ⟨by decide +kernel, rfl⟩
theorem d_M_isOf_14 : decode b_M_isOf 14 = .ok (.baload, 1) ∧ 14 + 1 = 15 := ⟨by decide +kernel, rfl⟩
theorem d_M_isOf_15 : decode b_M_isOf 15 = .ok (.ifCond .eq 7, 3) ∧ 15 + 3 = 18 ∧ ((15 : Nat) : Int) + 7 = ((22 : Nat) : Int) := ⟨by decide +kernel, rfl, by decide⟩
theorem d_M_isOf_18 : decode b_M_isOf 18 = .ok (.iconst 1, 1) ∧ 18 + 1 = 19 := ⟨by decide +kernel, rfl⟩
theorem d_M_isOf_19 : decode b_M_isOf 19 = .ok (.goto 4, 3) ∧ ((19 : Nat) : Int) + 4 = ((23 : Nat) : Int) := ⟨by decide +kernel, by decide⟩
theorem d_M_isOf_22 : decode b_M_isOf 22 = .ok (.iconst 0, 1) ∧ 22 + 1 = 23 := ⟨by decide +kernel, rfl⟩
theorem d_M_isOf_23 : decode b_M_isOf 23 = .ok (.ireturn, 1) := by decide +kernel
theorem d_M_isPixel_0 : decode b_M_isPixel 0 = .ok (.iload_n 1, 1) ∧ 0 + 1 = 1 := ⟨by decide +kernel, rfl⟩
theorem d_M_isPixel_1 : decode b_M_isPixel 1 = .ok (.ifCond .lt 27, 3) ∧ 1 + 3 = 4 ∧ ((1 : Nat) : Int) + 27 = ((28 : Nat) : Int) := ⟨by decide +kernel, rfl, by decide⟩
theorem d_M_isPixel_4 : decode b_M_isPixel 4 = .ok (.iload_n 1, 1) ∧ 4 + 1 = 5 := ⟨by decide +kernel, rfl⟩
theorem d_M_isPixel_5 : decode b_M_isPixel 5 = .ok (.aload_n 0, 1) ∧ 5 + 1 = 6 := ⟨by decide +kernel, rfl⟩
theorem d_M_isPixel_6 : decode b_M_isPixel 6 = .ok (.getfield 7, 3) ∧ 6 + 3 = 9 := ⟨by decide +kernel, rfl⟩
theorem d_M_isPixel_9 : decode b_M_isPixel 9 = .ok (.if_icmp .ge 19, 3) ∧ 9 + 3 = 12 ∧ ((9 : Nat) : Int) + 19 = ((28 : Nat) : Int) := ⟨by decide +kernel, rfl, by decide⟩
theorem d_M_isPixel_12 : decode b_M_isPixel 12 = .ok (.iload_n 2, 1) ∧ 12 + 1 = 13 := ⟨by decide +kernel, rfl⟩
theorem d_M_isPixel_13 : decode b_M_isPixel 13 = .ok (.ifCond .lt 15, 3) ∧ 13 + 3 = 16 ∧ ((13 : Nat) : Int) + 15 = ((28 : Nat) : Int) := ⟨by decide +kernel, rfl, by decide⟩
theorem d_M_isPixel_16 : decode b_M_isPixel 16 = .ok (.iload_n 2, 1) ∧ 16 + 1 = 17 := ⟨by decide +kernel, rfl⟩
theorem d_M_isPixel_17 : decode b_M_isPixel 17 = .ok (.aload_n 0, 1) ∧ 17 + 1 = 18 := ⟨by decide +kernel, rfl⟩
theorem d_M_isPixel_18 : decode b_M_isPixel 18 = .ok (.getfield 13, 3) ∧ 18 + 3 = 21 := ⟨by decide +kernel, rfl⟩
theorem d_M_isPixel_21 : decode b_M_isPixel 21 = .ok (.if_icmp .ge 7, 3) ∧ 21 + 3 = 24 ∧ ((21 : Nat) : Int) + 7 = ((28 : Nat) : Int) := ⟨by decide +kernel, rfl, by decide⟩
theorem d_M_isPixel_24 : decode b_M_isPixel 24 = .ok (.iconst 1, 1) ∧ 24 + 1 = 25 := ⟨by decide +kernel, rfl⟩
theorem d_M_isPixel_25 : decode b_M_isPixel 25 = .ok (.goto 4, 3) ∧ ((25 : Nat) : Int) + 4 = ((29 : Nat) : Int) := ⟨by decide +kernel, by decide⟩
theorem d_M_isPixel_28 : decode b_M_isPixel 28 = .ok (.iconst 0, 1) ∧ 28 + 1 = 29 := ⟨by decide +kernel, rfl⟩
theorem d_M_isPixel_29 : decode b_M_isPixel 29 = .ok (.ireturn, 1) := by decide +kernel
theorem d_M_isShelf_0 : decode b_M_isShelf 0 = .ok (.iload_n 0, 1) ∧ 0 + 1 = 1 := ⟨by decide +kernel, rfl⟩
theorem d_M_isShelf_1 : decode b_M_isShelf 1 = .ok (.ifCond .lt 13, 3) ∧ 1 + 3 = 4 ∧ ((1 : Nat) : Int) + 13 = ((14 : Nat) : Int) := ⟨by decide +kernel, rfl, by decide⟩
theorem d_M_isShelf_4 : decode b_M_isShelf 4 = .ok (.iload_n 0, 1) ∧ 4 + 1 = 5 := ⟨by decide +kernel, rfl⟩
theorem d_M_isShelf_5 : decode b_M_isShelf 5 = .ok (.bipush 8, 2) ∧ 5 + 2 = 7 := ⟨by decide +kernel, rfl⟩
theorem d_M_isShelf_7 : decode b_M_isShelf 7 = .ok (.if_icmp .ge 7, 3) ∧ 7 + 3 = 10 ∧ ((7 : Nat) : Int) + 7 = ((14 : Nat) : Int) := ⟨by decide +kernel, rfl, by decide⟩
theorem d_M_isShelf_10 : decode b_M_isShelf 10 = .ok (.iconst 1, 1) ∧ 10 + 1 = 11 := ⟨by decide +kernel, rfl⟩
theorem d_M_isShelf_11 : decode b_M_isShelf 11 = .ok (.goto 4, 3) ∧ ((11 : Nat) : Int) + 4 = ((15 : Nat) : Int) := ⟨by decide +kernel, by decide⟩
theorem d_M_isShelf_14 : decode b_M_isShelf 14 = .ok (.iconst 0, 1) ∧ 14 + 1 = 15 := ⟨by decide +kernel, rfl⟩
theorem d_M_isShelf_15 : decode b_M_isShelf 15 = .ok (.ireturn, 1) := by decide +kernel
theorem d_M_isTaken_0 : decode b_M_isTaken 0 = .ok (.iconst 0, 1) ∧ 0 + 1 = 1 := ⟨by decide +kernel, rfl⟩
theorem d_M_isTaken_1 : decode b_M_isTaken 1 = .ok (.istore 4, 2) ∧ 1 + 2 = 3 := ⟨by decide +kernel, rfl⟩
theorem d_M_isTaken_3 : decode b_M_isTaken 3 = .ok (.iconst 0, 1) ∧ 3 + 1 = 4 := ⟨by decide +kernel, rfl⟩
theorem d_M_isTaken_4 : decode b_M_isTaken 4 = .ok (.istore 5, 2) ∧ 4 + 2 = 6 := ⟨by decide +kernel, rfl⟩
theorem d_M_isTaken_6 : decode b_M_isTaken 6 = .ok (.iload 5, 2) ∧ 6 + 2 = 8 := ⟨by decide +kernel, rfl⟩
theorem d_M_isTaken_8 : decode b_M_isTaken 8 = .ok (.bipush 8, 2) ∧ 8 + 2 = 10 := ⟨by decide +kernel, rfl⟩
theorem d_M_isTaken_10 : decode b_M_isTaken 10 = .ok (.if_icmp .ge 59, 3) ∧ 10 + 3 = 13 ∧ ((10 : Nat) : Int) + 59 = ((69 : Nat) : Int) := ⟨by decide +kernel, rfl, by decide⟩
theorem d_M_isTaken_13 : decode b_M_isTaken 13 = .ok (.iload 4, 2) ∧ 13 + 2 = 15 := ⟨by decide +kernel, rfl⟩
theorem d_M_isTaken_15 : decode b_M_isTaken 15 = .ok (.ifCond .ne 41, 3) ∧ 15 + 3 = 18 ∧ ((15 : Nat) : Int) + 41 = ((56 : Nat) : Int) := ⟨by decide +kernel, rfl, by decide⟩
theorem d_M_isTaken_18 : decode b_M_isTaken 18 = .ok (.iload 5, 2) ∧ 18 + 2 = 20 := ⟨by decide +kernel, rfl⟩
theorem d_M_isTaken_20 : decode b_M_isTaken 20 = .ok (.iload_n 1, 1) ∧ 20 + 1 = 21 := ⟨by decide +kernel, rfl⟩
theorem d_M_isTaken_21 : decode b_M_isTaken 21 = .ok (.if_icmp .eq 39, 3) ∧ 21 + 3 = 24 ∧ ((21 : Nat) : Int) + 39 = ((60 : Nat) : Int) := ⟨by decide +kernel, rfl, by decide⟩
theorem d_M_isTaken_24 : decode b_M_isTaken 24 = .ok (.aload_n 0, 1) ∧ 24 + 1 = 25 := ⟨by decide +kernel, rfl⟩
theorem d_M_isTaken_25 : decode b_M_isTaken 25 = .ok (.getfield 33, 3) ∧ 25 + 3 = 28 := ⟨by decide +kernel, rfl⟩
theorem d_M_isTaken_28 : decode b_M_isTaken 28 = .ok (.iload 5, 2) ∧ 28 + 2 = 30 := ⟨by decide +kernel, rfl⟩
theorem d_M_isTaken_30 : decode b_M_isTaken 30 = .ok (.baload, 1) ∧ 30 + 1 = 31 := ⟨by decide +kernel, rfl⟩
theorem d_M_isTaken_31 : decode b_M_isTaken 31 = .ok (.ifCond .eq 29, 3) ∧ 31 + 3 = 34 ∧ ((31 : Nat) : Int) + 29 = ((60 : Nat) : Int) := ⟨by decide +kernel, rfl, by decide⟩
theorem d_M_isTaken_34 : decode b_M_isTaken 34 = .ok (.aload_n 0, 1) ∧ 34 + 1 = 35 := ⟨by decide +kernel, rfl⟩
theorem d_M_isTaken_35 : decode b_M_isTaken 35 = .ok (.getfield 36, 3) ∧ 35 + 3 = 38 := ⟨by decide +kernel, rfl⟩
theorem d_M_isTaken_38 : decode b_M_isTaken 38 = .ok (.iload 5, 2) ∧ 38 + 2 = 40 := ⟨by decide +kernel, rfl⟩
theorem d_M_isTaken_40 : decode b_M_isTaken 40 = .ok (.iaload, 1) ∧ 40 + 1 = 41 := ⟨by decide +kernel, rfl⟩
theorem d_M_isTaken_41 : decode b_M_isTaken 41 = .ok (.iload_n 2, 1) ∧ 41 + 1 = 42 := ⟨by decide +kernel, rfl⟩
theorem d_M_isTaken_42 : decode b_M_isTaken 42 = .ok (.if_icmp .ne 18, 3) ∧ 42 + 3 = 45 ∧ ((42 : Nat) : Int) + 18 = ((60 : Nat) : Int) := ⟨by decide +kernel, rfl, by decide⟩
theorem d_M_isTaken_45 : decode b_M_isTaken 45 = .ok (.aload_n 0, 1) ∧ 45 + 1 = 46 := ⟨by decide +kernel, rfl⟩
theorem d_M_isTaken_46 : decode b_M_isTaken 46 = .ok (.getfield 39, 3) ∧ 46 + 3 = 49 := ⟨by decide +kernel, rfl⟩
theorem d_M_isTaken_49 : decode b_M_isTaken 49 = .ok (.iload 5, 2) ∧ 49 + 2 = 51 := ⟨by decide +kernel, rfl⟩
theorem d_M_isTaken_51 : decode b_M_isTaken 51 = .ok (.iaload, 1) ∧ 51 + 1 = 52 := ⟨by decide +kernel, rfl⟩
theorem d_M_isTaken_52 : decode b_M_isTaken 52 = .ok (.iload_n 3, 1) ∧ 52 + 1 = 53 := ⟨by decide +kernel, rfl⟩
theorem d_M_isTaken_53 : decode b_M_isTaken 53 = .ok (.if_icmp .ne 7, 3) ∧ 53 + 3 = 56 ∧ ((53 : Nat) : Int) + 7 = ((60 : Nat) : Int) := ⟨by decide +kernel, rfl, by decide⟩
theorem d_M_isTaken_56 : decode b_M_isTaken 56 = .ok (.iconst 1, 1) ∧ 56 + 1 = 57 := ⟨by decide +kernel, rfl⟩
theorem d_M_isTaken_57 : decode b_M_isTaken 57 = .ok (.goto 4, 3) ∧ ((57 : Nat) : Int) + 4 = ((61 : Nat) : Int) := ⟨by decide +kernel, by decide⟩
theorem d_M_isTaken_60 : decode b_M_isTaken 60 = .ok (.iconst 0, 1) ∧ 60 + 1 = 61 := ⟨by decide +kernel, rfl⟩
theorem d_M_isTaken_61 : decode b_M_isTaken 61 = .ok (.istore 4, 2) ∧ 61 + 2 = 63 := ⟨by decide +kernel, rfl⟩
theorem d_M_isTaken_63 : decode b_M_isTaken 63 = .ok (.iinc 5 1, 3) ∧ 63 + 3 = 66 := ⟨by decide +kernel, rfl⟩
theorem d_M_isTaken_66 : decode b_M_isTaken 66 = .ok (.goto (-60), 3) ∧ ((66 : Nat) : Int) + (-60) = ((6 : Nat) : Int) := ⟨by decide +kernel, by decide⟩
theorem d_M_isTaken_69 : decode b_M_isTaken 69 = .ok (.iload 4, 2) ∧ 69 + 2 = 71 := ⟨by decide +kernel, rfl⟩
theorem d_M_isTaken_71 : decode b_M_isTaken 71 = .ok (.ireturn, 1) := by decide +kernel
theorem d_M_keep_0 : decode b_M_keep 0 = .ok (.aload_n 0, 1) ∧ 0 + 1 = 1 := ⟨by decide +kernel, rfl⟩
theorem d_M_keep_1 : decode b_M_keep 1 = .ok (.iconst 0, 1) ∧ 1 + 1 = 2 := ⟨by decide +kernel, rfl⟩
theorem d_M_keep_2 : decode b_M_keep 2 = .ok (.putfield 81, 3) ∧ 2 + 3 = 5 := ⟨by decide +kernel, rfl⟩
theorem d_M_keep_5 : decode b_M_keep 5 = .ok (.aload_n 0, 1) ∧ 5 + 1 = 6 := ⟨by decide +kernel, rfl⟩
theorem d_M_keep_6 : decode b_M_keep 6 = .ok (.iconst 1, 1) ∧ 6 + 1 = 7 := ⟨by decide +kernel, rfl⟩
theorem d_M_keep_7 : decode b_M_keep 7 = .ok (.putfield 92, 3) ∧ 7 + 3 = 10 := ⟨by decide +kernel, rfl⟩
theorem d_M_keep_10 : decode b_M_keep 10 = .ok (.iconst 0, 1) ∧ 10 + 1 = 11 := ⟨by decide +kernel, rfl⟩
theorem d_M_keep_11 : decode b_M_keep 11 = .ok (.istore_n 1, 1) ∧ 11 + 1 = 12 := ⟨by decide +kernel, rfl⟩
theorem d_M_keep_12 : decode b_M_keep 12 = .ok (.iload_n 1, 1) ∧ 12 + 1 = 13 := ⟨by decide +kernel, rfl⟩
theorem d_M_keep_13 : decode b_M_keep 13 = .ok (.sipush 256, 3) ∧ 13 + 3 = 16 := ⟨by decide +kernel, rfl⟩
theorem d_M_keep_16 : decode b_M_keep 16 = .ok (.if_icmp .ge 21, 3) ∧ 16 + 3 = 19 ∧ ((16 : Nat) : Int) + 21 = ((37 : Nat) : Int) := ⟨by decide +kernel, rfl, by decide⟩
theorem d_M_keep_19 : decode b_M_keep 19 = .ok (.aload_n 0, 1) ∧ 19 + 1 = 20 := ⟨by decide +kernel, rfl⟩
theorem d_M_keep_20 : decode b_M_keep 20 = .ok (.getfield 20, 3) ∧ 20 + 3 = 23 := ⟨by decide +kernel, rfl⟩
theorem d_M_keep_23 : decode b_M_keep 23 = .ok (.iload_n 1, 1) ∧ 23 + 1 = 24 := ⟨by decide +kernel, rfl⟩
theorem d_M_keep_24 : decode b_M_keep 24 = .ok (.aload_n 0, 1) ∧ 24 + 1 = 25 := ⟨by decide +kernel, rfl⟩
theorem d_M_keep_25 : decode b_M_keep 25 = .ok (.getfield 16, 3) ∧ 25 + 3 = 28 := ⟨by decide +kernel, rfl⟩
theorem d_M_keep_28 : decode b_M_keep 28 = .ok (.iload_n 1, 1) ∧ 28 + 1 = 29 := ⟨by decide +kernel, rfl⟩
theorem d_M_keep_29 : decode b_M_keep 29 = .ok (.iaload, 1) ∧ 29 + 1 = 30 := ⟨by decide +kernel, rfl⟩
theorem d_M_keep_30 : decode b_M_keep 30 = .ok (.iastore, 1) ∧ 30 + 1 = 31 := ⟨by decide +kernel, rfl⟩
theorem d_M_keep_31 : decode b_M_keep 31 = .ok (.iinc 1 1, 3) ∧ 31 + 3 = 34 := ⟨by decide +kernel, rfl⟩
theorem d_M_keep_34 : decode b_M_keep 34 = .ok (.goto (-22), 3) ∧ ((34 : Nat) : Int) + (-22) = ((12 : Nat) : Int) := ⟨by decide +kernel, by decide⟩
theorem d_M_keep_37 : decode b_M_keep 37 = .ok (.iconst 0, 1) ∧ 37 + 1 = 38 := ⟨by decide +kernel, rfl⟩
theorem d_M_keep_38 : decode b_M_keep 38 = .ok (.istore_n 1, 1) ∧ 38 + 1 = 39 := ⟨by decide +kernel, rfl⟩
theorem d_M_keep_39 : decode b_M_keep 39 = .ok (.iload_n 1, 1) ∧ 39 + 1 = 40 := ⟨by decide +kernel, rfl⟩
theorem d_M_keep_40 : decode b_M_keep 40 = .ok (.bipush 8, 2) ∧ 40 + 2 = 42 := ⟨by decide +kernel, rfl⟩
theorem d_M_keep_42 : decode b_M_keep 42 = .ok (.if_icmp .ge 57, 3) ∧ 42 + 3 = 45 ∧ ((42 : Nat) : Int) + 57 = ((99 : Nat) : Int) := ⟨by decide +kernel, rfl, by decide⟩
theorem d_M_keep_45 : decode b_M_keep 45 = .ok (.aload_n 0, 1) ∧ 45 + 1 = 46 := ⟨by decide +kernel, rfl⟩
theorem d_M_keep_46 : decode b_M_keep 46 = .ok (.getfield 48, 3) ∧ 46 + 3 = 49 := ⟨by decide +kernel, rfl⟩
theorem d_M_keep_49 : decode b_M_keep 49 = .ok (.iload_n 1, 1) ∧ 49 + 1 = 50 := ⟨by decide +kernel, rfl⟩
theorem d_M_keep_50 : decode b_M_keep 50 = .ok (.aload_n 0, 1) ∧ 50 + 1 = 51 := ⟨by decide +kernel, rfl⟩
theorem d_M_keep_51 : decode b_M_keep 51 = .ok (.getfield 33, 3) ∧ 51 + 3 = 54 := ⟨by decide +kernel, rfl⟩
theorem d_M_keep_54 : decode b_M_keep 54 = .ok (.iload_n 1, 1) ∧ 54 + 1 = 55 := ⟨by decide +kernel, rfl⟩
theorem d_M_keep_55 : decode b_M_keep 55 = .ok (.baload, 1) ∧ 55 + 1 = 56 := ⟨by decide +kernel, rfl⟩
theorem d_M_keep_56 : decode b_M_keep 56 = .ok (.bastore, 1) ∧ 56 + 1 = 57 := ⟨by decide +kernel, rfl⟩
theorem d_M_keep_57 : decode b_M_keep 57 = .ok (.aload_n 0, 1) ∧ 57 + 1 = 58 := ⟨by decide +kernel, rfl⟩
theorem d_M_keep_58 : decode b_M_keep 58 = .ok (.getfield 51, 3) ∧ 58 + 3 = 61 := ⟨by decide +kernel, rfl⟩
theorem d_M_keep_61 : decode b_M_keep 61 = .ok (.iload_n 1, 1) ∧ 61 + 1 = 62 := ⟨by decide +kernel, rfl⟩
theorem d_M_keep_62 : decode b_M_keep 62 = .ok (.aload_n 0, 1) ∧ 62 + 1 = 63 := ⟨by decide +kernel, rfl⟩
theorem d_M_keep_63 : decode b_M_keep 63 = .ok (.getfield 36, 3) ∧ 63 + 3 = 66 := ⟨by decide +kernel, rfl⟩
theorem d_M_keep_66 : decode b_M_keep 66 = .ok (.iload_n 1, 1) ∧ 66 + 1 = 67 := ⟨by decide +kernel, rfl⟩
theorem d_M_keep_67 : decode b_M_keep 67 = .ok (.iaload, 1) ∧ 67 + 1 = 68 := ⟨by decide +kernel, rfl⟩
theorem d_M_keep_68 : decode b_M_keep 68 = .ok (.iastore, 1) ∧ 68 + 1 = 69 := ⟨by decide +kernel, rfl⟩
theorem d_M_keep_69 : decode b_M_keep 69 = .ok (.aload_n 0, 1) ∧ 69 + 1 = 70 := ⟨by decide +kernel, rfl⟩
theorem d_M_keep_70 : decode b_M_keep 70 = .ok (.getfield 54, 3) ∧ 70 + 3 = 73 := ⟨by decide +kernel, rfl⟩
theorem d_M_keep_73 : decode b_M_keep 73 = .ok (.iload_n 1, 1) ∧ 73 + 1 = 74 := ⟨by decide +kernel, rfl⟩
theorem d_M_keep_74 : decode b_M_keep 74 = .ok (.aload_n 0, 1) ∧ 74 + 1 = 75 := ⟨by decide +kernel, rfl⟩
theorem d_M_keep_75 : decode b_M_keep 75 = .ok (.getfield 39, 3) ∧ 75 + 3 = 78 := ⟨by decide +kernel, rfl⟩
theorem d_M_keep_78 : decode b_M_keep 78 = .ok (.iload_n 1, 1) ∧ 78 + 1 = 79 := ⟨by decide +kernel, rfl⟩
theorem d_M_keep_79 : decode b_M_keep 79 = .ok (.iaload, 1) ∧ 79 + 1 = 80 := ⟨by decide +kernel, rfl⟩
theorem d_M_keep_80 : decode b_M_keep 80 = .ok (.iastore, 1) ∧ 80 + 1 = 81 := ⟨by decide +kernel, rfl⟩
theorem d_M_keep_81 : decode b_M_keep 81 = .ok (.aload_n 0, 1) ∧ 81 + 1 = 82 := ⟨by decide +kernel, rfl⟩
theorem d_M_keep_82 : decode b_M_keep 82 = .ok (.getfield 57, 3) ∧ 82 + 3 = 85 := ⟨by decide +kernel, rfl⟩
theorem d_M_keep_85 : decode b_M_keep 85 = .ok (.iload_n 1, 1) ∧ 85 + 1 = 86 := ⟨by decide +kernel, rfl⟩
theorem d_M_keep_86 : decode b_M_keep 86 = .ok (.aload_n 0, 1) ∧ 86 + 1 = 87 := ⟨by decide +kernel, rfl⟩
theorem d_M_keep_87 : decode b_M_keep 87 = .ok (.getfield 42, 3) ∧ 87 + 3 = 90 := ⟨by decide +kernel, rfl⟩
theorem d_M_keep_90 : decode b_M_keep 90 = .ok (.iload_n 1, 1) ∧ 90 + 1 = 91 := ⟨by decide +kernel, rfl⟩
theorem d_M_keep_91 : decode b_M_keep 91 = .ok (.baload, 1) ∧ 91 + 1 = 92 := ⟨by decide +kernel, rfl⟩
theorem d_M_keep_92 : decode b_M_keep 92 = .ok (.bastore, 1) ∧ 92 + 1 = 93 := ⟨by decide +kernel, rfl⟩
theorem d_M_keep_93 : decode b_M_keep 93 = .ok (.iinc 1 1, 3) ∧ 93 + 3 = 96 := ⟨by decide +kernel, rfl⟩
theorem d_M_keep_96 : decode b_M_keep 96 = .ok (.goto (-57), 3) ∧ ((96 : Nat) : Int) + (-57) = ((39 : Nat) : Int) := ⟨by decide +kernel, by decide⟩
theorem d_M_keep_99 : decode b_M_keep 99 = .ok (.iconst 0, 1) ∧ 99 + 1 = 100 := ⟨by decide +kernel, rfl⟩
theorem d_M_keep_100 : decode b_M_keep 100 = .ok (.istore_n 1, 1) ∧ 100 + 1 = 101 := ⟨by decide +kernel, rfl⟩
theorem d_M_keep_101 : decode b_M_keep 101 = .ok (.iload_n 1, 1) ∧ 101 + 1 = 102 := ⟨by decide +kernel, rfl⟩
theorem d_M_keep_102 : decode b_M_keep 102 = .ok (.sipush 3848, 3) ∧ 102 + 3 = 105 := ⟨by decide +kernel, rfl⟩
theorem d_M_keep_105 : decode b_M_keep 105 = .ok (.if_icmp .ge 21, 3) ∧ 105 + 3 = 108 ∧ ((105 : Nat) : Int) + 21 = ((126 : Nat) : Int) := ⟨by decide +kernel, rfl, by decide⟩
theorem d_M_keep_108 : decode b_M_keep 108 = .ok (.aload_n 0, 1) ∧ 108 + 1 = 109 := ⟨by decide +kernel, rfl⟩
theorem d_M_keep_109 : decode b_M_keep 109 = .ok (.getfield 60, 3) ∧ 109 + 3 = 112 := ⟨by decide +kernel, rfl⟩
theorem d_M_keep_112 : decode b_M_keep 112 = .ok (.iload_n 1, 1) ∧ 112 + 1 = 113 := ⟨by decide +kernel, rfl⟩
theorem d_M_keep_113 : decode b_M_keep 113 = .ok (.aload_n 0, 1) ∧ 113 + 1 = 114 := ⟨by decide +kernel, rfl⟩
theorem d_M_keep_114 : decode b_M_keep 114 = .ok (.getfield 45, 3) ∧ 114 + 3 = 117 := ⟨by decide +kernel, rfl⟩
theorem d_M_keep_117 : decode b_M_keep 117 = .ok (.iload_n 1, 1) ∧ 117 + 1 = 118 := ⟨by decide +kernel, rfl⟩
theorem d_M_keep_118 : decode b_M_keep 118 = .ok (.iaload, 1) ∧ 118 + 1 = 119 := ⟨by decide +kernel, rfl⟩
theorem d_M_keep_119 : decode b_M_keep 119 = .ok (.iastore, 1) ∧ 119 + 1 = 120 := ⟨by decide +kernel, rfl⟩
theorem d_M_keep_120 : decode b_M_keep 120 = .ok (.iinc 1 1, 3) ∧ 120 + 3 = 123 := ⟨by decide +kernel, rfl⟩
theorem d_M_keep_123 : decode b_M_keep 123 = .ok (.goto (-22), 3) ∧ ((123 : Nat) : Int) + (-22) = ((101 : Nat) : Int) := ⟨by decide +kernel, by decide⟩
theorem d_M_keep_126 : decode b_M_keep 126 = .ok (.return_, 1) := by decide +kernel
theorem d_M_learn_0 : decode b_M_learn 0 = .ok (.aload_n 0, 1) ∧ 0 + 1 = 1 := ⟨by decide +kernel, rfl⟩
theorem d_M_learn_1 : decode b_M_learn 1 = .ok (.getfield 26, 3) ∧ 1 + 3 = 4 := ⟨by decide +kernel, rfl⟩
theorem d_M_learn_4 : decode b_M_learn 4 = .ok (.bipush 16, 2) ∧ 4 + 2 = 6 := ⟨by decide +kernel, rfl⟩
theorem d_M_learn_6 : decode b_M_learn 6 = .ok (.iload_n 3, 1) ∧ 6 + 1 = 7 := ⟨by decide +kernel, rfl⟩
theorem d_M_learn_7 : decode b_M_learn 7 = .ok (.imul, 1) ∧ 7 + 1 = 8 := ⟨by decide +kernel, rfl⟩
theorem d_M_learn_8 : decode b_M_learn 8 = .ok (.iload_n 2, 1) ∧ 8 + 1 = 9 := ⟨by decide +kernel, rfl⟩
theorem d_M_learn_9 : decode b_M_learn 9 = .ok (.iadd, 1) ∧ 9 + 1 = 10 := ⟨by decide +kernel, rfl⟩
theorem d_M_learn_10 : decode b_M_learn 10 = .ok (.iload 4, 2) ∧ 10 + 2 = 12 := ⟨by decide +kernel, rfl⟩
theorem d_M_learn_12 : decode b_M_learn 12 = .ok (.iastore, 1) ∧ 12 + 1 = 13 := ⟨by decide +kernel, rfl⟩
theorem d_M_learn_13 : decode b_M_learn 13 = .ok (.aload_n 0, 1) ∧ 13 + 1 = 14 := ⟨by decide +kernel, rfl⟩
theorem d_M_learn_14 : decode b_M_learn 14 = .ok (.getfield 29, 3) ∧ 14 + 3 = 17 := ⟨by decide +kernel, rfl⟩
theorem d_M_learn_17 : decode b_M_learn 17 = .ok (.bipush 16, 2) ∧ 17 + 2 = 19 := ⟨by decide +kernel, rfl⟩
theorem d_M_learn_19 : decode b_M_learn 19 = .ok (.iload_n 3, 1) ∧ 19 + 1 = 20 := ⟨by decide +kernel, rfl⟩
theorem d_M_learn_20 : decode b_M_learn 20 = .ok (.imul, 1) ∧ 20 + 1 = 21 := ⟨by decide +kernel, rfl⟩
theorem d_M_learn_21 : decode b_M_learn 21 = .ok (.iload_n 2, 1) ∧ 21 + 1 = 22 := ⟨by decide +kernel, rfl⟩
theorem d_M_learn_22 : decode b_M_learn 22 = .ok (.iadd, 1) ∧ 22 + 1 = 23 := ⟨by decide +kernel, rfl⟩
theorem d_M_learn_23 : decode b_M_learn 23 = .ok (.iconst 1, 1) ∧ 23 + 1 = 24 := ⟨by decide +kernel, rfl⟩
theorem d_M_learn_24 : decode b_M_learn 24 = .ok (.bastore, 1) ∧ 24 + 1 = 25 := ⟨by decide +kernel, rfl⟩
theorem d_M_learn_25 : decode b_M_learn 25 = .ok (.aload_n 0, 1) ∧ 25 + 1 = 26 := ⟨by decide +kernel, rfl⟩
theorem d_M_learn_26 : decode b_M_learn 26 = .ok (.dup, 1) ∧ 26 + 1 = 27 := ⟨by decide +kernel, rfl⟩
theorem d_M_learn_27 : decode b_M_learn 27 = .ok (.getfield 143, 3) ∧ 27 + 3 = 30 := ⟨by decide +kernel, rfl⟩
theorem d_M_learn_30 : decode b_M_learn 30 = .ok (.iconst 1, 1) ∧ 30 + 1 = 31 := ⟨by decide +kernel, rfl⟩
theorem d_M_learn_31 : decode b_M_learn 31 = .ok (.iadd, 1) ∧ 31 + 1 = 32 := ⟨by decide +kernel, rfl⟩
theorem d_M_learn_32 : decode b_M_learn 32 = .ok (.putfield 143, 3) ∧ 32 + 3 = 35 := ⟨by decide +kernel, rfl⟩
theorem d_M_learn_35 : decode b_M_learn 35 = .ok (.iconst 0, 1) ∧ 35 + 1 = 36 := ⟨by decide +kernel, rfl⟩
theorem d_M_learn_36 : decode b_M_learn 36 = .ok (.istore 5, 2) ∧ 36 + 2 = 38 := ⟨by decide +kernel, rfl⟩
theorem d_M_learn_38 : decode b_M_learn 38 = .ok (.iload 5, 2) ∧ 38 + 2 = 40 := ⟨by decide +kernel, rfl⟩
theorem d_M_learn_40 : decode b_M_learn 40 = .ok (.bipush 8, 2) ∧ 40 + 2 = 42 := ⟨by decide +kernel, rfl⟩
theorem d_M_learn_42 : decode b_M_learn 42 = .ok (.if_icmp .ge 62, 3) ∧ 42 + 3 = 45 ∧ ((42 : Nat) : Int) + 62 = ((104 : Nat) : Int) := ⟨by decide +kernel, rfl, by decide⟩
theorem d_M_learn_45 : decode b_M_learn 45 = .ok (.aload_n 0, 1) ∧ 45 + 1 = 46 := ⟨by decide +kernel, rfl⟩
theorem d_M_learn_46 : decode b_M_learn 46 = .ok (.iload_n 1, 1) ∧ 46 + 1 = 47 := ⟨by decide +kernel, rfl⟩
theorem d_M_learn_47 : decode b_M_learn 47 = .ok (.iload 5, 2) ∧ 47 + 2 = 49 := ⟨by decide +kernel, rfl⟩
theorem d_M_learn_49 : decode b_M_learn 49 = .ok (.invokevirtual 134, 3) ∧ 49 + 3 = 52 := ⟨by decide +kernel, rfl⟩
theorem d_M_learn_52 : decode b_M_learn 52 = .ok (.ifCond .ne 6, 3) ∧ 52 + 3 = 55 ∧ ((52 : Nat) : Int) + 6 = ((58 : Nat) : Int) := ⟨by decide +kernel, rfl, by decide⟩
theorem d_M_learn_55 : decode b_M_learn 55 = .ok (.goto 43, 3) ∧ ((55 : Nat) : Int) + 43 = ((98 : Nat) : Int) := ⟨by decide +kernel, by decide⟩
theorem d_M_learn_58 : decode b_M_learn 58 = .ok (.sipush 481, 3) ∧ 58 + 3 = 61 := ⟨by decide +kernel, rfl⟩
theorem d_M_learn_61 : decode b_M_learn 61 = .ok (.iload 5, 2) ∧ 61 + 2 = 63 := ⟨by decide +kernel, rfl⟩
theorem d_M_learn_63 : decode b_M_learn 63 = .ok (.imul, 1) ∧ 63 + 1 = 64 := ⟨by decide +kernel, rfl⟩
theorem d_M_learn_64 : decode b_M_learn 64 = .ok (.aload_n 0, 1) ∧ 64 + 1 = 65 := ⟨by decide +kernel, rfl⟩
theorem d_M_learn_65 : decode b_M_learn 65 = .ok (.iload 5, 2) ∧ 65 + 2 = 67 := ⟨by decide +kernel, rfl⟩
theorem d_M_learn_67 : decode b_M_learn 67 = .ok (.iload_n 2, 1) ∧ 67 + 1 = 68 := ⟨by decide +kernel, rfl⟩
theorem d_M_learn_68 : decode b_M_learn 68 = .ok (.iload_n 3, 1) ∧ 68 + 1 = 69 := ⟨by decide +kernel, rfl⟩
theorem d_M_learn_69 : decode b_M_learn 69 = .ok (.invokevirtual 120, 3) ∧ 69 + 3 = 72 := ⟨by decide +kernel, rfl⟩
theorem d_M_learn_72 : decode b_M_learn 72 = .ok (.iadd, 1) ∧ 72 + 1 = 73 := ⟨by decide +kernel, rfl⟩
theorem d_M_learn_73 : decode b_M_learn 73 = .ok (.istore 6, 2) ∧ 73 + 2 = 75 := ⟨by decide +kernel, rfl⟩
theorem d_M_learn_75 : decode b_M_learn 75 = .ok (.aload_n 0, 1) ∧ 75 + 1 = 76 := ⟨by decide +kernel, rfl⟩
theorem d_M_learn_76 : decode b_M_learn 76 = .ok (.getfield 63, 3) ∧ 76 + 3 = 79 := ⟨by decide +kernel, rfl⟩
theorem d_M_learn_79 : decode b_M_learn 79 = .ok (.iload 6, 2) ∧ 79 + 2 = 81 := ⟨by decide +kernel, rfl⟩
theorem d_M_learn_81 : decode b_M_learn 81 = .ok (.dup2, 1) ∧ 81 + 1 = 82 := ⟨by decide +kernel, rfl⟩
theorem d_M_learn_82 : decode b_M_learn 82 = .ok (.iaload, 1) ∧ 82 + 1 = 83 := ⟨by decide +kernel, rfl⟩
theorem d_M_learn_83 : decode b_M_learn 83 = .ok (.iconst 1, 1) ∧ 83 + 1 = 84 := ⟨by decide +kernel, rfl⟩
theorem d_M_learn_84 : decode b_M_learn 84 = .ok (.isub, 1) ∧ 84 + 1 = 85 := ⟨by decide +kernel, rfl⟩
theorem d_M_learn_85 : decode b_M_learn 85 = .ok (.iastore, 1) ∧ 85 + 1 = 86 := ⟨by decide +kernel, rfl⟩
theorem d_M_learn_86 : decode b_M_learn 86 = .ok (.aload_n 0, 1) ∧ 86 + 1 = 87 := ⟨by decide +kernel, rfl⟩
theorem d_M_learn_87 : decode b_M_learn 87 = .ok (.getfield 66, 3) ∧ 87 + 3 = 90 := ⟨by decide +kernel, rfl⟩
theorem d_M_learn_90 : decode b_M_learn 90 = .ok (.iload 6, 2) ∧ 90 + 2 = 92 := ⟨by decide +kernel, rfl⟩
theorem d_M_learn_92 : decode b_M_learn 92 = .ok (.dup2, 1) ∧ 92 + 1 = 93 := ⟨by decide +kernel, rfl⟩
theorem d_M_learn_93 : decode b_M_learn 93 = .ok (.iaload, 1) ∧ 93 + 1 = 94 := ⟨by decide +kernel, rfl⟩
theorem d_M_learn_94 : decode b_M_learn 94 = .ok (.iload 4, 2) ∧ 94 + 2 = 96 := ⟨by decide +kernel, rfl⟩
theorem d_M_learn_96 : decode b_M_learn 96 = .ok (.isub, 1) ∧ 96 + 1 = 97 := ⟨by decide +kernel, rfl⟩
theorem d_M_learn_97 : decode b_M_learn 97 = .ok (.iastore, 1) ∧ 97 + 1 = 98 := ⟨by decide +kernel, rfl⟩
theorem d_M_learn_98 : decode b_M_learn 98 = .ok (.iinc 5 1, 3) ∧ 98 + 3 = 101 := ⟨by decide +kernel, rfl⟩
theorem d_M_learn_101 : decode b_M_learn 101 = .ok (.goto (-63), 3) ∧ ((101 : Nat) : Int) + (-63) = ((38 : Nat) : Int) := ⟨by decide +kernel, by decide⟩
theorem d_M_learn_104 : decode b_M_learn 104 = .ok (.return_, 1) := by decide +kernel
theorem d_M_learnOf_0 : decode b_M_learnOf 0 = .ok (.iload_n 2, 1) ∧ 0 + 1 = 1 := ⟨by decide +kernel, rfl⟩
theorem d_M_learnOf_1 : decode b_M_learnOf 1 = .ok (.sipush 481, 3) ∧ 1 + 3 = 4 := ⟨by decide +kernel, rfl⟩
theorem d_M_learnOf_4 : decode b_M_learnOf 4 = .ok (.idiv, 1) ∧ 4 + 1 = 5 := ⟨by decide +kernel, rfl⟩
theorem d_M_learnOf_5 : decode b_M_learnOf 5 = .ok (.istore_n 3, 1) ∧ 5 + 1 = 6 := ⟨by decide +kernel, rfl⟩
theorem d_M_learnOf_6 : decode b_M_learnOf 6 = .ok (.iload_n 2, 1) ∧ 6 + 1 = 7 := ⟨by decide +kernel, rfl⟩
theorem d_M_learnOf_7 : decode b_M_learnOf 7 = .ok (.sipush 481, 3) ∧ 7 + 3 = 10 := ⟨by decide +kernel, rfl⟩
theorem d_M_learnOf_10 : decode b_M_learnOf 10 = .ok (.irem, 1) ∧ 10 + 1 = 11 := ⟨by decide +kernel, rfl⟩
theorem d_M_learnOf_11 : decode b_M_learnOf 11 = .ok (.istore 4, 2) ∧ 11 + 2 = 13 := ⟨by decide +kernel, rfl⟩
theorem d_M_learnOf_13 : decode b_M_learnOf 13 = .ok (.iconst 0, 1) ∧ 13 + 1 = 14 := ⟨by decide +kernel, rfl⟩
theorem d_M_learnOf_14 : decode b_M_learnOf 14 = .ok (.istore 5, 2) ∧ 14 + 2 = 16 := ⟨by decide +kernel, rfl⟩
theorem d_M_learnOf_16 : decode b_M_learnOf 16 = .ok (.iload 5, 2) ∧ 16 + 2 = 18 := ⟨by decide +kernel, rfl⟩
theorem d_M_learnOf_18 : decode b_M_learnOf 18 = .ok (.aload_n 0, 1) ∧ 18 + 1 = 19 := ⟨by decide +kernel, rfl⟩
theorem d_M_learnOf_19 : decode b_M_learnOf 19 = .ok (.getfield 13, 3) ∧ 19 + 3 = 22 := ⟨by decide +kernel, rfl⟩
theorem d_M_learnOf_22 : decode b_M_learnOf 22 = .ok (.if_icmp .ge 76, 3) ∧ 22 + 3 = 25 ∧ ((22 : Nat) : Int) + 76 = ((98 : Nat) : Int) := ⟨by decide +kernel, rfl, by decide⟩
theorem d_M_learnOf_25 : decode b_M_learnOf 25 = .ok (.iconst 0, 1) ∧ 25 + 1 = 26 := ⟨by decide +kernel, rfl⟩
theorem d_M_learnOf_26 : decode b_M_learnOf 26 = .ok (.istore 6, 2) ∧ 26 + 2 = 28 := ⟨by decide +kernel, rfl⟩
theorem d_M_learnOf_28 : decode b_M_learnOf 28 = .ok (.iload 6, 2) ∧ 28 + 2 = 30 := ⟨by decide +kernel, rfl⟩
theorem d_M_learnOf_30 : decode b_M_learnOf 30 = .ok (.aload_n 0, 1) ∧ 30 + 1 = 31 := ⟨by decide +kernel, rfl⟩
theorem d_M_learnOf_31 : decode b_M_learnOf 31 = .ok (.getfield 7, 3) ∧ 31 + 3 = 34 := ⟨by decide +kernel, rfl⟩
theorem d_M_learnOf_34 : decode b_M_learnOf 34 = .ok (.if_icmp .ge 58, 3) ∧ 34 + 3 = 37 ∧ ((34 : Nat) : Int) + 58 = ((92 : Nat) : Int) := ⟨by decide +kernel, rfl, by decide⟩
theorem d_M_learnOf_37 : decode b_M_learnOf 37 = .ok (.aload_n 0, 1) ∧ 37 + 1 = 38 := ⟨by decide +kernel, rfl⟩
theorem d_M_learnOf_38 : decode b_M_learnOf 38 = .ok (.getfield 29, 3) ∧ 38 + 3 = 41 := ⟨by decide +kernel, rfl⟩
theorem d_M_learnOf_41 : decode b_M_learnOf 41 = .ok (.bipush 16, 2) ∧ 41 + 2 = 43 := ⟨by decide +kernel, rfl⟩
theorem d_M_learnOf_43 : decode b_M_learnOf 43 = .ok (.iload 5, 2) ∧ 43 + 2 = 45 := ⟨by decide +kernel, rfl⟩
theorem d_M_learnOf_45 : decode b_M_learnOf 45 = .ok (.imul, 1) ∧ 45 + 1 = 46 := ⟨by decide +kernel, rfl⟩
theorem d_M_learnOf_46 : decode b_M_learnOf 46 = .ok (.iload 6, 2) ∧ 46 + 2 = 48 := ⟨by decide +kernel, rfl⟩
theorem d_M_learnOf_48 : decode b_M_learnOf 48 = .ok (.iadd, 1) ∧ 48 + 1 = 49 := ⟨by decide +kernel, rfl⟩
theorem d_M_learnOf_49 : decode b_M_learnOf 49 = .ok (.baload, 1) ∧ 49 + 1 = 50 := ⟨by decide +kernel, rfl⟩
theorem d_M_learnOf_50 : decode b_M_learnOf 50 = .ok (.ifCond .ne 36, 3) ∧ 50 + 3 = 53 ∧ ((50 : Nat) : Int) + 36 = ((86 : Nat) : Int) := ⟨by decide +kernel, rfl, by decide⟩
theorem d_M_learnOf_53 : decode b_M_learnOf 53 = .ok (.aload_n 0, 1) ∧ 53 + 1 = 54 := ⟨by decide +kernel, rfl⟩
theorem d_M_learnOf_54 : decode b_M_learnOf 54 = .ok (.iload_n 3, 1) ∧ 54 + 1 = 55 := ⟨by decide +kernel, rfl⟩
theorem d_M_learnOf_55 : decode b_M_learnOf 55 = .ok (.iload 6, 2) ∧ 55 + 2 = 57 := ⟨by decide +kernel, rfl⟩
theorem d_M_learnOf_57 : decode b_M_learnOf 57 = .ok (.iload 5, 2) ∧ 57 + 2 = 59 := ⟨by decide +kernel, rfl⟩
theorem d_M_learnOf_59 : decode b_M_learnOf 59 = .ok (.invokevirtual 120, 3) ∧ 59 + 3 = 62 := ⟨by decide +kernel, rfl⟩
theorem d_M_learnOf_62 : decode b_M_learnOf 62 = .ok (.iload 4, 2) ∧ 62 + 2 = 64 := ⟨by decide +kernel, rfl⟩
theorem d_M_learnOf_64 : decode b_M_learnOf 64 = .ok (.if_icmp .eq 6, 3) ∧ 64 + 3 = 67 ∧ ((64 : Nat) : Int) + 6 = ((70 : Nat) : Int) := ⟨by decide +kernel, rfl, by decide⟩
theorem d_M_learnOf_67 : decode b_M_learnOf 67 = .ok (.goto 19, 3) ∧ ((67 : Nat) : Int) + 19 = ((86 : Nat) : Int) := ⟨by decide +kernel, by decide⟩
theorem d_M_learnOf_70 : decode b_M_learnOf 70 = .ok (.aload_n 0, 1) ∧ 70 + 1 = 71 := ⟨by decide +kernel, rfl⟩
theorem d_M_learnOf_71 : decode b_M_learnOf 71 = .ok (.iload_n 1, 1) ∧ 71 + 1 = 72 := ⟨by decide +kernel, rfl⟩
theorem d_M_learnOf_72 : decode b_M_learnOf 72 = .ok (.iload 6, 2) ∧ 72 + 2 = 74 := ⟨by decide +kernel, rfl⟩
theorem d_M_learnOf_74 : decode b_M_learnOf 74 = .ok (.iload 5, 2) ∧ 74 + 2 = 76 := ⟨by decide +kernel, rfl⟩
theorem d_M_learnOf_76 : decode b_M_learnOf 76 = .ok (.aload_n 0, 1) ∧ 76 + 1 = 77 := ⟨by decide +kernel, rfl⟩
theorem d_M_learnOf_77 : decode b_M_learnOf 77 = .ok (.getfield 66, 3) ∧ 77 + 3 = 80 := ⟨by decide +kernel, rfl⟩
theorem d_M_learnOf_80 : decode b_M_learnOf 80 = .ok (.iload_n 2, 1) ∧ 80 + 1 = 81 := ⟨by decide +kernel, rfl⟩
theorem d_M_learnOf_81 : decode b_M_learnOf 81 = .ok (.iaload, 1) ∧ 81 + 1 = 82 := ⟨by decide +kernel, rfl⟩
theorem d_M_learnOf_82 : decode b_M_learnOf 82 = .ok (.invokevirtual 146, 3) ∧ 82 + 3 = 85 := ⟨by decide +kernel, rfl⟩
theorem d_M_learnOf_85 : decode b_M_learnOf 85 = .ok (.return_, 1) := by decide +kernel
theorem d_M_learnOf_86 : decode b_M_learnOf 86 = .ok (.iinc 6 1, 3) ∧ 86 + 3 = 89 := ⟨by decide +kernel, rfl⟩
theorem d_M_learnOf_89 : decode b_M_learnOf 89 = .ok (.goto (-61), 3) ∧ ((89 : Nat) : Int) + (-61) = ((28 : Nat) : Int) := ⟨by decide +kernel, by decide⟩
theorem d_M_learnOf_92 : decode b_M_learnOf 92 = .ok (.iinc 5 1, 3) ∧ 92 + 3 = 95 := ⟨by decide +kernel, rfl⟩
theorem d_M_learnOf_95 : decode b_M_learnOf 95 = .ok (.goto (-79), 3) ∧ ((95 : Nat) : Int) + (-79) = ((16 : Nat) : Int) := ⟨by decide +kernel, by decide⟩
theorem d_M_learnOf_98 : decode b_M_learnOf 98 = .ok (.return_, 1) := by decide +kernel
theorem d_M_look_0 : decode b_M_look 0 = .ok (.iload_n 1, 1) ∧ 0 + 1 = 1 := ⟨by decide +kernel, rfl⟩
theorem d_M_look_1 : decode b_M_look 1 = .ok (.iconst 1, 1) ∧ 1 + 1 = 2 := ⟨by decide +kernel, rfl⟩
theorem d_M_look_2 : decode b_M_look 2 = .ok (.if_icmp .ne 10, 3) ∧ 2 + 3 = 5 ∧ ((2 : Nat) : Int) + 10 = ((12 : Nat) : Int) := ⟨by decide +kernel, rfl, by decide⟩
theorem d_M_look_5 : decode b_M_look 5 = .ok (.aload_n 0, 1) ∧ 5 + 1 = 6 := ⟨by decide +kernel, rfl⟩
theorem d_M_look_6 : decode b_M_look 6 = .ok (.getfield 92, 3) ∧ 6 + 3 = 9 := ⟨by decide +kernel, rfl⟩
theorem d_M_look_9 : decode b_M_look 9 = .ok (.ifCond .eq 15, 3) ∧ 9 + 3 = 12 ∧ ((9 : Nat) : Int) + 15 = ((24 : Nat) : Int) := ⟨by decide +kernel, rfl, by decide⟩
theorem d_M_look_12 : decode b_M_look 12 = .ok (.iload_n 1, 1) ∧ 12 + 1 = 13 := ⟨by decide +kernel, rfl⟩
theorem d_M_look_13 : decode b_M_look 13 = .ok (.iconst 2, 1) ∧ 13 + 1 = 14 := ⟨by decide +kernel, rfl⟩
theorem d_M_look_14 : decode b_M_look 14 = .ok (.if_icmp .ne 14, 3) ∧ 14 + 3 = 17 ∧ ((14 : Nat) : Int) + 14 = ((28 : Nat) : Int) := ⟨by decide +kernel, rfl, by decide⟩
theorem d_M_look_17 : decode b_M_look 17 = .ok (.aload_n 0, 1) ∧ 17 + 1 = 18 := ⟨by decide +kernel, rfl⟩
theorem d_M_look_18 : decode b_M_look 18 = .ok (.getfield 96, 3) ∧ 18 + 3 = 21 := ⟨by decide +kernel, rfl⟩
theorem d_M_look_21 : decode b_M_look 21 = .ok (.ifCond .ne 7, 3) ∧ 21 + 3 = 24 ∧ ((21 : Nat) : Int) + 7 = ((28 : Nat) : Int) := ⟨by decide +kernel, rfl, by decide⟩
theorem d_M_look_24 : decode b_M_look 24 = .ok (.iconst 1, 1) ∧ 24 + 1 = 25 := ⟨by decide +kernel, rfl⟩
theorem d_M_look_25 : decode b_M_look 25 = .ok (.goto 4, 3) ∧ ((25 : Nat) : Int) + 4 = ((29 : Nat) : Int) := ⟨by decide +kernel, by decide⟩
theorem d_M_look_28 : decode b_M_look 28 = .ok (.iconst 0, 1) ∧ 28 + 1 = 29 := ⟨by decide +kernel, rfl⟩
theorem d_M_look_29 : decode b_M_look 29 = .ok (.istore 4, 2) ∧ 29 + 2 = 31 := ⟨by decide +kernel, rfl⟩
theorem d_M_look_31 : decode b_M_look 31 = .ok (.aload_n 0, 1) ∧ 31 + 1 = 32 := ⟨by decide +kernel, rfl⟩
theorem d_M_look_32 : decode b_M_look 32 = .ok (.iload_n 1, 1) ∧ 32 + 1 = 33 := ⟨by decide +kernel, rfl⟩
theorem d_M_look_33 : decode b_M_look 33 = .ok (.ifCond .lt 17, 3) ∧ 33 + 3 = 36 ∧ ((33 : Nat) : Int) + 17 = ((50 : Nat) : Int) := ⟨by decide +kernel, rfl, by decide⟩
theorem d_M_look_36 : decode b_M_look 36 = .ok (.iload_n 1, 1) ∧ 36 + 1 = 37 := ⟨by decide +kernel, rfl⟩
theorem d_M_look_37 : decode b_M_look 37 = .ok (.iconst 2, 1) ∧ 37 + 1 = 38 := ⟨by decide +kernel, rfl⟩
theorem d_M_look_38 : decode b_M_look 38 = .ok (.if_icmp .gt 12, 3) ∧ 38 + 3 = 41 ∧ ((38 : Nat) : Int) + 12 = ((50 : Nat) : Int) := ⟨by decide +kernel, rfl, by decide⟩
theorem d_M_look_41 : decode b_M_look 41 = .ok (.aload_n 0, 1) ∧ 41 + 1 = 42 := ⟨by decide +kernel, rfl⟩
theorem d_M_look_42 : decode b_M_look 42 = .ok (.iload_n 2, 1) ∧ 42 + 1 = 43 := ⟨by decide +kernel, rfl⟩
theorem d_M_look_43 : decode b_M_look 43 = .ok (.iload_n 3, 1) ∧ 43 + 1 = 44 := ⟨by decide +kernel, rfl⟩
theorem d_M_look_44 : decode b_M_look 44 = .ok (.invokevirtual 99, 3) ∧ 44 + 3 = 47 := ⟨by decide +kernel, rfl⟩
theorem d_M_look_47 : decode b_M_look 47 = .ok (.ifCond .ne 7, 3) ∧ 47 + 3 = 50 ∧ ((47 : Nat) : Int) + 7 = ((54 : Nat) : Int) := ⟨by decide +kernel, rfl, by decide⟩
theorem d_M_look_50 : decode b_M_look 50 = .ok (.iconst 1, 1) ∧ 50 + 1 = 51 := ⟨by decide +kernel, rfl⟩
theorem d_M_look_51 : decode b_M_look 51 = .ok (.goto 4, 3) ∧ ((51 : Nat) : Int) + 4 = ((55 : Nat) : Int) := ⟨by decide +kernel, by decide⟩
theorem d_M_look_54 : decode b_M_look 54 = .ok (.iconst 0, 1) ∧ 54 + 1 = 55 := ⟨by decide +kernel, rfl⟩
theorem d_M_look_55 : decode b_M_look 55 = .ok (.iload 4, 2) ∧ 55 + 2 = 57 := ⟨by decide +kernel, rfl⟩
theorem d_M_look_57 : decode b_M_look 57 = .ok (.invokevirtual 88, 3) ∧ 57 + 3 = 60 := ⟨by decide +kernel, rfl⟩
theorem d_M_look_60 : decode b_M_look 60 = .ok (.ifCond .eq 5, 3) ∧ 60 + 3 = 63 ∧ ((60 : Nat) : Int) + 5 = ((65 : Nat) : Int) := ⟨by decide +kernel, rfl, by decide⟩
theorem d_M_look_63 : decode b_M_look 63 = .ok (.iconst 0, 1) ∧ 63 + 1 = 64 := ⟨by decide +kernel, rfl⟩
theorem d_M_look_64 : decode b_M_look 64 = .ok (.ireturn, 1) := by decide +kernel
theorem d_M_look_65 : decode b_M_look 65 = .ok (.bipush 16, 2) ∧ 65 + 2 = 67 := ⟨by decide +kernel, rfl⟩
theorem d_M_look_67 : decode b_M_look 67 = .ok (.iload_n 3, 1) ∧ 67 + 1 = 68 := ⟨by decide +kernel, rfl⟩
theorem d_M_look_68 : decode b_M_look 68 = .ok (.imul, 1) ∧ 68 + 1 = 69 := ⟨by decide +kernel, rfl⟩
theorem d_M_look_69 : decode b_M_look 69 = .ok (.iload_n 2, 1) ∧ 69 + 1 = 70 := ⟨by decide +kernel, rfl⟩
theorem d_M_look_70 : decode b_M_look 70 = .ok (.iadd, 1) ∧ 70 + 1 = 71 := ⟨by decide +kernel, rfl⟩
theorem d_M_look_71 : decode b_M_look 71 = .ok (.istore 5, 2) ∧ 71 + 2 = 73 := ⟨by decide +kernel, rfl⟩
theorem d_M_look_73 : decode b_M_look 73 = .ok (.iload_n 1, 1) ∧ 73 + 1 = 74 := ⟨by decide +kernel, rfl⟩
theorem d_M_look_74 : decode b_M_look 74 = .ok (.ifCond .ne 13, 3) ∧ 74 + 3 = 77 ∧ ((74 : Nat) : Int) + 13 = ((87 : Nat) : Int) := ⟨by decide +kernel, rfl, by decide⟩
theorem d_M_look_77 : decode b_M_look 77 = .ok (.aload_n 0, 1) ∧ 77 + 1 = 78 := ⟨by decide +kernel, rfl⟩
theorem d_M_look_78 : decode b_M_look 78 = .ok (.getfield 16, 3) ∧ 78 + 3 = 81 := ⟨by decide +kernel, rfl⟩
theorem d_M_look_81 : decode b_M_look 81 = .ok (.iload 5, 2) ∧ 81 + 2 = 83 := ⟨by decide +kernel, rfl⟩
theorem d_M_look_83 : decode b_M_look 83 = .ok (.iaload, 1) ∧ 83 + 1 = 84 := ⟨by decide +kernel, rfl⟩
theorem d_M_look_84 : decode b_M_look 84 = .ok (.goto 25, 3) ∧ ((84 : Nat) : Int) + 25 = ((109 : Nat) : Int) := ⟨by decide +kernel, by decide⟩
theorem d_M_look_87 : decode b_M_look 87 = .ok (.iload_n 1, 1) ∧ 87 + 1 = 88 := ⟨by decide +kernel, rfl⟩
theorem d_M_look_88 : decode b_M_look 88 = .ok (.iconst 1, 1) ∧ 88 + 1 = 89 := ⟨by decide +kernel, rfl⟩
theorem d_M_look_89 : decode b_M_look 89 = .ok (.if_icmp .ne 13, 3) ∧ 89 + 3 = 92 ∧ ((89 : Nat) : Int) + 13 = ((102 : Nat) : Int) := ⟨by decide +kernel, rfl, by decide⟩
theorem d_M_look_92 : decode b_M_look 92 = .ok (.aload_n 0, 1) ∧ 92 + 1 = 93 := ⟨by decide +kernel, rfl⟩
theorem d_M_look_93 : decode b_M_look 93 = .ok (.getfield 20, 3) ∧ 93 + 3 = 96 := ⟨by decide +kernel, rfl⟩
theorem d_M_look_96 : decode b_M_look 96 = .ok (.iload 5, 2) ∧ 96 + 2 = 98 := ⟨by decide +kernel, rfl⟩
theorem d_M_look_98 : decode b_M_look 98 = .ok (.iaload, 1) ∧ 98 + 1 = 99 := ⟨by decide +kernel, rfl⟩
theorem d_M_look_99 : decode b_M_look 99 = .ok (.goto 10, 3) ∧ ((99 : Nat) : Int) + 10 = ((109 : Nat) : Int) := ⟨by decide +kernel, by decide⟩
theorem d_M_look_102 : decode b_M_look 102 = .ok (.aload_n 0, 1) ∧ 102 + 1 = 103 := ⟨by decide +kernel, rfl⟩
theorem d_M_look_103 : decode b_M_look 103 = .ok (.getfield 23, 3) ∧ 103 + 3 = 106 := ⟨by decide +kernel, rfl⟩
theorem d_M_look_106 : decode b_M_look 106 = .ok (.iload 5, 2) ∧ 106 + 2 = 108 := ⟨by decide +kernel, rfl⟩
theorem d_M_look_108 : decode b_M_look 108 = .ok (.iaload, 1) ∧ 108 + 1 = 109 := ⟨by decide +kernel, rfl⟩
theorem d_M_look_109 : decode b_M_look 109 = .ok (.ireturn, 1) := by decide +kernel
theorem d_M_lowestColumn_0 : decode b_M_lowestColumn 0 = .ok (.iconst 0, 1) ∧ 0 + 1 = 1 := ⟨by decide +kernel, rfl⟩
theorem d_M_lowestColumn_1 : decode b_M_lowestColumn 1 = .ok (.istore_n 1, 1) ∧ 1 + 1 = 2 := ⟨by decide +kernel, rfl⟩
theorem d_M_lowestColumn_2 : decode b_M_lowestColumn 2 = .ok (.iload_n 1, 1) ∧ 2 + 1 = 3 := ⟨by decide +kernel, rfl⟩
theorem d_M_lowestColumn_3 : decode b_M_lowestColumn 3 = .ok (.bipush 32, 2) ∧ 3 + 2 = 5 := ⟨by decide +kernel, rfl⟩
theorem d_M_lowestColumn_5 : decode b_M_lowestColumn 5 = .ok (.if_icmp .ge 39, 3) ∧ 5 + 3 = 8 ∧ ((5 : Nat) : Int) + 39 = ((44 : Nat) : Int) := ⟨by decide +kernel, rfl, by decide⟩
theorem d_M_lowestColumn_8 : decode b_M_lowestColumn 8 = .ok (.iconst 0, 1) ∧ 8 + 1 = 9 := ⟨by decide +kernel, rfl⟩
theorem d_M_lowestColumn_9 : decode b_M_lowestColumn 9 = .ok (.istore_n 2, 1) ∧ 9 + 1 = 10 := ⟨by decide +kernel, rfl⟩
theorem d_M_lowestColumn_10 : decode b_M_lowestColumn 10 = .ok (.iload_n 2, 1) ∧ 10 + 1 = 11 := ⟨by decide +kernel, rfl⟩
theorem d_M_lowestColumn_11 : decode b_M_lowestColumn 11 = .ok (.bipush 16, 2) ∧ 11 + 2 = 13 := ⟨by decide +kernel, rfl⟩
theorem d_M_lowestColumn_13 : decode b_M_lowestColumn 13 = .ok (.if_icmp .ge 25, 3) ∧ 13 + 3 = 16 ∧ ((13 : Nat) : Int) + 25 = ((38 : Nat) : Int) := ⟨by decide +kernel, rfl, by decide⟩
theorem d_M_lowestColumn_16 : decode b_M_lowestColumn 16 = .ok (.aload_n 0, 1) ∧ 16 + 1 = 17 := ⟨by decide +kernel, rfl⟩
theorem d_M_lowestColumn_17 : decode b_M_lowestColumn 17 = .ok (.getfield 75, 3) ∧ 17 + 3 = 20 := ⟨by decide +kernel, rfl⟩
theorem d_M_lowestColumn_20 : decode b_M_lowestColumn 20 = .ok (.bipush 32, 2) ∧ 20 + 2 = 22 := ⟨by decide +kernel, rfl⟩
theorem d_M_lowestColumn_22 : decode b_M_lowestColumn 22 = .ok (.iload_n 2, 1) ∧ 22 + 1 = 23 := ⟨by decide +kernel, rfl⟩
theorem d_M_lowestColumn_23 : decode b_M_lowestColumn 23 = .ok (.imul, 1) ∧ 23 + 1 = 24 := ⟨by decide +kernel, rfl⟩
theorem d_M_lowestColumn_24 : decode b_M_lowestColumn 24 = .ok (.iload_n 1, 1) ∧ 24 + 1 = 25 := ⟨by decide +kernel, rfl⟩
theorem d_M_lowestColumn_25 : decode b_M_lowestColumn 25 = .ok (.iadd, 1) ∧ 25 + 1 = 26 := ⟨by decide +kernel, rfl⟩
theorem d_M_lowestColumn_26 : decode b_M_lowestColumn 26 = .ok (.iaload, 1) ∧ 26 + 1 = 27 := ⟨by decide +kernel, rfl⟩
theorem d_M_lowestColumn_27 : decode b_M_lowestColumn 27 = .ok (.ifCond .eq 5, 3) ∧ 27 + 3 = 30 ∧ ((27 : Nat) : Int) + 5 = ((32 : Nat) : Int) := ⟨by decide +kernel, rfl, by decide⟩
theorem d_M_lowestColumn_30 : decode b_M_lowestColumn 30 = .ok (.iload_n 1, 1) ∧ 30 + 1 = 31 := ⟨by decide +kernel, rfl⟩
theorem d_M_lowestColumn_31 : decode b_M_lowestColumn 31 = .ok (.ireturn, 1) := by decide +kernel
theorem d_M_lowestColumn_32 : decode b_M_lowestColumn 32 = .ok (.iinc 2 1, 3) ∧ 32 + 3 = 35 := ⟨by decide +kernel, rfl⟩
theorem d_M_lowestColumn_35 : decode b_M_lowestColumn 35 = .ok (.goto (-25), 3) ∧ ((35 : Nat) : Int) + (-25) = ((10 : Nat) : Int) := ⟨by decide +kernel, by decide⟩
theorem d_M_lowestColumn_38 : decode b_M_lowestColumn 38 = .ok (.iinc 1 1, 3) ∧ 38 + 3 = 41 := ⟨by decide +kernel, rfl⟩
theorem d_M_lowestColumn_41 : decode b_M_lowestColumn 41 = .ok (.goto (-39), 3) ∧ ((41 : Nat) : Int) + (-39) = ((2 : Nat) : Int) := ⟨by decide +kernel, by decide⟩
theorem d_M_lowestColumn_44 : decode b_M_lowestColumn 44 = .ok (.iconst 0, 1) ∧ 44 + 1 = 45 := ⟨by decide +kernel, rfl⟩
theorem d_M_lowestColumn_45 : decode b_M_lowestColumn 45 = .ok (.ireturn, 1) := by decide +kernel
theorem d_M_moveAway_0 : decode b_M_moveAway 0 = .ok (.iconst 0, 1) ∧ 0 + 1 = 1 := ⟨by decide +kernel, rfl⟩
theorem d_M_moveAway_1 : decode b_M_moveAway 1 = .ok (.istore_n 3, 1) ∧ 1 + 1 = 2 := ⟨by decide +kernel, rfl⟩
theorem d_M_moveAway_2 : decode b_M_moveAway 2 = .ok (.iload_n 3, 1) ∧ 2 + 1 = 3 := ⟨by decide +kernel, rfl⟩
theorem d_M_moveAway_3 : decode b_M_moveAway 3 = .ok (.sipush 512, 3) ∧ 3 + 3 = 6 := ⟨by decide +kernel, rfl⟩
theorem d_M_moveAway_6 : decode b_M_moveAway 6 = .ok (.if_icmp .ge 21, 3) ∧ 6 + 3 = 9 ∧ ((6 : Nat) : Int) + 21 = ((27 : Nat) : Int) := ⟨by decide +kernel, rfl, by decide⟩
theorem d_M_moveAway_9 : decode b_M_moveAway 9 = .ok (.aload_n 0, 1) ∧ 9 + 1 = 10 := ⟨by decide +kernel, rfl⟩
theorem d_M_moveAway_10 : decode b_M_moveAway 10 = .ok (.getfield 78, 3) ∧ 10 + 3 = 13 := ⟨by decide +kernel, rfl⟩
theorem d_M_moveAway_13 : decode b_M_moveAway 13 = .ok (.iload_n 3, 1) ∧ 13 + 1 = 14 := ⟨by decide +kernel, rfl⟩
theorem d_M_moveAway_14 : decode b_M_moveAway 14 = .ok (.aload_n 0, 1) ∧ 14 + 1 = 15 := ⟨by decide +kernel, rfl⟩
theorem d_M_moveAway_15 : decode b_M_moveAway 15 = .ok (.getfield 75, 3) ∧ 15 + 3 = 18 := ⟨by decide +kernel, rfl⟩
theorem d_M_moveAway_18 : decode b_M_moveAway 18 = .ok (.iload_n 3, 1) ∧ 18 + 1 = 19 := ⟨by decide +kernel, rfl⟩
theorem d_M_moveAway_19 : decode b_M_moveAway 19 = .ok (.iaload, 1) ∧ 19 + 1 = 20 := ⟨by decide +kernel, rfl⟩
theorem d_M_moveAway_20 : decode b_M_moveAway 20 = .ok (.iastore, 1) ∧ 20 + 1 = 21 := ⟨by decide +kernel, rfl⟩
theorem d_M_moveAway_21 : decode b_M_moveAway 21 = .ok (.iinc 3 1, 3) ∧ 21 + 3 = 24 := ⟨by decide +kernel, rfl⟩
end
section
theorem d_M_moveAway_24 : decode b_M_moveAway 24 = .ok (.goto (-22), 3) ∧ ((24 : Nat) : Int) + (-22) = ((2 : Nat) : Int) := ⟨by decide +kernel, by decide⟩
theorem d_M_moveAway_27 : decode b_M_moveAway 27 = .ok (.iconst 0, 1) ∧ 27 + 1 = 28 := ⟨by decide +kernel, rfl⟩
theorem d_M_moveAway_28 : decode b_M_moveAway 28 = .ok (.istore_n 3, 1) ∧ 28 + 1 = 29 := ⟨by decide +kernel, rfl⟩
theorem d_M_moveAway_29 : decode b_M_moveAway 29 = .ok (.iload_n 3, 1) ∧ 29 + 1 = 30 := ⟨by decide +kernel, rfl⟩
theorem d_M_moveAway_30 : decode b_M_moveAway 30 = .ok (.bipush 16, 2) ∧ 30 + 2 = 32 := ⟨by decide +kernel, rfl⟩
theorem d_M_moveAway_32 : decode b_M_moveAway 32 = .ok (.if_icmp .ge 65, 3) ∧ 32 + 3 = 35 ∧ ((32 : Nat) : Int) + 65 = ((97 : Nat) : Int) := ⟨by decide +kernel, rfl, by decide⟩
theorem d_M_moveAway_35 : decode b_M_moveAway 35 = .ok (.iconst 0, 1) ∧ 35 + 1 = 36 := ⟨by decide +kernel, rfl⟩
theorem d_M_moveAway_36 : decode b_M_moveAway 36 = .ok (.istore 4, 2) ∧ 36 + 2 = 38 := ⟨by decide +kernel, rfl⟩
theorem d_M_moveAway_38 : decode b_M_moveAway 38 = .ok (.iload 4, 2) ∧ 38 + 2 = 40 := ⟨by decide +kernel, rfl⟩
theorem d_M_moveAway_40 : decode b_M_moveAway 40 = .ok (.bipush 32, 2) ∧ 40 + 2 = 42 := ⟨by decide +kernel, rfl⟩
theorem d_M_moveAway_42 : decode b_M_moveAway 42 = .ok (.if_icmp .ge 49, 3) ∧ 42 + 3 = 45 ∧ ((42 : Nat) : Int) + 49 = ((91 : Nat) : Int) := ⟨by decide +kernel, rfl, by decide⟩
theorem d_M_moveAway_45 : decode b_M_moveAway 45 = .ok (.aload_n 0, 1) ∧ 45 + 1 = 46 := ⟨by decide +kernel, rfl⟩
theorem d_M_moveAway_46 : decode b_M_moveAway 46 = .ok (.getfield 75, 3) ∧ 46 + 3 = 49 := ⟨by decide +kernel, rfl⟩
theorem d_M_moveAway_49 : decode b_M_moveAway 49 = .ok (.bipush 32, 2) ∧ 49 + 2 = 51 := ⟨by decide +kernel, rfl⟩
theorem d_M_moveAway_51 : decode b_M_moveAway 51 = .ok (.iload_n 3, 1) ∧ 51 + 1 = 52 := ⟨by decide +kernel, rfl⟩
theorem d_M_moveAway_52 : decode b_M_moveAway 52 = .ok (.imul, 1) ∧ 52 + 1 = 53 := ⟨by decide +kernel, rfl⟩
theorem d_M_moveAway_53 : decode b_M_moveAway 53 = .ok (.iload 4, 2) ∧ 53 + 2 = 55 := ⟨by decide +kernel, rfl⟩
theorem d_M_moveAway_55 : decode b_M_moveAway 55 = .ok (.iadd, 1) ∧ 55 + 1 = 56 := ⟨by decide +kernel, rfl⟩
theorem d_M_moveAway_56 : decode b_M_moveAway 56 = .ok (.iaload, 1) ∧ 56 + 1 = 57 := ⟨by decide +kernel, rfl⟩
theorem d_M_moveAway_57 : decode b_M_moveAway 57 = .ok (.istore 5, 2) ∧ 57 + 2 = 59 := ⟨by decide +kernel, rfl⟩
theorem d_M_moveAway_59 : decode b_M_moveAway 59 = .ok (.iload 5, 2) ∧ 59 + 2 = 61 := ⟨by decide +kernel, rfl⟩
theorem d_M_moveAway_61 : decode b_M_moveAway 61 = .ok (.ifCond .eq 24, 3) ∧ 61 + 3 = 64 ∧ ((61 : Nat) : Int) + 24 = ((85 : Nat) : Int) := ⟨by decide +kernel, rfl, by decide⟩
theorem d_M_moveAway_64 : decode b_M_moveAway 64 = .ok (.aload_n 0, 1) ∧ 64 + 1 = 65 := ⟨by decide +kernel, rfl⟩
theorem d_M_moveAway_65 : decode b_M_moveAway 65 = .ok (.getfield 78, 3) ∧ 65 + 3 = 68 := ⟨by decide +kernel, rfl⟩
theorem d_M_moveAway_68 : decode b_M_moveAway 68 = .ok (.bipush 32, 2) ∧ 68 + 2 = 70 := ⟨by decide +kernel, rfl⟩
theorem d_M_moveAway_70 : decode b_M_moveAway 70 = .ok (.iload_n 3, 1) ∧ 70 + 1 = 71 := ⟨by decide +kernel, rfl⟩
theorem d_M_moveAway_71 : decode b_M_moveAway 71 = .ok (.iload_n 2, 1) ∧ 71 + 1 = 72 := ⟨by decide +kernel, rfl⟩
theorem d_M_moveAway_72 : decode b_M_moveAway 72 = .ok (.iadd, 1) ∧ 72 + 1 = 73 := ⟨by decide +kernel, rfl⟩
theorem d_M_moveAway_73 : decode b_M_moveAway 73 = .ok (.imul, 1) ∧ 73 + 1 = 74 := ⟨by decide +kernel, rfl⟩
theorem d_M_moveAway_74 : decode b_M_moveAway 74 = .ok (.iload 4, 2) ∧ 74 + 2 = 76 := ⟨by decide +kernel, rfl⟩
theorem d_M_moveAway_76 : decode b_M_moveAway 76 = .ok (.iadd, 1) ∧ 76 + 1 = 77 := ⟨by decide +kernel, rfl⟩
theorem d_M_moveAway_77 : decode b_M_moveAway 77 = .ok (.iload_n 1, 1) ∧ 77 + 1 = 78 := ⟨by decide +kernel, rfl⟩
theorem d_M_moveAway_78 : decode b_M_moveAway 78 = .ok (.iadd, 1) ∧ 78 + 1 = 79 := ⟨by decide +kernel, rfl⟩
theorem d_M_moveAway_79 : decode b_M_moveAway 79 = .ok (.dup2, 1) ∧ 79 + 1 = 80 := ⟨by decide +kernel, rfl⟩
theorem d_M_moveAway_80 : decode b_M_moveAway 80 = .ok (.iaload, 1) ∧ 80 + 1 = 81 := ⟨by decide +kernel, rfl⟩
theorem d_M_moveAway_81 : decode b_M_moveAway 81 = .ok (.iload 5, 2) ∧ 81 + 2 = 83 := ⟨by decide +kernel, rfl⟩
theorem d_M_moveAway_83 : decode b_M_moveAway 83 = .ok (.isub, 1) ∧ 83 + 1 = 84 := ⟨by decide +kernel, rfl⟩
theorem d_M_moveAway_84 : decode b_M_moveAway 84 = .ok (.iastore, 1) ∧ 84 + 1 = 85 := ⟨by decide +kernel, rfl⟩
theorem d_M_moveAway_85 : decode b_M_moveAway 85 = .ok (.iinc 4 1, 3) ∧ 85 + 3 = 88 := ⟨by decide +kernel, rfl⟩
theorem d_M_moveAway_88 : decode b_M_moveAway 88 = .ok (.goto (-50), 3) ∧ ((88 : Nat) : Int) + (-50) = ((38 : Nat) : Int) := ⟨by decide +kernel, by decide⟩
theorem d_M_moveAway_91 : decode b_M_moveAway 91 = .ok (.iinc 3 1, 3) ∧ 91 + 3 = 94 := ⟨by decide +kernel, rfl⟩
theorem d_M_moveAway_94 : decode b_M_moveAway 94 = .ok (.goto (-65), 3) ∧ ((94 : Nat) : Int) + (-65) = ((29 : Nat) : Int) := ⟨by decide +kernel, by decide⟩
theorem d_M_moveAway_97 : decode b_M_moveAway 97 = .ok (.iconst 0, 1) ∧ 97 + 1 = 98 := ⟨by decide +kernel, rfl⟩
theorem d_M_moveAway_98 : decode b_M_moveAway 98 = .ok (.istore_n 3, 1) ∧ 98 + 1 = 99 := ⟨by decide +kernel, rfl⟩
theorem d_M_moveAway_99 : decode b_M_moveAway 99 = .ok (.iload_n 3, 1) ∧ 99 + 1 = 100 := ⟨by decide +kernel, rfl⟩
theorem d_M_moveAway_100 : decode b_M_moveAway 100 = .ok (.sipush 512, 3) ∧ 100 + 3 = 103 := ⟨by decide +kernel, rfl⟩
theorem d_M_moveAway_103 : decode b_M_moveAway 103 = .ok (.if_icmp .ge 21, 3) ∧ 103 + 3 = 106 ∧ ((103 : Nat) : Int) + 21 = ((124 : Nat) : Int) := ⟨by decide +kernel, rfl, by decide⟩
theorem d_M_moveAway_106 : decode b_M_moveAway 106 = .ok (.aload_n 0, 1) ∧ 106 + 1 = 107 := ⟨by decide +kernel, rfl⟩
theorem d_M_moveAway_107 : decode b_M_moveAway 107 = .ok (.getfield 75, 3) ∧ 107 + 3 = 110 := ⟨by decide +kernel, rfl⟩
theorem d_M_moveAway_110 : decode b_M_moveAway 110 = .ok (.iload_n 3, 1) ∧ 110 + 1 = 111 := ⟨by decide +kernel, rfl⟩
theorem d_M_moveAway_111 : decode b_M_moveAway 111 = .ok (.aload_n 0, 1) ∧ 111 + 1 = 112 := ⟨by decide +kernel, rfl⟩
theorem d_M_moveAway_112 : decode b_M_moveAway 112 = .ok (.getfield 78, 3) ∧ 112 + 3 = 115 := ⟨by decide +kernel, rfl⟩
theorem d_M_moveAway_115 : decode b_M_moveAway 115 = .ok (.iload_n 3, 1) ∧ 115 + 1 = 116 := ⟨by decide +kernel, rfl⟩
theorem d_M_moveAway_116 : decode b_M_moveAway 116 = .ok (.iaload, 1) ∧ 116 + 1 = 117 := ⟨by decide +kernel, rfl⟩
theorem d_M_moveAway_117 : decode b_M_moveAway 117 = .ok (.iastore, 1) ∧ 117 + 1 = 118 := ⟨by decide +kernel, rfl⟩
theorem d_M_moveAway_118 : decode b_M_moveAway 118 = .ok (.iinc 3 1, 3) ∧ 118 + 3 = 121 := ⟨by decide +kernel, rfl⟩
theorem d_M_moveAway_121 : decode b_M_moveAway 121 = .ok (.goto (-22), 3) ∧ ((121 : Nat) : Int) + (-22) = ((99 : Nat) : Int) := ⟨by decide +kernel, by decide⟩
theorem d_M_moveAway_124 : decode b_M_moveAway 124 = .ok (.return_, 1) := by decide +kernel
theorem d_M_parts_0 : decode b_M_parts 0 = .ok (.aload_n 0, 1) ∧ 0 + 1 = 1 := ⟨by decide +kernel, rfl⟩
theorem d_M_parts_1 : decode b_M_parts 1 = .ok (.iload_n 1, 1) ∧ 1 + 1 = 2 := ⟨by decide +kernel, rfl⟩
theorem d_M_parts_2 : decode b_M_parts 2 = .ok (.aload_n 0, 1) ∧ 2 + 1 = 3 := ⟨by decide +kernel, rfl⟩
theorem d_M_parts_3 : decode b_M_parts 3 = .ok (.getfield 26, 3) ∧ 3 + 3 = 6 := ⟨by decide +kernel, rfl⟩
theorem d_M_parts_6 : decode b_M_parts 6 = .ok (.invokevirtual 124, 3) ∧ 6 + 3 = 9 := ⟨by decide +kernel, rfl⟩
theorem d_M_parts_9 : decode b_M_parts 9 = .ok (.aload_n 0, 1) ∧ 9 + 1 = 10 := ⟨by decide +kernel, rfl⟩
theorem d_M_parts_10 : decode b_M_parts 10 = .ok (.iload_n 1, 1) ∧ 10 + 1 = 11 := ⟨by decide +kernel, rfl⟩
theorem d_M_parts_11 : decode b_M_parts 11 = .ok (.invokevirtual 117, 3) ∧ 11 + 3 = 14 := ⟨by decide +kernel, rfl⟩
theorem d_M_parts_14 : decode b_M_parts 14 = .ok (.istore_n 2, 1) ∧ 14 + 1 = 15 := ⟨by decide +kernel, rfl⟩
theorem d_M_parts_15 : decode b_M_parts 15 = .ok (.iconst 0, 1) ∧ 15 + 1 = 16 := ⟨by decide +kernel, rfl⟩
theorem d_M_parts_16 : decode b_M_parts 16 = .ok (.istore_n 3, 1) ∧ 16 + 1 = 17 := ⟨by decide +kernel, rfl⟩
theorem d_M_parts_17 : decode b_M_parts 17 = .ok (.iload_n 3, 1) ∧ 17 + 1 = 18 := ⟨by decide +kernel, rfl⟩
theorem d_M_parts_18 : decode b_M_parts 18 = .ok (.iload_n 2, 1) ∧ 18 + 1 = 19 := ⟨by decide +kernel, rfl⟩
theorem d_M_parts_19 : decode b_M_parts 19 = .ok (.if_icmp .ge 32, 3) ∧ 19 + 3 = 22 ∧ ((19 : Nat) : Int) + 32 = ((51 : Nat) : Int) := ⟨by decide +kernel, rfl, by decide⟩
theorem d_M_parts_22 : decode b_M_parts 22 = .ok (.aload_n 0, 1) ∧ 22 + 1 = 23 := ⟨by decide +kernel, rfl⟩
theorem d_M_parts_23 : decode b_M_parts 23 = .ok (.getfield 69, 3) ∧ 23 + 3 = 26 := ⟨by decide +kernel, rfl⟩
theorem d_M_parts_26 : decode b_M_parts 26 = .ok (.iload_n 3, 1) ∧ 26 + 1 = 27 := ⟨by decide +kernel, rfl⟩
theorem d_M_parts_27 : decode b_M_parts 27 = .ok (.iaload, 1) ∧ 27 + 1 = 28 := ⟨by decide +kernel, rfl⟩
theorem d_M_parts_28 : decode b_M_parts 28 = .ok (.aload_n 0, 1) ∧ 28 + 1 = 29 := ⟨by decide +kernel, rfl⟩
theorem d_M_parts_29 : decode b_M_parts 29 = .ok (.getfield 45, 3) ∧ 29 + 3 = 32 := ⟨by decide +kernel, rfl⟩
theorem d_M_parts_32 : decode b_M_parts 32 = .ok (.sipush 481, 3) ∧ 32 + 3 = 35 := ⟨by decide +kernel, rfl⟩
theorem d_M_parts_35 : decode b_M_parts 35 = .ok (.iload_n 1, 1) ∧ 35 + 1 = 36 := ⟨by decide +kernel, rfl⟩
theorem d_M_parts_36 : decode b_M_parts 36 = .ok (.imul, 1) ∧ 36 + 1 = 37 := ⟨by decide +kernel, rfl⟩
theorem d_M_parts_37 : decode b_M_parts 37 = .ok (.iload_n 3, 1) ∧ 37 + 1 = 38 := ⟨by decide +kernel, rfl⟩
theorem d_M_parts_38 : decode b_M_parts 38 = .ok (.iadd, 1) ∧ 38 + 1 = 39 := ⟨by decide +kernel, rfl⟩
theorem d_M_parts_39 : decode b_M_parts 39 = .ok (.iaload, 1) ∧ 39 + 1 = 40 := ⟨by decide +kernel, rfl⟩
theorem d_M_parts_40 : decode b_M_parts 40 = .ok (.if_icmp .eq 5, 3) ∧ 40 + 3 = 43 ∧ ((40 : Nat) : Int) + 5 = ((45 : Nat) : Int) := ⟨by decide +kernel, rfl, by decide⟩
theorem d_M_parts_43 : decode b_M_parts 43 = .ok (.iload_n 3, 1) ∧ 43 + 1 = 44 := ⟨by decide +kernel, rfl⟩
theorem d_M_parts_44 : decode b_M_parts 44 = .ok (.ireturn, 1) := by decide +kernel
theorem d_M_parts_45 : decode b_M_parts 45 = .ok (.iinc 3 1, 3) ∧ 45 + 3 = 48 := ⟨by decide +kernel, rfl⟩
theorem d_M_parts_48 : decode b_M_parts 48 = .ok (.goto (-31), 3) ∧ ((48 : Nat) : Int) + (-31) = ((17 : Nat) : Int) := ⟨by decide +kernel, by decide⟩
theorem d_M_parts_51 : decode b_M_parts 51 = .ok (.iconst (-1), 1) ∧ 51 + 1 = 52 := ⟨by decide +kernel, rfl⟩
theorem d_M_parts_52 : decode b_M_parts 52 = .ok (.ireturn, 1) := by decide +kernel
theorem d_M_pixel_0 : decode b_M_pixel 0 = .ok (.aload_n 0, 1) ∧ 0 + 1 = 1 := ⟨by decide +kernel, rfl⟩
theorem d_M_pixel_1 : decode b_M_pixel 1 = .ok (.aload_n 0, 1) ∧ 1 + 1 = 2 := ⟨by decide +kernel, rfl⟩
theorem d_M_pixel_2 : decode b_M_pixel 2 = .ok (.iload_n 1, 1) ∧ 2 + 1 = 3 := ⟨by decide +kernel, rfl⟩
theorem d_M_pixel_3 : decode b_M_pixel 3 = .ok (.iload_n 2, 1) ∧ 3 + 1 = 4 := ⟨by decide +kernel, rfl⟩
theorem d_M_pixel_4 : decode b_M_pixel 4 = .ok (.invokevirtual 99, 3) ∧ 4 + 3 = 7 := ⟨by decide +kernel, rfl⟩
theorem d_M_pixel_7 : decode b_M_pixel 7 = .ok (.ifCond .ne 7, 3) ∧ 7 + 3 = 10 ∧ ((7 : Nat) : Int) + 7 = ((14 : Nat) : Int) := ⟨by decide +kernel, rfl, by decide⟩
theorem d_M_pixel_10 : decode b_M_pixel 10 = .ok (.iconst 1, 1) ∧ 10 + 1 = 11 := ⟨by decide +kernel, rfl⟩
theorem d_M_pixel_11 : decode b_M_pixel 11 = .ok (.goto 4, 3) ∧ ((11 : Nat) : Int) + 4 = ((15 : Nat) : Int) := ⟨by decide +kernel, by decide⟩
theorem d_M_pixel_14 : decode b_M_pixel 14 = .ok (.iconst 0, 1) ∧ 14 + 1 = 15 := ⟨by decide +kernel, rfl⟩
theorem d_M_pixel_15 : decode b_M_pixel 15 = .ok (.iconst 0, 1) ∧ 15 + 1 = 16 := ⟨by decide +kernel, rfl⟩
theorem d_M_pixel_16 : decode b_M_pixel 16 = .ok (.invokevirtual 88, 3) ∧ 16 + 3 = 19 := ⟨by decide +kernel, rfl⟩
theorem d_M_pixel_19 : decode b_M_pixel 19 = .ok (.ifCond .eq 5, 3) ∧ 19 + 3 = 22 ∧ ((19 : Nat) : Int) + 5 = ((24 : Nat) : Int) := ⟨by decide +kernel, rfl, by decide⟩
theorem d_M_pixel_22 : decode b_M_pixel 22 = .ok (.iconst 0, 1) ∧ 22 + 1 = 23 := ⟨by decide +kernel, rfl⟩
theorem d_M_pixel_23 : decode b_M_pixel 23 = .ok (.ireturn, 1) := by decide +kernel
theorem d_M_pixel_24 : decode b_M_pixel 24 = .ok (.aload_n 0, 1) ∧ 24 + 1 = 25 := ⟨by decide +kernel, rfl⟩
theorem d_M_pixel_25 : decode b_M_pixel 25 = .ok (.getfield 16, 3) ∧ 25 + 3 = 28 := ⟨by decide +kernel, rfl⟩
theorem d_M_pixel_28 : decode b_M_pixel 28 = .ok (.bipush 16, 2) ∧ 28 + 2 = 30 := ⟨by decide +kernel, rfl⟩
theorem d_M_pixel_30 : decode b_M_pixel 30 = .ok (.iload_n 2, 1) ∧ 30 + 1 = 31 := ⟨by decide +kernel, rfl⟩
theorem d_M_pixel_31 : decode b_M_pixel 31 = .ok (.imul, 1) ∧ 31 + 1 = 32 := ⟨by decide +kernel, rfl⟩
theorem d_M_pixel_32 : decode b_M_pixel 32 = .ok (.iload_n 1, 1) ∧ 32 + 1 = 33 := ⟨by decide +kernel, rfl⟩
theorem d_M_pixel_33 : decode b_M_pixel 33 = .ok (.iadd, 1) ∧ 33 + 1 = 34 := ⟨by decide +kernel, rfl⟩
theorem d_M_pixel_34 : decode b_M_pixel 34 = .ok (.iaload, 1) ∧ 34 + 1 = 35 := ⟨by decide +kernel, rfl⟩
theorem d_M_pixel_35 : decode b_M_pixel 35 = .ok (.istore 4, 2) ∧ 35 + 2 = 37 := ⟨by decide +kernel, rfl⟩
theorem d_M_pixel_37 : decode b_M_pixel 37 = .ok (.aload_n 0, 1) ∧ 37 + 1 = 38 := ⟨by decide +kernel, rfl⟩
theorem d_M_pixel_38 : decode b_M_pixel 38 = .ok (.getfield 16, 3) ∧ 38 + 3 = 41 := ⟨by decide +kernel, rfl⟩
theorem d_M_pixel_41 : decode b_M_pixel 41 = .ok (.bipush 16, 2) ∧ 41 + 2 = 43 := ⟨by decide +kernel, rfl⟩
theorem d_M_pixel_43 : decode b_M_pixel 43 = .ok (.iload_n 2, 1) ∧ 43 + 1 = 44 := ⟨by decide +kernel, rfl⟩
theorem d_M_pixel_44 : decode b_M_pixel 44 = .ok (.imul, 1) ∧ 44 + 1 = 45 := ⟨by decide +kernel, rfl⟩
theorem d_M_pixel_45 : decode b_M_pixel 45 = .ok (.iload_n 1, 1) ∧ 45 + 1 = 46 := ⟨by decide +kernel, rfl⟩
theorem d_M_pixel_46 : decode b_M_pixel 46 = .ok (.iadd, 1) ∧ 46 + 1 = 47 := ⟨by decide +kernel, rfl⟩
theorem d_M_pixel_47 : decode b_M_pixel 47 = .ok (.iload_n 3, 1) ∧ 47 + 1 = 48 := ⟨by decide +kernel, rfl⟩
theorem d_M_pixel_48 : decode b_M_pixel 48 = .ok (.iastore, 1) ∧ 48 + 1 = 49 := ⟨by decide +kernel, rfl⟩
theorem d_M_pixel_49 : decode b_M_pixel 49 = .ok (.iload 4, 2) ∧ 49 + 2 = 51 := ⟨by decide +kernel, rfl⟩
theorem d_M_pixel_51 : decode b_M_pixel 51 = .ok (.ireturn, 1) := by decide +kernel
theorem d_M_project_0 : decode b_M_project 0 = .ok (.aload_n 0, 1) ∧ 0 + 1 = 1 := ⟨by decide +kernel, rfl⟩
theorem d_M_project_1 : decode b_M_project 1 = .ok (.iload_n 1, 1) ∧ 1 + 1 = 2 := ⟨by decide +kernel, rfl⟩
theorem d_M_project_2 : decode b_M_project 2 = .ok (.invokestatic 84, 3) ∧ 2 + 3 = 5 := ⟨by decide +kernel, rfl⟩
theorem d_M_project_5 : decode b_M_project 5 = .ok (.ifCond .ne 7, 3) ∧ 5 + 3 = 8 ∧ ((5 : Nat) : Int) + 7 = ((12 : Nat) : Int) := ⟨by decide +kernel, rfl, by decide⟩
theorem d_M_project_8 : decode b_M_project 8 = .ok (.iconst 1, 1) ∧ 8 + 1 = 9 := ⟨by decide +kernel, rfl⟩
theorem d_M_project_9 : decode b_M_project 9 = .ok (.goto 4, 3) ∧ ((9 : Nat) : Int) + 4 = ((13 : Nat) : Int) := ⟨by decide +kernel, by decide⟩
theorem d_M_project_12 : decode b_M_project 12 = .ok (.iconst 0, 1) ∧ 12 + 1 = 13 := ⟨by decide +kernel, rfl⟩
theorem d_M_project_13 : decode b_M_project 13 = .ok (.aload_n 0, 1) ∧ 13 + 1 = 14 := ⟨by decide +kernel, rfl⟩
theorem d_M_project_14 : decode b_M_project 14 = .ok (.iload_n 1, 1) ∧ 14 + 1 = 15 := ⟨by decide +kernel, rfl⟩
theorem d_M_project_15 : decode b_M_project 15 = .ok (.invokevirtual 114, 3) ∧ 15 + 3 = 18 := ⟨by decide +kernel, rfl⟩
theorem d_M_project_18 : decode b_M_project 18 = .ok (.ifCond .ne 7, 3) ∧ 18 + 3 = 21 ∧ ((18 : Nat) : Int) + 7 = ((25 : Nat) : Int) := ⟨by decide +kernel, rfl, by decide⟩
theorem d_M_project_21 : decode b_M_project 21 = .ok (.iconst 1, 1) ∧ 21 + 1 = 22 := ⟨by decide +kernel, rfl⟩
theorem d_M_project_22 : decode b_M_project 22 = .ok (.goto 4, 3) ∧ ((22 : Nat) : Int) + 4 = ((26 : Nat) : Int) := ⟨by decide +kernel, by decide⟩
theorem d_M_project_25 : decode b_M_project 25 = .ok (.iconst 0, 1) ∧ 25 + 1 = 26 := ⟨by decide +kernel, rfl⟩
theorem d_M_project_26 : decode b_M_project 26 = .ok (.invokevirtual 88, 3) ∧ 26 + 3 = 29 := ⟨by decide +kernel, rfl⟩
theorem d_M_project_29 : decode b_M_project 29 = .ok (.ifCond .eq 4, 3) ∧ 29 + 3 = 32 ∧ ((29 : Nat) : Int) + 4 = ((33 : Nat) : Int) := ⟨by decide +kernel, rfl, by decide⟩
theorem d_M_project_32 : decode b_M_project 32 = .ok (.return_, 1) := by decide +kernel
theorem d_M_project_33 : decode b_M_project 33 = .ok (.aload_n 0, 1) ∧ 33 + 1 = 34 := ⟨by decide +kernel, rfl⟩
theorem d_M_project_34 : decode b_M_project 34 = .ok (.iload_n 1, 1) ∧ 34 + 1 = 35 := ⟨by decide +kernel, rfl⟩
theorem d_M_project_35 : decode b_M_project 35 = .ok (.aload_n 0, 1) ∧ 35 + 1 = 36 := ⟨by decide +kernel, rfl⟩
theorem d_M_project_36 : decode b_M_project 36 = .ok (.getfield 16, 3) ∧ 36 + 3 = 39 := ⟨by decide +kernel, rfl⟩
theorem d_M_project_39 : decode b_M_project 39 = .ok (.invokevirtual 128, 3) ∧ 39 + 3 = 42 := ⟨by decide +kernel, rfl⟩
theorem d_M_project_42 : decode b_M_project 42 = .ok (.return_, 1) := by decide +kernel
theorem d_M_put_0 : decode b_M_put 0 = .ok (.aload_n 0, 1) ∧ 0 + 1 = 1 := ⟨by decide +kernel, rfl⟩
theorem d_M_put_1 : decode b_M_put 1 = .ok (.iload_n 1, 1) ∧ 1 + 1 = 2 := ⟨by decide +kernel, rfl⟩
theorem d_M_put_2 : decode b_M_put 2 = .ok (.iload_n 2, 1) ∧ 2 + 1 = 3 := ⟨by decide +kernel, rfl⟩
theorem d_M_put_3 : decode b_M_put 3 = .ok (.invokevirtual 131, 3) ∧ 3 + 3 = 6 := ⟨by decide +kernel, rfl⟩
theorem d_M_put_6 : decode b_M_put 6 = .ok (.ifCond .eq 5, 3) ∧ 6 + 3 = 9 ∧ ((6 : Nat) : Int) + 5 = ((11 : Nat) : Int) := ⟨by decide +kernel, rfl, by decide⟩
theorem d_M_put_9 : decode b_M_put 9 = .ok (.iconst 0, 1) ∧ 9 + 1 = 10 := ⟨by decide +kernel, rfl⟩
theorem d_M_put_10 : decode b_M_put 10 = .ok (.ireturn, 1) := by decide +kernel
theorem d_M_put_11 : decode b_M_put 11 = .ok (.aload_n 0, 1) ∧ 11 + 1 = 12 := ⟨by decide +kernel, rfl⟩
theorem d_M_put_12 : decode b_M_put 12 = .ok (.getfield 45, 3) ∧ 12 + 3 = 15 := ⟨by decide +kernel, rfl⟩
theorem d_M_put_15 : decode b_M_put 15 = .ok (.sipush 481, 3) ∧ 15 + 3 = 18 := ⟨by decide +kernel, rfl⟩
theorem d_M_put_18 : decode b_M_put 18 = .ok (.iload_n 1, 1) ∧ 18 + 1 = 19 := ⟨by decide +kernel, rfl⟩
theorem d_M_put_19 : decode b_M_put 19 = .ok (.imul, 1) ∧ 19 + 1 = 20 := ⟨by decide +kernel, rfl⟩
theorem d_M_put_20 : decode b_M_put 20 = .ok (.iload_n 2, 1) ∧ 20 + 1 = 21 := ⟨by decide +kernel, rfl⟩
theorem d_M_put_21 : decode b_M_put 21 = .ok (.iadd, 1) ∧ 21 + 1 = 22 := ⟨by decide +kernel, rfl⟩
theorem d_M_put_22 : decode b_M_put 22 = .ok (.iaload, 1) ∧ 22 + 1 = 23 := ⟨by decide +kernel, rfl⟩
theorem d_M_put_23 : decode b_M_put 23 = .ok (.istore 4, 2) ∧ 23 + 2 = 25 := ⟨by decide +kernel, rfl⟩
theorem d_M_put_25 : decode b_M_put 25 = .ok (.aload_n 0, 1) ∧ 25 + 1 = 26 := ⟨by decide +kernel, rfl⟩
theorem d_M_put_26 : decode b_M_put 26 = .ok (.getfield 45, 3) ∧ 26 + 3 = 29 := ⟨by decide +kernel, rfl⟩
theorem d_M_put_29 : decode b_M_put 29 = .ok (.sipush 481, 3) ∧ 29 + 3 = 32 := ⟨by decide +kernel, rfl⟩
theorem d_M_put_32 : decode b_M_put 32 = .ok (.iload_n 1, 1) ∧ 32 + 1 = 33 := ⟨by decide +kernel, rfl⟩
theorem d_M_put_33 : decode b_M_put 33 = .ok (.imul, 1) ∧ 33 + 1 = 34 := ⟨by decide +kernel, rfl⟩
theorem d_M_put_34 : decode b_M_put 34 = .ok (.iload_n 2, 1) ∧ 34 + 1 = 35 := ⟨by decide +kernel, rfl⟩
theorem d_M_put_35 : decode b_M_put 35 = .ok (.iadd, 1) ∧ 35 + 1 = 36 := ⟨by decide +kernel, rfl⟩
theorem d_M_put_36 : decode b_M_put 36 = .ok (.iload_n 3, 1) ∧ 36 + 1 = 37 := ⟨by decide +kernel, rfl⟩
theorem d_M_put_37 : decode b_M_put 37 = .ok (.iastore, 1) ∧ 37 + 1 = 38 := ⟨by decide +kernel, rfl⟩
theorem d_M_put_38 : decode b_M_put 38 = .ok (.iload 4, 2) ∧ 38 + 2 = 40 := ⟨by decide +kernel, rfl⟩
theorem d_M_put_40 : decode b_M_put 40 = .ok (.ireturn, 1) := by decide +kernel
theorem d_M_rebuild_0 : decode b_M_rebuild 0 = .ok (.iconst 0, 1) ∧ 0 + 1 = 1 := ⟨by decide +kernel, rfl⟩
theorem d_M_rebuild_1 : decode b_M_rebuild 1 = .ok (.istore_n 2, 1) ∧ 1 + 1 = 2 := ⟨by decide +kernel, rfl⟩
theorem d_M_rebuild_2 : decode b_M_rebuild 2 = .ok (.iconst 0, 1) ∧ 2 + 1 = 3 := ⟨by decide +kernel, rfl⟩
theorem d_M_rebuild_3 : decode b_M_rebuild 3 = .ok (.istore_n 3, 1) ∧ 3 + 1 = 4 := ⟨by decide +kernel, rfl⟩
theorem d_M_rebuild_4 : decode b_M_rebuild 4 = .ok (.iload_n 3, 1) ∧ 4 + 1 = 5 := ⟨by decide +kernel, rfl⟩
theorem d_M_rebuild_5 : decode b_M_rebuild 5 = .ok (.bipush 8, 2) ∧ 5 + 2 = 7 := ⟨by decide +kernel, rfl⟩
theorem d_M_rebuild_7 : decode b_M_rebuild 7 = .ok (.if_icmp .ge 44, 3) ∧ 7 + 3 = 10 ∧ ((7 : Nat) : Int) + 44 = ((51 : Nat) : Int) := ⟨by decide +kernel, rfl, by decide⟩
theorem d_M_rebuild_10 : decode b_M_rebuild 10 = .ok (.iload_n 1, 1) ∧ 10 + 1 = 11 := ⟨by decide +kernel, rfl⟩
theorem d_M_rebuild_11 : decode b_M_rebuild 11 = .ok (.invokestatic 137, 3) ∧ 11 + 3 = 14 := ⟨by decide +kernel, rfl⟩
theorem d_M_rebuild_14 : decode b_M_rebuild 14 = .ok (.ifCond .eq 37, 3) ∧ 14 + 3 = 17 ∧ ((14 : Nat) : Int) + 37 = ((51 : Nat) : Int) := ⟨by decide +kernel, rfl, by decide⟩
theorem d_M_rebuild_17 : decode b_M_rebuild 17 = .ok (.iload_n 2, 1) ∧ 17 + 1 = 18 := ⟨by decide +kernel, rfl⟩
theorem d_M_rebuild_18 : decode b_M_rebuild 18 = .ok (.ifCond .ne 21, 3) ∧ 18 + 3 = 21 ∧ ((18 : Nat) : Int) + 21 = ((39 : Nat) : Int) := ⟨by decide +kernel, rfl, by decide⟩
theorem d_M_rebuild_21 : decode b_M_rebuild 21 = .ok (.aload_n 0, 1) ∧ 21 + 1 = 22 := ⟨by decide +kernel, rfl⟩
theorem d_M_rebuild_22 : decode b_M_rebuild 22 = .ok (.iload_n 1, 1) ∧ 22 + 1 = 23 := ⟨by decide +kernel, rfl⟩
theorem d_M_rebuild_23 : decode b_M_rebuild 23 = .ok (.iload_n 3, 1) ∧ 23 + 1 = 24 := ⟨by decide +kernel, rfl⟩
theorem d_M_rebuild_24 : decode b_M_rebuild 24 = .ok (.invokevirtual 134, 3) ∧ 24 + 3 = 27 := ⟨by decide +kernel, rfl⟩
theorem d_M_rebuild_27 : decode b_M_rebuild 27 = .ok (.ifCond .eq 16, 3) ∧ 27 + 3 = 30 ∧ ((27 : Nat) : Int) + 16 = ((43 : Nat) : Int) := ⟨by decide +kernel, rfl, by decide⟩
theorem d_M_rebuild_30 : decode b_M_rebuild 30 = .ok (.aload_n 0, 1) ∧ 30 + 1 = 31 := ⟨by decide +kernel, rfl⟩
theorem d_M_rebuild_31 : decode b_M_rebuild 31 = .ok (.getfield 42, 3) ∧ 31 + 3 = 34 := ⟨by decide +kernel, rfl⟩
theorem d_M_rebuild_34 : decode b_M_rebuild 34 = .ok (.iload_n 3, 1) ∧ 34 + 1 = 35 := ⟨by decide +kernel, rfl⟩
theorem d_M_rebuild_35 : decode b_M_rebuild 35 = .ok (.baload, 1) ∧ 35 + 1 = 36 := ⟨by decide +kernel, rfl⟩
theorem d_M_rebuild_36 : decode b_M_rebuild 36 = .ok (.ifCond .ne 7, 3) ∧ 36 + 3 = 39 ∧ ((36 : Nat) : Int) + 7 = ((43 : Nat) : Int) := ⟨by decide +kernel, rfl, by decide⟩
theorem d_M_rebuild_39 : decode b_M_rebuild 39 = .ok (.iconst 1, 1) ∧ 39 + 1 = 40 := ⟨by decide +kernel, rfl⟩
theorem d_M_rebuild_40 : decode b_M_rebuild 40 = .ok (.goto 4, 3) ∧ ((40 : Nat) : Int) + 4 = ((44 : Nat) : Int) := ⟨by decide +kernel, by decide⟩
theorem d_M_rebuild_43 : decode b_M_rebuild 43 = .ok (.iconst 0, 1) ∧ 43 + 1 = 44 := ⟨by decide +kernel, rfl⟩
theorem d_M_rebuild_44 : decode b_M_rebuild 44 = .ok (.istore_n 2, 1) ∧ 44 + 1 = 45 := ⟨by decide +kernel, rfl⟩
theorem d_M_rebuild_45 : decode b_M_rebuild 45 = .ok (.iinc 3 1, 3) ∧ 45 + 3 = 48 := ⟨by decide +kernel, rfl⟩
theorem d_M_rebuild_48 : decode b_M_rebuild 48 = .ok (.goto (-44), 3) ∧ ((48 : Nat) : Int) + (-44) = ((4 : Nat) : Int) := ⟨by decide +kernel, by decide⟩
theorem d_M_rebuild_51 : decode b_M_rebuild 51 = .ok (.aload_n 0, 1) ∧ 51 + 1 = 52 := ⟨by decide +kernel, rfl⟩
theorem d_M_rebuild_52 : decode b_M_rebuild 52 = .ok (.iload_n 1, 1) ∧ 52 + 1 = 53 := ⟨by decide +kernel, rfl⟩
theorem d_M_rebuild_53 : decode b_M_rebuild 53 = .ok (.invokestatic 137, 3) ∧ 53 + 3 = 56 := ⟨by decide +kernel, rfl⟩
theorem d_M_rebuild_56 : decode b_M_rebuild 56 = .ok (.ifCond .ne 7, 3) ∧ 56 + 3 = 59 ∧ ((56 : Nat) : Int) + 7 = ((63 : Nat) : Int) := ⟨by decide +kernel, rfl, by decide⟩
theorem d_M_rebuild_59 : decode b_M_rebuild 59 = .ok (.iconst 1, 1) ∧ 59 + 1 = 60 := ⟨by decide +kernel, rfl⟩
theorem d_M_rebuild_60 : decode b_M_rebuild 60 = .ok (.goto 4, 3) ∧ ((60 : Nat) : Int) + 4 = ((64 : Nat) : Int) := ⟨by decide +kernel, by decide⟩
theorem d_M_rebuild_63 : decode b_M_rebuild 63 = .ok (.iconst 0, 1) ∧ 63 + 1 = 64 := ⟨by decide +kernel, rfl⟩
theorem d_M_rebuild_64 : decode b_M_rebuild 64 = .ok (.iload_n 2, 1) ∧ 64 + 1 = 65 := ⟨by decide +kernel, rfl⟩
theorem d_M_rebuild_65 : decode b_M_rebuild 65 = .ok (.invokevirtual 88, 3) ∧ 65 + 3 = 68 := ⟨by decide +kernel, rfl⟩
theorem d_M_rebuild_68 : decode b_M_rebuild 68 = .ok (.ifCond .eq 5, 3) ∧ 68 + 3 = 71 ∧ ((68 : Nat) : Int) + 5 = ((73 : Nat) : Int) := ⟨by decide +kernel, rfl, by decide⟩
theorem d_M_rebuild_71 : decode b_M_rebuild 71 = .ok (.iconst 0, 1) ∧ 71 + 1 = 72 := ⟨by decide +kernel, rfl⟩
theorem d_M_rebuild_72 : decode b_M_rebuild 72 = .ok (.ireturn, 1) := by decide +kernel
theorem d_M_rebuild_73 : decode b_M_rebuild 73 = .ok (.aload_n 0, 1) ∧ 73 + 1 = 74 := ⟨by decide +kernel, rfl⟩
theorem d_M_rebuild_74 : decode b_M_rebuild 74 = .ok (.iload_n 1, 1) ∧ 74 + 1 = 75 := ⟨by decide +kernel, rfl⟩
theorem d_M_rebuild_75 : decode b_M_rebuild 75 = .ok (.invokevirtual 164, 3) ∧ 75 + 3 = 78 := ⟨by decide +kernel, rfl⟩
theorem d_M_rebuild_78 : decode b_M_rebuild 78 = .ok (.istore_n 3, 1) ∧ 78 + 1 = 79 := ⟨by decide +kernel, rfl⟩
theorem d_M_rebuild_79 : decode b_M_rebuild 79 = .ok (.aload_n 0, 1) ∧ 79 + 1 = 80 := ⟨by decide +kernel, rfl⟩
theorem d_M_rebuild_80 : decode b_M_rebuild 80 = .ok (.aload_n 0, 1) ∧ 80 + 1 = 81 := ⟨by decide +kernel, rfl⟩
theorem d_M_rebuild_81 : decode b_M_rebuild 81 = .ok (.getfield 143, 3) ∧ 81 + 3 = 84 := ⟨by decide +kernel, rfl⟩
theorem d_M_rebuild_84 : decode b_M_rebuild 84 = .ok (.putfield 167, 3) ∧ 84 + 3 = 87 := ⟨by decide +kernel, rfl⟩
theorem d_M_rebuild_87 : decode b_M_rebuild 87 = .ok (.aload_n 0, 1) ∧ 87 + 1 = 88 := ⟨by decide +kernel, rfl⟩
theorem d_M_rebuild_88 : decode b_M_rebuild 88 = .ok (.iconst (-1), 1) ∧ 88 + 1 = 89 := ⟨by decide +kernel, rfl⟩
theorem d_M_rebuild_89 : decode b_M_rebuild 89 = .ok (.putfield 72, 3) ∧ 89 + 3 = 92 := ⟨by decide +kernel, rfl⟩
theorem d_M_rebuild_92 : decode b_M_rebuild 92 = .ok (.iload_n 3, 1) ∧ 92 + 1 = 93 := ⟨by decide +kernel, rfl⟩
theorem d_M_rebuild_93 : decode b_M_rebuild 93 = .ok (.ifCond .ne 5, 3) ∧ 93 + 3 = 96 ∧ ((93 : Nat) : Int) + 5 = ((98 : Nat) : Int) := ⟨by decide +kernel, rfl, by decide⟩
theorem d_M_rebuild_96 : decode b_M_rebuild 96 = .ok (.iconst (-1), 1) ∧ 96 + 1 = 97 := ⟨by decide +kernel, rfl⟩
theorem d_M_rebuild_97 : decode b_M_rebuild 97 = .ok (.ireturn, 1) := by decide +kernel
theorem d_M_rebuild_98 : decode b_M_rebuild 98 = .ok (.iconst 0, 1) ∧ 98 + 1 = 99 := ⟨by decide +kernel, rfl⟩
theorem d_M_rebuild_99 : decode b_M_rebuild 99 = .ok (.istore 4, 2) ∧ 99 + 2 = 101 := ⟨by decide +kernel, rfl⟩
theorem d_M_rebuild_101 : decode b_M_rebuild 101 = .ok (.iload 4, 2) ∧ 101 + 2 = 103 := ⟨by decide +kernel, rfl⟩
theorem d_M_rebuild_103 : decode b_M_rebuild 103 = .ok (.sipush 256, 3) ∧ 103 + 3 = 106 := ⟨by decide +kernel, rfl⟩
theorem d_M_rebuild_106 : decode b_M_rebuild 106 = .ok (.if_icmp .ge 23, 3) ∧ 106 + 3 = 109 ∧ ((106 : Nat) : Int) + 23 = ((129 : Nat) : Int) := ⟨by decide +kernel, rfl, by decide⟩
theorem d_M_rebuild_109 : decode b_M_rebuild 109 = .ok (.aload_n 0, 1) ∧ 109 + 1 = 110 := ⟨by decide +kernel, rfl⟩
theorem d_M_rebuild_110 : decode b_M_rebuild 110 = .ok (.getfield 23, 3) ∧ 110 + 3 = 113 := ⟨by decide +kernel, rfl⟩
theorem d_M_rebuild_113 : decode b_M_rebuild 113 = .ok (.iload 4, 2) ∧ 113 + 2 = 115 := ⟨by decide +kernel, rfl⟩
theorem d_M_rebuild_115 : decode b_M_rebuild 115 = .ok (.aload_n 0, 1) ∧ 115 + 1 = 116 := ⟨by decide +kernel, rfl⟩
theorem d_M_rebuild_116 : decode b_M_rebuild 116 = .ok (.getfield 26, 3) ∧ 116 + 3 = 119 := ⟨by decide +kernel, rfl⟩
theorem d_M_rebuild_119 : decode b_M_rebuild 119 = .ok (.iload 4, 2) ∧ 119 + 2 = 121 := ⟨by decide +kernel, rfl⟩
theorem d_M_rebuild_121 : decode b_M_rebuild 121 = .ok (.iaload, 1) ∧ 121 + 1 = 122 := ⟨by decide +kernel, rfl⟩
theorem d_M_rebuild_122 : decode b_M_rebuild 122 = .ok (.iastore, 1) ∧ 122 + 1 = 123 := ⟨by decide +kernel, rfl⟩
theorem d_M_rebuild_123 : decode b_M_rebuild 123 = .ok (.iinc 4 1, 3) ∧ 123 + 3 = 126 := ⟨by decide +kernel, rfl⟩
theorem d_M_rebuild_126 : decode b_M_rebuild 126 = .ok (.goto (-25), 3) ∧ ((126 : Nat) : Int) + (-25) = ((101 : Nat) : Int) := ⟨by decide +kernel, by decide⟩
theorem d_M_rebuild_129 : decode b_M_rebuild 129 = .ok (.aload_n 0, 1) ∧ 129 + 1 = 130 := ⟨by decide +kernel, rfl⟩
theorem d_M_rebuild_130 : decode b_M_rebuild 130 = .ok (.iconst 1, 1) ∧ 130 + 1 = 131 := ⟨by decide +kernel, rfl⟩
theorem d_M_rebuild_131 : decode b_M_rebuild 131 = .ok (.putfield 96, 3) ∧ 131 + 3 = 134 := ⟨by decide +kernel, rfl⟩
theorem d_M_rebuild_134 : decode b_M_rebuild 134 = .ok (.aload_n 0, 1) ∧ 134 + 1 = 135 := ⟨by decide +kernel, rfl⟩
theorem d_M_rebuild_135 : decode b_M_rebuild 135 = .ok (.iload_n 1, 1) ∧ 135 + 1 = 136 := ⟨by decide +kernel, rfl⟩
theorem d_M_rebuild_136 : decode b_M_rebuild 136 = .ok (.invokevirtual 170, 3) ∧ 136 + 3 = 139 := ⟨by decide +kernel, rfl⟩
theorem d_M_rebuild_139 : decode b_M_rebuild 139 = .ok (.istore 4, 2) ∧ 139 + 2 = 141 := ⟨by decide +kernel, rfl⟩
theorem d_M_rebuild_141 : decode b_M_rebuild 141 = .ok (.iload 4, 2) ∧ 141 + 2 = 143 := ⟨by decide +kernel, rfl⟩
theorem d_M_rebuild_143 : decode b_M_rebuild 143 = .ok (.bipush 99, 2) ∧ 143 + 2 = 145 := ⟨by decide +kernel, rfl⟩
theorem d_M_rebuild_145 : decode b_M_rebuild 145 = .ok (.if_icmp .ge 13, 3) ∧ 145 + 3 = 148 ∧ ((145 : Nat) : Int) + 13 = ((158 : Nat) : Int) := ⟨by decide +kernel, rfl, by decide⟩
theorem d_M_rebuild_148 : decode b_M_rebuild 148 = .ok (.aload_n 0, 1) ∧ 148 + 1 = 149 := ⟨by decide +kernel, rfl⟩
theorem d_M_rebuild_149 : decode b_M_rebuild 149 = .ok (.aload_n 0, 1) ∧ 149 + 1 = 150 := ⟨by decide +kernel, rfl⟩
theorem d_M_rebuild_150 : decode b_M_rebuild 150 = .ok (.iload 4, 2) ∧ 150 + 2 = 152 := ⟨by decide +kernel, rfl⟩
theorem d_M_rebuild_152 : decode b_M_rebuild 152 = .ok (.invokevirtual 161, 3) ∧ 152 + 3 = 155 := ⟨by decide +kernel, rfl⟩
theorem d_M_rebuild_155 : decode b_M_rebuild 155 = .ok (.putfield 72, 3) ∧ 155 + 3 = 158 := ⟨by decide +kernel, rfl⟩
theorem d_M_rebuild_158 : decode b_M_rebuild 158 = .ok (.iload 4, 2) ∧ 158 + 2 = 160 := ⟨by decide +kernel, rfl⟩
theorem d_M_rebuild_160 : decode b_M_rebuild 160 = .ok (.ireturn, 1) := by decide +kernel
theorem d_M_regenerate_0 : decode b_M_regenerate 0 = .ok (.aload_n 0, 1) ∧ 0 + 1 = 1 := ⟨by decide +kernel, rfl⟩
theorem d_M_regenerate_1 : decode b_M_regenerate 1 = .ok (.iload_n 1, 1) ∧ 1 + 1 = 2 := ⟨by decide +kernel, rfl⟩
theorem d_M_regenerate_2 : decode b_M_regenerate 2 = .ok (.invokestatic 84, 3) ∧ 2 + 3 = 5 := ⟨by decide +kernel, rfl⟩
theorem d_M_regenerate_5 : decode b_M_regenerate 5 = .ok (.ifCond .ne 7, 3) ∧ 5 + 3 = 8 ∧ ((5 : Nat) : Int) + 7 = ((12 : Nat) : Int) := ⟨by decide +kernel, rfl, by decide⟩
theorem d_M_regenerate_8 : decode b_M_regenerate 8 = .ok (.iconst 1, 1) ∧ 8 + 1 = 9 := ⟨by decide +kernel, rfl⟩
theorem d_M_regenerate_9 : decode b_M_regenerate 9 = .ok (.goto 4, 3) ∧ ((9 : Nat) : Int) + 4 = ((13 : Nat) : Int) := ⟨by decide +kernel, by decide⟩
theorem d_M_regenerate_12 : decode b_M_regenerate 12 = .ok (.iconst 0, 1) ∧ 12 + 1 = 13 := ⟨by decide +kernel, rfl⟩
theorem d_M_regenerate_13 : decode b_M_regenerate 13 = .ok (.aload_n 0, 1) ∧ 13 + 1 = 14 := ⟨by decide +kernel, rfl⟩
theorem d_M_regenerate_14 : decode b_M_regenerate 14 = .ok (.iload_n 1, 1) ∧ 14 + 1 = 15 := ⟨by decide +kernel, rfl⟩
theorem d_M_regenerate_15 : decode b_M_regenerate 15 = .ok (.invokevirtual 114, 3) ∧ 15 + 3 = 18 := ⟨by decide +kernel, rfl⟩
theorem d_M_regenerate_18 : decode b_M_regenerate 18 = .ok (.ifCond .eq 12, 3) ∧ 18 + 3 = 21 ∧ ((18 : Nat) : Int) + 12 = ((30 : Nat) : Int) := ⟨by decide +kernel, rfl, by decide⟩
theorem d_M_regenerate_21 : decode b_M_regenerate 21 = .ok (.aload_n 0, 1) ∧ 21 + 1 = 22 := ⟨by decide +kernel, rfl⟩
theorem d_M_regenerate_22 : decode b_M_regenerate 22 = .ok (.getfield 42, 3) ∧ 22 + 3 = 25 := ⟨by decide +kernel, rfl⟩
theorem d_M_regenerate_25 : decode b_M_regenerate 25 = .ok (.iload_n 1, 1) ∧ 25 + 1 = 26 := ⟨by decide +kernel, rfl⟩
theorem d_M_regenerate_26 : decode b_M_regenerate 26 = .ok (.baload, 1) ∧ 26 + 1 = 27 := ⟨by decide +kernel, rfl⟩
theorem d_M_regenerate_27 : decode b_M_regenerate 27 = .ok (.ifCond .eq 7, 3) ∧ 27 + 3 = 30 ∧ ((27 : Nat) : Int) + 7 = ((34 : Nat) : Int) := ⟨by decide +kernel, rfl, by decide⟩
theorem d_M_regenerate_30 : decode b_M_regenerate 30 = .ok (.iconst 1, 1) ∧ 30 + 1 = 31 := ⟨by decide +kernel, rfl⟩
theorem d_M_regenerate_31 : decode b_M_regenerate 31 = .ok (.goto 4, 3) ∧ ((31 : Nat) : Int) + 4 = ((35 : Nat) : Int) := ⟨by decide +kernel, by decide⟩
theorem d_M_regenerate_34 : decode b_M_regenerate 34 = .ok (.iconst 0, 1) ∧ 34 + 1 = 35 := ⟨by decide +kernel, rfl⟩
theorem d_M_regenerate_35 : decode b_M_regenerate 35 = .ok (.invokevirtual 88, 3) ∧ 35 + 3 = 38 := ⟨by decide +kernel, rfl⟩
theorem d_M_regenerate_38 : decode b_M_regenerate 38 = .ok (.ifCond .eq 5, 3) ∧ 38 + 3 = 41 ∧ ((38 : Nat) : Int) + 5 = ((43 : Nat) : Int) := ⟨by decide +kernel, rfl, by decide⟩
theorem d_M_regenerate_41 : decode b_M_regenerate 41 = .ok (.iconst 0, 1) ∧ 41 + 1 = 42 := ⟨by decide +kernel, rfl⟩
theorem d_M_regenerate_42 : decode b_M_regenerate 42 = .ok (.ireturn, 1) := by decide +kernel
theorem d_M_regenerate_43 : decode b_M_regenerate 43 = .ok (.aload_n 0, 1) ∧ 43 + 1 = 44 := ⟨by decide +kernel, rfl⟩
theorem d_M_regenerate_44 : decode b_M_regenerate 44 = .ok (.aload_n 0, 1) ∧ 44 + 1 = 45 := ⟨by decide +kernel, rfl⟩
theorem d_M_regenerate_45 : decode b_M_regenerate 45 = .ok (.invokevirtual 173, 3) ∧ 45 + 3 = 48 := ⟨by decide +kernel, rfl⟩
theorem d_M_regenerate_48 : decode b_M_regenerate 48 = .ok (.invokevirtual 164, 3) ∧ 48 + 3 = 51 := ⟨by decide +kernel, rfl⟩
theorem d_M_regenerate_51 : decode b_M_regenerate 51 = .ok (.istore_n 2, 1) ∧ 51 + 1 = 52 := ⟨by decide +kernel, rfl⟩
theorem d_M_regenerate_52 : decode b_M_regenerate 52 = .ok (.iload_n 2, 1) ∧ 52 + 1 = 53 := ⟨by decide +kernel, rfl⟩
theorem d_M_regenerate_53 : decode b_M_regenerate 53 = .ok (.ifCond .eq 12, 3) ∧ 53 + 3 = 56 ∧ ((53 : Nat) : Int) + 12 = ((65 : Nat) : Int) := ⟨by decide +kernel, rfl, by decide⟩
theorem d_M_regenerate_56 : decode b_M_regenerate 56 = .ok (.aload_n 0, 1) ∧ 56 + 1 = 57 := ⟨by decide +kernel, rfl⟩
theorem d_M_regenerate_57 : decode b_M_regenerate 57 = .ok (.iload_n 1, 1) ∧ 57 + 1 = 58 := ⟨by decide +kernel, rfl⟩
theorem d_M_regenerate_58 : decode b_M_regenerate 58 = .ok (.aload_n 0, 1) ∧ 58 + 1 = 59 := ⟨by decide +kernel, rfl⟩
theorem d_M_regenerate_59 : decode b_M_regenerate 59 = .ok (.getfield 26, 3) ∧ 59 + 3 = 62 := ⟨by decide +kernel, rfl⟩
theorem d_M_regenerate_62 : decode b_M_regenerate 62 = .ok (.invokevirtual 128, 3) ∧ 62 + 3 = 65 := ⟨by decide +kernel, rfl⟩
theorem d_M_regenerate_65 : decode b_M_regenerate 65 = .ok (.iload_n 2, 1) ∧ 65 + 1 = 66 := ⟨by decide +kernel, rfl⟩
theorem d_M_regenerate_66 : decode b_M_regenerate 66 = .ok (.ireturn, 1) := by decide +kernel
theorem d_M_shelf_0 : decode b_M_shelf 0 = .ok (.aload_n 0, 1) ∧ 0 + 1 = 1 := ⟨by decide +kernel, rfl⟩
theorem d_M_shelf_1 : decode b_M_shelf 1 = .ok (.iload_n 1, 1) ∧ 1 + 1 = 2 := ⟨by decide +kernel, rfl⟩
theorem d_M_shelf_2 : decode b_M_shelf 2 = .ok (.invokestatic 84, 3) ∧ 2 + 3 = 5 := ⟨by decide +kernel, rfl⟩
theorem d_M_shelf_5 : decode b_M_shelf 5 = .ok (.ifCond .eq 12, 3) ∧ 5 + 3 = 8 ∧ ((5 : Nat) : Int) + 12 = ((17 : Nat) : Int) := ⟨by decide +kernel, rfl, by decide⟩
theorem d_M_shelf_8 : decode b_M_shelf 8 = .ok (.iload_n 2, 1) ∧ 8 + 1 = 9 := ⟨by decide +kernel, rfl⟩
theorem d_M_shelf_9 : decode b_M_shelf 9 = .ok (.ifCond .lt 8, 3) ∧ 9 + 3 = 12 ∧ ((9 : Nat) : Int) + 8 = ((17 : Nat) : Int) := ⟨by decide +kernel, rfl, by decide⟩
theorem d_M_shelf_12 : decode b_M_shelf 12 = .ok (.iload_n 2, 1) ∧ 12 + 1 = 13 := ⟨by decide +kernel, rfl⟩
theorem d_M_shelf_13 : decode b_M_shelf 13 = .ok (.iconst 3, 1) ∧ 13 + 1 = 14 := ⟨by decide +kernel, rfl⟩
theorem d_M_shelf_14 : decode b_M_shelf 14 = .ok (.if_icmp .le 7, 3) ∧ 14 + 3 = 17 ∧ ((14 : Nat) : Int) + 7 = ((21 : Nat) : Int) := ⟨by decide +kernel, rfl, by decide⟩
theorem d_M_shelf_17 : decode b_M_shelf 17 = .ok (.iconst 1, 1) ∧ 17 + 1 = 18 := ⟨by decide +kernel, rfl⟩
theorem d_M_shelf_18 : decode b_M_shelf 18 = .ok (.goto 4, 3) ∧ ((18 : Nat) : Int) + 4 = ((22 : Nat) : Int) := ⟨by decide +kernel, by decide⟩
theorem d_M_shelf_21 : decode b_M_shelf 21 = .ok (.iconst 0, 1) ∧ 21 + 1 = 22 := ⟨by decide +kernel, rfl⟩
theorem d_M_shelf_22 : decode b_M_shelf 22 = .ok (.aload_n 0, 1) ∧ 22 + 1 = 23 := ⟨by decide +kernel, rfl⟩
theorem d_M_shelf_23 : decode b_M_shelf 23 = .ok (.iload_n 1, 1) ∧ 23 + 1 = 24 := ⟨by decide +kernel, rfl⟩
theorem d_M_shelf_24 : decode b_M_shelf 24 = .ok (.invokevirtual 114, 3) ∧ 24 + 3 = 27 := ⟨by decide +kernel, rfl⟩
theorem d_M_shelf_27 : decode b_M_shelf 27 = .ok (.ifCond .ne 7, 3) ∧ 27 + 3 = 30 ∧ ((27 : Nat) : Int) + 7 = ((34 : Nat) : Int) := ⟨by decide +kernel, rfl, by decide⟩
theorem d_M_shelf_30 : decode b_M_shelf 30 = .ok (.iconst 1, 1) ∧ 30 + 1 = 31 := ⟨by decide +kernel, rfl⟩
theorem d_M_shelf_31 : decode b_M_shelf 31 = .ok (.goto 4, 3) ∧ ((31 : Nat) : Int) + 4 = ((35 : Nat) : Int) := ⟨by decide +kernel, by decide⟩
theorem d_M_shelf_34 : decode b_M_shelf 34 = .ok (.iconst 0, 1) ∧ 34 + 1 = 35 := ⟨by decide +kernel, rfl⟩
theorem d_M_shelf_35 : decode b_M_shelf 35 = .ok (.invokevirtual 88, 3) ∧ 35 + 3 = 38 := ⟨by decide +kernel, rfl⟩
theorem d_M_shelf_38 : decode b_M_shelf 38 = .ok (.ifCond .eq 5, 3) ∧ 38 + 3 = 41 ∧ ((38 : Nat) : Int) + 5 = ((43 : Nat) : Int) := ⟨by decide +kernel, rfl, by decide⟩
theorem d_M_shelf_41 : decode b_M_shelf 41 = .ok (.iconst 0, 1) ∧ 41 + 1 = 42 := ⟨by decide +kernel, rfl⟩
theorem d_M_shelf_42 : decode b_M_shelf 42 = .ok (.ireturn, 1) := by decide +kernel
theorem d_M_shelf_43 : decode b_M_shelf 43 = .ok (.iload_n 2, 1) ∧ 43 + 1 = 44 := ⟨by decide +kernel, rfl⟩
theorem d_M_shelf_44 : decode b_M_shelf 44 = .ok (.ifCond .ne 12, 3) ∧ 44 + 3 = 47 ∧ ((44 : Nat) : Int) + 12 = ((56 : Nat) : Int) := ⟨by decide +kernel, rfl, by decide⟩
theorem d_M_shelf_47 : decode b_M_shelf 47 = .ok (.aload_n 0, 1) ∧ 47 + 1 = 48 := ⟨by decide +kernel, rfl⟩
theorem d_M_shelf_48 : decode b_M_shelf 48 = .ok (.getfield 36, 3) ∧ 48 + 3 = 51 := ⟨by decide +kernel, rfl⟩
theorem d_M_shelf_51 : decode b_M_shelf 51 = .ok (.iload_n 1, 1) ∧ 51 + 1 = 52 := ⟨by decide +kernel, rfl⟩
theorem d_M_shelf_52 : decode b_M_shelf 52 = .ok (.iaload, 1) ∧ 52 + 1 = 53 := ⟨by decide +kernel, rfl⟩
theorem d_M_shelf_53 : decode b_M_shelf 53 = .ok (.goto 44, 3) ∧ ((53 : Nat) : Int) + 44 = ((97 : Nat) : Int) := ⟨by decide +kernel, by decide⟩
theorem d_M_shelf_56 : decode b_M_shelf 56 = .ok (.iload_n 2, 1) ∧ 56 + 1 = 57 := ⟨by decide +kernel, rfl⟩
theorem d_M_shelf_57 : decode b_M_shelf 57 = .ok (.iconst 1, 1) ∧ 57 + 1 = 58 := ⟨by decide +kernel, rfl⟩
theorem d_M_shelf_58 : decode b_M_shelf 58 = .ok (.if_icmp .ne 12, 3) ∧ 58 + 3 = 61 ∧ ((58 : Nat) : Int) + 12 = ((70 : Nat) : Int) := ⟨by decide +kernel, rfl, by decide⟩
theorem d_M_shelf_61 : decode b_M_shelf 61 = .ok (.aload_n 0, 1) ∧ 61 + 1 = 62 := ⟨by decide +kernel, rfl⟩
theorem d_M_shelf_62 : decode b_M_shelf 62 = .ok (.getfield 39, 3) ∧ 62 + 3 = 65 := ⟨by decide +kernel, rfl⟩
theorem d_M_shelf_65 : decode b_M_shelf 65 = .ok (.iload_n 1, 1) ∧ 65 + 1 = 66 := ⟨by decide +kernel, rfl⟩
theorem d_M_shelf_66 : decode b_M_shelf 66 = .ok (.iaload, 1) ∧ 66 + 1 = 67 := ⟨by decide +kernel, rfl⟩
theorem d_M_shelf_67 : decode b_M_shelf 67 = .ok (.goto 30, 3) ∧ ((67 : Nat) : Int) + 30 = ((97 : Nat) : Int) := ⟨by decide +kernel, by decide⟩
theorem d_M_shelf_70 : decode b_M_shelf 70 = .ok (.iload_n 2, 1) ∧ 70 + 1 = 71 := ⟨by decide +kernel, rfl⟩
theorem d_M_shelf_71 : decode b_M_shelf 71 = .ok (.iconst 2, 1) ∧ 71 + 1 = 72 := ⟨by decide +kernel, rfl⟩
theorem d_M_shelf_72 : decode b_M_shelf 72 = .ok (.if_icmp .ne 11, 3) ∧ 72 + 3 = 75 ∧ ((72 : Nat) : Int) + 11 = ((83 : Nat) : Int) := ⟨by decide +kernel, rfl, by decide⟩
theorem d_M_shelf_75 : decode b_M_shelf 75 = .ok (.aload_n 0, 1) ∧ 75 + 1 = 76 := ⟨by decide +kernel, rfl⟩
theorem d_M_shelf_76 : decode b_M_shelf 76 = .ok (.iload_n 1, 1) ∧ 76 + 1 = 77 := ⟨by decide +kernel, rfl⟩
theorem d_M_shelf_77 : decode b_M_shelf 77 = .ok (.invokevirtual 117, 3) ∧ 77 + 3 = 80 := ⟨by decide +kernel, rfl⟩
theorem d_M_shelf_80 : decode b_M_shelf 80 = .ok (.goto 17, 3) ∧ ((80 : Nat) : Int) + 17 = ((97 : Nat) : Int) := ⟨by decide +kernel, by decide⟩
theorem d_M_shelf_83 : decode b_M_shelf 83 = .ok (.aload_n 0, 1) ∧ 83 + 1 = 84 := ⟨by decide +kernel, rfl⟩
theorem d_M_shelf_84 : decode b_M_shelf 84 = .ok (.getfield 42, 3) ∧ 84 + 3 = 87 := ⟨by decide +kernel, rfl⟩
theorem d_M_shelf_87 : decode b_M_shelf 87 = .ok (.iload_n 1, 1) ∧ 87 + 1 = 88 := ⟨by decide +kernel, rfl⟩
theorem d_M_shelf_88 : decode b_M_shelf 88 = .ok (.baload, 1) ∧ 88 + 1 = 89 := ⟨by decide +kernel, rfl⟩
theorem d_M_shelf_89 : decode b_M_shelf 89 = .ok (.ifCond .eq 7, 3) ∧ 89 + 3 = 92 ∧ ((89 : Nat) : Int) + 7 = ((96 : Nat) : Int) := ⟨by decide +kernel, rfl, by decide⟩
theorem d_M_shelf_92 : decode b_M_shelf 92 = .ok (.iconst 1, 1) ∧ 92 + 1 = 93 := ⟨by decide +kernel, rfl⟩
theorem d_M_shelf_93 : decode b_M_shelf 93 = .ok (.goto 4, 3) ∧ ((93 : Nat) : Int) + 4 = ((97 : Nat) : Int) := ⟨by decide +kernel, by decide⟩
theorem d_M_shelf_96 : decode b_M_shelf 96 = .ok (.iconst 0, 1) ∧ 96 + 1 = 97 := ⟨by decide +kernel, rfl⟩
theorem d_M_shelf_97 : decode b_M_shelf 97 = .ok (.ireturn, 1) := by decide +kernel
theorem d_M_single_0 : decode b_M_single 0 = .ok (.iconst 0, 1) ∧ 0 + 1 = 1 := ⟨by decide +kernel, rfl⟩
theorem d_M_single_1 : decode b_M_single 1 = .ok (.istore_n 2, 1) ∧ 1 + 1 = 2 := ⟨by decide +kernel, rfl⟩
theorem d_M_single_2 : decode b_M_single 2 = .ok (.iload_n 2, 1) ∧ 2 + 1 = 3 := ⟨by decide +kernel, rfl⟩
theorem d_M_single_3 : decode b_M_single 3 = .ok (.bipush 8, 2) ∧ 3 + 2 = 5 := ⟨by decide +kernel, rfl⟩
theorem d_M_single_5 : decode b_M_single 5 = .ok (.if_icmp .ge 68, 3) ∧ 5 + 3 = 8 ∧ ((5 : Nat) : Int) + 68 = ((73 : Nat) : Int) := ⟨by decide +kernel, rfl, by decide⟩
theorem d_M_single_8 : decode b_M_single 8 = .ok (.aload_n 0, 1) ∧ 8 + 1 = 9 := ⟨by decide +kernel, rfl⟩
theorem d_M_single_9 : decode b_M_single 9 = .ok (.iload_n 1, 1) ∧ 9 + 1 = 10 := ⟨by decide +kernel, rfl⟩
theorem d_M_single_10 : decode b_M_single 10 = .ok (.iload_n 2, 1) ∧ 10 + 1 = 11 := ⟨by decide +kernel, rfl⟩
theorem d_M_single_11 : decode b_M_single 11 = .ok (.invokevirtual 134, 3) ∧ 11 + 3 = 14 := ⟨by decide +kernel, rfl⟩
theorem d_M_single_14 : decode b_M_single 14 = .ok (.ifCond .ne 6, 3) ∧ 14 + 3 = 17 ∧ ((14 : Nat) : Int) + 6 = ((20 : Nat) : Int) := ⟨by decide +kernel, rfl, by decide⟩
theorem d_M_single_17 : decode b_M_single 17 = .ok (.goto 50, 3) ∧ ((17 : Nat) : Int) + 50 = ((67 : Nat) : Int) := ⟨by decide +kernel, by decide⟩
theorem d_M_single_20 : decode b_M_single 20 = .ok (.aload_n 0, 1) ∧ 20 + 1 = 21 := ⟨by decide +kernel, rfl⟩
theorem d_M_single_21 : decode b_M_single 21 = .ok (.iload_n 2, 1) ∧ 21 + 1 = 22 := ⟨by decide +kernel, rfl⟩
theorem d_M_single_22 : decode b_M_single 22 = .ok (.invokevirtual 117, 3) ∧ 22 + 3 = 25 := ⟨by decide +kernel, rfl⟩
theorem d_M_single_25 : decode b_M_single 25 = .ok (.istore_n 3, 1) ∧ 25 + 1 = 26 := ⟨by decide +kernel, rfl⟩
theorem d_M_single_26 : decode b_M_single 26 = .ok (.iconst 0, 1) ∧ 26 + 1 = 27 := ⟨by decide +kernel, rfl⟩
theorem d_M_single_27 : decode b_M_single 27 = .ok (.istore 4, 2) ∧ 27 + 2 = 29 := ⟨by decide +kernel, rfl⟩
theorem d_M_single_29 : decode b_M_single 29 = .ok (.iload 4, 2) ∧ 29 + 2 = 31 := ⟨by decide +kernel, rfl⟩
theorem d_M_single_31 : decode b_M_single 31 = .ok (.iload_n 3, 1) ∧ 31 + 1 = 32 := ⟨by decide +kernel, rfl⟩
theorem d_M_single_32 : decode b_M_single 32 = .ok (.if_icmp .ge 35, 3) ∧ 32 + 3 = 35 ∧ ((32 : Nat) : Int) + 35 = ((67 : Nat) : Int) := ⟨by decide +kernel, rfl, by decide⟩
theorem d_M_single_35 : decode b_M_single 35 = .ok (.aload_n 0, 1) ∧ 35 + 1 = 36 := ⟨by decide +kernel, rfl⟩
theorem d_M_single_36 : decode b_M_single 36 = .ok (.getfield 63, 3) ∧ 36 + 3 = 39 := ⟨by decide +kernel, rfl⟩
theorem d_M_single_39 : decode b_M_single 39 = .ok (.sipush 481, 3) ∧ 39 + 3 = 42 := ⟨by decide +kernel, rfl⟩
theorem d_M_single_42 : decode b_M_single 42 = .ok (.iload_n 2, 1) ∧ 42 + 1 = 43 := ⟨by decide +kernel, rfl⟩
theorem d_M_single_43 : decode b_M_single 43 = .ok (.imul, 1) ∧ 43 + 1 = 44 := ⟨by decide +kernel, rfl⟩
theorem d_M_single_44 : decode b_M_single 44 = .ok (.iload 4, 2) ∧ 44 + 2 = 46 := ⟨by decide +kernel, rfl⟩
theorem d_M_single_46 : decode b_M_single 46 = .ok (.iadd, 1) ∧ 46 + 1 = 47 := ⟨by decide +kernel, rfl⟩
theorem d_M_single_47 : decode b_M_single 47 = .ok (.iaload, 1) ∧ 47 + 1 = 48 := ⟨by decide +kernel, rfl⟩
theorem d_M_single_48 : decode b_M_single 48 = .ok (.iconst 1, 1) ∧ 48 + 1 = 49 := ⟨by decide +kernel, rfl⟩
theorem d_M_single_49 : decode b_M_single 49 = .ok (.if_icmp .ne 12, 3) ∧ 49 + 3 = 52 ∧ ((49 : Nat) : Int) + 12 = ((61 : Nat) : Int) := ⟨by decide +kernel, rfl, by decide⟩
theorem d_M_single_52 : decode b_M_single 52 = .ok (.sipush 481, 3) ∧ 52 + 3 = 55 := ⟨by decide +kernel, rfl⟩
theorem d_M_single_55 : decode b_M_single 55 = .ok (.iload_n 2, 1) ∧ 55 + 1 = 56 := ⟨by decide +kernel, rfl⟩
theorem d_M_single_56 : decode b_M_single 56 = .ok (.imul, 1) ∧ 56 + 1 = 57 := ⟨by decide +kernel, rfl⟩
theorem d_M_single_57 : decode b_M_single 57 = .ok (.iload 4, 2) ∧ 57 + 2 = 59 := ⟨by decide +kernel, rfl⟩
theorem d_M_single_59 : decode b_M_single 59 = .ok (.iadd, 1) ∧ 59 + 1 = 60 := ⟨by decide +kernel, rfl⟩
theorem d_M_single_60 : decode b_M_single 60 = .ok (.ireturn, 1) := by decide +kernel
theorem d_M_single_61 : decode b_M_single 61 = .ok (.iinc 4 1, 3) ∧ 61 + 3 = 64 := ⟨by decide +kernel, rfl⟩
theorem d_M_single_64 : decode b_M_single 64 = .ok (.goto (-35), 3) ∧ ((64 : Nat) : Int) + (-35) = ((29 : Nat) : Int) := ⟨by decide +kernel, by decide⟩
theorem d_M_single_67 : decode b_M_single 67 = .ok (.iinc 2 1, 3) ∧ 67 + 3 = 70 := ⟨by decide +kernel, rfl⟩
theorem d_M_single_70 : decode b_M_single 70 = .ok (.goto (-68), 3) ∧ ((70 : Nat) : Int) + (-68) = ((2 : Nat) : Int) := ⟨by decide +kernel, by decide⟩
theorem d_M_single_73 : decode b_M_single 73 = .ok (.iconst (-1), 1) ∧ 73 + 1 = 74 := ⟨by decide +kernel, rfl⟩
theorem d_M_single_74 : decode b_M_single 74 = .ok (.ireturn, 1) := by decide +kernel
theorem d_M_size_0 : decode b_M_size 0 = .ok (.aload_n 0, 1) ∧ 0 + 1 = 1 := ⟨by decide +kernel, rfl⟩
theorem d_M_size_1 : decode b_M_size 1 = .ok (.iload_n 1, 1) ∧ 1 + 1 = 2 := ⟨by decide +kernel, rfl⟩
theorem d_M_size_2 : decode b_M_size 2 = .ok (.iconst 1, 1) ∧ 2 + 1 = 3 := ⟨by decide +kernel, rfl⟩
theorem d_M_size_3 : decode b_M_size 3 = .ok (.if_icmp .lt 20, 3) ∧ 3 + 3 = 6 ∧ ((3 : Nat) : Int) + 20 = ((23 : Nat) : Int) := ⟨by decide +kernel, rfl, by decide⟩
theorem d_M_size_6 : decode b_M_size 6 = .ok (.iload_n 1, 1) ∧ 6 + 1 = 7 := ⟨by decide +kernel, rfl⟩
theorem d_M_size_7 : decode b_M_size 7 = .ok (.bipush 16, 2) ∧ 7 + 2 = 9 := ⟨by decide +kernel, rfl⟩
theorem d_M_size_9 : decode b_M_size 9 = .ok (.if_icmp .gt 14, 3) ∧ 9 + 3 = 12 ∧ ((9 : Nat) : Int) + 14 = ((23 : Nat) : Int) := ⟨by decide +kernel, rfl, by decide⟩
theorem d_M_size_12 : decode b_M_size 12 = .ok (.iload_n 2, 1) ∧ 12 + 1 = 13 := ⟨by decide +kernel, rfl⟩
theorem d_M_size_13 : decode b_M_size 13 = .ok (.iconst 1, 1) ∧ 13 + 1 = 14 := ⟨by decide +kernel, rfl⟩
theorem d_M_size_14 : decode b_M_size 14 = .ok (.if_icmp .lt 9, 3) ∧ 14 + 3 = 17 ∧ ((14 : Nat) : Int) + 9 = ((23 : Nat) : Int) := ⟨by decide +kernel, rfl, by decide⟩
theorem d_M_size_17 : decode b_M_size 17 = .ok (.iload_n 2, 1) ∧ 17 + 1 = 18 := ⟨by decide +kernel, rfl⟩
theorem d_M_size_18 : decode b_M_size 18 = .ok (.bipush 16, 2) ∧ 18 + 2 = 20 := ⟨by decide +kernel, rfl⟩
theorem d_M_size_20 : decode b_M_size 20 = .ok (.if_icmp .le 7, 3) ∧ 20 + 3 = 23 ∧ ((20 : Nat) : Int) + 7 = ((27 : Nat) : Int) := ⟨by decide +kernel, rfl, by decide⟩
theorem d_M_size_23 : decode b_M_size 23 = .ok (.iconst 1, 1) ∧ 23 + 1 = 24 := ⟨by decide +kernel, rfl⟩
theorem d_M_size_24 : decode b_M_size 24 = .ok (.goto 4, 3) ∧ ((24 : Nat) : Int) + 4 = ((28 : Nat) : Int) := ⟨by decide +kernel, by decide⟩
theorem d_M_size_27 : decode b_M_size 27 = .ok (.iconst 0, 1) ∧ 27 + 1 = 28 := ⟨by decide +kernel, rfl⟩
theorem d_M_size_28 : decode b_M_size 28 = .ok (.iconst 0, 1) ∧ 28 + 1 = 29 := ⟨by decide +kernel, rfl⟩
theorem d_M_size_29 : decode b_M_size 29 = .ok (.invokevirtual 88, 3) ∧ 29 + 3 = 32 := ⟨by decide +kernel, rfl⟩
theorem d_M_size_32 : decode b_M_size 32 = .ok (.ifCond .eq 4, 3) ∧ 32 + 3 = 35 ∧ ((32 : Nat) : Int) + 4 = ((36 : Nat) : Int) := ⟨by decide +kernel, rfl, by decide⟩
theorem d_M_size_35 : decode b_M_size 35 = .ok (.return_, 1) := by decide +kernel
theorem d_M_size_36 : decode b_M_size 36 = .ok (.aload_n 0, 1) ∧ 36 + 1 = 37 := ⟨by decide +kernel, rfl⟩
theorem d_M_size_37 : decode b_M_size 37 = .ok (.iload_n 1, 1) ∧ 37 + 1 = 38 := ⟨by decide +kernel, rfl⟩
theorem d_M_size_38 : decode b_M_size 38 = .ok (.putfield 7, 3) ∧ 38 + 3 = 41 := ⟨by decide +kernel, rfl⟩
theorem d_M_size_41 : decode b_M_size 41 = .ok (.aload_n 0, 1) ∧ 41 + 1 = 42 := ⟨by decide +kernel, rfl⟩
theorem d_M_size_42 : decode b_M_size 42 = .ok (.iload_n 2, 1) ∧ 42 + 1 = 43 := ⟨by decide +kernel, rfl⟩
theorem d_M_size_43 : decode b_M_size 43 = .ok (.putfield 13, 3) ∧ 43 + 3 = 46 := ⟨by decide +kernel, rfl⟩
theorem d_M_size_46 : decode b_M_size 46 = .ok (.iconst 0, 1) ∧ 46 + 1 = 47 := ⟨by decide +kernel, rfl⟩
theorem d_M_size_47 : decode b_M_size 47 = .ok (.istore_n 3, 1) ∧ 47 + 1 = 48 := ⟨by decide +kernel, rfl⟩
theorem d_M_size_48 : decode b_M_size 48 = .ok (.iload_n 3, 1) ∧ 48 + 1 = 49 := ⟨by decide +kernel, rfl⟩
theorem d_M_size_49 : decode b_M_size 49 = .ok (.sipush 256, 3) ∧ 49 + 3 = 52 := ⟨by decide +kernel, rfl⟩
theorem d_M_size_52 : decode b_M_size 52 = .ok (.if_icmp .ge 16, 3) ∧ 52 + 3 = 55 ∧ ((52 : Nat) : Int) + 16 = ((68 : Nat) : Int) := ⟨by decide +kernel, rfl, by decide⟩
theorem d_M_size_55 : decode b_M_size 55 = .ok (.aload_n 0, 1) ∧ 55 + 1 = 56 := ⟨by decide +kernel, rfl⟩
theorem d_M_size_56 : decode b_M_size 56 = .ok (.getfield 16, 3) ∧ 56 + 3 = 59 := ⟨by decide +kernel, rfl⟩
theorem d_M_size_59 : decode b_M_size 59 = .ok (.iload_n 3, 1) ∧ 59 + 1 = 60 := ⟨by decide +kernel, rfl⟩
theorem d_M_size_60 : decode b_M_size 60 = .ok (.iconst 0, 1) ∧ 60 + 1 = 61 := ⟨by decide +kernel, rfl⟩
theorem d_M_size_61 : decode b_M_size 61 = .ok (.iastore, 1) ∧ 61 + 1 = 62 := ⟨by decide +kernel, rfl⟩
theorem d_M_size_62 : decode b_M_size 62 = .ok (.iinc 3 1, 3) ∧ 62 + 3 = 65 := ⟨by decide +kernel, rfl⟩
theorem d_M_size_65 : decode b_M_size 65 = .ok (.goto (-17), 3) ∧ ((65 : Nat) : Int) + (-17) = ((48 : Nat) : Int) := ⟨by decide +kernel, by decide⟩
theorem d_M_size_68 : decode b_M_size 68 = .ok (.iconst 0, 1) ∧ 68 + 1 = 69 := ⟨by decide +kernel, rfl⟩
theorem d_M_size_69 : decode b_M_size 69 = .ok (.istore_n 3, 1) ∧ 69 + 1 = 70 := ⟨by decide +kernel, rfl⟩
theorem d_M_size_70 : decode b_M_size 70 = .ok (.iload_n 3, 1) ∧ 70 + 1 = 71 := ⟨by decide +kernel, rfl⟩
theorem d_M_size_71 : decode b_M_size 71 = .ok (.bipush 8, 2) ∧ 71 + 2 = 73 := ⟨by decide +kernel, rfl⟩
theorem d_M_size_73 : decode b_M_size 73 = .ok (.if_icmp .ge 23, 3) ∧ 73 + 3 = 76 ∧ ((73 : Nat) : Int) + 23 = ((96 : Nat) : Int) := ⟨by decide +kernel, rfl, by decide⟩
theorem d_M_size_76 : decode b_M_size 76 = .ok (.aload_n 0, 1) ∧ 76 + 1 = 77 := ⟨by decide +kernel, rfl⟩
theorem d_M_size_77 : decode b_M_size 77 = .ok (.getfield 33, 3) ∧ 77 + 3 = 80 := ⟨by decide +kernel, rfl⟩
theorem d_M_size_80 : decode b_M_size 80 = .ok (.iload_n 3, 1) ∧ 80 + 1 = 81 := ⟨by decide +kernel, rfl⟩
theorem d_M_size_81 : decode b_M_size 81 = .ok (.iconst 0, 1) ∧ 81 + 1 = 82 := ⟨by decide +kernel, rfl⟩
theorem d_M_size_82 : decode b_M_size 82 = .ok (.bastore, 1) ∧ 82 + 1 = 83 := ⟨by decide +kernel, rfl⟩
theorem d_M_size_83 : decode b_M_size 83 = .ok (.aload_n 0, 1) ∧ 83 + 1 = 84 := ⟨by decide +kernel, rfl⟩
theorem d_M_size_84 : decode b_M_size 84 = .ok (.getfield 42, 3) ∧ 84 + 3 = 87 := ⟨by decide +kernel, rfl⟩
theorem d_M_size_87 : decode b_M_size 87 = .ok (.iload_n 3, 1) ∧ 87 + 1 = 88 := ⟨by decide +kernel, rfl⟩
theorem d_M_size_88 : decode b_M_size 88 = .ok (.iconst 0, 1) ∧ 88 + 1 = 89 := ⟨by decide +kernel, rfl⟩
theorem d_M_size_89 : decode b_M_size 89 = .ok (.bastore, 1) ∧ 89 + 1 = 90 := ⟨by decide +kernel, rfl⟩
theorem d_M_size_90 : decode b_M_size 90 = .ok (.iinc 3 1, 3) ∧ 90 + 3 = 93 := ⟨by decide +kernel, rfl⟩
theorem d_M_size_93 : decode b_M_size 93 = .ok (.goto (-23), 3) ∧ ((93 : Nat) : Int) + (-23) = ((70 : Nat) : Int) := ⟨by decide +kernel, by decide⟩
theorem d_M_size_96 : decode b_M_size 96 = .ok (.aload_n 0, 1) ∧ 96 + 1 = 97 := ⟨by decide +kernel, rfl⟩
theorem d_M_size_97 : decode b_M_size 97 = .ok (.iconst 0, 1) ∧ 97 + 1 = 98 := ⟨by decide +kernel, rfl⟩
theorem d_M_size_98 : decode b_M_size 98 = .ok (.putfield 92, 3) ∧ 98 + 3 = 101 := ⟨by decide +kernel, rfl⟩
theorem d_M_size_101 : decode b_M_size 101 = .ok (.aload_n 0, 1) ∧ 101 + 1 = 102 := ⟨by decide +kernel, rfl⟩
theorem d_M_size_102 : decode b_M_size 102 = .ok (.iconst 0, 1) ∧ 102 + 1 = 103 := ⟨by decide +kernel, rfl⟩
theorem d_M_size_103 : decode b_M_size 103 = .ok (.putfield 96, 3) ∧ 103 + 3 = 106 := ⟨by decide +kernel, rfl⟩
theorem d_M_size_106 : decode b_M_size 106 = .ok (.return_, 1) := by decide +kernel
theorem d_M_sizeOf_0 : decode b_M_sizeOf 0 = .ok (.iload_n 0, 1) ∧ 0 + 1 = 1 := ⟨by decide +kernel, rfl⟩
theorem d_M_sizeOf_1 : decode b_M_sizeOf 1 = .ok (.ifCond .ge 8, 3) ∧ 1 + 3 = 4 ∧ ((1 : Nat) : Int) + 8 = ((9 : Nat) : Int) := ⟨by decide +kernel, rfl, by decide⟩
theorem d_M_sizeOf_4 : decode b_M_sizeOf 4 = .ok (.iload_n 0, 1) ∧ 4 + 1 = 5 := ⟨by decide +kernel, rfl⟩
theorem d_M_sizeOf_5 : decode b_M_sizeOf 5 = .ok (.ineg, 1) ∧ 5 + 1 = 6 := ⟨by decide +kernel, rfl⟩
theorem d_M_sizeOf_6 : decode b_M_sizeOf 6 = .ok (.goto 4, 3) ∧ ((6 : Nat) : Int) + 4 = ((10 : Nat) : Int) := ⟨by decide +kernel, by decide⟩
theorem d_M_sizeOf_9 : decode b_M_sizeOf 9 = .ok (.iload_n 0, 1) ∧ 9 + 1 = 10 := ⟨by decide +kernel, rfl⟩
theorem d_M_sizeOf_10 : decode b_M_sizeOf 10 = .ok (.ireturn, 1) := by decide +kernel
theorem d_M_sumUp_0 : decode b_M_sumUp 0 = .ok (.iconst 0, 1) ∧ 0 + 1 = 1 := ⟨by decide +kernel, rfl⟩
theorem d_M_sumUp_1 : decode b_M_sumUp 1 = .ok (.istore_n 3, 1) ∧ 1 + 1 = 2 := ⟨by decide +kernel, rfl⟩
theorem d_M_sumUp_2 : decode b_M_sumUp 2 = .ok (.iload_n 3, 1) ∧ 2 + 1 = 3 := ⟨by decide +kernel, rfl⟩
theorem d_M_sumUp_3 : decode b_M_sumUp 3 = .ok (.sipush 481, 3) ∧ 3 + 3 = 6 := ⟨by decide +kernel, rfl⟩
theorem d_M_sumUp_6 : decode b_M_sumUp 6 = .ok (.if_icmp .ge 16, 3) ∧ 6 + 3 = 9 ∧ ((6 : Nat) : Int) + 16 = ((22 : Nat) : Int) := ⟨by decide +kernel, rfl, by decide⟩
theorem d_M_sumUp_9 : decode b_M_sumUp 9 = .ok (.aload_n 0, 1) ∧ 9 + 1 = 10 := ⟨by decide +kernel, rfl⟩
theorem d_M_sumUp_10 : decode b_M_sumUp 10 = .ok (.getfield 69, 3) ∧ 10 + 3 = 13 := ⟨by decide +kernel, rfl⟩
theorem d_M_sumUp_13 : decode b_M_sumUp 13 = .ok (.iload_n 3, 1) ∧ 13 + 1 = 14 := ⟨by decide +kernel, rfl⟩
theorem d_M_sumUp_14 : decode b_M_sumUp 14 = .ok (.iconst 0, 1) ∧ 14 + 1 = 15 := ⟨by decide +kernel, rfl⟩
theorem d_M_sumUp_15 : decode b_M_sumUp 15 = .ok (.iastore, 1) ∧ 15 + 1 = 16 := ⟨by decide +kernel, rfl⟩
theorem d_M_sumUp_16 : decode b_M_sumUp 16 = .ok (.iinc 3 1, 3) ∧ 16 + 3 = 19 := ⟨by decide +kernel, rfl⟩
theorem d_M_sumUp_19 : decode b_M_sumUp 19 = .ok (.goto (-17), 3) ∧ ((19 : Nat) : Int) + (-17) = ((2 : Nat) : Int) := ⟨by decide +kernel, by decide⟩
theorem d_M_sumUp_22 : decode b_M_sumUp 22 = .ok (.iconst 0, 1) ∧ 22 + 1 = 23 := ⟨by decide +kernel, rfl⟩
theorem d_M_sumUp_23 : decode b_M_sumUp 23 = .ok (.istore_n 3, 1) ∧ 23 + 1 = 24 := ⟨by decide +kernel, rfl⟩
theorem d_M_sumUp_24 : decode b_M_sumUp 24 = .ok (.iload_n 3, 1) ∧ 24 + 1 = 25 := ⟨by decide +kernel, rfl⟩
theorem d_M_sumUp_25 : decode b_M_sumUp 25 = .ok (.aload_n 0, 1) ∧ 25 + 1 = 26 := ⟨by decide +kernel, rfl⟩
theorem d_M_sumUp_26 : decode b_M_sumUp 26 = .ok (.getfield 13, 3) ∧ 26 + 3 = 29 := ⟨by decide +kernel, rfl⟩
theorem d_M_sumUp_29 : decode b_M_sumUp 29 = .ok (.if_icmp .ge 52, 3) ∧ 29 + 3 = 32 ∧ ((29 : Nat) : Int) + 52 = ((81 : Nat) : Int) := ⟨by decide +kernel, rfl, by decide⟩
theorem d_M_sumUp_32 : decode b_M_sumUp 32 = .ok (.iconst 0, 1) ∧ 32 + 1 = 33 := ⟨by decide +kernel, rfl⟩
theorem d_M_sumUp_33 : decode b_M_sumUp 33 = .ok (.istore 4, 2) ∧ 33 + 2 = 35 := ⟨by decide +kernel, rfl⟩
theorem d_M_sumUp_35 : decode b_M_sumUp 35 = .ok (.iload 4, 2) ∧ 35 + 2 = 37 := ⟨by decide +kernel, rfl⟩
theorem d_M_sumUp_37 : decode b_M_sumUp 37 = .ok (.aload_n 0, 1) ∧ 37 + 1 = 38 := ⟨by decide +kernel, rfl⟩
theorem d_M_sumUp_38 : decode b_M_sumUp 38 = .ok (.getfield 7, 3) ∧ 38 + 3 = 41 := ⟨by decide +kernel, rfl⟩
theorem d_M_sumUp_41 : decode b_M_sumUp 41 = .ok (.if_icmp .ge 34, 3) ∧ 41 + 3 = 44 ∧ ((41 : Nat) : Int) + 34 = ((75 : Nat) : Int) := ⟨by decide +kernel, rfl, by decide⟩
theorem d_M_sumUp_44 : decode b_M_sumUp 44 = .ok (.aload_n 0, 1) ∧ 44 + 1 = 45 := ⟨by decide +kernel, rfl⟩
theorem d_M_sumUp_45 : decode b_M_sumUp 45 = .ok (.getfield 69, 3) ∧ 45 + 3 = 48 := ⟨by decide +kernel, rfl⟩
theorem d_M_sumUp_48 : decode b_M_sumUp 48 = .ok (.aload_n 0, 1) ∧ 48 + 1 = 49 := ⟨by decide +kernel, rfl⟩
theorem d_M_sumUp_49 : decode b_M_sumUp 49 = .ok (.iload_n 1, 1) ∧ 49 + 1 = 50 := ⟨by decide +kernel, rfl⟩
theorem d_M_sumUp_50 : decode b_M_sumUp 50 = .ok (.iload 4, 2) ∧ 50 + 2 = 52 := ⟨by decide +kernel, rfl⟩
theorem d_M_sumUp_52 : decode b_M_sumUp 52 = .ok (.iload_n 3, 1) ∧ 52 + 1 = 53 := ⟨by decide +kernel, rfl⟩
theorem d_M_sumUp_53 : decode b_M_sumUp 53 = .ok (.invokevirtual 120, 3) ∧ 53 + 3 = 56 := ⟨by decide +kernel, rfl⟩
theorem d_M_sumUp_56 : decode b_M_sumUp 56 = .ok (.dup2, 1) ∧ 56 + 1 = 57 := ⟨by decide +kernel, rfl⟩
theorem d_M_sumUp_57 : decode b_M_sumUp 57 = .ok (.iaload, 1) ∧ 57 + 1 = 58 := ⟨by decide +kernel, rfl⟩
theorem d_M_sumUp_58 : decode b_M_sumUp 58 = .ok (.aload_n 2, 1) ∧ 58 + 1 = 59 := ⟨by decide +kernel, rfl⟩
theorem d_M_sumUp_59 : decode b_M_sumUp 59 = .ok (.bipush 16, 2) ∧ 59 + 2 = 61 := ⟨by decide +kernel, rfl⟩
theorem d_M_sumUp_61 : decode b_M_sumUp 61 = .ok (.iload_n 3, 1) ∧ 61 + 1 = 62 := ⟨by decide +kernel, rfl⟩
theorem d_M_sumUp_62 : decode b_M_sumUp 62 = .ok (.imul, 1) ∧ 62 + 1 = 63 := ⟨by decide +kernel, rfl⟩
theorem d_M_sumUp_63 : decode b_M_sumUp 63 = .ok (.iload 4, 2) ∧ 63 + 2 = 65 := ⟨by decide +kernel, rfl⟩
theorem d_M_sumUp_65 : decode b_M_sumUp 65 = .ok (.iadd, 1) ∧ 65 + 1 = 66 := ⟨by decide +kernel, rfl⟩
theorem d_M_sumUp_66 : decode b_M_sumUp 66 = .ok (.iaload, 1) ∧ 66 + 1 = 67 := ⟨by decide +kernel, rfl⟩
theorem d_M_sumUp_67 : decode b_M_sumUp 67 = .ok (.iadd, 1) ∧ 67 + 1 = 68 := ⟨by decide +kernel, rfl⟩
theorem d_M_sumUp_68 : decode b_M_sumUp 68 = .ok (.iastore, 1) ∧ 68 + 1 = 69 := ⟨by decide +kernel, rfl⟩
theorem d_M_sumUp_69 : decode b_M_sumUp 69 = .ok (.iinc 4 1, 3) ∧ 69 + 3 = 72 := ⟨by decide +kernel, rfl⟩
theorem d_M_sumUp_72 : decode b_M_sumUp 72 = .ok (.goto (-37), 3) ∧ ((72 : Nat) : Int) + (-37) = ((35 : Nat) : Int) := ⟨by decide +kernel, by decide⟩
theorem d_M_sumUp_75 : decode b_M_sumUp 75 = .ok (.iinc 3 1, 3) ∧ 75 + 3 = 78 := ⟨by decide +kernel, rfl⟩
theorem d_M_sumUp_78 : decode b_M_sumUp 78 = .ok (.goto (-54), 3) ∧ ((78 : Nat) : Int) + (-54) = ((24 : Nat) : Int) := ⟨by decide +kernel, by decide⟩
theorem d_M_sumUp_81 : decode b_M_sumUp 81 = .ok (.return_, 1) := by decide +kernel
theorem d_M_throwing_0 : decode b_M_throwing 0 = .ok (.aload_n 0, 1) ∧ 0 + 1 = 1 := ⟨by decide +kernel, rfl⟩
theorem d_M_throwing_1 : decode b_M_throwing 1 = .ok (.iload_n 1, 1) ∧ 1 + 1 = 2 := ⟨by decide +kernel, rfl⟩
theorem d_M_throwing_2 : decode b_M_throwing 2 = .ok (.ifCond .eq 7, 3) ∧ 2 + 3 = 5 ∧ ((2 : Nat) : Int) + 7 = ((9 : Nat) : Int) := ⟨by decide +kernel, rfl, by decide⟩
theorem d_M_throwing_5 : decode b_M_throwing 5 = .ok (.iconst 1, 1) ∧ 5 + 1 = 6 := ⟨by decide +kernel, rfl⟩
theorem d_M_throwing_6 : decode b_M_throwing 6 = .ok (.goto 12, 3) ∧ ((6 : Nat) : Int) + 12 = ((18 : Nat) : Int) := ⟨by decide +kernel, by decide⟩
theorem d_M_throwing_9 : decode b_M_throwing 9 = .ok (.iload_n 2, 1) ∧ 9 + 1 = 10 := ⟨by decide +kernel, rfl⟩
theorem d_M_throwing_10 : decode b_M_throwing 10 = .ok (.ifCond .eq 7, 3) ∧ 10 + 3 = 13 ∧ ((10 : Nat) : Int) + 7 = ((17 : Nat) : Int) := ⟨by decide +kernel, rfl, by decide⟩
theorem d_M_throwing_13 : decode b_M_throwing 13 = .ok (.iconst 2, 1) ∧ 13 + 1 = 14 := ⟨by decide +kernel, rfl⟩
theorem d_M_throwing_14 : decode b_M_throwing 14 = .ok (.goto 4, 3) ∧ ((14 : Nat) : Int) + 4 = ((18 : Nat) : Int) := ⟨by decide +kernel, by decide⟩
theorem d_M_throwing_17 : decode b_M_throwing 17 = .ok (.iconst 0, 1) ∧ 17 + 1 = 18 := ⟨by decide +kernel, rfl⟩
theorem d_M_throwing_18 : decode b_M_throwing 18 = .ok (.putfield 81, 3) ∧ 18 + 3 = 21 := ⟨by decide +kernel, rfl⟩
theorem d_M_throwing_21 : decode b_M_throwing 21 = .ok (.aload_n 0, 1) ∧ 21 + 1 = 22 := ⟨by decide +kernel, rfl⟩
theorem d_M_throwing_22 : decode b_M_throwing 22 = .ok (.getfield 81, 3) ∧ 22 + 3 = 25 := ⟨by decide +kernel, rfl⟩
theorem d_M_throwing_25 : decode b_M_throwing 25 = .ok (.ifCond .le 7, 3) ∧ 25 + 3 = 28 ∧ ((25 : Nat) : Int) + 7 = ((32 : Nat) : Int) := ⟨by decide +kernel, rfl, by decide⟩
theorem d_M_throwing_28 : decode b_M_throwing 28 = .ok (.iconst 1, 1) ∧ 28 + 1 = 29 := ⟨by decide +kernel, rfl⟩
theorem d_M_throwing_29 : decode b_M_throwing 29 = .ok (.goto 4, 3) ∧ ((29 : Nat) : Int) + 4 = ((33 : Nat) : Int) := ⟨by decide +kernel, by decide⟩
theorem d_M_throwing_32 : decode b_M_throwing 32 = .ok (.iconst 0, 1) ∧ 32 + 1 = 33 := ⟨by decide +kernel, rfl⟩
theorem d_M_throwing_33 : decode b_M_throwing 33 = .ok (.ireturn, 1) := by decide +kernel
theorem d_M_thrown_0 : decode b_M_thrown 0 = .ok (.aload_n 0, 1) ∧ 0 + 1 = 1 := ⟨by decide +kernel, rfl⟩
theorem d_M_thrown_1 : decode b_M_thrown 1 = .ok (.getfield 81, 3) ∧ 1 + 3 = 4 := ⟨by decide +kernel, rfl⟩
theorem d_M_thrown_4 : decode b_M_thrown 4 = .ok (.ireturn, 1) := by decide +kernel
end
section
/-! sums over cells -/
def sN : Nat → (Nat → Int32) → Int32
  | 0, _ => 0
  | n + 1, F => sN n F + F n
theorem sN_congr {F G : Nat → Int32} : ∀ n : Nat, (∀ c, c < n → F c = G c) → sN n F = sN n G
  | 0, _ => rfl
  | n + 1, h => by
    show sN n F + F n = sN n G + G n
    rw [sN_congr n (fun c hc => h c (by omega)), h n (by omega)]
theorem i32_add0 (a : Int32) : a + 0 = a := Int32.add_zero a
theorem i32_0add (a : Int32) : 0 + a = a := Int32.zero_add a
theorem sN_more {F : Nat → Int32} {n : Nat} : ∀ m : Nat, (∀ c, n ≤ c → c < n + m → F c = 0) → sN (n + m) F = sN n F
  | 0, _ => rfl
  | m + 1, h => by
    show sN (n + m) F + F (n + m) = sN n F
    rw [sN_more m (fun c h1 h2 => h c h1 (by omega)), h (n + m) (by omega) (by omega), i32_add0]
theorem sN_add (F : Nat → Int32) (n : Nat) : ∀ m : Nat, sN (n + m) F = sN n F + sN m (fun i => F (n + i))
  | 0 => by
    show sN n F = sN n F + 0
    rw [i32_add0]
  | m + 1 => by
    show sN (n + m) F + F (n + m) = sN n F + (sN m (fun i => F (n + i)) + F (n + m))
    rw [sN_add F n m, Int32.add_assoc]
theorem sN_rows (F : Nat → Int32) : ∀ h : Nat, sN (16 * h) F = sN h (fun j => sN 16 (fun i => F (16 * j + i)))
  | 0 => rfl
  | h + 1 => by
    rw [show 16 * (h + 1) = 16 * h + 16 by omega, sN_add, sN_rows F h]
    rfl
/-- one place changed -/
theorem sN_one {F G : Nat → Int32} {c0 : Nat} (hne : ∀ c, c ≠ c0 → F c = G c) : ∀ n : Nat, c0 < n → sN n F = sN n G + (F c0 - G c0)
  | 0, h => absurd h (Nat.not_lt_zero _)
  | n + 1, h => by
    show sN n F + F n = sN n G + G n + (F c0 - G c0)
    by_cases hc : c0 = n
    · subst hc
      rw [sN_congr c0 (fun c h1 => hne c (by omega))]
      grind
    · rw [sN_one hne n (by omega), hne n (fun q => hc q.symm)]
      ac_rfl
/-- whole-number sums -/
def cN : Nat → (Nat → Nat) → Nat
  | 0, _ => 0
  | n + 1, F => cN n F + F n
theorem cN_congr {F G : Nat → Nat} : ∀ n : Nat, (∀ c, c < n → F c = G c) → cN n F = cN n G
  | 0, _ => rfl
  | n + 1, h => by
    show cN n F + F n = cN n G + G n
    rw [cN_congr n (fun c hc => h c (by omega)), h n (by omega)]
theorem cN_zero : ∀ n : Nat, cN n (fun _ => 0) = 0
  | 0 => rfl
  | n + 1 => by
    show cN n (fun _ => 0) + 0 = 0
    rw [cN_zero n]
theorem cN_one {F G : Nat → Nat} {c0 : Nat} (hne : ∀ c, c ≠ c0 → F c = G c) : ∀ n : Nat, c0 < n → cN n F + G c0 = cN n G + F c0
  | 0, h => absurd h (Nat.not_lt_zero _)
  | n + 1, h => by
    show cN n F + F n + G c0 = cN n G + G n + F c0
    by_cases hc : c0 = n
    · subst hc
      rw [cN_congr c0 (fun c h1 => hne c (by omega))]
      omega
    · have := cN_one hne n (by omega)
      have h2 := hne n (fun q => hc q.symm)
      omega
theorem cN_le {F G : Nat → Nat} : ∀ n : Nat, (∀ c, c < n → F c ≤ G c) → cN n F ≤ cN n G
  | 0, _ => Nat.le_refl _
  | n + 1, h => by
    have h1 := cN_le n (fun c hc => h c (by omega))
    have h2 := h n (by omega)
    show cN n F + F n ≤ cN n G + G n
    omega
theorem cN_pos {F : Nat → Nat} : ∀ n : Nat, 0 < cN n F → ∃ c, c < n ∧ 0 < F c
  | 0, h => absurd h (Nat.lt_irrefl _)
  | n + 1, h => by
    have h : 0 < cN n F + F n := h
    by_cases h2 : 0 < F n
    · exact ⟨n, by omega, h2⟩
    · obtain ⟨c, h3, h4⟩ := cN_pos (F := F) n (by omega)
      exact ⟨c, by omega, h4⟩
theorem cN_ge {F : Nat → Nat} {c0 : Nat} : ∀ n : Nat, c0 < n → F c0 ≤ cN n F
  | 0, h => absurd h (Nat.not_lt_zero _)
  | n + 1, h => by
    show F c0 ≤ cN n F + F n
    by_cases hc : c0 = n
    · subst hc; omega
    · have := cN_ge (F := F) (c0 := c0) n (by omega)
      omega
theorem sN_cN (F : Nat → Nat) : ∀ n : Nat, sN n (fun c => nI (F c)) = nI (cN n F)
  | 0 => nI_0.symm
  | n + 1 => by
    show sN n (fun c => nI (F c)) + nI (F n) = nI (cN n F + F n)
    rw [sN_cN F n, nI_add]
/-! bins filled cell by cell, row by row -/
def accX (bn : Nat → Nat → Nat) (cf : Nat → Int32) (y : Nat) : Nat → (Nat → Int32) → Nat → Int32
  | 0, b => b
  | x + 1, b => upd (accX bn cf y x b) (bn x y) (accX bn cf y x b (bn x y) + cf (16 * y + x))
def accY (bn : Nat → Nat → Nat) (cf : Nat → Int32) (w : Nat) : Nat → (Nat → Int32) → Nat → Int32
  | 0, b => b
  | y + 1, b => accX bn cf y w (accY bn cf w y b)
theorem accX_at (bn : Nat → Nat → Nat) (cf : Nat → Int32) (y : Nat) (b : Nat → Int32) (k : Nat) : ∀ x : Nat, accX bn cf y x b k = b k + sN x (fun i => if bn i y = k then cf (16 * y + i) else 0)
  | 0 => (i32_add0 _).symm
  | x + 1 => by
    show upd (accX bn cf y x b) (bn x y) (accX bn cf y x b (bn x y) + cf (16 * y + x)) k = b k + (sN x _ + (if bn x y = k then cf (16 * y + x) else 0))
    by_cases h : bn x y = k
    · subst h
      rw [pk_us, accX_at bn cf y b _ x, if_pos rfl, Int32.add_assoc]
    · rw [pk_un (fun q => h q.symm), accX_at bn cf y b k x, if_neg h, i32_add0]
theorem accY_at (bn : Nat → Nat → Nat) (cf : Nat → Int32) (w : Nat) (b : Nat → Int32) (k : Nat) : ∀ y : Nat, accY bn cf w y b k = b k + sN y (fun j => sN w (fun i => if bn i j = k then cf (16 * j + i) else 0))
  | 0 => (i32_add0 _).symm
  | y + 1 => by
    show accX bn cf y w (accY bn cf w y b) k = b k + (sN y _ + _)
    rw [accX_at, accY_at bn cf w b k y, Int32.add_assoc]
/-- the same as one sum over all cells -/
theorem accY_sum (bn : Nat → Nat → Nat) (cf : Nat → Int32) (w h : Nat) (hw : w ≤ 16) (hh : h ≤ 16) (b : Nat → Int32) (k : Nat) : accY bn cf w h b k = b k + sN 256 (fun c => if c % 16 < w ∧ c / 16 < h ∧ bn (c % 16) (c / 16) = k then cf c else 0) := by
  rw [accY_at]
  congr 1
  have h1 : sN 256 (fun c => if c % 16 < w ∧ c / 16 < h ∧ bn (c % 16) (c / 16) = k then cf c else 0) = sN (16 * h) (fun c => if c % 16 < w ∧ c / 16 < h ∧ bn (c % 16) (c / 16) = k then cf c else 0) := by
    have h0 := sN_more (F := fun c => if c % 16 < w ∧ c / 16 < h ∧ bn (c % 16) (c / 16) = k then cf c else 0) (n := 16 * h) (256 - 16 * h) (fun c h1 h2 => if_neg (fun q => by omega))
    rw [show 16 * h + (256 - 16 * h) = 256 by omega] at h0
    exact h0
  rw [h1, sN_rows]
  refine sN_congr h (fun j hj => ?_)
  have h2 : sN 16 (fun i => if (16 * j + i) % 16 < w ∧ (16 * j + i) / 16 < h ∧ bn ((16 * j + i) % 16) ((16 * j + i) / 16) = k then cf (16 * j + i) else 0) = sN w (fun i => if (16 * j + i) % 16 < w ∧ (16 * j + i) / 16 < h ∧ bn ((16 * j + i) % 16) ((16 * j + i) / 16) = k then cf (16 * j + i) else 0) := by
    have h0 := sN_more (F := fun i => if (16 * j + i) % 16 < w ∧ (16 * j + i) / 16 < h ∧ bn ((16 * j + i) % 16) ((16 * j + i) / 16) = k then cf (16 * j + i) else 0) (n := w) (16 - w) (fun c h1 h2 => if_neg (fun q => by omega))
    rw [show w + (16 - w) = 16 by omega] at h0
    exact h0
  rw [h2]
  refine sN_congr w (fun i hi => ?_)
  have e1 : (16 * j + i) % 16 = i := by omega
  have e2 : (16 * j + i) / 16 = j := by omega
  rw [e1, e2]
  by_cases hb : bn i j = k
  · rw [if_pos hb, if_pos ⟨hi, hj, hb⟩]
  · rw [if_neg hb, if_neg (fun q => hb q.2.2)]
end
section
/-! a rebuilding: which cells are known, and their numbers -/
def uB (w h : Nat) (K : Nat → Bool) (b : Nat → Nat) (k c : Nat) : Bool := decide (c % 16 < w) && decide (c / 16 < h) && decide (b c = k) && !K c
def kB (w h : Nat) (K : Nat → Bool) (b : Nat → Nat) (k c : Nat) : Bool := decide (c % 16 < w) && decide (c / 16 < h) && decide (b c = k) && K c
theorem uB_iff {w h : Nat} {K : Nat → Bool} {b : Nat → Nat} {k c : Nat} : uB w h K b k c = true ↔ c % 16 < w ∧ c / 16 < h ∧ b c = k ∧ K c = false := by
  simp [uB, and_assoc]
theorem kB_iff {w h : Nat} {K : Nat → Bool} {b : Nat → Nat} {k c : Nat} : kB w h K b k c = true ↔ c % 16 < w ∧ c / 16 < h ∧ b c = k ∧ K c = true := by
  simp [kB, and_assoc]
theorem uB_ne {w h : Nat} {K : Nat → Bool} {b : Nat → Nat} {k c c0 : Nat} {v : Bool} (hne : c ≠ c0) : uB w h (va_up K c0 v) b k c = uB w h K b k c := by
  unfold uB
  rw [va_up_ne K v hne]
theorem kB_ne {w h : Nat} {K : Nat → Bool} {b : Nat → Nat} {k c c0 : Nat} {v : Bool} (hne : c ≠ c0) : kB w h (va_up K c0 v) b k c = kB w h K b k c := by
  unfold kB
  rw [va_up_ne K v hne]
/-- how many cells of bin k aren't known; the sum of their numbers; what is left of the bin -/
def cnt (w h : Nat) (K : Nat → Bool) (b : Nat → Nat) (k : Nat) : Nat := cN 256 (fun c => if uB w h K b k c = true then 1 else 0)
def cod (w h : Nat) (K : Nat → Bool) (b : Nat → Nat) (k : Nat) : Nat := cN 256 (fun c => if uB w h K b k c = true then c else 0)
def rst (w h : Nat) (K : Nat → Bool) (b : Nat → Nat) (bv val : Nat → Int32) (k : Nat) : Int32 := bv k - sN 256 (fun c => if kB w h K b k c = true then val c else 0)
theorem cN_uniq {P : Nat → Bool} : ∀ n : Nat, cN n (fun c => if P c = true then 1 else 0) = 1 → ∃ c, c < n ∧ P c = true ∧ (∀ c', c' < n → P c' = true → c' = c) ∧ ∀ G : Nat → Nat, cN n (fun c => if P c = true then G c else 0) = G c
  | 0, h => absurd (show (0 : Nat) = 1 from h) (by decide)
  | n + 1, h => by
    have h : cN n (fun c => if P c = true then 1 else 0) + (if P n = true then 1 else 0) = 1 := h
    by_cases hn : P n = true
    · rw [if_pos hn] at h
      have h0 : cN n (fun c => if P c = true then 1 else 0) = 0 := by omega
      have hz : ∀ c, c < n → ¬ P c = true := fun c hc hp => by
        have h3 : (if P c = true then 1 else 0) ≤ cN n (fun c => if P c = true then 1 else 0) := cN_ge (F := fun c => if P c = true then 1 else 0) (c0 := c) n hc
        rw [if_pos hp] at h3
        omega
      refine ⟨n, by omega, hn, fun c' h1 h2 => ?_, fun G => ?_⟩
      · by_cases hc : c' = n
        · exact hc
        · exact absurd h2 (hz c' (by omega))
      · show cN n (fun c => if P c = true then G c else 0) + (if P n = true then G n else 0) = G n
        rw [if_pos hn, cN_congr (G := fun _ => 0) n (fun c hc => if_neg (hz c hc)), cN_zero, Nat.zero_add]
    · rw [if_neg hn] at h
      obtain ⟨c, h1, h2, h3, h4⟩ := cN_uniq (P := P) n (by omega)
      refine ⟨c, by omega, h2, fun c' g1 g2 => ?_, fun G => ?_⟩
      · by_cases hc : c' = n
        · subst hc; exact absurd g2 hn
        · exact h3 c' (by omega) g2
      · show cN n (fun c => if P c = true then G c else 0) + (if P n = true then G n else 0) = G c
        rw [if_neg hn, h4 G, Nat.add_zero]
/-- a bin with one cell not known: that cell -/
theorem cnt_one {w h : Nat} {K : Nat → Bool} {b : Nat → Nat} {k : Nat} (h1 : cnt w h K b k = 1) : cod w h K b k < 256 ∧ uB w h K b k (cod w h K b k) = true ∧ ∀ c, c < 256 → uB w h K b k c = true → c = cod w h K b k := by
  obtain ⟨c, g1, g2, g3, g4⟩ := cN_uniq (P := uB w h K b k) 256 h1
  have e2 : cod w h K b k = c := g4 (fun c => c)
  rw [e2]
  exact ⟨g1, g2, g3⟩
/-- a cell becomes known -/
theorem cnt_up {w h : Nat} {K : Nat → Bool} {b : Nat → Nat} {c0 : Nat} (hc : c0 < 256) (hx : c0 % 16 < w) (hy : c0 / 16 < h) (hK : K c0 = false) (k : Nat) : cnt w h K b k = cnt w h (va_up K c0 true) b k + (if b c0 = k then 1 else 0) := by
  have h1 := cN_one (F := fun c => if uB w h K b k c = true then 1 else 0) (G := fun c => if uB w h (va_up K c0 true) b k c = true then 1 else 0) (c0 := c0) (fun c hne => by
    show (if uB w h K b k c = true then 1 else 0) = (if uB w h (va_up K c0 true) b k c = true then 1 else 0)
    rw [uB_ne hne]) 256 hc
  have e1 : (if uB w h (va_up K c0 true) b k c0 = true then 1 else 0) = 0 := if_neg (fun q => by
    have := (uB_iff.mp q).2.2.2
    rw [va_up_self] at this
    cases this)
  have e2 : (if uB w h K b k c0 = true then 1 else 0) = (if b c0 = k then 1 else 0) := by
    by_cases hb : b c0 = k
    · rw [if_pos hb, if_pos (uB_iff.mpr ⟨hx, hy, hb, hK⟩)]
    · rw [if_neg hb, if_neg (fun q => hb (uB_iff.mp q).2.2.1)]
  have h1 : cnt w h K b k + (if uB w h (va_up K c0 true) b k c0 = true then 1 else 0) = cnt w h (va_up K c0 true) b k + (if uB w h K b k c0 = true then 1 else 0) := h1
  rw [e1, e2] at h1
  omega
theorem cod_up {w h : Nat} {K : Nat → Bool} {b : Nat → Nat} {c0 : Nat} (hc : c0 < 256) (hx : c0 % 16 < w) (hy : c0 / 16 < h) (hK : K c0 = false) (k : Nat) : cod w h K b k = cod w h (va_up K c0 true) b k + (if b c0 = k then c0 else 0) := by
  have h1 := cN_one (F := fun c => if uB w h K b k c = true then c else 0) (G := fun c => if uB w h (va_up K c0 true) b k c = true then c else 0) (c0 := c0) (fun c hne => by
    show (if uB w h K b k c = true then c else 0) = (if uB w h (va_up K c0 true) b k c = true then c else 0)
    rw [uB_ne hne]) 256 hc
  have e1 : (if uB w h (va_up K c0 true) b k c0 = true then c0 else 0) = 0 := if_neg (fun q => by
    have := (uB_iff.mp q).2.2.2
    rw [va_up_self] at this
    cases this)
  have e2 : (if uB w h K b k c0 = true then c0 else 0) = (if b c0 = k then c0 else 0) := by
    by_cases hb : b c0 = k
    · rw [if_pos hb, if_pos (uB_iff.mpr ⟨hx, hy, hb, hK⟩)]
    · rw [if_neg hb, if_neg (fun q => hb (uB_iff.mp q).2.2.1)]
  have h1 : cod w h K b k + (if uB w h (va_up K c0 true) b k c0 = true then c0 else 0) = cod w h (va_up K c0 true) b k + (if uB w h K b k c0 = true then c0 else 0) := h1
  rw [e1, e2] at h1
  omega
theorem rst_up {w h : Nat} {K : Nat → Bool} {b : Nat → Nat} {bv val : Nat → Int32} {c0 : Nat} {v : Int32} (hc : c0 < 256) (hx : c0 % 16 < w) (hy : c0 / 16 < h) (hK : K c0 = false) (k : Nat) : rst w h (va_up K c0 true) b bv (va_up val c0 v) k = if b c0 = k then rst w h K b bv val k - v else rst w h K b bv val k := by
  have h1 := sN_one (F := fun c => if kB w h (va_up K c0 true) b k c = true then va_up val c0 v c else 0) (G := fun c => if kB w h K b k c = true then val c else 0) (c0 := c0) (fun c hne => by
    show (if kB w h (va_up K c0 true) b k c = true then va_up val c0 v c else 0) = (if kB w h K b k c = true then val c else 0)
    rw [kB_ne hne, va_up_ne val v hne]) 256 hc
  have e2 : (if kB w h K b k c0 = true then val c0 else 0) = 0 := if_neg (fun q => by
    have := (kB_iff.mp q).2.2.2
    rw [hK] at this
    cases this)
  have e1 : (if kB w h (va_up K c0 true) b k c0 = true then va_up val c0 v c0 else 0) = (if b c0 = k then v else 0) := by
    rw [va_up_self]
    by_cases hb : b c0 = k
    · rw [if_pos hb, if_pos (kB_iff.mpr ⟨hx, hy, hb, va_up_self _ _ _⟩)]
    · rw [if_neg hb, if_neg (fun q => hb (kB_iff.mp q).2.2.1)]
  have h1 : sN 256 (fun c => if kB w h (va_up K c0 true) b k c = true then va_up val c0 v c else 0) = sN 256 (fun c => if kB w h K b k c = true then val c else 0) + ((if kB w h (va_up K c0 true) b k c0 = true then va_up val c0 v c0 else 0) - (if kB w h K b k c0 = true then val c0 else 0)) := h1
  rw [e1, e2] at h1
  unfold rst
  rw [h1]
  by_cases hb : b c0 = k
  · rw [if_pos hb, if_pos hb]
    grind
  · rw [if_neg hb, if_neg hb]
    grind
/-! the order: the lowest shelf that has a bin with one cell not known, and its lowest such bin -/
def Nxt (w h : Nat) (U : Nat → Bool) (bc : Nat → Nat → Nat) (ct : Nat → Nat) (K : Nat → Bool) (s k : Nat) : Prop :=
  s < 8 ∧ U s = true ∧ k < ct s ∧ cnt w h K (bc s) k = 1 ∧ (∀ k', k' < k → cnt w h K (bc s) k' ≠ 1) ∧ ∀ s', s' < s → U s' = true → ∀ k', k' < ct s' → cnt w h K (bc s') k' ≠ 1
theorem Nxt_uniq {w h : Nat} {U : Nat → Bool} {bc : Nat → Nat → Nat} {ct : Nat → Nat} {K : Nat → Bool} {s k s' k' : Nat} (h1 : Nxt w h U bc ct K s k) (h2 : Nxt w h U bc ct K s' k') : s = s' ∧ k = k' := by
  obtain ⟨a1, a2, a3, a4, a5, a6⟩ := h1
  obtain ⟨b1, b2, b3, b4, b5, b6⟩ := h2
  have hs : s = s' := by
    rcases Nat.lt_trichotomy s s' with h | h | h
    · exact absurd a4 (b6 s h a2 k a3)
    · exact h
    · exact absurd b4 (a6 s' h b2 k' b3)
  subst hs
  refine ⟨rfl, ?_⟩
  rcases Nat.lt_trichotomy k k' with h | h | h
  · exact absurd a4 (b5 k h)
  · exact h
  · exact absurd b4 (a5 k' h)
/-- n cells have become known, one after the other -/
def Rn (w h : Nat) (U : Nat → Bool) (bc : Nat → Nat → Nat) (ct : Nat → Nat) (bv : Nat → Nat → Int32) : Nat → (Nat → Bool) → (Nat → Int32) → Prop
  | 0, K, val => K = (fun _ => false) ∧ val = (fun _ => 0)
  | n + 1, K, val => ∃ K0 val0 s k, Rn w h U bc ct bv n K0 val0 ∧ Nxt w h U bc ct K0 s k ∧ K = va_up K0 (cod w h K0 (bc s) k) true ∧ val = va_up val0 (cod w h K0 (bc s) k) (rst w h K0 (bc s) (bv s) val0 k)
theorem Rn_uniq {w h : Nat} {U : Nat → Bool} {bc : Nat → Nat → Nat} {ct : Nat → Nat} {bv : Nat → Nat → Int32} : ∀ (n : Nat) {K K' : Nat → Bool} {v v' : Nat → Int32}, Rn w h U bc ct bv n K v → Rn w h U bc ct bv n K' v' → K = K' ∧ v = v'
  | 0, _, _, _, _, h1, h2 => ⟨h1.1.trans h2.1.symm, h1.2.trans h2.2.symm⟩
  | n + 1, _, _, _, _, h1, h2 => by
    obtain ⟨K0, v0, s, k, a1, a2, a3, a4⟩ := h1
    obtain ⟨K1, v1, s1, k1, b1, b2, b3, b4⟩ := h2
    obtain ⟨rfl, rfl⟩ := Rn_uniq n a1 b1
    obtain ⟨rfl, rfl⟩ := Nxt_uniq a2 b2
    exact ⟨a3.trans b3.symm, a4.trans b4.symm⟩
theorem Rn_pre {w h : Nat} {U : Nat → Bool} {bc : Nat → Nat → Nat} {ct : Nat → Nat} {bv : Nat → Nat → Int32} {n : Nat} : ∀ (d : Nat) {K : Nat → Bool} {v : Nat → Int32}, Rn w h U bc ct bv (n + (d + 1)) K v → ∃ K0 v0 s k, Rn w h U bc ct bv n K0 v0 ∧ Nxt w h U bc ct K0 s k
  | 0, _, _, h1 => by
    obtain ⟨K0, v0, s, k, a1, a2, -, -⟩ := h1
    exact ⟨K0, v0, s, k, a1, a2⟩
  | d + 1, _, _, h1 => by
    obtain ⟨K0, v0, s, k, a1, -, -, -⟩ := h1
    exact Rn_pre d a1
/-- it stands still there -/
def Dn (w h : Nat) (U : Nat → Bool) (bc : Nat → Nat → Nat) (ct : Nat → Nat) (bv : Nat → Nat → Int32) (n : Nat) (K : Nat → Bool) (v : Nat → Int32) : Prop := Rn w h U bc ct bv n K v ∧ ∀ s k, ¬ Nxt w h U bc ct K s k
theorem Dn_uniq {w h : Nat} {U : Nat → Bool} {bc : Nat → Nat → Nat} {ct : Nat → Nat} {bv : Nat → Nat → Int32} {n n' : Nat} {K K' : Nat → Bool} {v v' : Nat → Int32} (h1 : Dn w h U bc ct bv n K v) (h2 : Dn w h U bc ct bv n' K' v') : n = n' ∧ K = K' ∧ v = v' := by
  have hn : n = n' := by
    rcases Nat.lt_trichotomy n n' with h | h | h
    · obtain ⟨K0, v0, s, k, a1, a2⟩ := Rn_pre (n := n) (n' - n - 1) (K := K') (v := v') (by rw [show n + (n' - n - 1 + 1) = n' by omega]; exact h2.1)
      obtain ⟨rfl, rfl⟩ := Rn_uniq n h1.1 a1
      exact absurd a2 (h1.2 s k)
    · exact h
    · obtain ⟨K0, v0, s, k, a1, a2⟩ := Rn_pre (n := n') (n - n' - 1) (K := K) (v := v) (by rw [show n' + (n - n' - 1 + 1) = n by omega]; exact h1.1)
      obtain ⟨rfl, rfl⟩ := Rn_uniq n' h2.1 a1
      exact absurd a2 (h2.2 s k)
  subst hn
  exact ⟨rfl, Rn_uniq n h1.1 h2.1⟩
/-- the known ones are cells of the picture, and n of them -/
theorem Rn_known {w h : Nat} {U : Nat → Bool} {bc : Nat → Nat → Nat} {ct : Nat → Nat} {bv : Nat → Nat → Int32} : ∀ (n : Nat) {K : Nat → Bool} {v : Nat → Int32}, Rn w h U bc ct bv n K v → (∀ c, K c = true → c < 256 ∧ c % 16 < w ∧ c / 16 < h) ∧ cN 256 (fun c => if K c = true then 1 else 0) = n
  | 0, _, _, h1 => by
    obtain ⟨rfl, -⟩ := h1
    refine ⟨fun c hc => absurd hc (by simp), ?_⟩
    rw [cN_congr (G := fun _ => 0) 256 (fun c _ => by simp), cN_zero]
  | n + 1, _, _, h1 => by
    obtain ⟨K0, v0, s, k, a1, a2, rfl, -⟩ := h1
    obtain ⟨e1, e2⟩ := Rn_known n a1
    obtain ⟨c1, c2, -⟩ := cnt_one a2.2.2.2.1
    obtain ⟨d1, d2, d3, d4⟩ := uB_iff.mp c2
    refine ⟨fun c hc => ?_, ?_⟩
    · by_cases h0 : c = cod w h K0 (bc s) k
      · subst h0; exact ⟨c1, d1, d2⟩
      · rw [va_up_ne _ _ h0] at hc
        exact e1 c hc
    · have h2 := cN_one (F := fun c => if va_up K0 (cod w h K0 (bc s) k) true c = true then 1 else 0) (G := fun c => if K0 c = true then 1 else 0) (c0 := cod w h K0 (bc s) k) (fun c hne => by
        show (if va_up K0 (cod w h K0 (bc s) k) true c = true then 1 else 0) = (if K0 c = true then 1 else 0)
        rw [va_up_ne _ _ hne]) 256 c1
      have e3 : (if va_up K0 (cod w h K0 (bc s) k) true (cod w h K0 (bc s) k) = true then 1 else 0) = 1 := by rw [va_up_self]; rfl
      have e4 : (if K0 (cod w h K0 (bc s) k) = true then 1 else 0) = 0 := by rw [d4]; rfl
      have h2 : cN 256 (fun c => if va_up K0 (cod w h K0 (bc s) k) true c = true then 1 else 0) + (if K0 (cod w h K0 (bc s) k) = true then 1 else 0) = cN 256 (fun c => if K0 c = true then 1 else 0) + (if va_up K0 (cod w h K0 (bc s) k) true (cod w h K0 (bc s) k) = true then 1 else 0) := h2
      rw [e3, e4, e2, Nat.add_zero] at h2
      exact h2
end
section
/-! directions, bins -/
def lzI (P Q : Int) (w h : Nat) : Int := (if P * ((h : Int) - 1) < 0 then P * ((h : Int) - 1) else 0) - Q * ((w : Int) - 1)
def ctI (P Q : Int) (w h : Nat) : Int := (if 0 ≤ P then P else 0 - P) * ((h : Int) - 1) + Q * ((w : Int) - 1) + 1
def bnI (P Q : Int) (w h : Nat) (x y : Int) : Int := P * y - Q * x - lzI P Q w h
def bnN (P Q : Int) (w h : Nat) (x y : Nat) : Nat := (bnI P Q w h x y).toNat
def ctN (P Q : Int) (w h : Nat) : Nat := (ctI P Q w h).toNat
def okD (P Q : Int) : Prop := -16 ≤ P ∧ P ≤ 16 ∧ 0 ≤ Q ∧ Q ≤ 16
theorem bn_range {P Q : Int} {w h x y : Nat} (hd : okD P Q) (hw : w ≤ 16) (hh : h ≤ 16) (hx : x < w) (hy : y < h) : 0 ≤ bnI P Q w h x y ∧ bnI P Q w h x y < ctI P Q w h ∧ ctI P Q w h ≤ 481 := by
  obtain ⟨p1, p2, q1, q2⟩ := hd
  have a1 : 0 ≤ Q * (x : Int) := Int.mul_nonneg q1 (by omega)
  have a2 : Q * (x : Int) ≤ Q * ((w : Int) - 1) := Int.mul_le_mul_of_nonneg_left (by omega) q1
  have a3 : Q * ((w : Int) - 1) ≤ 16 * ((w : Int) - 1) := Int.mul_le_mul_of_nonneg_right q2 (by omega)
  unfold bnI lzI ctI
  by_cases hP : 0 ≤ P
  · have b1 : 0 ≤ P * (y : Int) := Int.mul_nonneg hP (by omega)
    have b2 : P * (y : Int) ≤ P * ((h : Int) - 1) := Int.mul_le_mul_of_nonneg_left (by omega) hP
    have b3 : P * ((h : Int) - 1) ≤ 16 * ((h : Int) - 1) := Int.mul_le_mul_of_nonneg_right p2 (by omega)
    rw [if_pos hP, if_neg (by omega)]
    omega
  · have c0 : 0 ≤ (0 - P) := by omega
    have b1 : 0 ≤ (0 - P) * (y : Int) := Int.mul_nonneg c0 (by omega)
    have b2 : (0 - P) * (y : Int) ≤ (0 - P) * ((h : Int) - 1) := Int.mul_le_mul_of_nonneg_left (by omega) c0
    have b3 : (0 - P) * ((h : Int) - 1) ≤ 16 * ((h : Int) - 1) := Int.mul_le_mul_of_nonneg_right (by omega) (by omega)
    have e1 : (0 - P) * (y : Int) = -(P * (y : Int)) := by rw [Int.zero_sub, Int.neg_mul]
    have e2 : (0 - P) * ((h : Int) - 1) = -(P * ((h : Int) - 1)) := by rw [Int.zero_sub, Int.neg_mul]
    rw [if_neg hP]
    by_cases hz : P * ((h : Int) - 1) < 0
    · rw [if_pos hz]; omega
    · rw [if_neg hz]; omega
theorem bn_nat {P Q : Int} {w h x y : Nat} (hd : okD P Q) (hw : w ≤ 16) (hh : h ≤ 16) (hx : x < w) (hy : y < h) : P * (y : Int) - Q * (x : Int) - lzI P Q w h = (bnN P Q w h x y : Int) ∧ bnN P Q w h x y < ctN P Q w h ∧ ctN P Q w h ≤ 481 ∧ (ctN P Q w h : Int) = ctI P Q w h := by
  obtain ⟨h1, h2, h3⟩ := bn_range hd hw hh hx hy
  unfold bnN ctN
  have e : P * (y : Int) - Q * (x : Int) - lzI P Q w h = bnI P Q w h x y := rfl
  omega
theorem ct_nat {P Q : Int} {w h : Nat} (hd : okD P Q) (hw : w ≤ 16) (hh : h ≤ 16) (hx : 1 ≤ w) (hy : 1 ≤ h) : ctN P Q w h ≤ 481 ∧ (ctN P Q w h : Int) = ctI P Q w h ∧ 1 ≤ ctN P Q w h := by
  obtain ⟨-, h2, h3, h4⟩ := bn_nat (x := 0) (y := 0) hd hw hh (by omega) (by omega)
  omega
/-- the reference says it otherwise -/
theorem lz_ref {P Q : Int} {w h : Nat} (hh : 1 ≤ h) : (if P < 0 then P * ((h : Int) - 1) else 0) - Q * ((w : Int) - 1) = lzI P Q w h := by
  unfold lzI
  by_cases hP : P < 0
  · rw [if_pos hP]
    by_cases hz : P * ((h : Int) - 1) < 0
    · rw [if_pos hz]
    · rw [if_neg hz]
      have h1 : 0 ≤ (0 - P) * ((h : Int) - 1) := Int.mul_nonneg (by omega) (by omega)
      have e2 : (0 - P) * ((h : Int) - 1) = -(P * ((h : Int) - 1)) := by rw [Int.zero_sub, Int.neg_mul]
      omega
  · rw [if_neg hP]
    have h1 : 0 ≤ P * ((h : Int) - 1) := Int.mul_nonneg (by omega) (by omega)
    rw [if_neg (by omega)]
end
section
section LK
variable {p : Program} {l : Launch} {e : Env} {R : Room} {s : State} {m : MethodId} {args : Array Value} {below : List Frame} {meth : Method} {c : Code} {Q : State → Prop} {H0 : Heap} {B : Nat} {D : va_G} {tys : List (ClassId × FieldType)} {Z : ZT} {cc : ByteArray} {nL N r : Nat} {cells slots : Nat} {ad : Nat → Nat} {g : Nat → va_E} {lv : List (Nat × Value)} {st : List Value} {pc pc2 : Nat} {fs fs' : List Value} {v : Value} {rm : Room} {mc ms : Nat}
theorem gf_S_9 (C : Cx p m c s args cc nL R_S wG H0 B D classes tys Z) (hr : r < N) (hg : g r = .inr (1, fs)) (hv : fs[0]? = some v) (hd : decode cc pc = .ok (.getfield 9, 3) ∧ pc + 3 = pc2) (k : kV p l e R s m args below meth c Q H0 B D classes nL N cells slots ad g lv (v :: st) pc2) : kV p l e R s m args below meth c Q H0 B D classes nL N cells slots ad g lv (.ref (ad r) :: st) pc := v_get C ws_S hr hg rfl 0 (by decide) fl_S_9 rfl hv hd k
theorem pf_S_9 (C : Cx p m c s args cc nL R_S wG H0 B D classes tys Z) (hr : r < N) (hg : g r = .inr (1, fs)) (hn : narrow (.boolean) v = v) (hfit : fits (.boolean) v = true) (hlen : 0 < fs.length) (hfs : fs.set 0 v = fs') (hd : decode cc pc = .ok (.putfield 9, 3) ∧ pc + 3 = pc2) (k : ∀ g1 : Nat → va_E, g1 r = .inr (1, fs') → (∀ r1, r1 ≠ r → g1 r1 = g r1) → kV p l e R s m args below meth c Q H0 B D classes nL N cells slots ad g1 lv st pc2) : kV p l e R s m args below meth c Q H0 B D classes nL N cells slots ad g lv (v :: .ref (ad r) :: st) pc := v_put C ws_S t_S t_S_ok n_S hr hg rfl 0 (by decide) fl_S_9 rfl rfl (by decide +kernel) hn hfit hlen hfs hd k
theorem gf_A_117 (C : Cx p m c s args cc nL R_A wG H0 B D classes tys Z) (hr : r < N) (hg : g r = .inr (1, fs)) (hv : fs[0]? = some v) (hd : decode cc pc = .ok (.getfield 117, 3) ∧ pc + 3 = pc2) (k : kV p l e R s m args below meth c Q H0 B D classes nL N cells slots ad g lv (v :: st) pc2) : kV p l e R s m args below meth c Q H0 B D classes nL N cells slots ad g lv (.ref (ad r) :: st) pc := v_get C ws_S hr hg rfl 0 (by decide) fl_A_117 rfl hv hd k
theorem pf_A_117 (C : Cx p m c s args cc nL R_A wG H0 B D classes tys Z) (hr : r < N) (hg : g r = .inr (1, fs)) (hn : narrow (.boolean) v = v) (hfit : fits (.boolean) v = true) (hlen : 0 < fs.length) (hfs : fs.set 0 v = fs') (hd : decode cc pc = .ok (.putfield 117, 3) ∧ pc + 3 = pc2) (k : ∀ g1 : Nat → va_E, g1 r = .inr (1, fs') → (∀ r1, r1 ≠ r → g1 r1 = g r1) → kV p l e R s m args below meth c Q H0 B D classes nL N cells slots ad g1 lv st pc2) : kV p l e R s m args below meth c Q H0 B D classes nL N cells slots ad g lv (v :: .ref (ad r) :: st) pc := v_put C ws_S t_S t_S_ok n_S hr hg rfl 0 (by decide) fl_A_117 rfl rfl (by decide +kernel) hn hfit hlen hfs hd k
theorem gf_S_15 (C : Cx p m c s args cc nL R_S wG H0 B D classes tys Z) (hr : r < N) (hg : g r = .inr (1, fs)) (hv : fs[1]? = some v) (hd : decode cc pc = .ok (.getfield 15, 3) ∧ pc + 3 = pc2) (k : kV p l e R s m args below meth c Q H0 B D classes nL N cells slots ad g lv (v :: st) pc2) : kV p l e R s m args below meth c Q H0 B D classes nL N cells slots ad g lv (.ref (ad r) :: st) pc := v_get C ws_S hr hg rfl 1 (by decide) fl_S_15 rfl hv hd k
theorem pf_S_15 (C : Cx p m c s args cc nL R_S wG H0 B D classes tys Z) (hr : r < N) (hg : g r = .inr (1, fs)) (hn : narrow (.boolean) v = v) (hfit : fits (.boolean) v = true) (hlen : 1 < fs.length) (hfs : fs.set 1 v = fs') (hd : decode cc pc = .ok (.putfield 15, 3) ∧ pc + 3 = pc2) (k : ∀ g1 : Nat → va_E, g1 r = .inr (1, fs') → (∀ r1, r1 ≠ r → g1 r1 = g r1) → kV p l e R s m args below meth c Q H0 B D classes nL N cells slots ad g1 lv st pc2) : kV p l e R s m args below meth c Q H0 B D classes nL N cells slots ad g lv (v :: .ref (ad r) :: st) pc := v_put C ws_S t_S t_S_ok n_S hr hg rfl 1 (by decide) fl_S_15 rfl rfl (by decide +kernel) hn hfit hlen hfs hd k
theorem gf_A_129 (C : Cx p m c s args cc nL R_A wG H0 B D classes tys Z) (hr : r < N) (hg : g r = .inr (1, fs)) (hv : fs[1]? = some v) (hd : decode cc pc = .ok (.getfield 129, 3) ∧ pc + 3 = pc2) (k : kV p l e R s m args below meth c Q H0 B D classes nL N cells slots ad g lv (v :: st) pc2) : kV p l e R s m args below meth c Q H0 B D classes nL N cells slots ad g lv (.ref (ad r) :: st) pc := v_get C ws_S hr hg rfl 1 (by decide) fl_A_129 rfl hv hd k
theorem pf_A_129 (C : Cx p m c s args cc nL R_A wG H0 B D classes tys Z) (hr : r < N) (hg : g r = .inr (1, fs)) (hn : narrow (.boolean) v = v) (hfit : fits (.boolean) v = true) (hlen : 1 < fs.length) (hfs : fs.set 1 v = fs') (hd : decode cc pc = .ok (.putfield 129, 3) ∧ pc + 3 = pc2) (k : ∀ g1 : Nat → va_E, g1 r = .inr (1, fs') → (∀ r1, r1 ≠ r → g1 r1 = g r1) → kV p l e R s m args below meth c Q H0 B D classes nL N cells slots ad g1 lv st pc2) : kV p l e R s m args below meth c Q H0 B D classes nL N cells slots ad g lv (v :: .ref (ad r) :: st) pc := v_put C ws_S t_S t_S_ok n_S hr hg rfl 1 (by decide) fl_A_129 rfl rfl (by decide +kernel) hn hfit hlen hfs hd k
theorem gf_S_18 (C : Cx p m c s args cc nL R_S wG H0 B D classes tys Z) (hr : r < N) (hg : g r = .inr (1, fs)) (hv : fs[2]? = some v) (hd : decode cc pc = .ok (.getfield 18, 3) ∧ pc + 3 = pc2) (k : kV p l e R s m args below meth c Q H0 B D classes nL N cells slots ad g lv (v :: st) pc2) : kV p l e R s m args below meth c Q H0 B D classes nL N cells slots ad g lv (.ref (ad r) :: st) pc := v_get C ws_S hr hg rfl 2 (by decide) fl_S_18 rfl hv hd k
theorem pf_S_18 (C : Cx p m c s args cc nL R_S wG H0 B D classes tys Z) (hr : r < N) (hg : g r = .inr (1, fs)) (hn : narrow (.int) v = v) (hfit : fits (.int) v = true) (hlen : 2 < fs.length) (hfs : fs.set 2 v = fs') (hd : decode cc pc = .ok (.putfield 18, 3) ∧ pc + 3 = pc2) (k : ∀ g1 : Nat → va_E, g1 r = .inr (1, fs') → (∀ r1, r1 ≠ r → g1 r1 = g r1) → kV p l e R s m args below meth c Q H0 B D classes nL N cells slots ad g1 lv st pc2) : kV p l e R s m args below meth c Q H0 B D classes nL N cells slots ad g lv (v :: .ref (ad r) :: st) pc := v_put C ws_S t_S t_S_ok n_S hr hg rfl 2 (by decide) fl_S_18 rfl rfl (by decide +kernel) hn hfit hlen hfs hd k
theorem gf_A_120 (C : Cx p m c s args cc nL R_A wG H0 B D classes tys Z) (hr : r < N) (hg : g r = .inr (1, fs)) (hv : fs[2]? = some v) (hd : decode cc pc = .ok (.getfield 120, 3) ∧ pc + 3 = pc2) (k : kV p l e R s m args below meth c Q H0 B D classes nL N cells slots ad g lv (v :: st) pc2) : kV p l e R s m args below meth c Q H0 B D classes nL N cells slots ad g lv (.ref (ad r) :: st) pc := v_get C ws_S hr hg rfl 2 (by decide) fl_A_120 rfl hv hd k
theorem pf_A_120 (C : Cx p m c s args cc nL R_A wG H0 B D classes tys Z) (hr : r < N) (hg : g r = .inr (1, fs)) (hn : narrow (.int) v = v) (hfit : fits (.int) v = true) (hlen : 2 < fs.length) (hfs : fs.set 2 v = fs') (hd : decode cc pc = .ok (.putfield 120, 3) ∧ pc + 3 = pc2) (k : ∀ g1 : Nat → va_E, g1 r = .inr (1, fs') → (∀ r1, r1 ≠ r → g1 r1 = g r1) → kV p l e R s m args below meth c Q H0 B D classes nL N cells slots ad g1 lv st pc2) : kV p l e R s m args below meth c Q H0 B D classes nL N cells slots ad g lv (v :: .ref (ad r) :: st) pc := v_put C ws_S t_S t_S_ok n_S hr hg rfl 2 (by decide) fl_A_120 rfl rfl (by decide +kernel) hn hfit hlen hfs hd k
theorem gf_S_22 (C : Cx p m c s args cc nL R_S wG H0 B D classes tys Z) (hr : r < N) (hg : g r = .inr (1, fs)) (hv : fs[3]? = some v) (hd : decode cc pc = .ok (.getfield 22, 3) ∧ pc + 3 = pc2) (k : kV p l e R s m args below meth c Q H0 B D classes nL N cells slots ad g lv (v :: st) pc2) : kV p l e R s m args below meth c Q H0 B D classes nL N cells slots ad g lv (.ref (ad r) :: st) pc := v_get C ws_S hr hg rfl 3 (by decide) fl_S_22 rfl hv hd k
theorem pf_S_22 (C : Cx p m c s args cc nL R_S wG H0 B D classes tys Z) (hr : r < N) (hg : g r = .inr (1, fs)) (hn : narrow (.int) v = v) (hfit : fits (.int) v = true) (hlen : 3 < fs.length) (hfs : fs.set 3 v = fs') (hd : decode cc pc = .ok (.putfield 22, 3) ∧ pc + 3 = pc2) (k : ∀ g1 : Nat → va_E, g1 r = .inr (1, fs') → (∀ r1, r1 ≠ r → g1 r1 = g r1) → kV p l e R s m args below meth c Q H0 B D classes nL N cells slots ad g1 lv st pc2) : kV p l e R s m args below meth c Q H0 B D classes nL N cells slots ad g lv (v :: .ref (ad r) :: st) pc := v_put C ws_S t_S t_S_ok n_S hr hg rfl 3 (by decide) fl_S_22 rfl rfl (by decide +kernel) hn hfit hlen hfs hd k
theorem gf_A_123 (C : Cx p m c s args cc nL R_A wG H0 B D classes tys Z) (hr : r < N) (hg : g r = .inr (1, fs)) (hv : fs[3]? = some v) (hd : decode cc pc = .ok (.getfield 123, 3) ∧ pc + 3 = pc2) (k : kV p l e R s m args below meth c Q H0 B D classes nL N cells slots ad g lv (v :: st) pc2) : kV p l e R s m args below meth c Q H0 B D classes nL N cells slots ad g lv (.ref (ad r) :: st) pc := v_get C ws_S hr hg rfl 3 (by decide) fl_A_123 rfl hv hd k
theorem pf_A_123 (C : Cx p m c s args cc nL R_A wG H0 B D classes tys Z) (hr : r < N) (hg : g r = .inr (1, fs)) (hn : narrow (.int) v = v) (hfit : fits (.int) v = true) (hlen : 3 < fs.length) (hfs : fs.set 3 v = fs') (hd : decode cc pc = .ok (.putfield 123, 3) ∧ pc + 3 = pc2) (k : ∀ g1 : Nat → va_E, g1 r = .inr (1, fs') → (∀ r1, r1 ≠ r → g1 r1 = g r1) → kV p l e R s m args below meth c Q H0 B D classes nL N cells slots ad g1 lv st pc2) : kV p l e R s m args below meth c Q H0 B D classes nL N cells slots ad g lv (v :: .ref (ad r) :: st) pc := v_put C ws_S t_S t_S_ok n_S hr hg rfl 3 (by decide) fl_A_123 rfl rfl (by decide +kernel) hn hfit hlen hfs hd k
theorem gf_S_25 (C : Cx p m c s args cc nL R_S wG H0 B D classes tys Z) (hr : r < N) (hg : g r = .inr (1, fs)) (hv : fs[4]? = some v) (hd : decode cc pc = .ok (.getfield 25, 3) ∧ pc + 3 = pc2) (k : kV p l e R s m args below meth c Q H0 B D classes nL N cells slots ad g lv (v :: st) pc2) : kV p l e R s m args below meth c Q H0 B D classes nL N cells slots ad g lv (.ref (ad r) :: st) pc := v_get C ws_S hr hg rfl 4 (by decide) fl_S_25 rfl hv hd k
theorem pf_S_25 (C : Cx p m c s args cc nL R_S wG H0 B D classes tys Z) (hr : r < N) (hg : g r = .inr (1, fs)) (hn : narrow (.int) v = v) (hfit : fits (.int) v = true) (hlen : 4 < fs.length) (hfs : fs.set 4 v = fs') (hd : decode cc pc = .ok (.putfield 25, 3) ∧ pc + 3 = pc2) (k : ∀ g1 : Nat → va_E, g1 r = .inr (1, fs') → (∀ r1, r1 ≠ r → g1 r1 = g r1) → kV p l e R s m args below meth c Q H0 B D classes nL N cells slots ad g1 lv st pc2) : kV p l e R s m args below meth c Q H0 B D classes nL N cells slots ad g lv (v :: .ref (ad r) :: st) pc := v_put C ws_S t_S t_S_ok n_S hr hg rfl 4 (by decide) fl_S_25 rfl rfl (by decide +kernel) hn hfit hlen hfs hd k
theorem gf_S_28 (C : Cx p m c s args cc nL R_S wG H0 B D classes tys Z) (hr : r < N) (hg : g r = .inr (1, fs)) (hv : fs[5]? = some v) (hd : decode cc pc = .ok (.getfield 28, 3) ∧ pc + 3 = pc2) (k : kV p l e R s m args below meth c Q H0 B D classes nL N cells slots ad g lv (v :: st) pc2) : kV p l e R s m args below meth c Q H0 B D classes nL N cells slots ad g lv (.ref (ad r) :: st) pc := v_get C ws_S hr hg rfl 5 (by decide) fl_S_28 rfl hv hd k
theorem pf_S_28 (C : Cx p m c s args cc nL R_S wG H0 B D classes tys Z) (hr : r < N) (hg : g r = .inr (1, fs)) (hn : narrow (.int) v = v) (hfit : fits (.int) v = true) (hlen : 5 < fs.length) (hfs : fs.set 5 v = fs') (hd : decode cc pc = .ok (.putfield 28, 3) ∧ pc + 3 = pc2) (k : ∀ g1 : Nat → va_E, g1 r = .inr (1, fs') → (∀ r1, r1 ≠ r → g1 r1 = g r1) → kV p l e R s m args below meth c Q H0 B D classes nL N cells slots ad g1 lv st pc2) : kV p l e R s m args below meth c Q H0 B D classes nL N cells slots ad g lv (v :: .ref (ad r) :: st) pc := v_put C ws_S t_S t_S_ok n_S hr hg rfl 5 (by decide) fl_S_28 rfl rfl (by decide +kernel) hn hfit hlen hfs hd k
theorem gf_W_31 (C : Cx p m c s args cc nL R_W wG H0 B D classes tys Z) (hr : r < N) (hg : g r = .inr (1, fs)) (hv : fs[5]? = some v) (hd : decode cc pc = .ok (.getfield 31, 3) ∧ pc + 3 = pc2) (k : kV p l e R s m args below meth c Q H0 B D classes nL N cells slots ad g lv (v :: st) pc2) : kV p l e R s m args below meth c Q H0 B D classes nL N cells slots ad g lv (.ref (ad r) :: st) pc := v_get C ws_S hr hg rfl 5 (by decide) fl_W_31 rfl hv hd k
theorem pf_W_31 (C : Cx p m c s args cc nL R_W wG H0 B D classes tys Z) (hr : r < N) (hg : g r = .inr (1, fs)) (hn : narrow (.int) v = v) (hfit : fits (.int) v = true) (hlen : 5 < fs.length) (hfs : fs.set 5 v = fs') (hd : decode cc pc = .ok (.putfield 31, 3) ∧ pc + 3 = pc2) (k : ∀ g1 : Nat → va_E, g1 r = .inr (1, fs') → (∀ r1, r1 ≠ r → g1 r1 = g r1) → kV p l e R s m args below meth c Q H0 B D classes nL N cells slots ad g1 lv st pc2) : kV p l e R s m args below meth c Q H0 B D classes nL N cells slots ad g lv (v :: .ref (ad r) :: st) pc := v_put C ws_S t_S t_S_ok n_S hr hg rfl 5 (by decide) fl_W_31 rfl rfl (by decide +kernel) hn hfit hlen hfs hd k
theorem gf_A_126 (C : Cx p m c s args cc nL R_A wG H0 B D classes tys Z) (hr : r < N) (hg : g r = .inr (1, fs)) (hv : fs[5]? = some v) (hd : decode cc pc = .ok (.getfield 126, 3) ∧ pc + 3 = pc2) (k : kV p l e R s m args below meth c Q H0 B D classes nL N cells slots ad g lv (v :: st) pc2) : kV p l e R s m args below meth c Q H0 B D classes nL N cells slots ad g lv (.ref (ad r) :: st) pc := v_get C ws_S hr hg rfl 5 (by decide) fl_A_126 rfl hv hd k
theorem pf_A_126 (C : Cx p m c s args cc nL R_A wG H0 B D classes tys Z) (hr : r < N) (hg : g r = .inr (1, fs)) (hn : narrow (.int) v = v) (hfit : fits (.int) v = true) (hlen : 5 < fs.length) (hfs : fs.set 5 v = fs') (hd : decode cc pc = .ok (.putfield 126, 3) ∧ pc + 3 = pc2) (k : ∀ g1 : Nat → va_E, g1 r = .inr (1, fs') → (∀ r1, r1 ≠ r → g1 r1 = g r1) → kV p l e R s m args below meth c Q H0 B D classes nL N cells slots ad g1 lv st pc2) : kV p l e R s m args below meth c Q H0 B D classes nL N cells slots ad g lv (v :: .ref (ad r) :: st) pc := v_put C ws_S t_S t_S_ok n_S hr hg rfl 5 (by decide) fl_A_126 rfl rfl (by decide +kernel) hn hfit hlen hfs hd k
theorem gf_S_31 (C : Cx p m c s args cc nL R_S wG H0 B D classes tys Z) (hr : r < N) (hg : g r = .inr (1, fs)) (hv : fs[6]? = some v) (hd : decode cc pc = .ok (.getfield 31, 3) ∧ pc + 3 = pc2) (k : kV p l e R s m args below meth c Q H0 B D classes nL N cells slots ad g lv (v :: st) pc2) : kV p l e R s m args below meth c Q H0 B D classes nL N cells slots ad g lv (.ref (ad r) :: st) pc := v_get C ws_S hr hg rfl 6 (by decide) fl_S_31 rfl hv hd k
theorem pf_S_31 (C : Cx p m c s args cc nL R_S wG H0 B D classes tys Z) (hr : r < N) (hg : g r = .inr (1, fs)) (hn : narrow (.array .int) v = v) (hfit : fits (.array .int) v = true) (hlen : 6 < fs.length) (hfs : fs.set 6 v = fs') (hd : decode cc pc = .ok (.putfield 31, 3) ∧ pc + 3 = pc2) (k : ∀ g1 : Nat → va_E, g1 r = .inr (1, fs') → (∀ r1, r1 ≠ r → g1 r1 = g r1) → kV p l e R s m args below meth c Q H0 B D classes nL N cells slots ad g1 lv st pc2) : kV p l e R s m args below meth c Q H0 B D classes nL N cells slots ad g lv (v :: .ref (ad r) :: st) pc := v_put C ws_S t_S t_S_ok n_S hr hg rfl 6 (by decide) fl_S_31 rfl rfl (by decide +kernel) hn hfit hlen hfs hd k
theorem gf_W_40 (C : Cx p m c s args cc nL R_W wG H0 B D classes tys Z) (hr : r < N) (hg : g r = .inr (1, fs)) (hv : fs[6]? = some v) (hd : decode cc pc = .ok (.getfield 40, 3) ∧ pc + 3 = pc2) (k : kV p l e R s m args below meth c Q H0 B D classes nL N cells slots ad g lv (v :: st) pc2) : kV p l e R s m args below meth c Q H0 B D classes nL N cells slots ad g lv (.ref (ad r) :: st) pc := v_get C ws_S hr hg rfl 6 (by decide) fl_W_40 rfl hv hd k
theorem pf_W_40 (C : Cx p m c s args cc nL R_W wG H0 B D classes tys Z) (hr : r < N) (hg : g r = .inr (1, fs)) (hn : narrow (.array .int) v = v) (hfit : fits (.array .int) v = true) (hlen : 6 < fs.length) (hfs : fs.set 6 v = fs') (hd : decode cc pc = .ok (.putfield 40, 3) ∧ pc + 3 = pc2) (k : ∀ g1 : Nat → va_E, g1 r = .inr (1, fs') → (∀ r1, r1 ≠ r → g1 r1 = g r1) → kV p l e R s m args below meth c Q H0 B D classes nL N cells slots ad g1 lv st pc2) : kV p l e R s m args below meth c Q H0 B D classes nL N cells slots ad g lv (v :: .ref (ad r) :: st) pc := v_put C ws_S t_S t_S_ok n_S hr hg rfl 6 (by decide) fl_W_40 rfl rfl (by decide +kernel) hn hfit hlen hfs hd k
theorem gf_A_139 (C : Cx p m c s args cc nL R_A wG H0 B D classes tys Z) (hr : r < N) (hg : g r = .inr (1, fs)) (hv : fs[6]? = some v) (hd : decode cc pc = .ok (.getfield 139, 3) ∧ pc + 3 = pc2) (k : kV p l e R s m args below meth c Q H0 B D classes nL N cells slots ad g lv (v :: st) pc2) : kV p l e R s m args below meth c Q H0 B D classes nL N cells slots ad g lv (.ref (ad r) :: st) pc := v_get C ws_S hr hg rfl 6 (by decide) fl_A_139 rfl hv hd k
theorem pf_A_139 (C : Cx p m c s args cc nL R_A wG H0 B D classes tys Z) (hr : r < N) (hg : g r = .inr (1, fs)) (hn : narrow (.array .int) v = v) (hfit : fits (.array .int) v = true) (hlen : 6 < fs.length) (hfs : fs.set 6 v = fs') (hd : decode cc pc = .ok (.putfield 139, 3) ∧ pc + 3 = pc2) (k : ∀ g1 : Nat → va_E, g1 r = .inr (1, fs') → (∀ r1, r1 ≠ r → g1 r1 = g r1) → kV p l e R s m args below meth c Q H0 B D classes nL N cells slots ad g1 lv st pc2) : kV p l e R s m args below meth c Q H0 B D classes nL N cells slots ad g lv (v :: .ref (ad r) :: st) pc := v_put C ws_S t_S t_S_ok n_S hr hg rfl 6 (by decide) fl_A_139 rfl rfl (by decide +kernel) hn hfit hlen hfs hd k
theorem gf_W_9 (C : Cx p m c s args cc nL R_W wG H0 B D classes tys Z) (hr : r < N) (hg : g r = .inr (2, fs)) (hv : fs[0]? = some v) (hd : decode cc pc = .ok (.getfield 9, 3) ∧ pc + 3 = pc2) (k : kV p l e R s m args below meth c Q H0 B D classes nL N cells slots ad g lv (v :: st) pc2) : kV p l e R s m args below meth c Q H0 B D classes nL N cells slots ad g lv (.ref (ad r) :: st) pc := v_get C ws_W hr hg rfl 0 (by decide) fl_W_9 rfl hv hd k
theorem pf_W_9 (C : Cx p m c s args cc nL R_W wG H0 B D classes tys Z) (hr : r < N) (hg : g r = .inr (2, fs)) (hn : narrow (.int) v = v) (hfit : fits (.int) v = true) (hlen : 0 < fs.length) (hfs : fs.set 0 v = fs') (hd : decode cc pc = .ok (.putfield 9, 3) ∧ pc + 3 = pc2) (k : ∀ g1 : Nat → va_E, g1 r = .inr (2, fs') → (∀ r1, r1 ≠ r → g1 r1 = g r1) → kV p l e R s m args below meth c Q H0 B D classes nL N cells slots ad g1 lv st pc2) : kV p l e R s m args below meth c Q H0 B D classes nL N cells slots ad g lv (v :: .ref (ad r) :: st) pc := v_put C ws_W t_W t_W_ok n_W hr hg rfl 0 (by decide) fl_W_9 rfl rfl (by decide +kernel) hn hfit hlen hfs hd k
theorem gf_W_15 (C : Cx p m c s args cc nL R_W wG H0 B D classes tys Z) (hr : r < N) (hg : g r = .inr (2, fs)) (hv : fs[1]? = some v) (hd : decode cc pc = .ok (.getfield 15, 3) ∧ pc + 3 = pc2) (k : kV p l e R s m args below meth c Q H0 B D classes nL N cells slots ad g lv (v :: st) pc2) : kV p l e R s m args below meth c Q H0 B D classes nL N cells slots ad g lv (.ref (ad r) :: st) pc := v_get C ws_W hr hg rfl 1 (by decide) fl_W_15 rfl hv hd k
theorem pf_W_15 (C : Cx p m c s args cc nL R_W wG H0 B D classes tys Z) (hr : r < N) (hg : g r = .inr (2, fs)) (hn : narrow (.int) v = v) (hfit : fits (.int) v = true) (hlen : 1 < fs.length) (hfs : fs.set 1 v = fs') (hd : decode cc pc = .ok (.putfield 15, 3) ∧ pc + 3 = pc2) (k : ∀ g1 : Nat → va_E, g1 r = .inr (2, fs') → (∀ r1, r1 ≠ r → g1 r1 = g r1) → kV p l e R s m args below meth c Q H0 B D classes nL N cells slots ad g1 lv st pc2) : kV p l e R s m args below meth c Q H0 B D classes nL N cells slots ad g lv (v :: .ref (ad r) :: st) pc := v_put C ws_W t_W t_W_ok n_W hr hg rfl 1 (by decide) fl_W_15 rfl rfl (by decide +kernel) hn hfit hlen hfs hd k
theorem gf_W_18 (C : Cx p m c s args cc nL R_W wG H0 B D classes tys Z) (hr : r < N) (hg : g r = .inr (2, fs)) (hv : fs[2]? = some v) (hd : decode cc pc = .ok (.getfield 18, 3) ∧ pc + 3 = pc2) (k : kV p l e R s m args below meth c Q H0 B D classes nL N cells slots ad g lv (v :: st) pc2) : kV p l e R s m args below meth c Q H0 B D classes nL N cells slots ad g lv (.ref (ad r) :: st) pc := v_get C ws_W hr hg rfl 2 (by decide) fl_W_18 rfl hv hd k
theorem pf_W_18 (C : Cx p m c s args cc nL R_W wG H0 B D classes tys Z) (hr : r < N) (hg : g r = .inr (2, fs)) (hn : narrow (.array .int) v = v) (hfit : fits (.array .int) v = true) (hlen : 2 < fs.length) (hfs : fs.set 2 v = fs') (hd : decode cc pc = .ok (.putfield 18, 3) ∧ pc + 3 = pc2) (k : ∀ g1 : Nat → va_E, g1 r = .inr (2, fs') → (∀ r1, r1 ≠ r → g1 r1 = g r1) → kV p l e R s m args below meth c Q H0 B D classes nL N cells slots ad g1 lv st pc2) : kV p l e R s m args below meth c Q H0 B D classes nL N cells slots ad g lv (v :: .ref (ad r) :: st) pc := v_put C ws_W t_W t_W_ok n_W hr hg rfl 2 (by decide) fl_W_18 rfl rfl (by decide +kernel) hn hfit hlen hfs hd k
theorem gf_W_22 (C : Cx p m c s args cc nL R_W wG H0 B D classes tys Z) (hr : r < N) (hg : g r = .inr (2, fs)) (hv : fs[3]? = some v) (hd : decode cc pc = .ok (.getfield 22, 3) ∧ pc + 3 = pc2) (k : kV p l e R s m args below meth c Q H0 B D classes nL N cells slots ad g lv (v :: st) pc2) : kV p l e R s m args below meth c Q H0 B D classes nL N cells slots ad g lv (.ref (ad r) :: st) pc := v_get C ws_W hr hg rfl 3 (by decide) fl_W_22 rfl hv hd k
theorem pf_W_22 (C : Cx p m c s args cc nL R_W wG H0 B D classes tys Z) (hr : r < N) (hg : g r = .inr (2, fs)) (hn : narrow (.array .int) v = v) (hfit : fits (.array .int) v = true) (hlen : 3 < fs.length) (hfs : fs.set 3 v = fs') (hd : decode cc pc = .ok (.putfield 22, 3) ∧ pc + 3 = pc2) (k : ∀ g1 : Nat → va_E, g1 r = .inr (2, fs') → (∀ r1, r1 ≠ r → g1 r1 = g r1) → kV p l e R s m args below meth c Q H0 B D classes nL N cells slots ad g1 lv st pc2) : kV p l e R s m args below meth c Q H0 B D classes nL N cells slots ad g lv (v :: .ref (ad r) :: st) pc := v_put C ws_W t_W t_W_ok n_W hr hg rfl 3 (by decide) fl_W_22 rfl rfl (by decide +kernel) hn hfit hlen hfs hd k
theorem gf_W_25 (C : Cx p m c s args cc nL R_W wG H0 B D classes tys Z) (hr : r < N) (hg : g r = .inr (2, fs)) (hv : fs[4]? = some v) (hd : decode cc pc = .ok (.getfield 25, 3) ∧ pc + 3 = pc2) (k : kV p l e R s m args below meth c Q H0 B D classes nL N cells slots ad g lv (v :: st) pc2) : kV p l e R s m args below meth c Q H0 B D classes nL N cells slots ad g lv (.ref (ad r) :: st) pc := v_get C ws_W hr hg rfl 4 (by decide) fl_W_25 rfl hv hd k
theorem pf_W_25 (C : Cx p m c s args cc nL R_W wG H0 B D classes tys Z) (hr : r < N) (hg : g r = .inr (2, fs)) (hn : narrow (.array .int) v = v) (hfit : fits (.array .int) v = true) (hlen : 4 < fs.length) (hfs : fs.set 4 v = fs') (hd : decode cc pc = .ok (.putfield 25, 3) ∧ pc + 3 = pc2) (k : ∀ g1 : Nat → va_E, g1 r = .inr (2, fs') → (∀ r1, r1 ≠ r → g1 r1 = g r1) → kV p l e R s m args below meth c Q H0 B D classes nL N cells slots ad g1 lv st pc2) : kV p l e R s m args below meth c Q H0 B D classes nL N cells slots ad g lv (v :: .ref (ad r) :: st) pc := v_put C ws_W t_W t_W_ok n_W hr hg rfl 4 (by decide) fl_W_25 rfl rfl (by decide +kernel) hn hfit hlen hfs hd k
theorem gf_A_9 (C : Cx p m c s args cc nL R_A wG H0 B D classes tys Z) (hr : r < N) (hg : g r = .inr (0, fs)) (hv : fs[0]? = some v) (hd : decode cc pc = .ok (.getfield 9, 3) ∧ pc + 3 = pc2) (k : kV p l e R s m args below meth c Q H0 B D classes nL N cells slots ad g lv (v :: st) pc2) : kV p l e R s m args below meth c Q H0 B D classes nL N cells slots ad g lv (.ref (ad r) :: st) pc := v_get C ws_A hr hg rfl 0 (by decide) fl_A_9 rfl hv hd k
theorem pf_A_9 (C : Cx p m c s args cc nL R_A wG H0 B D classes tys Z) (hr : r < N) (hg : g r = .inr (0, fs)) (hn : narrow (.int) v = v) (hfit : fits (.int) v = true) (hlen : 0 < fs.length) (hfs : fs.set 0 v = fs') (hd : decode cc pc = .ok (.putfield 9, 3) ∧ pc + 3 = pc2) (k : ∀ g1 : Nat → va_E, g1 r = .inr (0, fs') → (∀ r1, r1 ≠ r → g1 r1 = g r1) → kV p l e R s m args below meth c Q H0 B D classes nL N cells slots ad g1 lv st pc2) : kV p l e R s m args below meth c Q H0 B D classes nL N cells slots ad g lv (v :: .ref (ad r) :: st) pc := v_put C ws_A t_A t_A_ok n_A hr hg rfl 0 (by decide) fl_A_9 rfl rfl (by decide +kernel) hn hfit hlen hfs hd k
theorem gf_A_13 (C : Cx p m c s args cc nL R_A wG H0 B D classes tys Z) (hr : r < N) (hg : g r = .inr (0, fs)) (hv : fs[1]? = some v) (hd : decode cc pc = .ok (.getfield 13, 3) ∧ pc + 3 = pc2) (k : kV p l e R s m args below meth c Q H0 B D classes nL N cells slots ad g lv (v :: st) pc2) : kV p l e R s m args below meth c Q H0 B D classes nL N cells slots ad g lv (.ref (ad r) :: st) pc := v_get C ws_A hr hg rfl 1 (by decide) fl_A_13 rfl hv hd k
theorem pf_A_13 (C : Cx p m c s args cc nL R_A wG H0 B D classes tys Z) (hr : r < N) (hg : g r = .inr (0, fs)) (hn : narrow (.int) v = v) (hfit : fits (.int) v = true) (hlen : 1 < fs.length) (hfs : fs.set 1 v = fs') (hd : decode cc pc = .ok (.putfield 13, 3) ∧ pc + 3 = pc2) (k : ∀ g1 : Nat → va_E, g1 r = .inr (0, fs') → (∀ r1, r1 ≠ r → g1 r1 = g r1) → kV p l e R s m args below meth c Q H0 B D classes nL N cells slots ad g1 lv st pc2) : kV p l e R s m args below meth c Q H0 B D classes nL N cells slots ad g lv (v :: .ref (ad r) :: st) pc := v_put C ws_A t_A t_A_ok n_A hr hg rfl 1 (by decide) fl_A_13 rfl rfl (by decide +kernel) hn hfit hlen hfs hd k
theorem gf_A_16 (C : Cx p m c s args cc nL R_A wG H0 B D classes tys Z) (hr : r < N) (hg : g r = .inr (0, fs)) (hv : fs[2]? = some v) (hd : decode cc pc = .ok (.getfield 16, 3) ∧ pc + 3 = pc2) (k : kV p l e R s m args below meth c Q H0 B D classes nL N cells slots ad g lv (v :: st) pc2) : kV p l e R s m args below meth c Q H0 B D classes nL N cells slots ad g lv (.ref (ad r) :: st) pc := v_get C ws_A hr hg rfl 2 (by decide) fl_A_16 rfl hv hd k
theorem pf_A_16 (C : Cx p m c s args cc nL R_A wG H0 B D classes tys Z) (hin2 : meth.name = "<init>") (hr : r < N) (hg : g r = .inr (0, fs)) (hn : narrow (.array .int) v = v) (hfit : fits (.array .int) v = true) (hlen : 2 < fs.length) (hfs : fs.set 2 v = fs') (hd : decode cc pc = .ok (.putfield 16, 3) ∧ pc + 3 = pc2) (k : ∀ g1 : Nat → va_E, g1 r = .inr (0, fs') → (∀ r1, r1 ≠ r → g1 r1 = g r1) → kV p l e R s m args below meth c Q H0 B D classes nL N cells slots ad g1 lv st pc2) : kV p l e R s m args below meth c Q H0 B D classes nL N cells slots ad g lv (v :: .ref (ad r) :: st) pc := v_putF C ws_A t_A t_A_ok n_A hr hg rfl 2 (by decide) fl_A_16 rfl rfl hin2 (by decide +kernel) hn hfit hlen hfs hd k
theorem gf_A_22 (C : Cx p m c s args cc nL R_A wG H0 B D classes tys Z) (hr : r < N) (hg : g r = .inr (0, fs)) (hv : fs[3]? = some v) (hd : decode cc pc = .ok (.getfield 22, 3) ∧ pc + 3 = pc2) (k : kV p l e R s m args below meth c Q H0 B D classes nL N cells slots ad g lv (v :: st) pc2) : kV p l e R s m args below meth c Q H0 B D classes nL N cells slots ad g lv (.ref (ad r) :: st) pc := v_get C ws_A hr hg rfl 3 (by decide) fl_A_22 rfl hv hd k
theorem pf_A_22 (C : Cx p m c s args cc nL R_A wG H0 B D classes tys Z) (hin2 : meth.name = "<init>") (hr : r < N) (hg : g r = .inr (0, fs)) (hn : narrow (.array (.object "ShadowArchive$Shelf")) v = v) (hfit : fits (.array (.object "ShadowArchive$Shelf")) v = true) (hlen : 3 < fs.length) (hfs : fs.set 3 v = fs') (hd : decode cc pc = .ok (.putfield 22, 3) ∧ pc + 3 = pc2) (k : ∀ g1 : Nat → va_E, g1 r = .inr (0, fs') → (∀ r1, r1 ≠ r → g1 r1 = g r1) → kV p l e R s m args below meth c Q H0 B D classes nL N cells slots ad g1 lv st pc2) : kV p l e R s m args below meth c Q H0 B D classes nL N cells slots ad g lv (v :: .ref (ad r) :: st) pc := v_putF C ws_A t_A t_A_ok n_A hr hg rfl 3 (by decide) fl_A_22 rfl rfl hin2 (by decide +kernel) hn hfit hlen hfs hd k
theorem gf_A_26 (C : Cx p m c s args cc nL R_A wG H0 B D classes tys Z) (hr : r < N) (hg : g r = .inr (0, fs)) (hv : fs[4]? = some v) (hd : decode cc pc = .ok (.getfield 26, 3) ∧ pc + 3 = pc2) (k : kV p l e R s m args below meth c Q H0 B D classes nL N cells slots ad g lv (v :: st) pc2) : kV p l e R s m args below meth c Q H0 B D classes nL N cells slots ad g lv (.ref (ad r) :: st) pc := v_get C ws_A hr hg rfl 4 (by decide) fl_A_26 rfl hv hd k
theorem pf_A_26 (C : Cx p m c s args cc nL R_A wG H0 B D classes tys Z) (hr : r < N) (hg : g r = .inr (0, fs)) (hn : narrow (.boolean) v = v) (hfit : fits (.boolean) v = true) (hlen : 4 < fs.length) (hfs : fs.set 4 v = fs') (hd : decode cc pc = .ok (.putfield 26, 3) ∧ pc + 3 = pc2) (k : ∀ g1 : Nat → va_E, g1 r = .inr (0, fs') → (∀ r1, r1 ≠ r → g1 r1 = g r1) → kV p l e R s m args below meth c Q H0 B D classes nL N cells slots ad g1 lv st pc2) : kV p l e R s m args below meth c Q H0 B D classes nL N cells slots ad g lv (v :: .ref (ad r) :: st) pc := v_put C ws_A t_A t_A_ok n_A hr hg rfl 4 (by decide) fl_A_26 rfl rfl (by decide +kernel) hn hfit hlen hfs hd k
theorem gf_A_30 (C : Cx p m c s args cc nL R_A wG H0 B D classes tys Z) (hr : r < N) (hg : g r = .inr (0, fs)) (hv : fs[5]? = some v) (hd : decode cc pc = .ok (.getfield 30, 3) ∧ pc + 3 = pc2) (k : kV p l e R s m args below meth c Q H0 B D classes nL N cells slots ad g lv (v :: st) pc2) : kV p l e R s m args below meth c Q H0 B D classes nL N cells slots ad g lv (.ref (ad r) :: st) pc := v_get C ws_A hr hg rfl 5 (by decide) fl_A_30 rfl hv hd k
theorem pf_A_30 (C : Cx p m c s args cc nL R_A wG H0 B D classes tys Z) (hin2 : meth.name = "<init>") (hr : r < N) (hg : g r = .inr (0, fs)) (hn : narrow (.array .int) v = v) (hfit : fits (.array .int) v = true) (hlen : 5 < fs.length) (hfs : fs.set 5 v = fs') (hd : decode cc pc = .ok (.putfield 30, 3) ∧ pc + 3 = pc2) (k : ∀ g1 : Nat → va_E, g1 r = .inr (0, fs') → (∀ r1, r1 ≠ r → g1 r1 = g r1) → kV p l e R s m args below meth c Q H0 B D classes nL N cells slots ad g1 lv st pc2) : kV p l e R s m args below meth c Q H0 B D classes nL N cells slots ad g lv (v :: .ref (ad r) :: st) pc := v_putF C ws_A t_A t_A_ok n_A hr hg rfl 5 (by decide) fl_A_30 rfl rfl hin2 (by decide +kernel) hn hfit hlen hfs hd k
theorem gf_A_33 (C : Cx p m c s args cc nL R_A wG H0 B D classes tys Z) (hr : r < N) (hg : g r = .inr (0, fs)) (hv : fs[6]? = some v) (hd : decode cc pc = .ok (.getfield 33, 3) ∧ pc + 3 = pc2) (k : kV p l e R s m args below meth c Q H0 B D classes nL N cells slots ad g lv (v :: st) pc2) : kV p l e R s m args below meth c Q H0 B D classes nL N cells slots ad g lv (.ref (ad r) :: st) pc := v_get C ws_A hr hg rfl 6 (by decide) fl_A_33 rfl hv hd k
theorem pf_A_33 (C : Cx p m c s args cc nL R_A wG H0 B D classes tys Z) (hin2 : meth.name = "<init>") (hr : r < N) (hg : g r = .inr (0, fs)) (hn : narrow (.array (.object "ShadowArchive$Shelf")) v = v) (hfit : fits (.array (.object "ShadowArchive$Shelf")) v = true) (hlen : 6 < fs.length) (hfs : fs.set 6 v = fs') (hd : decode cc pc = .ok (.putfield 33, 3) ∧ pc + 3 = pc2) (k : ∀ g1 : Nat → va_E, g1 r = .inr (0, fs') → (∀ r1, r1 ≠ r → g1 r1 = g r1) → kV p l e R s m args below meth c Q H0 B D classes nL N cells slots ad g1 lv st pc2) : kV p l e R s m args below meth c Q H0 B D classes nL N cells slots ad g lv (v :: .ref (ad r) :: st) pc := v_putF C ws_A t_A t_A_ok n_A hr hg rfl 6 (by decide) fl_A_33 rfl rfl hin2 (by decide +kernel) hn hfit hlen hfs hd k
theorem gf_A_36 (C : Cx p m c s args cc nL R_A wG H0 B D classes tys Z) (hr : r < N) (hg : g r = .inr (0, fs)) (hv : fs[7]? = some v) (hd : decode cc pc = .ok (.getfield 36, 3) ∧ pc + 3 = pc2) (k : kV p l e R s m args below meth c Q H0 B D classes nL N cells slots ad g lv (v :: st) pc2) : kV p l e R s m args below meth c Q H0 B D classes nL N cells slots ad g lv (.ref (ad r) :: st) pc := v_get C ws_A hr hg rfl 7 (by decide) fl_A_36 rfl hv hd k
theorem pf_A_36 (C : Cx p m c s args cc nL R_A wG H0 B D classes tys Z) (hr : r < N) (hg : g r = .inr (0, fs)) (hn : narrow (.boolean) v = v) (hfit : fits (.boolean) v = true) (hlen : 7 < fs.length) (hfs : fs.set 7 v = fs') (hd : decode cc pc = .ok (.putfield 36, 3) ∧ pc + 3 = pc2) (k : ∀ g1 : Nat → va_E, g1 r = .inr (0, fs') → (∀ r1, r1 ≠ r → g1 r1 = g r1) → kV p l e R s m args below meth c Q H0 B D classes nL N cells slots ad g1 lv st pc2) : kV p l e R s m args below meth c Q H0 B D classes nL N cells slots ad g lv (v :: .ref (ad r) :: st) pc := v_put C ws_A t_A t_A_ok n_A hr hg rfl 7 (by decide) fl_A_36 rfl rfl (by decide +kernel) hn hfit hlen hfs hd k
theorem gf_A_39 (C : Cx p m c s args cc nL R_A wG H0 B D classes tys Z) (hr : r < N) (hg : g r = .inr (0, fs)) (hv : fs[8]? = some v) (hd : decode cc pc = .ok (.getfield 39, 3) ∧ pc + 3 = pc2) (k : kV p l e R s m args below meth c Q H0 B D classes nL N cells slots ad g lv (v :: st) pc2) : kV p l e R s m args below meth c Q H0 B D classes nL N cells slots ad g lv (.ref (ad r) :: st) pc := v_get C ws_A hr hg rfl 8 (by decide) fl_A_39 rfl hv hd k
theorem pf_A_39 (C : Cx p m c s args cc nL R_A wG H0 B D classes tys Z) (hin2 : meth.name = "<init>") (hr : r < N) (hg : g r = .inr (0, fs)) (hn : narrow (.array .int) v = v) (hfit : fits (.array .int) v = true) (hlen : 8 < fs.length) (hfs : fs.set 8 v = fs') (hd : decode cc pc = .ok (.putfield 39, 3) ∧ pc + 3 = pc2) (k : ∀ g1 : Nat → va_E, g1 r = .inr (0, fs') → (∀ r1, r1 ≠ r → g1 r1 = g r1) → kV p l e R s m args below meth c Q H0 B D classes nL N cells slots ad g1 lv st pc2) : kV p l e R s m args below meth c Q H0 B D classes nL N cells slots ad g lv (v :: .ref (ad r) :: st) pc := v_putF C ws_A t_A t_A_ok n_A hr hg rfl 8 (by decide) fl_A_39 rfl rfl hin2 (by decide +kernel) hn hfit hlen hfs hd k
theorem gf_A_42 (C : Cx p m c s args cc nL R_A wG H0 B D classes tys Z) (hr : r < N) (hg : g r = .inr (0, fs)) (hv : fs[9]? = some v) (hd : decode cc pc = .ok (.getfield 42, 3) ∧ pc + 3 = pc2) (k : kV p l e R s m args below meth c Q H0 B D classes nL N cells slots ad g lv (v :: st) pc2) : kV p l e R s m args below meth c Q H0 B D classes nL N cells slots ad g lv (.ref (ad r) :: st) pc := v_get C ws_A hr hg rfl 9 (by decide) fl_A_42 rfl hv hd k
theorem pf_A_42 (C : Cx p m c s args cc nL R_A wG H0 B D classes tys Z) (hr : r < N) (hg : g r = .inr (0, fs)) (hn : narrow (.int) v = v) (hfit : fits (.int) v = true) (hlen : 9 < fs.length) (hfs : fs.set 9 v = fs') (hd : decode cc pc = .ok (.putfield 42, 3) ∧ pc + 3 = pc2) (k : ∀ g1 : Nat → va_E, g1 r = .inr (0, fs') → (∀ r1, r1 ≠ r → g1 r1 = g r1) → kV p l e R s m args below meth c Q H0 B D classes nL N cells slots ad g1 lv st pc2) : kV p l e R s m args below meth c Q H0 B D classes nL N cells slots ad g lv (v :: .ref (ad r) :: st) pc := v_put C ws_A t_A t_A_ok n_A hr hg rfl 9 (by decide) fl_A_42 rfl rfl (by decide +kernel) hn hfit hlen hfs hd k
theorem gf_A_45 (C : Cx p m c s args cc nL R_A wG H0 B D classes tys Z) (hr : r < N) (hg : g r = .inr (0, fs)) (hv : fs[10]? = some v) (hd : decode cc pc = .ok (.getfield 45, 3) ∧ pc + 3 = pc2) (k : kV p l e R s m args below meth c Q H0 B D classes nL N cells slots ad g lv (v :: st) pc2) : kV p l e R s m args below meth c Q H0 B D classes nL N cells slots ad g lv (.ref (ad r) :: st) pc := v_get C ws_A hr hg rfl 10 (by decide) fl_A_45 rfl hv hd k
theorem pf_A_45 (C : Cx p m c s args cc nL R_A wG H0 B D classes tys Z) (hr : r < N) (hg : g r = .inr (0, fs)) (hn : narrow (.int) v = v) (hfit : fits (.int) v = true) (hlen : 10 < fs.length) (hfs : fs.set 10 v = fs') (hd : decode cc pc = .ok (.putfield 45, 3) ∧ pc + 3 = pc2) (k : ∀ g1 : Nat → va_E, g1 r = .inr (0, fs') → (∀ r1, r1 ≠ r → g1 r1 = g r1) → kV p l e R s m args below meth c Q H0 B D classes nL N cells slots ad g1 lv st pc2) : kV p l e R s m args below meth c Q H0 B D classes nL N cells slots ad g lv (v :: .ref (ad r) :: st) pc := v_put C ws_A t_A t_A_ok n_A hr hg rfl 10 (by decide) fl_A_45 rfl rfl (by decide +kernel) hn hfit hlen hfs hd k
theorem gf_A_48 (C : Cx p m c s args cc nL R_A wG H0 B D classes tys Z) (hr : r < N) (hg : g r = .inr (0, fs)) (hv : fs[11]? = some v) (hd : decode cc pc = .ok (.getfield 48, 3) ∧ pc + 3 = pc2) (k : kV p l e R s m args below meth c Q H0 B D classes nL N cells slots ad g lv (v :: st) pc2) : kV p l e R s m args below meth c Q H0 B D classes nL N cells slots ad g lv (.ref (ad r) :: st) pc := v_get C ws_A hr hg rfl 11 (by decide) fl_A_48 rfl hv hd k
theorem pf_A_48 (C : Cx p m c s args cc nL R_A wG H0 B D classes tys Z) (hin2 : meth.name = "<init>") (hr : r < N) (hg : g r = .inr (0, fs)) (hn : narrow (.array .int) v = v) (hfit : fits (.array .int) v = true) (hlen : 11 < fs.length) (hfs : fs.set 11 v = fs') (hd : decode cc pc = .ok (.putfield 48, 3) ∧ pc + 3 = pc2) (k : ∀ g1 : Nat → va_E, g1 r = .inr (0, fs') → (∀ r1, r1 ≠ r → g1 r1 = g r1) → kV p l e R s m args below meth c Q H0 B D classes nL N cells slots ad g1 lv st pc2) : kV p l e R s m args below meth c Q H0 B D classes nL N cells slots ad g lv (v :: .ref (ad r) :: st) pc := v_putF C ws_A t_A t_A_ok n_A hr hg rfl 11 (by decide) fl_A_48 rfl rfl hin2 (by decide +kernel) hn hfit hlen hfs hd k
theorem gf_A_53 (C : Cx p m c s args cc nL R_A wG H0 B D classes tys Z) (hr : r < N) (hg : g r = .inr (0, fs)) (hv : fs[12]? = some v) (hd : decode cc pc = .ok (.getfield 53, 3) ∧ pc + 3 = pc2) (k : kV p l e R s m args below meth c Q H0 B D classes nL N cells slots ad g lv (v :: st) pc2) : kV p l e R s m args below meth c Q H0 B D classes nL N cells slots ad g lv (.ref (ad r) :: st) pc := v_get C ws_A hr hg rfl 12 (by decide) fl_A_53 rfl hv hd k
theorem pf_A_53 (C : Cx p m c s args cc nL R_A wG H0 B D classes tys Z) (hin2 : meth.name = "<init>") (hr : r < N) (hg : g r = .inr (0, fs)) (hn : narrow (.array (.object "ShadowArchive$Worksheet")) v = v) (hfit : fits (.array (.object "ShadowArchive$Worksheet")) v = true) (hlen : 12 < fs.length) (hfs : fs.set 12 v = fs') (hd : decode cc pc = .ok (.putfield 53, 3) ∧ pc + 3 = pc2) (k : ∀ g1 : Nat → va_E, g1 r = .inr (0, fs') → (∀ r1, r1 ≠ r → g1 r1 = g r1) → kV p l e R s m args below meth c Q H0 B D classes nL N cells slots ad g1 lv st pc2) : kV p l e R s m args below meth c Q H0 B D classes nL N cells slots ad g lv (v :: .ref (ad r) :: st) pc := v_putF C ws_A t_A t_A_ok n_A hr hg rfl 12 (by decide) fl_A_53 rfl rfl hin2 (by decide +kernel) hn hfit hlen hfs hd k
theorem gf_A_57 (C : Cx p m c s args cc nL R_A wG H0 B D classes tys Z) (hr : r < N) (hg : g r = .inr (0, fs)) (hv : fs[13]? = some v) (hd : decode cc pc = .ok (.getfield 57, 3) ∧ pc + 3 = pc2) (k : kV p l e R s m args below meth c Q H0 B D classes nL N cells slots ad g lv (v :: st) pc2) : kV p l e R s m args below meth c Q H0 B D classes nL N cells slots ad g lv (.ref (ad r) :: st) pc := v_get C ws_A hr hg rfl 13 (by decide) fl_A_57 rfl hv hd k
theorem pf_A_57 (C : Cx p m c s args cc nL R_A wG H0 B D classes tys Z) (hin2 : meth.name = "<init>") (hr : r < N) (hg : g r = .inr (0, fs)) (hn : narrow (.array .int) v = v) (hfit : fits (.array .int) v = true) (hlen : 13 < fs.length) (hfs : fs.set 13 v = fs') (hd : decode cc pc = .ok (.putfield 57, 3) ∧ pc + 3 = pc2) (k : ∀ g1 : Nat → va_E, g1 r = .inr (0, fs') → (∀ r1, r1 ≠ r → g1 r1 = g r1) → kV p l e R s m args below meth c Q H0 B D classes nL N cells slots ad g1 lv st pc2) : kV p l e R s m args below meth c Q H0 B D classes nL N cells slots ad g lv (v :: .ref (ad r) :: st) pc := v_putF C ws_A t_A t_A_ok n_A hr hg rfl 13 (by decide) fl_A_57 rfl rfl hin2 (by decide +kernel) hn hfit hlen hfs hd k
theorem gf_M_81 (C : Cx p m c s args cc nL R_M wG H0 B D classes tys Z) (hr : r < N) (hg : g r = .inr (3, fs)) (hv : fs[0]? = some v) (hd : decode cc pc = .ok (.getfield 81, 3) ∧ pc + 3 = pc2) (k : kV p l e R s m args below meth c Q H0 B D classes nL N cells slots ad g lv (v :: st) pc2) : kV p l e R s m args below meth c Q H0 B D classes nL N cells slots ad g lv (.ref (ad r) :: st) pc := v_get C ws_M hr hg rfl 0 (by decide) fl_M_81 rfl hv hd k
theorem pf_M_81 (C : Cx p m c s args cc nL R_M wG H0 B D classes tys Z) (hr : r < N) (hg : g r = .inr (3, fs)) (hn : narrow (.int) v = v) (hfit : fits (.int) v = true) (hlen : 0 < fs.length) (hfs : fs.set 0 v = fs') (hd : decode cc pc = .ok (.putfield 81, 3) ∧ pc + 3 = pc2) (k : ∀ g1 : Nat → va_E, g1 r = .inr (3, fs') → (∀ r1, r1 ≠ r → g1 r1 = g r1) → kV p l e R s m args below meth c Q H0 B D classes nL N cells slots ad g1 lv st pc2) : kV p l e R s m args below meth c Q H0 B D classes nL N cells slots ad g lv (v :: .ref (ad r) :: st) pc := v_put C ws_M t_M t_M_ok n_M hr hg rfl 0 (by decide) fl_M_81 rfl rfl (by decide +kernel) hn hfit hlen hfs hd k
theorem gf_M_7 (C : Cx p m c s args cc nL R_M wG H0 B D classes tys Z) (hr : r < N) (hg : g r = .inr (3, fs)) (hv : fs[1]? = some v) (hd : decode cc pc = .ok (.getfield 7, 3) ∧ pc + 3 = pc2) (k : kV p l e R s m args below meth c Q H0 B D classes nL N cells slots ad g lv (v :: st) pc2) : kV p l e R s m args below meth c Q H0 B D classes nL N cells slots ad g lv (.ref (ad r) :: st) pc := v_get C ws_M hr hg rfl 1 (by decide) fl_M_7 rfl hv hd k
theorem pf_M_7 (C : Cx p m c s args cc nL R_M wG H0 B D classes tys Z) (hr : r < N) (hg : g r = .inr (3, fs)) (hn : narrow (.int) v = v) (hfit : fits (.int) v = true) (hlen : 1 < fs.length) (hfs : fs.set 1 v = fs') (hd : decode cc pc = .ok (.putfield 7, 3) ∧ pc + 3 = pc2) (k : ∀ g1 : Nat → va_E, g1 r = .inr (3, fs') → (∀ r1, r1 ≠ r → g1 r1 = g r1) → kV p l e R s m args below meth c Q H0 B D classes nL N cells slots ad g1 lv st pc2) : kV p l e R s m args below meth c Q H0 B D classes nL N cells slots ad g lv (v :: .ref (ad r) :: st) pc := v_put C ws_M t_M t_M_ok n_M hr hg rfl 1 (by decide) fl_M_7 rfl rfl (by decide +kernel) hn hfit hlen hfs hd k
theorem gf_M_13 (C : Cx p m c s args cc nL R_M wG H0 B D classes tys Z) (hr : r < N) (hg : g r = .inr (3, fs)) (hv : fs[2]? = some v) (hd : decode cc pc = .ok (.getfield 13, 3) ∧ pc + 3 = pc2) (k : kV p l e R s m args below meth c Q H0 B D classes nL N cells slots ad g lv (v :: st) pc2) : kV p l e R s m args below meth c Q H0 B D classes nL N cells slots ad g lv (.ref (ad r) :: st) pc := v_get C ws_M hr hg rfl 2 (by decide) fl_M_13 rfl hv hd k
theorem pf_M_13 (C : Cx p m c s args cc nL R_M wG H0 B D classes tys Z) (hr : r < N) (hg : g r = .inr (3, fs)) (hn : narrow (.int) v = v) (hfit : fits (.int) v = true) (hlen : 2 < fs.length) (hfs : fs.set 2 v = fs') (hd : decode cc pc = .ok (.putfield 13, 3) ∧ pc + 3 = pc2) (k : ∀ g1 : Nat → va_E, g1 r = .inr (3, fs') → (∀ r1, r1 ≠ r → g1 r1 = g r1) → kV p l e R s m args below meth c Q H0 B D classes nL N cells slots ad g1 lv st pc2) : kV p l e R s m args below meth c Q H0 B D classes nL N cells slots ad g lv (v :: .ref (ad r) :: st) pc := v_put C ws_M t_M t_M_ok n_M hr hg rfl 2 (by decide) fl_M_13 rfl rfl (by decide +kernel) hn hfit hlen hfs hd k
theorem gf_M_16 (C : Cx p m c s args cc nL R_M wG H0 B D classes tys Z) (hr : r < N) (hg : g r = .inr (3, fs)) (hv : fs[3]? = some v) (hd : decode cc pc = .ok (.getfield 16, 3) ∧ pc + 3 = pc2) (k : kV p l e R s m args below meth c Q H0 B D classes nL N cells slots ad g lv (v :: st) pc2) : kV p l e R s m args below meth c Q H0 B D classes nL N cells slots ad g lv (.ref (ad r) :: st) pc := v_get C ws_M hr hg rfl 3 (by decide) fl_M_16 rfl hv hd k
theorem pf_M_16 (C : Cx p m c s args cc nL R_M wG H0 B D classes tys Z) (hin2 : meth.name = "<init>") (hr : r < N) (hg : g r = .inr (3, fs)) (hn : narrow (.array .int) v = v) (hfit : fits (.array .int) v = true) (hlen : 3 < fs.length) (hfs : fs.set 3 v = fs') (hd : decode cc pc = .ok (.putfield 16, 3) ∧ pc + 3 = pc2) (k : ∀ g1 : Nat → va_E, g1 r = .inr (3, fs') → (∀ r1, r1 ≠ r → g1 r1 = g r1) → kV p l e R s m args below meth c Q H0 B D classes nL N cells slots ad g1 lv st pc2) : kV p l e R s m args below meth c Q H0 B D classes nL N cells slots ad g lv (v :: .ref (ad r) :: st) pc := v_putF C ws_M t_M t_M_ok n_M hr hg rfl 3 (by decide) fl_M_16 rfl rfl hin2 (by decide +kernel) hn hfit hlen hfs hd k
theorem gf_M_20 (C : Cx p m c s args cc nL R_M wG H0 B D classes tys Z) (hr : r < N) (hg : g r = .inr (3, fs)) (hv : fs[4]? = some v) (hd : decode cc pc = .ok (.getfield 20, 3) ∧ pc + 3 = pc2) (k : kV p l e R s m args below meth c Q H0 B D classes nL N cells slots ad g lv (v :: st) pc2) : kV p l e R s m args below meth c Q H0 B D classes nL N cells slots ad g lv (.ref (ad r) :: st) pc := v_get C ws_M hr hg rfl 4 (by decide) fl_M_20 rfl hv hd k
theorem pf_M_20 (C : Cx p m c s args cc nL R_M wG H0 B D classes tys Z) (hin2 : meth.name = "<init>") (hr : r < N) (hg : g r = .inr (3, fs)) (hn : narrow (.array .int) v = v) (hfit : fits (.array .int) v = true) (hlen : 4 < fs.length) (hfs : fs.set 4 v = fs') (hd : decode cc pc = .ok (.putfield 20, 3) ∧ pc + 3 = pc2) (k : ∀ g1 : Nat → va_E, g1 r = .inr (3, fs') → (∀ r1, r1 ≠ r → g1 r1 = g r1) → kV p l e R s m args below meth c Q H0 B D classes nL N cells slots ad g1 lv st pc2) : kV p l e R s m args below meth c Q H0 B D classes nL N cells slots ad g lv (v :: .ref (ad r) :: st) pc := v_putF C ws_M t_M t_M_ok n_M hr hg rfl 4 (by decide) fl_M_20 rfl rfl hin2 (by decide +kernel) hn hfit hlen hfs hd k
theorem gf_M_23 (C : Cx p m c s args cc nL R_M wG H0 B D classes tys Z) (hr : r < N) (hg : g r = .inr (3, fs)) (hv : fs[5]? = some v) (hd : decode cc pc = .ok (.getfield 23, 3) ∧ pc + 3 = pc2) (k : kV p l e R s m args below meth c Q H0 B D classes nL N cells slots ad g lv (v :: st) pc2) : kV p l e R s m args below meth c Q H0 B D classes nL N cells slots ad g lv (.ref (ad r) :: st) pc := v_get C ws_M hr hg rfl 5 (by decide) fl_M_23 rfl hv hd k
theorem pf_M_23 (C : Cx p m c s args cc nL R_M wG H0 B D classes tys Z) (hin2 : meth.name = "<init>") (hr : r < N) (hg : g r = .inr (3, fs)) (hn : narrow (.array .int) v = v) (hfit : fits (.array .int) v = true) (hlen : 5 < fs.length) (hfs : fs.set 5 v = fs') (hd : decode cc pc = .ok (.putfield 23, 3) ∧ pc + 3 = pc2) (k : ∀ g1 : Nat → va_E, g1 r = .inr (3, fs') → (∀ r1, r1 ≠ r → g1 r1 = g r1) → kV p l e R s m args below meth c Q H0 B D classes nL N cells slots ad g1 lv st pc2) : kV p l e R s m args below meth c Q H0 B D classes nL N cells slots ad g lv (v :: .ref (ad r) :: st) pc := v_putF C ws_M t_M t_M_ok n_M hr hg rfl 5 (by decide) fl_M_23 rfl rfl hin2 (by decide +kernel) hn hfit hlen hfs hd k
theorem gf_M_26 (C : Cx p m c s args cc nL R_M wG H0 B D classes tys Z) (hr : r < N) (hg : g r = .inr (3, fs)) (hv : fs[6]? = some v) (hd : decode cc pc = .ok (.getfield 26, 3) ∧ pc + 3 = pc2) (k : kV p l e R s m args below meth c Q H0 B D classes nL N cells slots ad g lv (v :: st) pc2) : kV p l e R s m args below meth c Q H0 B D classes nL N cells slots ad g lv (.ref (ad r) :: st) pc := v_get C ws_M hr hg rfl 6 (by decide) fl_M_26 rfl hv hd k
theorem pf_M_26 (C : Cx p m c s args cc nL R_M wG H0 B D classes tys Z) (hin2 : meth.name = "<init>") (hr : r < N) (hg : g r = .inr (3, fs)) (hn : narrow (.array .int) v = v) (hfit : fits (.array .int) v = true) (hlen : 6 < fs.length) (hfs : fs.set 6 v = fs') (hd : decode cc pc = .ok (.putfield 26, 3) ∧ pc + 3 = pc2) (k : ∀ g1 : Nat → va_E, g1 r = .inr (3, fs') → (∀ r1, r1 ≠ r → g1 r1 = g r1) → kV p l e R s m args below meth c Q H0 B D classes nL N cells slots ad g1 lv st pc2) : kV p l e R s m args below meth c Q H0 B D classes nL N cells slots ad g lv (v :: .ref (ad r) :: st) pc := v_putF C ws_M t_M t_M_ok n_M hr hg rfl 6 (by decide) fl_M_26 rfl rfl hin2 (by decide +kernel) hn hfit hlen hfs hd k
theorem gf_M_29 (C : Cx p m c s args cc nL R_M wG H0 B D classes tys Z) (hr : r < N) (hg : g r = .inr (3, fs)) (hv : fs[7]? = some v) (hd : decode cc pc = .ok (.getfield 29, 3) ∧ pc + 3 = pc2) (k : kV p l e R s m args below meth c Q H0 B D classes nL N cells slots ad g lv (v :: st) pc2) : kV p l e R s m args below meth c Q H0 B D classes nL N cells slots ad g lv (.ref (ad r) :: st) pc := v_get C ws_M hr hg rfl 7 (by decide) fl_M_29 rfl hv hd k
theorem pf_M_29 (C : Cx p m c s args cc nL R_M wG H0 B D classes tys Z) (hin2 : meth.name = "<init>") (hr : r < N) (hg : g r = .inr (3, fs)) (hn : narrow (.array .boolean) v = v) (hfit : fits (.array .boolean) v = true) (hlen : 7 < fs.length) (hfs : fs.set 7 v = fs') (hd : decode cc pc = .ok (.putfield 29, 3) ∧ pc + 3 = pc2) (k : ∀ g1 : Nat → va_E, g1 r = .inr (3, fs') → (∀ r1, r1 ≠ r → g1 r1 = g r1) → kV p l e R s m args below meth c Q H0 B D classes nL N cells slots ad g1 lv st pc2) : kV p l e R s m args below meth c Q H0 B D classes nL N cells slots ad g lv (v :: .ref (ad r) :: st) pc := v_putF C ws_M t_M t_M_ok n_M hr hg rfl 7 (by decide) fl_M_29 rfl rfl hin2 (by decide +kernel) hn hfit hlen hfs hd k
theorem gf_M_92 (C : Cx p m c s args cc nL R_M wG H0 B D classes tys Z) (hr : r < N) (hg : g r = .inr (3, fs)) (hv : fs[8]? = some v) (hd : decode cc pc = .ok (.getfield 92, 3) ∧ pc + 3 = pc2) (k : kV p l e R s m args below meth c Q H0 B D classes nL N cells slots ad g lv (v :: st) pc2) : kV p l e R s m args below meth c Q H0 B D classes nL N cells slots ad g lv (.ref (ad r) :: st) pc := v_get C ws_M hr hg rfl 8 (by decide) fl_M_92 rfl hv hd k
theorem pf_M_92 (C : Cx p m c s args cc nL R_M wG H0 B D classes tys Z) (hr : r < N) (hg : g r = .inr (3, fs)) (hn : narrow (.boolean) v = v) (hfit : fits (.boolean) v = true) (hlen : 8 < fs.length) (hfs : fs.set 8 v = fs') (hd : decode cc pc = .ok (.putfield 92, 3) ∧ pc + 3 = pc2) (k : ∀ g1 : Nat → va_E, g1 r = .inr (3, fs') → (∀ r1, r1 ≠ r → g1 r1 = g r1) → kV p l e R s m args below meth c Q H0 B D classes nL N cells slots ad g1 lv st pc2) : kV p l e R s m args below meth c Q H0 B D classes nL N cells slots ad g lv (v :: .ref (ad r) :: st) pc := v_put C ws_M t_M t_M_ok n_M hr hg rfl 8 (by decide) fl_M_92 rfl rfl (by decide +kernel) hn hfit hlen hfs hd k
theorem gf_M_96 (C : Cx p m c s args cc nL R_M wG H0 B D classes tys Z) (hr : r < N) (hg : g r = .inr (3, fs)) (hv : fs[9]? = some v) (hd : decode cc pc = .ok (.getfield 96, 3) ∧ pc + 3 = pc2) (k : kV p l e R s m args below meth c Q H0 B D classes nL N cells slots ad g lv (v :: st) pc2) : kV p l e R s m args below meth c Q H0 B D classes nL N cells slots ad g lv (.ref (ad r) :: st) pc := v_get C ws_M hr hg rfl 9 (by decide) fl_M_96 rfl hv hd k
theorem pf_M_96 (C : Cx p m c s args cc nL R_M wG H0 B D classes tys Z) (hr : r < N) (hg : g r = .inr (3, fs)) (hn : narrow (.boolean) v = v) (hfit : fits (.boolean) v = true) (hlen : 9 < fs.length) (hfs : fs.set 9 v = fs') (hd : decode cc pc = .ok (.putfield 96, 3) ∧ pc + 3 = pc2) (k : ∀ g1 : Nat → va_E, g1 r = .inr (3, fs') → (∀ r1, r1 ≠ r → g1 r1 = g r1) → kV p l e R s m args below meth c Q H0 B D classes nL N cells slots ad g1 lv st pc2) : kV p l e R s m args below meth c Q H0 B D classes nL N cells slots ad g lv (v :: .ref (ad r) :: st) pc := v_put C ws_M t_M t_M_ok n_M hr hg rfl 9 (by decide) fl_M_96 rfl rfl (by decide +kernel) hn hfit hlen hfs hd k
theorem gf_M_33 (C : Cx p m c s args cc nL R_M wG H0 B D classes tys Z) (hr : r < N) (hg : g r = .inr (3, fs)) (hv : fs[10]? = some v) (hd : decode cc pc = .ok (.getfield 33, 3) ∧ pc + 3 = pc2) (k : kV p l e R s m args below meth c Q H0 B D classes nL N cells slots ad g lv (v :: st) pc2) : kV p l e R s m args below meth c Q H0 B D classes nL N cells slots ad g lv (.ref (ad r) :: st) pc := v_get C ws_M hr hg rfl 10 (by decide) fl_M_33 rfl hv hd k
theorem pf_M_33 (C : Cx p m c s args cc nL R_M wG H0 B D classes tys Z) (hin2 : meth.name = "<init>") (hr : r < N) (hg : g r = .inr (3, fs)) (hn : narrow (.array .boolean) v = v) (hfit : fits (.array .boolean) v = true) (hlen : 10 < fs.length) (hfs : fs.set 10 v = fs') (hd : decode cc pc = .ok (.putfield 33, 3) ∧ pc + 3 = pc2) (k : ∀ g1 : Nat → va_E, g1 r = .inr (3, fs') → (∀ r1, r1 ≠ r → g1 r1 = g r1) → kV p l e R s m args below meth c Q H0 B D classes nL N cells slots ad g1 lv st pc2) : kV p l e R s m args below meth c Q H0 B D classes nL N cells slots ad g lv (v :: .ref (ad r) :: st) pc := v_putF C ws_M t_M t_M_ok n_M hr hg rfl 10 (by decide) fl_M_33 rfl rfl hin2 (by decide +kernel) hn hfit hlen hfs hd k
theorem gf_M_36 (C : Cx p m c s args cc nL R_M wG H0 B D classes tys Z) (hr : r < N) (hg : g r = .inr (3, fs)) (hv : fs[11]? = some v) (hd : decode cc pc = .ok (.getfield 36, 3) ∧ pc + 3 = pc2) (k : kV p l e R s m args below meth c Q H0 B D classes nL N cells slots ad g lv (v :: st) pc2) : kV p l e R s m args below meth c Q H0 B D classes nL N cells slots ad g lv (.ref (ad r) :: st) pc := v_get C ws_M hr hg rfl 11 (by decide) fl_M_36 rfl hv hd k
theorem pf_M_36 (C : Cx p m c s args cc nL R_M wG H0 B D classes tys Z) (hin2 : meth.name = "<init>") (hr : r < N) (hg : g r = .inr (3, fs)) (hn : narrow (.array .int) v = v) (hfit : fits (.array .int) v = true) (hlen : 11 < fs.length) (hfs : fs.set 11 v = fs') (hd : decode cc pc = .ok (.putfield 36, 3) ∧ pc + 3 = pc2) (k : ∀ g1 : Nat → va_E, g1 r = .inr (3, fs') → (∀ r1, r1 ≠ r → g1 r1 = g r1) → kV p l e R s m args below meth c Q H0 B D classes nL N cells slots ad g1 lv st pc2) : kV p l e R s m args below meth c Q H0 B D classes nL N cells slots ad g lv (v :: .ref (ad r) :: st) pc := v_putF C ws_M t_M t_M_ok n_M hr hg rfl 11 (by decide) fl_M_36 rfl rfl hin2 (by decide +kernel) hn hfit hlen hfs hd k
theorem gf_M_39 (C : Cx p m c s args cc nL R_M wG H0 B D classes tys Z) (hr : r < N) (hg : g r = .inr (3, fs)) (hv : fs[12]? = some v) (hd : decode cc pc = .ok (.getfield 39, 3) ∧ pc + 3 = pc2) (k : kV p l e R s m args below meth c Q H0 B D classes nL N cells slots ad g lv (v :: st) pc2) : kV p l e R s m args below meth c Q H0 B D classes nL N cells slots ad g lv (.ref (ad r) :: st) pc := v_get C ws_M hr hg rfl 12 (by decide) fl_M_39 rfl hv hd k
theorem pf_M_39 (C : Cx p m c s args cc nL R_M wG H0 B D classes tys Z) (hin2 : meth.name = "<init>") (hr : r < N) (hg : g r = .inr (3, fs)) (hn : narrow (.array .int) v = v) (hfit : fits (.array .int) v = true) (hlen : 12 < fs.length) (hfs : fs.set 12 v = fs') (hd : decode cc pc = .ok (.putfield 39, 3) ∧ pc + 3 = pc2) (k : ∀ g1 : Nat → va_E, g1 r = .inr (3, fs') → (∀ r1, r1 ≠ r → g1 r1 = g r1) → kV p l e R s m args below meth c Q H0 B D classes nL N cells slots ad g1 lv st pc2) : kV p l e R s m args below meth c Q H0 B D classes nL N cells slots ad g lv (v :: .ref (ad r) :: st) pc := v_putF C ws_M t_M t_M_ok n_M hr hg rfl 12 (by decide) fl_M_39 rfl rfl hin2 (by decide +kernel) hn hfit hlen hfs hd k
theorem gf_M_42 (C : Cx p m c s args cc nL R_M wG H0 B D classes tys Z) (hr : r < N) (hg : g r = .inr (3, fs)) (hv : fs[13]? = some v) (hd : decode cc pc = .ok (.getfield 42, 3) ∧ pc + 3 = pc2) (k : kV p l e R s m args below meth c Q H0 B D classes nL N cells slots ad g lv (v :: st) pc2) : kV p l e R s m args below meth c Q H0 B D classes nL N cells slots ad g lv (.ref (ad r) :: st) pc := v_get C ws_M hr hg rfl 13 (by decide) fl_M_42 rfl hv hd k
theorem pf_M_42 (C : Cx p m c s args cc nL R_M wG H0 B D classes tys Z) (hin2 : meth.name = "<init>") (hr : r < N) (hg : g r = .inr (3, fs)) (hn : narrow (.array .boolean) v = v) (hfit : fits (.array .boolean) v = true) (hlen : 13 < fs.length) (hfs : fs.set 13 v = fs') (hd : decode cc pc = .ok (.putfield 42, 3) ∧ pc + 3 = pc2) (k : ∀ g1 : Nat → va_E, g1 r = .inr (3, fs') → (∀ r1, r1 ≠ r → g1 r1 = g r1) → kV p l e R s m args below meth c Q H0 B D classes nL N cells slots ad g1 lv st pc2) : kV p l e R s m args below meth c Q H0 B D classes nL N cells slots ad g lv (v :: .ref (ad r) :: st) pc := v_putF C ws_M t_M t_M_ok n_M hr hg rfl 13 (by decide) fl_M_42 rfl rfl hin2 (by decide +kernel) hn hfit hlen hfs hd k
theorem gf_M_45 (C : Cx p m c s args cc nL R_M wG H0 B D classes tys Z) (hr : r < N) (hg : g r = .inr (3, fs)) (hv : fs[14]? = some v) (hd : decode cc pc = .ok (.getfield 45, 3) ∧ pc + 3 = pc2) (k : kV p l e R s m args below meth c Q H0 B D classes nL N cells slots ad g lv (v :: st) pc2) : kV p l e R s m args below meth c Q H0 B D classes nL N cells slots ad g lv (.ref (ad r) :: st) pc := v_get C ws_M hr hg rfl 14 (by decide) fl_M_45 rfl hv hd k
theorem pf_M_45 (C : Cx p m c s args cc nL R_M wG H0 B D classes tys Z) (hin2 : meth.name = "<init>") (hr : r < N) (hg : g r = .inr (3, fs)) (hn : narrow (.array .int) v = v) (hfit : fits (.array .int) v = true) (hlen : 14 < fs.length) (hfs : fs.set 14 v = fs') (hd : decode cc pc = .ok (.putfield 45, 3) ∧ pc + 3 = pc2) (k : ∀ g1 : Nat → va_E, g1 r = .inr (3, fs') → (∀ r1, r1 ≠ r → g1 r1 = g r1) → kV p l e R s m args below meth c Q H0 B D classes nL N cells slots ad g1 lv st pc2) : kV p l e R s m args below meth c Q H0 B D classes nL N cells slots ad g lv (v :: .ref (ad r) :: st) pc := v_putF C ws_M t_M t_M_ok n_M hr hg rfl 14 (by decide) fl_M_45 rfl rfl hin2 (by decide +kernel) hn hfit hlen hfs hd k
theorem gf_M_48 (C : Cx p m c s args cc nL R_M wG H0 B D classes tys Z) (hr : r < N) (hg : g r = .inr (3, fs)) (hv : fs[15]? = some v) (hd : decode cc pc = .ok (.getfield 48, 3) ∧ pc + 3 = pc2) (k : kV p l e R s m args below meth c Q H0 B D classes nL N cells slots ad g lv (v :: st) pc2) : kV p l e R s m args below meth c Q H0 B D classes nL N cells slots ad g lv (.ref (ad r) :: st) pc := v_get C ws_M hr hg rfl 15 (by decide) fl_M_48 rfl hv hd k
theorem pf_M_48 (C : Cx p m c s args cc nL R_M wG H0 B D classes tys Z) (hin2 : meth.name = "<init>") (hr : r < N) (hg : g r = .inr (3, fs)) (hn : narrow (.array .boolean) v = v) (hfit : fits (.array .boolean) v = true) (hlen : 15 < fs.length) (hfs : fs.set 15 v = fs') (hd : decode cc pc = .ok (.putfield 48, 3) ∧ pc + 3 = pc2) (k : ∀ g1 : Nat → va_E, g1 r = .inr (3, fs') → (∀ r1, r1 ≠ r → g1 r1 = g r1) → kV p l e R s m args below meth c Q H0 B D classes nL N cells slots ad g1 lv st pc2) : kV p l e R s m args below meth c Q H0 B D classes nL N cells slots ad g lv (v :: .ref (ad r) :: st) pc := v_putF C ws_M t_M t_M_ok n_M hr hg rfl 15 (by decide) fl_M_48 rfl rfl hin2 (by decide +kernel) hn hfit hlen hfs hd k
theorem gf_M_51 (C : Cx p m c s args cc nL R_M wG H0 B D classes tys Z) (hr : r < N) (hg : g r = .inr (3, fs)) (hv : fs[16]? = some v) (hd : decode cc pc = .ok (.getfield 51, 3) ∧ pc + 3 = pc2) (k : kV p l e R s m args below meth c Q H0 B D classes nL N cells slots ad g lv (v :: st) pc2) : kV p l e R s m args below meth c Q H0 B D classes nL N cells slots ad g lv (.ref (ad r) :: st) pc := v_get C ws_M hr hg rfl 16 (by decide) fl_M_51 rfl hv hd k
theorem pf_M_51 (C : Cx p m c s args cc nL R_M wG H0 B D classes tys Z) (hin2 : meth.name = "<init>") (hr : r < N) (hg : g r = .inr (3, fs)) (hn : narrow (.array .int) v = v) (hfit : fits (.array .int) v = true) (hlen : 16 < fs.length) (hfs : fs.set 16 v = fs') (hd : decode cc pc = .ok (.putfield 51, 3) ∧ pc + 3 = pc2) (k : ∀ g1 : Nat → va_E, g1 r = .inr (3, fs') → (∀ r1, r1 ≠ r → g1 r1 = g r1) → kV p l e R s m args below meth c Q H0 B D classes nL N cells slots ad g1 lv st pc2) : kV p l e R s m args below meth c Q H0 B D classes nL N cells slots ad g lv (v :: .ref (ad r) :: st) pc := v_putF C ws_M t_M t_M_ok n_M hr hg rfl 16 (by decide) fl_M_51 rfl rfl hin2 (by decide +kernel) hn hfit hlen hfs hd k
theorem gf_M_54 (C : Cx p m c s args cc nL R_M wG H0 B D classes tys Z) (hr : r < N) (hg : g r = .inr (3, fs)) (hv : fs[17]? = some v) (hd : decode cc pc = .ok (.getfield 54, 3) ∧ pc + 3 = pc2) (k : kV p l e R s m args below meth c Q H0 B D classes nL N cells slots ad g lv (v :: st) pc2) : kV p l e R s m args below meth c Q H0 B D classes nL N cells slots ad g lv (.ref (ad r) :: st) pc := v_get C ws_M hr hg rfl 17 (by decide) fl_M_54 rfl hv hd k
theorem pf_M_54 (C : Cx p m c s args cc nL R_M wG H0 B D classes tys Z) (hin2 : meth.name = "<init>") (hr : r < N) (hg : g r = .inr (3, fs)) (hn : narrow (.array .int) v = v) (hfit : fits (.array .int) v = true) (hlen : 17 < fs.length) (hfs : fs.set 17 v = fs') (hd : decode cc pc = .ok (.putfield 54, 3) ∧ pc + 3 = pc2) (k : ∀ g1 : Nat → va_E, g1 r = .inr (3, fs') → (∀ r1, r1 ≠ r → g1 r1 = g r1) → kV p l e R s m args below meth c Q H0 B D classes nL N cells slots ad g1 lv st pc2) : kV p l e R s m args below meth c Q H0 B D classes nL N cells slots ad g lv (v :: .ref (ad r) :: st) pc := v_putF C ws_M t_M t_M_ok n_M hr hg rfl 17 (by decide) fl_M_54 rfl rfl hin2 (by decide +kernel) hn hfit hlen hfs hd k
theorem gf_M_57 (C : Cx p m c s args cc nL R_M wG H0 B D classes tys Z) (hr : r < N) (hg : g r = .inr (3, fs)) (hv : fs[18]? = some v) (hd : decode cc pc = .ok (.getfield 57, 3) ∧ pc + 3 = pc2) (k : kV p l e R s m args below meth c Q H0 B D classes nL N cells slots ad g lv (v :: st) pc2) : kV p l e R s m args below meth c Q H0 B D classes nL N cells slots ad g lv (.ref (ad r) :: st) pc := v_get C ws_M hr hg rfl 18 (by decide) fl_M_57 rfl hv hd k
theorem pf_M_57 (C : Cx p m c s args cc nL R_M wG H0 B D classes tys Z) (hin2 : meth.name = "<init>") (hr : r < N) (hg : g r = .inr (3, fs)) (hn : narrow (.array .boolean) v = v) (hfit : fits (.array .boolean) v = true) (hlen : 18 < fs.length) (hfs : fs.set 18 v = fs') (hd : decode cc pc = .ok (.putfield 57, 3) ∧ pc + 3 = pc2) (k : ∀ g1 : Nat → va_E, g1 r = .inr (3, fs') → (∀ r1, r1 ≠ r → g1 r1 = g r1) → kV p l e R s m args below meth c Q H0 B D classes nL N cells slots ad g1 lv st pc2) : kV p l e R s m args below meth c Q H0 B D classes nL N cells slots ad g lv (v :: .ref (ad r) :: st) pc := v_putF C ws_M t_M t_M_ok n_M hr hg rfl 18 (by decide) fl_M_57 rfl rfl hin2 (by decide +kernel) hn hfit hlen hfs hd k
theorem gf_M_60 (C : Cx p m c s args cc nL R_M wG H0 B D classes tys Z) (hr : r < N) (hg : g r = .inr (3, fs)) (hv : fs[19]? = some v) (hd : decode cc pc = .ok (.getfield 60, 3) ∧ pc + 3 = pc2) (k : kV p l e R s m args below meth c Q H0 B D classes nL N cells slots ad g lv (v :: st) pc2) : kV p l e R s m args below meth c Q H0 B D classes nL N cells slots ad g lv (.ref (ad r) :: st) pc := v_get C ws_M hr hg rfl 19 (by decide) fl_M_60 rfl hv hd k
theorem pf_M_60 (C : Cx p m c s args cc nL R_M wG H0 B D classes tys Z) (hin2 : meth.name = "<init>") (hr : r < N) (hg : g r = .inr (3, fs)) (hn : narrow (.array .int) v = v) (hfit : fits (.array .int) v = true) (hlen : 19 < fs.length) (hfs : fs.set 19 v = fs') (hd : decode cc pc = .ok (.putfield 60, 3) ∧ pc + 3 = pc2) (k : ∀ g1 : Nat → va_E, g1 r = .inr (3, fs') → (∀ r1, r1 ≠ r → g1 r1 = g r1) → kV p l e R s m args below meth c Q H0 B D classes nL N cells slots ad g1 lv st pc2) : kV p l e R s m args below meth c Q H0 B D classes nL N cells slots ad g lv (v :: .ref (ad r) :: st) pc := v_putF C ws_M t_M t_M_ok n_M hr hg rfl 19 (by decide) fl_M_60 rfl rfl hin2 (by decide +kernel) hn hfit hlen hfs hd k
theorem gf_M_63 (C : Cx p m c s args cc nL R_M wG H0 B D classes tys Z) (hr : r < N) (hg : g r = .inr (3, fs)) (hv : fs[20]? = some v) (hd : decode cc pc = .ok (.getfield 63, 3) ∧ pc + 3 = pc2) (k : kV p l e R s m args below meth c Q H0 B D classes nL N cells slots ad g lv (v :: st) pc2) : kV p l e R s m args below meth c Q H0 B D classes nL N cells slots ad g lv (.ref (ad r) :: st) pc := v_get C ws_M hr hg rfl 20 (by decide) fl_M_63 rfl hv hd k
theorem pf_M_63 (C : Cx p m c s args cc nL R_M wG H0 B D classes tys Z) (hin2 : meth.name = "<init>") (hr : r < N) (hg : g r = .inr (3, fs)) (hn : narrow (.array .int) v = v) (hfit : fits (.array .int) v = true) (hlen : 20 < fs.length) (hfs : fs.set 20 v = fs') (hd : decode cc pc = .ok (.putfield 63, 3) ∧ pc + 3 = pc2) (k : ∀ g1 : Nat → va_E, g1 r = .inr (3, fs') → (∀ r1, r1 ≠ r → g1 r1 = g r1) → kV p l e R s m args below meth c Q H0 B D classes nL N cells slots ad g1 lv st pc2) : kV p l e R s m args below meth c Q H0 B D classes nL N cells slots ad g lv (v :: .ref (ad r) :: st) pc := v_putF C ws_M t_M t_M_ok n_M hr hg rfl 20 (by decide) fl_M_63 rfl rfl hin2 (by decide +kernel) hn hfit hlen hfs hd k
theorem gf_M_66 (C : Cx p m c s args cc nL R_M wG H0 B D classes tys Z) (hr : r < N) (hg : g r = .inr (3, fs)) (hv : fs[21]? = some v) (hd : decode cc pc = .ok (.getfield 66, 3) ∧ pc + 3 = pc2) (k : kV p l e R s m args below meth c Q H0 B D classes nL N cells slots ad g lv (v :: st) pc2) : kV p l e R s m args below meth c Q H0 B D classes nL N cells slots ad g lv (.ref (ad r) :: st) pc := v_get C ws_M hr hg rfl 21 (by decide) fl_M_66 rfl hv hd k
theorem pf_M_66 (C : Cx p m c s args cc nL R_M wG H0 B D classes tys Z) (hin2 : meth.name = "<init>") (hr : r < N) (hg : g r = .inr (3, fs)) (hn : narrow (.array .int) v = v) (hfit : fits (.array .int) v = true) (hlen : 21 < fs.length) (hfs : fs.set 21 v = fs') (hd : decode cc pc = .ok (.putfield 66, 3) ∧ pc + 3 = pc2) (k : ∀ g1 : Nat → va_E, g1 r = .inr (3, fs') → (∀ r1, r1 ≠ r → g1 r1 = g r1) → kV p l e R s m args below meth c Q H0 B D classes nL N cells slots ad g1 lv st pc2) : kV p l e R s m args below meth c Q H0 B D classes nL N cells slots ad g lv (v :: .ref (ad r) :: st) pc := v_putF C ws_M t_M t_M_ok n_M hr hg rfl 21 (by decide) fl_M_66 rfl rfl hin2 (by decide +kernel) hn hfit hlen hfs hd k
theorem gf_M_143 (C : Cx p m c s args cc nL R_M wG H0 B D classes tys Z) (hr : r < N) (hg : g r = .inr (3, fs)) (hv : fs[22]? = some v) (hd : decode cc pc = .ok (.getfield 143, 3) ∧ pc + 3 = pc2) (k : kV p l e R s m args below meth c Q H0 B D classes nL N cells slots ad g lv (v :: st) pc2) : kV p l e R s m args below meth c Q H0 B D classes nL N cells slots ad g lv (.ref (ad r) :: st) pc := v_get C ws_M hr hg rfl 22 (by decide) fl_M_143 rfl hv hd k
theorem pf_M_143 (C : Cx p m c s args cc nL R_M wG H0 B D classes tys Z) (hr : r < N) (hg : g r = .inr (3, fs)) (hn : narrow (.int) v = v) (hfit : fits (.int) v = true) (hlen : 22 < fs.length) (hfs : fs.set 22 v = fs') (hd : decode cc pc = .ok (.putfield 143, 3) ∧ pc + 3 = pc2) (k : ∀ g1 : Nat → va_E, g1 r = .inr (3, fs') → (∀ r1, r1 ≠ r → g1 r1 = g r1) → kV p l e R s m args below meth c Q H0 B D classes nL N cells slots ad g1 lv st pc2) : kV p l e R s m args below meth c Q H0 B D classes nL N cells slots ad g lv (v :: .ref (ad r) :: st) pc := v_put C ws_M t_M t_M_ok n_M hr hg rfl 22 (by decide) fl_M_143 rfl rfl (by decide +kernel) hn hfit hlen hfs hd k
theorem gf_M_69 (C : Cx p m c s args cc nL R_M wG H0 B D classes tys Z) (hr : r < N) (hg : g r = .inr (3, fs)) (hv : fs[23]? = some v) (hd : decode cc pc = .ok (.getfield 69, 3) ∧ pc + 3 = pc2) (k : kV p l e R s m args below meth c Q H0 B D classes nL N cells slots ad g lv (v :: st) pc2) : kV p l e R s m args below meth c Q H0 B D classes nL N cells slots ad g lv (.ref (ad r) :: st) pc := v_get C ws_M hr hg rfl 23 (by decide) fl_M_69 rfl hv hd k
theorem pf_M_69 (C : Cx p m c s args cc nL R_M wG H0 B D classes tys Z) (hin2 : meth.name = "<init>") (hr : r < N) (hg : g r = .inr (3, fs)) (hn : narrow (.array .int) v = v) (hfit : fits (.array .int) v = true) (hlen : 23 < fs.length) (hfs : fs.set 23 v = fs') (hd : decode cc pc = .ok (.putfield 69, 3) ∧ pc + 3 = pc2) (k : ∀ g1 : Nat → va_E, g1 r = .inr (3, fs') → (∀ r1, r1 ≠ r → g1 r1 = g r1) → kV p l e R s m args below meth c Q H0 B D classes nL N cells slots ad g1 lv st pc2) : kV p l e R s m args below meth c Q H0 B D classes nL N cells slots ad g lv (v :: .ref (ad r) :: st) pc := v_putF C ws_M t_M t_M_ok n_M hr hg rfl 23 (by decide) fl_M_69 rfl rfl hin2 (by decide +kernel) hn hfit hlen hfs hd k
theorem gf_M_167 (C : Cx p m c s args cc nL R_M wG H0 B D classes tys Z) (hr : r < N) (hg : g r = .inr (3, fs)) (hv : fs[24]? = some v) (hd : decode cc pc = .ok (.getfield 167, 3) ∧ pc + 3 = pc2) (k : kV p l e R s m args below meth c Q H0 B D classes nL N cells slots ad g lv (v :: st) pc2) : kV p l e R s m args below meth c Q H0 B D classes nL N cells slots ad g lv (.ref (ad r) :: st) pc := v_get C ws_M hr hg rfl 24 (by decide) fl_M_167 rfl hv hd k
theorem pf_M_167 (C : Cx p m c s args cc nL R_M wG H0 B D classes tys Z) (hr : r < N) (hg : g r = .inr (3, fs)) (hn : narrow (.int) v = v) (hfit : fits (.int) v = true) (hlen : 24 < fs.length) (hfs : fs.set 24 v = fs') (hd : decode cc pc = .ok (.putfield 167, 3) ∧ pc + 3 = pc2) (k : ∀ g1 : Nat → va_E, g1 r = .inr (3, fs') → (∀ r1, r1 ≠ r → g1 r1 = g r1) → kV p l e R s m args below meth c Q H0 B D classes nL N cells slots ad g1 lv st pc2) : kV p l e R s m args below meth c Q H0 B D classes nL N cells slots ad g lv (v :: .ref (ad r) :: st) pc := v_put C ws_M t_M t_M_ok n_M hr hg rfl 24 (by decide) fl_M_167 rfl rfl (by decide +kernel) hn hfit hlen hfs hd k
theorem gf_M_72 (C : Cx p m c s args cc nL R_M wG H0 B D classes tys Z) (hr : r < N) (hg : g r = .inr (3, fs)) (hv : fs[25]? = some v) (hd : decode cc pc = .ok (.getfield 72, 3) ∧ pc + 3 = pc2) (k : kV p l e R s m args below meth c Q H0 B D classes nL N cells slots ad g lv (v :: st) pc2) : kV p l e R s m args below meth c Q H0 B D classes nL N cells slots ad g lv (.ref (ad r) :: st) pc := v_get C ws_M hr hg rfl 25 (by decide) fl_M_72 rfl hv hd k
theorem pf_M_72 (C : Cx p m c s args cc nL R_M wG H0 B D classes tys Z) (hr : r < N) (hg : g r = .inr (3, fs)) (hn : narrow (.int) v = v) (hfit : fits (.int) v = true) (hlen : 25 < fs.length) (hfs : fs.set 25 v = fs') (hd : decode cc pc = .ok (.putfield 72, 3) ∧ pc + 3 = pc2) (k : ∀ g1 : Nat → va_E, g1 r = .inr (3, fs') → (∀ r1, r1 ≠ r → g1 r1 = g r1) → kV p l e R s m args below meth c Q H0 B D classes nL N cells slots ad g1 lv st pc2) : kV p l e R s m args below meth c Q H0 B D classes nL N cells slots ad g lv (v :: .ref (ad r) :: st) pc := v_put C ws_M t_M t_M_ok n_M hr hg rfl 25 (by decide) fl_M_72 rfl rfl (by decide +kernel) hn hfit hlen hfs hd k
theorem gf_M_75 (C : Cx p m c s args cc nL R_M wG H0 B D classes tys Z) (hr : r < N) (hg : g r = .inr (3, fs)) (hv : fs[26]? = some v) (hd : decode cc pc = .ok (.getfield 75, 3) ∧ pc + 3 = pc2) (k : kV p l e R s m args below meth c Q H0 B D classes nL N cells slots ad g lv (v :: st) pc2) : kV p l e R s m args below meth c Q H0 B D classes nL N cells slots ad g lv (.ref (ad r) :: st) pc := v_get C ws_M hr hg rfl 26 (by decide) fl_M_75 rfl hv hd k
theorem pf_M_75 (C : Cx p m c s args cc nL R_M wG H0 B D classes tys Z) (hin2 : meth.name = "<init>") (hr : r < N) (hg : g r = .inr (3, fs)) (hn : narrow (.array .int) v = v) (hfit : fits (.array .int) v = true) (hlen : 26 < fs.length) (hfs : fs.set 26 v = fs') (hd : decode cc pc = .ok (.putfield 75, 3) ∧ pc + 3 = pc2) (k : ∀ g1 : Nat → va_E, g1 r = .inr (3, fs') → (∀ r1, r1 ≠ r → g1 r1 = g r1) → kV p l e R s m args below meth c Q H0 B D classes nL N cells slots ad g1 lv st pc2) : kV p l e R s m args below meth c Q H0 B D classes nL N cells slots ad g lv (v :: .ref (ad r) :: st) pc := v_putF C ws_M t_M t_M_ok n_M hr hg rfl 26 (by decide) fl_M_75 rfl rfl hin2 (by decide +kernel) hn hfit hlen hfs hd k
theorem gf_M_78 (C : Cx p m c s args cc nL R_M wG H0 B D classes tys Z) (hr : r < N) (hg : g r = .inr (3, fs)) (hv : fs[27]? = some v) (hd : decode cc pc = .ok (.getfield 78, 3) ∧ pc + 3 = pc2) (k : kV p l e R s m args below meth c Q H0 B D classes nL N cells slots ad g lv (v :: st) pc2) : kV p l e R s m args below meth c Q H0 B D classes nL N cells slots ad g lv (.ref (ad r) :: st) pc := v_get C ws_M hr hg rfl 27 (by decide) fl_M_78 rfl hv hd k
theorem pf_M_78 (C : Cx p m c s args cc nL R_M wG H0 B D classes tys Z) (hin2 : meth.name = "<init>") (hr : r < N) (hg : g r = .inr (3, fs)) (hn : narrow (.array .int) v = v) (hfit : fits (.array .int) v = true) (hlen : 27 < fs.length) (hfs : fs.set 27 v = fs') (hd : decode cc pc = .ok (.putfield 78, 3) ∧ pc + 3 = pc2) (k : ∀ g1 : Nat → va_E, g1 r = .inr (3, fs') → (∀ r1, r1 ≠ r → g1 r1 = g r1) → kV p l e R s m args below meth c Q H0 B D classes nL N cells slots ad g1 lv st pc2) : kV p l e R s m args below meth c Q H0 B D classes nL N cells slots ad g lv (v :: .ref (ad r) :: st) pc := v_putF C ws_M t_M t_M_ok n_M hr hg rfl 27 (by decide) fl_M_78 rfl rfl hin2 (by decide +kernel) hn hfit hlen hfs hd k
theorem lk_L_68 (hts : ∀ w ∈ wG, w.before args s = true) (hrc : rm.cells = mc) (hrs : rm.slots = ms) (hR : rm.frames + 1 ≤ R.frames ∧ 8 + (2 + 11) + rm.locals ≤ R.locals) : CallB R s args R_L 68 y_A_init b_A_init 2 none (Cond.code y_A_init b_A_init 2 none :: wG) rm mc ms 0 ∧ y_A_init.name = "<init>" ∧ (Cond.instanceMethod y_A_init).before args s = true := cwI 0 hts (wG_good (wG_cons co_A_init wG_self)) rfl hrc hrs (hts _ in_A) (hts _ ml_L_68) (hts _ im_A_init) rfl (by decide +kernel) hR
theorem lk_L_123 (hts : ∀ w ∈ wG, w.before args s = true) (hrc : rm.cells = mc) (hrs : rm.slots = ms) (hR : rm.frames + 1 ≤ R.frames ∧ 8 + (3 + 11) + rm.locals ≤ R.locals) : CallW R s args R_L R_A 123 y_A_audit b_A_audit 3 (some .int) (Cond.code y_A_audit b_A_audit 3 (some .int) :: wG) rm mc ms 0 := cwV 0 hts (wG_good (wG_cons ml_L_123 (wG_cons im_A_audit (wG_cons se_A_audit (wG_cons in_A (wG_cons co_A_audit wG_self)))))) rfl hrc hrs (by decide +kernel) hR
theorem lk_A_153 (hts : ∀ w ∈ wG, w.before args s = true) (hrc : rm.cells = mc) (hrs : rm.slots = ms) (hR : rm.frames + 1 ≤ R.frames ∧ 8 + (3 + 11) + rm.locals ≤ R.locals) : CallW R s args R_A R_A 153 y_A_filledShelves b_A_filledShelves 3 (some .int) (Cond.code y_A_filledShelves b_A_filledShelves 3 (some .int) :: wG) rm mc ms 0 := cwV 0 hts (wG_good (wG_cons ml_A_153 (wG_cons im_A_filledShelves (wG_cons se_A_filledShelves (wG_cons in_A (wG_cons co_A_filledShelves wG_self)))))) rfl hrc hrs (by decide +kernel) hR
theorem lk_A_174 (hts : ∀ w ∈ wG, w.before args s = true) (hrc : rm.cells = mc) (hrs : rm.slots = ms) (hR : rm.frames + 1 ≤ R.frames ∧ 8 + (2 + 11) + rm.locals ≤ R.locals) : CallW R s args R_A R_A 174 y_A_areOfOnePicture b_A_areOfOnePicture 2 (some .boolean) (Cond.code y_A_areOfOnePicture b_A_areOfOnePicture 2 (some .boolean) :: wG) rm mc ms 1 := cwV 1 hts (wG_good (wG_cons ml_A_174 (wG_cons im_A_areOfOnePicture (wG_cons se_A_areOfOnePicture (wG_cons in_A (wG_cons co_A_areOfOnePicture wG_self)))))) rfl hrc hrs (by decide +kernel) hR
theorem lk_A_157 (hts : ∀ w ∈ wG, w.before args s = true) (hrc : rm.cells = mc) (hrs : rm.slots = ms) (hR : rm.frames + 1 ≤ R.frames ∧ 8 + (5 + 11) + rm.locals ≤ R.locals) : CallW R s args R_A R_A 157 y_A_solve b_A_solve 5 (some .int) (Cond.code y_A_solve b_A_solve 5 (some .int) :: wG) rm mc ms 1 := cwV 1 hts (wG_good (wG_cons ml_A_157 (wG_cons im_A_solve (wG_cons se_A_solve (wG_cons in_A (wG_cons co_A_solve wG_self)))))) rfl hrc hrs (by decide +kernel) hR
theorem lk_A_177 (hts : ∀ w ∈ wG, w.before args s = true) (hrc : rm.cells = mc) (hrs : rm.slots = ms) (hR : rm.frames + 1 ≤ R.frames ∧ 8 + (2 + 11) + rm.locals ≤ R.locals) : CallB R s args R_A 177 y_A_isIn b_A_isIn 2 (some .boolean) (Cond.code y_A_isIn b_A_isIn 2 (some .boolean) :: wG) rm mc ms 2 ∧ (Cond.static y_A_isIn).before args s = true := va_cwS 2 hts (wG_good (wG_cons ml_A_177 (wG_cons sm_A_isIn (wG_cons in_A (wG_cons co_A_isIn wG_self))))) rfl hrc hrs (by decide +kernel) hR
theorem lk_A_216 (hts : ∀ w ∈ wG, w.before args s = true) (hrc : rm.cells = mc) (hrs : rm.slots = ms) (hR : rm.frames + 1 ≤ R.frames ∧ 8 + (7 + 11) + rm.locals ≤ R.locals) : CallW R s args R_A R_W 216 y_W_begin b_W_begin 7 none (Cond.code y_W_begin b_W_begin 7 none :: wG) rm mc ms 3 := cwV 3 hts (wG_good (wG_cons ml_A_216 (wG_cons im_W_begin (wG_cons se_W_begin (wG_cons in_W (wG_cons co_W_begin wG_self)))))) rfl hrc hrs (by decide +kernel) hR
theorem lk_W_28 (hts : ∀ w ∈ wG, w.before args s = true) (hrc : rm.cells = mc) (hrs : rm.slots = ms) (hR : rm.frames + 1 ≤ R.frames ∧ 8 + (1 + 11) + rm.locals ≤ R.locals) : CallW R s args R_W R_W 28 y_W_makeRows b_W_makeRows 1 none (Cond.code y_W_makeRows b_W_makeRows 1 none :: wG) rm mc ms 0 := cwV 0 hts (wG_good (wG_cons ml_W_28 (wG_cons im_W_makeRows (wG_cons se_W_makeRows (wG_cons in_W (wG_cons co_W_makeRows wG_self)))))) rfl hrc hrs (by decide +kernel) hR
theorem lk_W_34 (hts : ∀ w ∈ wG, w.before args s = true) (hrc : rm.cells = mc) (hrs : rm.slots = ms) (hR : rm.frames + 1 ≤ R.frames ∧ 8 + (4 + 11) + rm.locals ≤ R.locals) : CallB R s args R_W 34 y_J_fill b_J_fill 4 none (Cond.code y_J_fill b_J_fill 4 none :: wG) rm mc ms 2 ∧ (Cond.static y_J_fill).before args s = true := va_cwS 2 hts (wG_good (wG_cons ml_W_34 (wG_cons sm_J_fill (wG_cons in_J (wG_cons co_J_fill wG_self))))) rfl hrc hrs (by decide +kernel) hR
theorem lk_W_49 (hts : ∀ w ∈ wG, w.before args s = true) (hrc : rm.cells = mc) (hrs : rm.slots = ms) (hR : rm.frames + 1 ≤ R.frames ∧ 8 + (3 + 11) + rm.locals ≤ R.locals) : CallW R s args R_W R_S 49 y_S_binAt b_S_binAt 3 (some .int) (Cond.code y_S_binAt b_S_binAt 3 (some .int) :: wG) rm mc ms 2 := cwV 2 hts (wG_good (wG_cons ml_W_49 (wG_cons im_S_binAt (wG_cons se_S_binAt (wG_cons in_S (wG_cons co_S_binAt wG_self)))))) rfl hrc hrs (by decide +kernel) hR
theorem lk_A_220 (hts : ∀ w ∈ wG, w.before args s = true) (hrc : rm.cells = mc) (hrs : rm.slots = ms) (hR : rm.frames + 1 ≤ R.frames ∧ 8 + (3 + 11) + rm.locals ≤ R.locals) : CallW R s args R_A R_A 220 y_A_lowestReadyShelf b_A_lowestReadyShelf 3 (some .int) (Cond.code y_A_lowestReadyShelf b_A_lowestReadyShelf 3 (some .int) :: wG) rm mc ms 1 := cwV 1 hts (wG_good (wG_cons ml_A_220 (wG_cons im_A_lowestReadyShelf (wG_cons se_A_lowestReadyShelf (wG_cons in_A (wG_cons co_A_lowestReadyShelf wG_self)))))) rfl hrc hrs (by decide +kernel) hR
theorem lk_A_233 (hts : ∀ w ∈ wG, w.before args s = true) (hrc : rm.cells = mc) (hrs : rm.slots = ms) (hR : rm.frames + 1 ≤ R.frames ∧ 8 + (1 + 11) + rm.locals ≤ R.locals) : CallW R s args R_A R_W 233 y_W_findReadyBin b_W_findReadyBin 1 (some .boolean) (Cond.code y_W_findReadyBin b_W_findReadyBin 1 (some .boolean) :: wG) rm mc ms 0 := cwV 0 hts (wG_good (wG_cons ml_A_233 (wG_cons im_W_findReadyBin (wG_cons se_W_findReadyBin (wG_cons in_W (wG_cons co_W_findReadyBin wG_self)))))) rfl hrc hrs (by decide +kernel) hR
theorem lk_A_223 (hts : ∀ w ∈ wG, w.before args s = true) (hrc : rm.cells = mc) (hrs : rm.slots = ms) (hR : rm.frames + 1 ≤ R.frames ∧ 8 + (1 + 11) + rm.locals ≤ R.locals) : CallW R s args R_A R_W 223 y_W_readyCell b_W_readyCell 1 (some .int) (Cond.code y_W_readyCell b_W_readyCell 1 (some .int) :: wG) rm mc ms 0 := cwV 0 hts (wG_good (wG_cons ml_A_223 (wG_cons im_W_readyCell (wG_cons se_W_readyCell (wG_cons in_W (wG_cons co_W_readyCell wG_self)))))) rfl hrc hrs (by decide +kernel) hR
theorem lk_A_226 (hts : ∀ w ∈ wG, w.before args s = true) (hrc : rm.cells = mc) (hrs : rm.slots = ms) (hR : rm.frames + 1 ≤ R.frames ∧ 8 + (1 + 11) + rm.locals ≤ R.locals) : CallW R s args R_A R_W 226 y_W_readyNumber b_W_readyNumber 1 (some .int) (Cond.code y_W_readyNumber b_W_readyNumber 1 (some .int) :: wG) rm mc ms 0 := cwV 0 hts (wG_good (wG_cons ml_A_226 (wG_cons im_W_readyNumber (wG_cons se_W_readyNumber (wG_cons in_W (wG_cons co_W_readyNumber wG_self)))))) rfl hrc hrs (by decide +kernel) hR
theorem lk_A_229 (hts : ∀ w ∈ wG, w.before args s = true) (hrc : rm.cells = mc) (hrs : rm.slots = ms) (hR : rm.frames + 1 ≤ R.frames ∧ 8 + (7 + 11) + rm.locals ≤ R.locals) : CallW R s args R_A R_A 229 y_A_makeKnown b_A_makeKnown 7 none (Cond.code y_A_makeKnown b_A_makeKnown 7 none :: wG) rm mc ms 3 := cwV 3 hts (wG_good (wG_cons ml_A_229 (wG_cons im_A_makeKnown (wG_cons se_A_makeKnown (wG_cons in_A (wG_cons co_A_makeKnown wG_self)))))) rfl hrc hrs (by decide +kernel) hR
theorem lk_A_237 (hts : ∀ w ∈ wG, w.before args s = true) (hrc : rm.cells = mc) (hrs : rm.slots = ms) (hR : rm.frames + 1 ≤ R.frames ∧ 8 + (3 + 11) + rm.locals ≤ R.locals) : CallW R s args R_A R_S 237 y_S_binAt b_S_binAt 3 (some .int) (Cond.code y_S_binAt b_S_binAt 3 (some .int) :: wG) rm mc ms 2 := cwV 2 hts (wG_good (wG_cons ml_A_237 (wG_cons im_S_binAt (wG_cons se_S_binAt (wG_cons in_S (wG_cons co_S_binAt wG_self)))))) rfl hrc hrs (by decide +kernel) hR
theorem lk_A_240 (hts : ∀ w ∈ wG, w.before args s = true) (hrc : rm.cells = mc) (hrs : rm.slots = ms) (hR : rm.frames + 1 ≤ R.frames ∧ 8 + (4 + 11) + rm.locals ≤ R.locals) : CallW R s args R_A R_W 240 y_W_takeOut b_W_takeOut 4 none (Cond.code y_W_takeOut b_W_takeOut 4 none :: wG) rm mc ms 3 := cwV 3 hts (wG_good (wG_cons ml_A_240 (wG_cons im_W_takeOut (wG_cons se_W_takeOut (wG_cons in_W (wG_cons co_W_takeOut wG_self)))))) rfl hrc hrs (by decide +kernel) hR
theorem lk_A_166 (hts : ∀ w ∈ wG, w.before args s = true) (hrc : rm.cells = mc) (hrs : rm.slots = ms) (hR : rm.frames + 1 ≤ R.frames ∧ 8 + (3 + 11) + rm.locals ≤ R.locals) : CallW R s args R_A R_A 166 y_A_lowestWrongShelf b_A_lowestWrongShelf 3 (some .int) (Cond.code y_A_lowestWrongShelf b_A_lowestWrongShelf 3 (some .int) :: wG) rm mc ms 1 := cwV 1 hts (wG_good (wG_cons ml_A_166 (wG_cons im_A_lowestWrongShelf (wG_cons se_A_lowestWrongShelf (wG_cons in_A (wG_cons co_A_lowestWrongShelf wG_self)))))) rfl hrc hrs (by decide +kernel) hR
theorem lk_A_169 (hts : ∀ w ∈ wG, w.before args s = true) (hrc : rm.cells = mc) (hrs : rm.slots = ms) (hR : rm.frames + 1 ≤ R.frames ∧ 8 + (2 + 11) + rm.locals ≤ R.locals) : CallW R s args R_A R_W 169 y_W_lowestWrongBin b_W_lowestWrongBin 2 (some .int) (Cond.code y_W_lowestWrongBin b_W_lowestWrongBin 2 (some .int) :: wG) rm mc ms 0 := cwV 0 hts (wG_good (wG_cons ml_A_169 (wG_cons im_W_lowestWrongBin (wG_cons se_W_lowestWrongBin (wG_cons in_W (wG_cons co_W_lowestWrongBin wG_self)))))) rfl hrc hrs (by decide +kernel) hR
theorem lk_L_130 (hts : ∀ w ∈ wG, w.before args s = true) (hrc : rm.cells = mc) (hrs : rm.slots = ms) (hR : rm.frames + 1 ≤ R.frames ∧ 8 + (2 + 11) + rm.locals ≤ R.locals) : CallW R s args R_L R_A 130 y_A_keep b_A_keep 2 none (Cond.code y_A_keep b_A_keep 2 none :: wG) rm mc ms 0 := cwV 0 hts (wG_good (wG_cons ml_L_130 (wG_cons im_A_keep (wG_cons se_A_keep (wG_cons in_A (wG_cons co_A_keep wG_self)))))) rfl hrc hrs (by decide +kernel) hR
theorem lk_A_183 (hts : ∀ w ∈ wG, w.before args s = true) (hrc : rm.cells = mc) (hrs : rm.slots = ms) (hR : rm.frames + 1 ≤ R.frames ∧ 8 + (2 + 11) + rm.locals ≤ R.locals) : CallW R s args R_A R_S 183 y_S_copyFrom b_S_copyFrom 2 none (Cond.code y_S_copyFrom b_S_copyFrom 2 none :: wG) rm mc ms 1 := cwV 1 hts (wG_good (wG_cons ml_A_183 (wG_cons im_S_copyFrom (wG_cons se_S_copyFrom (wG_cons in_S (wG_cons co_S_copyFrom wG_self)))))) rfl hrc hrs (by decide +kernel) hR
theorem lk_S_45 (hts : ∀ w ∈ wG, w.before args s = true) (hrc : rm.cells = mc) (hrs : rm.slots = ms) (hR : rm.frames + 1 ≤ R.frames ∧ 8 + (1 + 11) + rm.locals ≤ R.locals) : CallW R s args R_S R_S 45 y_S_makeBins b_S_makeBins 1 none (Cond.code y_S_makeBins b_S_makeBins 1 none :: wG) rm mc ms 0 := cwV 0 hts (wG_good (wG_cons ml_S_45 (wG_cons im_S_makeBins (wG_cons se_S_makeBins (wG_cons in_S (wG_cons co_S_makeBins wG_self)))))) rfl hrc hrs (by decide +kernel) hR
theorem lk_L_7 (hts : ∀ w ∈ wG, w.before args s = true) (hrc : rm.cells = mc) (hrs : rm.slots = ms) (hR : rm.frames + 1 ≤ R.frames ∧ 8 + (4 + 11) + rm.locals ≤ R.locals) : CallW R s args R_L R_A 7 y_A_size b_A_size 4 none (Cond.code y_A_size b_A_size 4 none :: wG) rm mc ms 2 := cwV 2 hts (wG_good (wG_cons ml_L_7 (wG_cons im_A_size (wG_cons se_A_size (wG_cons in_A (wG_cons co_A_size wG_self)))))) rfl hrc hrs (by decide +kernel) hR
theorem lk_A_69 (hts : ∀ w ∈ wG, w.before args s = true) (hrc : rm.cells = mc) (hrs : rm.slots = ms) (hR : rm.frames + 1 ≤ R.frames ∧ 8 + (4 + 11) + rm.locals ≤ R.locals) : CallB R s args R_A 69 y_J_fill b_J_fill 4 none (Cond.code y_J_fill b_J_fill 4 none :: wG) rm mc ms 2 ∧ (Cond.static y_J_fill).before args s = true := va_cwS 2 hts (wG_good (wG_cons ml_A_69 (wG_cons sm_J_fill (wG_cons in_J (wG_cons co_J_fill wG_self))))) rfl hrc hrs (by decide +kernel) hR
theorem lk_A_75 (hts : ∀ w ∈ wG, w.before args s = true) (hrc : rm.cells = mc) (hrs : rm.slots = ms) (hR : rm.frames + 1 ≤ R.frames ∧ 8 + (1 + 11) + rm.locals ≤ R.locals) : CallW R s args R_A R_S 75 y_S_unaim b_S_unaim 1 none (Cond.code y_S_unaim b_S_unaim 1 none :: wG) rm mc ms 0 := cwV 0 hts (wG_good (wG_cons ml_A_75 (wG_cons im_S_unaim (wG_cons se_S_unaim (wG_cons in_S (wG_cons co_S_unaim wG_self)))))) rfl hrc hrs (by decide +kernel) hR
theorem lk_L_15 (hts : ∀ w ∈ wG, w.before args s = true) (hrc : rm.cells = mc) (hrs : rm.slots = ms) (hR : rm.frames + 1 ≤ R.frames ∧ 8 + (6 + 11) + rm.locals ≤ R.locals) : CallW R s args R_L R_A 15 y_A_pixel b_A_pixel 6 (some .int) (Cond.code y_A_pixel b_A_pixel 6 (some .int) :: wG) rm mc ms 3 := cwV 3 hts (wG_good (wG_cons ml_L_15 (wG_cons im_A_pixel (wG_cons se_A_pixel (wG_cons in_A (wG_cons co_A_pixel wG_self)))))) rfl hrc hrs (by decide +kernel) hR
theorem lk_A_78 (hts : ∀ w ∈ wG, w.before args s = true) (hrc : rm.cells = mc) (hrs : rm.slots = ms) (hR : rm.frames + 1 ≤ R.frames ∧ 8 + (3 + 11) + rm.locals ≤ R.locals) : CallW R s args R_A R_A 78 y_A_requirePixel b_A_requirePixel 3 none (Cond.code y_A_requirePixel b_A_requirePixel 3 none :: wG) rm mc ms 2 := cwV 2 hts (wG_good (wG_cons ml_A_78 (wG_cons im_A_requirePixel (wG_cons se_A_requirePixel (wG_cons in_A (wG_cons co_A_requirePixel wG_self)))))) rfl hrc hrs (by decide +kernel) hR
theorem lk_A_82 (hts : ∀ w ∈ wG, w.before args s = true) (hrc : rm.cells = mc) (hrs : rm.slots = ms) (hR : rm.frames + 1 ≤ R.frames ∧ 8 + (2 + 11) + rm.locals ≤ R.locals) : CallB R s args R_A 82 y_A_cellAt b_A_cellAt 2 (some .int) (Cond.code y_A_cellAt b_A_cellAt 2 (some .int) :: wG) rm mc ms 2 ∧ (Cond.static y_A_cellAt).before args s = true := va_cwS 2 hts (wG_good (wG_cons ml_A_82 (wG_cons sm_A_cellAt (wG_cons in_A (wG_cons co_A_cellAt wG_self))))) rfl hrc hrs (by decide +kernel) hR
theorem lk_L_21 (hts : ∀ w ∈ wG, w.before args s = true) (hrc : rm.cells = mc) (hrs : rm.slots = ms) (hR : rm.frames + 1 ≤ R.frames ∧ 8 + (5 + 11) + rm.locals ≤ R.locals) : CallW R s args R_L R_A 21 y_A_look b_A_look 5 (some .int) (Cond.code y_A_look b_A_look 5 (some .int) :: wG) rm mc ms 3 := cwV 3 hts (wG_good (wG_cons ml_L_21 (wG_cons im_A_look (wG_cons se_A_look (wG_cons in_A (wG_cons co_A_look wG_self)))))) rfl hrc hrs (by decide +kernel) hR
theorem lk_A_86 (hts : ∀ w ∈ wG, w.before args s = true) (hrc : rm.cells = mc) (hrs : rm.slots = ms) (hR : rm.frames + 1 ≤ R.frames ∧ 8 + (1 + 11) + rm.locals ≤ R.locals) : CallB R s args R_A 86 y_A_requireState b_A_requireState 1 none (Cond.code y_A_requireState b_A_requireState 1 none :: wG) rm mc ms 1 ∧ (Cond.static y_A_requireState).before args s = true := va_cwS 1 hts (wG_good (wG_cons ml_A_86 (wG_cons sm_A_requireState (wG_cons in_A (wG_cons co_A_requireState wG_self))))) rfl hrc hrs (by decide +kernel) hR
theorem lk_L_26 (hts : ∀ w ∈ wG, w.before args s = true) (hrc : rm.cells = mc) (hrs : rm.slots = ms) (hR : rm.frames + 1 ≤ R.frames ∧ 8 + (7 + 11) + rm.locals ≤ R.locals) : CallW R s args R_L R_A 26 y_A_direction b_A_direction 7 none (Cond.code y_A_direction b_A_direction 7 none :: wG) rm mc ms 3 := cwV 3 hts (wG_good (wG_cons ml_L_26 (wG_cons im_A_direction (wG_cons se_A_direction (wG_cons in_A (wG_cons co_A_direction wG_self)))))) rfl hrc hrs (by decide +kernel) hR
theorem lk_A_95 (hts : ∀ w ∈ wG, w.before args s = true) (hrc : rm.cells = mc) (hrs : rm.slots = ms) (hR : rm.frames + 1 ≤ R.frames ∧ 8 + (1 + 11) + rm.locals ≤ R.locals) : CallB R s args R_A 95 y_A_requireShelf b_A_requireShelf 1 none (Cond.code y_A_requireShelf b_A_requireShelf 1 none :: wG) rm mc ms 1 ∧ (Cond.static y_A_requireShelf).before args s = true := va_cwS 1 hts (wG_good (wG_cons ml_A_95 (wG_cons sm_A_requireShelf (wG_cons in_A (wG_cons co_A_requireShelf wG_self))))) rfl hrc hrs (by decide +kernel) hR
theorem lk_A_99 (hts : ∀ w ∈ wG, w.before args s = true) (hrc : rm.cells = mc) (hrs : rm.slots = ms) (hR : rm.frames + 1 ≤ R.frames ∧ 8 + (3 + 11) + rm.locals ≤ R.locals) : CallB R s args R_A 99 y_A_isDirection b_A_isDirection 3 (some .boolean) (Cond.code y_A_isDirection b_A_isDirection 3 (some .boolean) :: wG) rm mc ms 2 ∧ (Cond.static y_A_isDirection).before args s = true := va_cwS 2 hts (wG_good (wG_cons ml_A_99 (wG_cons sm_A_isDirection (wG_cons in_A (wG_cons co_A_isDirection wG_self))))) rfl hrc hrs (by decide +kernel) hR
theorem lk_A_105 (hts : ∀ w ∈ wG, w.before args s = true) (hrc : rm.cells = mc) (hrs : rm.slots = ms) (hR : rm.frames + 1 ≤ R.frames ∧ 8 + (5 + 11) + rm.locals ≤ R.locals) : CallW R s args R_A R_A 105 y_A_anotherHas b_A_anotherHas 5 (some .boolean) (Cond.code y_A_anotherHas b_A_anotherHas 5 (some .boolean) :: wG) rm mc ms 3 := cwV 3 hts (wG_good (wG_cons ml_A_105 (wG_cons im_A_anotherHas (wG_cons se_A_anotherHas (wG_cons in_A (wG_cons co_A_anotherHas wG_self)))))) rfl hrc hrs (by decide +kernel) hR
theorem lk_A_208 (hts : ∀ w ∈ wG, w.before args s = true) (hrc : rm.cells = mc) (hrs : rm.slots = ms) (hR : rm.frames + 1 ≤ R.frames ∧ 8 + (3 + 11) + rm.locals ≤ R.locals) : CallW R s args R_A R_S 208 y_S_goesAlong b_S_goesAlong 3 (some .boolean) (Cond.code y_S_goesAlong b_S_goesAlong 3 (some .boolean) :: wG) rm mc ms 2 := cwV 2 hts (wG_good (wG_cons ml_A_208 (wG_cons im_S_goesAlong (wG_cons se_S_goesAlong (wG_cons in_S (wG_cons co_S_goesAlong wG_self)))))) rfl hrc hrs (by decide +kernel) hR
theorem lk_A_111 (hts : ∀ w ∈ wG, w.before args s = true) (hrc : rm.cells = mc) (hrs : rm.slots = ms) (hR : rm.frames + 1 ≤ R.frames ∧ 8 + (5 + 11) + rm.locals ≤ R.locals) : CallW R s args R_A R_S 111 y_S_aim b_S_aim 5 none (Cond.code y_S_aim b_S_aim 5 none :: wG) rm mc ms 4 := cwV 4 hts (wG_good (wG_cons ml_A_111 (wG_cons im_S_aim (wG_cons se_S_aim (wG_cons in_S (wG_cons co_S_aim wG_self)))))) rfl hrc hrs (by decide +kernel) hR
theorem lk_L_30 (hts : ∀ w ∈ wG, w.before args s = true) (hrc : rm.cells = mc) (hrs : rm.slots = ms) (hR : rm.frames + 1 ≤ R.frames ∧ 8 + (4 + 11) + rm.locals ≤ R.locals) : CallW R s args R_L R_A 30 y_A_shelf b_A_shelf 4 (some .int) (Cond.code y_A_shelf b_A_shelf 4 (some .int) :: wG) rm mc ms 2 := cwV 2 hts (wG_good (wG_cons ml_L_30 (wG_cons im_A_shelf (wG_cons se_A_shelf (wG_cons in_A (wG_cons co_A_shelf wG_self)))))) rfl hrc hrs (by decide +kernel) hR
theorem lk_L_34 (hts : ∀ w ∈ wG, w.before args s = true) (hrc : rm.cells = mc) (hrs : rm.slots = ms) (hR : rm.frames + 1 ≤ R.frames ∧ 8 + (2 + 11) + rm.locals ≤ R.locals) : CallW R s args R_L R_A 34 y_A_project b_A_project 2 none (Cond.code y_A_project b_A_project 2 none :: wG) rm mc ms 1 := cwV 1 hts (wG_good (wG_cons ml_L_34 (wG_cons im_A_project (wG_cons se_A_project (wG_cons in_A (wG_cons co_A_project wG_self)))))) rfl hrc hrs (by decide +kernel) hR
theorem lk_A_132 (hts : ∀ w ∈ wG, w.before args s = true) (hrc : rm.cells = mc) (hrs : rm.slots = ms) (hR : rm.frames + 1 ≤ R.frames ∧ 8 + (6 + 11) + rm.locals ≤ R.locals) : CallW R s args R_A R_S 132 y_S_fillFrom b_S_fillFrom 6 none (Cond.code y_S_fillFrom b_S_fillFrom 6 none :: wG) rm mc ms 3 := cwV 3 hts (wG_good (wG_cons ml_A_132 (wG_cons im_S_fillFrom (wG_cons se_S_fillFrom (wG_cons in_S (wG_cons co_S_fillFrom wG_self)))))) rfl hrc hrs (by decide +kernel) hR
theorem lk_S_48 (hts : ∀ w ∈ wG, w.before args s = true) (hrc : rm.cells = mc) (hrs : rm.slots = ms) (hR : rm.frames + 1 ≤ R.frames ∧ 8 + (4 + 11) + rm.locals ≤ R.locals) : CallB R s args R_S 48 y_J_fill b_J_fill 4 none (Cond.code y_J_fill b_J_fill 4 none :: wG) rm mc ms 2 ∧ (Cond.static y_J_fill).before args s = true := va_cwS 2 hts (wG_good (wG_cons ml_S_48 (wG_cons sm_J_fill (wG_cons in_J (wG_cons co_J_fill wG_self))))) rfl hrc hrs (by decide +kernel) hR
theorem lk_S_54 (hts : ∀ w ∈ wG, w.before args s = true) (hrc : rm.cells = mc) (hrs : rm.slots = ms) (hR : rm.frames + 1 ≤ R.frames ∧ 8 + (3 + 11) + rm.locals ≤ R.locals) : CallW R s args R_S R_S 54 y_S_binAt b_S_binAt 3 (some .int) (Cond.code y_S_binAt b_S_binAt 3 (some .int) :: wG) rm mc ms 2 := cwV 2 hts (wG_good (wG_cons ml_S_54 (wG_cons im_S_binAt (wG_cons se_S_binAt (wG_cons in_S (wG_cons co_S_binAt wG_self)))))) rfl hrc hrs (by decide +kernel) hR
theorem lk_L_38 (hts : ∀ w ∈ wG, w.before args s = true) (hrc : rm.cells = mc) (hrs : rm.slots = ms) (hR : rm.frames + 1 ≤ R.frames ∧ 8 + (3 + 11) + rm.locals ≤ R.locals) : CallW R s args R_L R_A 38 y_A_drop b_A_drop 3 (some .boolean) (Cond.code y_A_drop b_A_drop 3 (some .boolean) :: wG) rm mc ms 1 := cwV 1 hts (wG_good (wG_cons ml_L_38 (wG_cons im_A_drop (wG_cons se_A_drop (wG_cons in_A (wG_cons co_A_drop wG_self)))))) rfl hrc hrs (by decide +kernel) hR
theorem lk_L_42 (hts : ∀ w ∈ wG, w.before args s = true) (hrc : rm.cells = mc) (hrs : rm.slots = ms) (hR : rm.frames + 1 ≤ R.frames ∧ 8 + (3 + 11) + rm.locals ≤ R.locals) : CallW R s args R_L R_A 42 y_A_bin b_A_bin 3 (some .int) (Cond.code y_A_bin b_A_bin 3 (some .int) :: wG) rm mc ms 2 := cwV 2 hts (wG_good (wG_cons ml_L_42 (wG_cons im_A_bin (wG_cons se_A_bin (wG_cons in_A (wG_cons co_A_bin wG_self)))))) rfl hrc hrs (by decide +kernel) hR
theorem lk_A_136 (hts : ∀ w ∈ wG, w.before args s = true) (hrc : rm.cells = mc) (hrs : rm.slots = ms) (hR : rm.frames + 1 ≤ R.frames ∧ 8 + (3 + 11) + rm.locals ≤ R.locals) : CallW R s args R_A R_A 136 y_A_requireBin b_A_requireBin 3 none (Cond.code y_A_requireBin b_A_requireBin 3 none :: wG) rm mc ms 2 := cwV 2 hts (wG_good (wG_cons ml_A_136 (wG_cons im_A_requireBin (wG_cons se_A_requireBin (wG_cons in_A (wG_cons co_A_requireBin wG_self)))))) rfl hrc hrs (by decide +kernel) hR
theorem lk_L_45 (hts : ∀ w ∈ wG, w.before args s = true) (hrc : rm.cells = mc) (hrs : rm.slots = ms) (hR : rm.frames + 1 ≤ R.frames ∧ 8 + (6 + 11) + rm.locals ≤ R.locals) : CallW R s args R_L R_A 45 y_A_put b_A_put 6 (some .int) (Cond.code y_A_put b_A_put 6 (some .int) :: wG) rm mc ms 3 := cwV 3 hts (wG_good (wG_cons ml_L_45 (wG_cons im_A_put (wG_cons se_A_put (wG_cons in_A (wG_cons co_A_put wG_self)))))) rfl hrc hrs (by decide +kernel) hR
theorem lk_L_48 (hts : ∀ w ∈ wG, w.before args s = true) (hrc : rm.cells = mc) (hrs : rm.slots = ms) (hR : rm.frames + 1 ≤ R.frames ∧ 8 + (2 + 11) + rm.locals ≤ R.locals) : CallW R s args R_L R_A 48 y_A_enough b_A_enough 2 (some .boolean) (Cond.code y_A_enough b_A_enough 2 (some .boolean) :: wG) rm mc ms 1 := cwV 1 hts (wG_good (wG_cons ml_L_48 (wG_cons im_A_enough (wG_cons se_A_enough (wG_cons in_A (wG_cons co_A_enough wG_self)))))) rfl hrc hrs (by decide +kernel) hR
theorem lk_A_142 (hts : ∀ w ∈ wG, w.before args s = true) (hrc : rm.cells = mc) (hrs : rm.slots = ms) (hR : rm.frames + 1 ≤ R.frames ∧ 8 + (1 + 11) + rm.locals ≤ R.locals) : CallB R s args R_A 142 y_A_requireMask b_A_requireMask 1 none (Cond.code y_A_requireMask b_A_requireMask 1 none :: wG) rm mc ms 1 ∧ (Cond.static y_A_requireMask).before args s = true := va_cwS 1 hts (wG_good (wG_cons ml_A_142 (wG_cons sm_A_requireMask (wG_cons in_A (wG_cons co_A_requireMask wG_self))))) rfl hrc hrs (by decide +kernel) hR
theorem lk_A_145 (hts : ∀ w ∈ wG, w.before args s = true) (hrc : rm.cells = mc) (hrs : rm.slots = ms) (hR : rm.frames + 1 ≤ R.frames ∧ 8 + (4 + 11) + rm.locals ≤ R.locals) : CallW R s args R_A R_A 145 y_A_aimedOf b_A_aimedOf 4 (some .int) (Cond.code y_A_aimedOf b_A_aimedOf 4 (some .int) :: wG) rm mc ms 1 := cwV 1 hts (wG_good (wG_cons ml_A_145 (wG_cons im_A_aimedOf (wG_cons se_A_aimedOf (wG_cons in_A (wG_cons co_A_aimedOf wG_self)))))) rfl hrc hrs (by decide +kernel) hR
theorem lk_A_149 (hts : ∀ w ∈ wG, w.before args s = true) (hrc : rm.cells = mc) (hrs : rm.slots = ms) (hR : rm.frames + 1 ≤ R.frames ∧ 8 + (5 + 11) + rm.locals ≤ R.locals) : CallW R s args R_A R_A 149 y_A_areEnough b_A_areEnough 5 (some .boolean) (Cond.code y_A_areEnough b_A_areEnough 5 (some .boolean) :: wG) rm mc ms 1 := cwV 1 hts (wG_good (wG_cons ml_A_149 (wG_cons im_A_areEnough (wG_cons se_A_areEnough (wG_cons in_A (wG_cons co_A_areEnough wG_self)))))) rfl hrc hrs (by decide +kernel) hR
theorem lk_L_51 (hts : ∀ w ∈ wG, w.before args s = true) (hrc : rm.cells = mc) (hrs : rm.slots = ms) (hR : rm.frames + 1 ≤ R.frames ∧ 8 + (4 + 11) + rm.locals ≤ R.locals) : CallW R s args R_L R_A 51 y_A_rebuild b_A_rebuild 4 (some .int) (Cond.code y_A_rebuild b_A_rebuild 4 (some .int) :: wG) rm mc ms 1 := cwV 1 hts (wG_good (wG_cons ml_L_51 (wG_cons im_A_rebuild (wG_cons se_A_rebuild (wG_cons in_A (wG_cons co_A_rebuild wG_self)))))) rfl hrc hrs (by decide +kernel) hR
theorem lk_L_55 (hts : ∀ w ∈ wG, w.before args s = true) (hrc : rm.cells = mc) (hrs : rm.slots = ms) (hR : rm.frames + 1 ≤ R.frames ∧ 8 + (2 + 11) + rm.locals ≤ R.locals) : CallW R s args R_L R_A 55 y_A_about b_A_about 2 (some .int) (Cond.code y_A_about b_A_about 2 (some .int) :: wG) rm mc ms 1 := cwV 1 hts (wG_good (wG_cons ml_L_55 (wG_cons im_A_about (wG_cons se_A_about (wG_cons in_A (wG_cons co_A_about wG_self)))))) rfl hrc hrs (by decide +kernel) hR
theorem lk_L_58 (hts : ∀ w ∈ wG, w.before args s = true) (hrc : rm.cells = mc) (hrs : rm.slots = ms) (hR : rm.frames + 1 ≤ R.frames ∧ 8 + (3 + 11) + rm.locals ≤ R.locals) : CallW R s args R_L R_A 58 y_A_regenerate b_A_regenerate 3 (some .boolean) (Cond.code y_A_regenerate b_A_regenerate 3 (some .boolean) :: wG) rm mc ms 1 := cwV 1 hts (wG_good (wG_cons ml_L_58 (wG_cons im_A_regenerate (wG_cons se_A_regenerate (wG_cons in_A (wG_cons co_A_regenerate wG_self)))))) rfl hrc hrs (by decide +kernel) hR
theorem lk_L_61 (hts : ∀ w ∈ wG, w.before args s = true) (hrc : rm.cells = mc) (hrs : rm.slots = ms) (hR : rm.frames + 1 ≤ R.frames ∧ 8 + (5 + 11) + rm.locals ≤ R.locals) : CallW R s args R_L R_A 61 y_A_ghost b_A_ghost 5 (some .int) (Cond.code y_A_ghost b_A_ghost 5 (some .int) :: wG) rm mc ms 3 := cwV 3 hts (wG_good (wG_cons ml_L_61 (wG_cons im_A_ghost (wG_cons se_A_ghost (wG_cons in_A (wG_cons co_A_ghost wG_self)))))) rfl hrc hrs (by decide +kernel) hR
theorem lk_A_180 (hts : ∀ w ∈ wG, w.before args s = true) (hrc : rm.cells = mc) (hrs : rm.slots = ms) (hR : rm.frames + 1 ≤ R.frames ∧ 8 + (4 + 11) + rm.locals ≤ R.locals) : CallW R s args R_A R_A 180 y_A_drawGhost b_A_drawGhost 4 none (Cond.code y_A_drawGhost b_A_drawGhost 4 none :: wG) rm mc ms 1 := cwV 1 hts (wG_good (wG_cons ml_A_180 (wG_cons im_A_drawGhost (wG_cons se_A_drawGhost (wG_cons in_A (wG_cons co_A_drawGhost wG_self)))))) rfl hrc hrs (by decide +kernel) hR
theorem lk_A_246 (hts : ∀ w ∈ wG, w.before args s = true) (hrc : rm.cells = mc) (hrs : rm.slots = ms) (hR : rm.frames + 1 ≤ R.frames ∧ 8 + (6 + 11) + rm.locals ≤ R.locals) : CallW R s args R_A R_A 246 y_A_takeGhostMoved b_A_takeGhostMoved 6 none (Cond.code y_A_takeGhostMoved b_A_takeGhostMoved 6 none :: wG) rm mc ms 2 := cwV 2 hts (wG_good (wG_cons ml_A_246 (wG_cons im_A_takeGhostMoved (wG_cons se_A_takeGhostMoved (wG_cons in_A (wG_cons co_A_takeGhostMoved wG_self)))))) rfl hrc hrs (by decide +kernel) hR
theorem lk_L_64 (hts : ∀ w ∈ wG, w.before args s = true) (hrc : rm.cells = mc) (hrs : rm.slots = ms) (hR : rm.frames + 1 ≤ R.frames ∧ 8 + (4 + 11) + rm.locals ≤ R.locals) : CallW R s args R_L R_A 64 y_A_add b_A_add 4 (some .int) (Cond.code y_A_add b_A_add 4 (some .int) :: wG) rm mc ms 1 := cwV 1 hts (wG_good (wG_cons ml_L_64 (wG_cons im_A_add (wG_cons se_A_add (wG_cons in_A (wG_cons co_A_add wG_self)))))) rfl hrc hrs (by decide +kernel) hR
theorem lk_A_187 (hts : ∀ w ∈ wG, w.before args s = true) (hrc : rm.cells = mc) (hrs : rm.slots = ms) (hR : rm.frames + 1 ≤ R.frames ∧ 8 + (5 + 11) + rm.locals ≤ R.locals) : CallB R s args R_A 187 y_A_addEach b_A_addEach 5 none (Cond.code y_A_addEach b_A_addEach 5 none :: wG) rm mc ms 4 ∧ (Cond.static y_A_addEach).before args s = true := va_cwS 4 hts (wG_good (wG_cons ml_A_187 (wG_cons sm_A_addEach (wG_cons in_A (wG_cons co_A_addEach wG_self))))) rfl hrc hrs (by decide +kernel) hR
theorem lk_A_191 (hts : ∀ w ∈ wG, w.before args s = true) (hrc : rm.cells = mc) (hrs : rm.slots = ms) (hR : rm.frames + 1 ≤ R.frames ∧ 8 + (3 + 11) + rm.locals ≤ R.locals) : CallW R s args R_A R_S 191 y_S_addShelf b_S_addShelf 3 none (Cond.code y_S_addShelf b_S_addShelf 3 none :: wG) rm mc ms 2 := cwV 2 hts (wG_good (wG_cons ml_A_191 (wG_cons im_S_addShelf (wG_cons se_S_addShelf (wG_cons in_S (wG_cons co_S_addShelf wG_self)))))) rfl hrc hrs (by decide +kernel) hR
theorem lk_S_66 (hts : ∀ w ∈ wG, w.before args s = true) (hrc : rm.cells = mc) (hrs : rm.slots = ms) (hR : rm.frames + 1 ≤ R.frames ∧ 8 + (3 + 11) + rm.locals ≤ R.locals) : CallW R s args R_S R_S 66 y_S_goesAlong b_S_goesAlong 3 (some .boolean) (Cond.code y_S_goesAlong b_S_goesAlong 3 (some .boolean) :: wG) rm mc ms 2 := cwV 2 hts (wG_good (wG_cons ml_S_66 (wG_cons im_S_goesAlong (wG_cons se_S_goesAlong (wG_cons in_S (wG_cons co_S_goesAlong wG_self)))))) rfl hrc hrs (by decide +kernel) hR
theorem lk_L_71 (hts : ∀ w ∈ wG, w.before args s = true) (hrc : rm.cells = mc) (hrs : rm.slots = ms) (hR : rm.frames + 1 ≤ R.frames ∧ 8 + (1 + 11) + rm.locals ≤ R.locals) : CallB R s args R_L 71 y_M_init b_M_init 1 none (Cond.code y_M_init b_M_init 1 none :: wG) rm mc ms 0 ∧ y_M_init.name = "<init>" ∧ (Cond.instanceMethod y_M_init).before args s = true := cwI 0 hts (wG_good (wG_cons co_M_init wG_self)) rfl hrc hrs (hts _ in_M) (hts _ ml_L_71) (hts _ im_M_init) rfl (by decide +kernel) hR
theorem lk_L_78 (hts : ∀ w ∈ wG, w.before args s = true) (hrc : rm.cells = mc) (hrs : rm.slots = ms) (hR : rm.frames + 1 ≤ R.frames ∧ 8 + (1 + 11) + rm.locals ≤ R.locals) : CallW R s args R_L R_M 78 y_M_thrown b_M_thrown 1 (some .int) (Cond.code y_M_thrown b_M_thrown 1 (some .int) :: wG) rm mc ms 0 := cwV 0 hts (wG_good (wG_cons ml_L_78 (wG_cons im_M_thrown (wG_cons se_M_thrown (wG_cons in_M (wG_cons co_M_thrown wG_self)))))) rfl hrc hrs (by decide +kernel) hR
theorem lk_L_77 (hts : ∀ w ∈ wG, w.before args s = true) (hrc : rm.cells = mc) (hrs : rm.slots = ms) (hR : rm.frames + 1 ≤ R.frames ∧ 8 + (4 + 11) + rm.locals ≤ R.locals) : CallW R s args R_L R_M 77 y_M_size b_M_size 4 none (Cond.code y_M_size b_M_size 4 none :: wG) rm mc ms 2 := cwV 2 hts (wG_good (wG_cons ml_L_77 (wG_cons im_M_size (wG_cons se_M_size (wG_cons in_M (wG_cons co_M_size wG_self)))))) rfl hrc hrs (by decide +kernel) hR
theorem lk_M_88 (hts : ∀ w ∈ wG, w.before args s = true) (hrc : rm.cells = mc) (hrs : rm.slots = ms) (hR : rm.frames + 1 ≤ R.frames ∧ 8 + (3 + 11) + rm.locals ≤ R.locals) : CallW R s args R_M R_M 88 y_M_throwing b_M_throwing 3 (some .boolean) (Cond.code y_M_throwing b_M_throwing 3 (some .boolean) :: wG) rm mc ms 2 := cwV 2 hts (wG_good (wG_cons ml_M_88 (wG_cons im_M_throwing (wG_cons se_M_throwing (wG_cons in_M (wG_cons co_M_throwing wG_self)))))) rfl hrc hrs (by decide +kernel) hR
theorem lk_L_85 (hts : ∀ w ∈ wG, w.before args s = true) (hrc : rm.cells = mc) (hrs : rm.slots = ms) (hR : rm.frames + 1 ≤ R.frames ∧ 8 + (5 + 11) + rm.locals ≤ R.locals) : CallW R s args R_L R_M 85 y_M_pixel b_M_pixel 5 (some .int) (Cond.code y_M_pixel b_M_pixel 5 (some .int) :: wG) rm mc ms 3 := cwV 3 hts (wG_good (wG_cons ml_L_85 (wG_cons im_M_pixel (wG_cons se_M_pixel (wG_cons in_M (wG_cons co_M_pixel wG_self)))))) rfl hrc hrs (by decide +kernel) hR
theorem lk_M_99 (hts : ∀ w ∈ wG, w.before args s = true) (hrc : rm.cells = mc) (hrs : rm.slots = ms) (hR : rm.frames + 1 ≤ R.frames ∧ 8 + (3 + 11) + rm.locals ≤ R.locals) : CallW R s args R_M R_M 99 y_M_isPixel b_M_isPixel 3 (some .boolean) (Cond.code y_M_isPixel b_M_isPixel 3 (some .boolean) :: wG) rm mc ms 2 := cwV 2 hts (wG_good (wG_cons ml_M_99 (wG_cons im_M_isPixel (wG_cons se_M_isPixel (wG_cons in_M (wG_cons co_M_isPixel wG_self)))))) rfl hrc hrs (by decide +kernel) hR
theorem lk_L_88 (hts : ∀ w ∈ wG, w.before args s = true) (hrc : rm.cells = mc) (hrs : rm.slots = ms) (hR : rm.frames + 1 ≤ R.frames ∧ 8 + (6 + 11) + rm.locals ≤ R.locals) : CallW R s args R_L R_M 88 y_M_look b_M_look 6 (some .int) (Cond.code y_M_look b_M_look 6 (some .int) :: wG) rm mc ms 3 := cwV 3 hts (wG_good (wG_cons ml_L_88 (wG_cons im_M_look (wG_cons se_M_look (wG_cons in_M (wG_cons co_M_look wG_self)))))) rfl hrc hrs (by decide +kernel) hR
theorem lk_L_92 (hts : ∀ w ∈ wG, w.before args s = true) (hrc : rm.cells = mc) (hrs : rm.slots = ms) (hR : rm.frames + 1 ≤ R.frames ∧ 8 + (8 + 11) + rm.locals ≤ R.locals) : CallW R s args R_L R_M 92 y_M_direction b_M_direction 8 none (Cond.code y_M_direction b_M_direction 8 none :: wG) rm mc ms 3 := cwV 3 hts (wG_good (wG_cons ml_L_92 (wG_cons im_M_direction (wG_cons se_M_direction (wG_cons in_M (wG_cons co_M_direction wG_self)))))) rfl hrc hrs (by decide +kernel) hR
theorem lk_M_84 (hts : ∀ w ∈ wG, w.before args s = true) (hrc : rm.cells = mc) (hrs : rm.slots = ms) (hR : rm.frames + 1 ≤ R.frames ∧ 8 + (1 + 11) + rm.locals ≤ R.locals) : CallB R s args R_M 84 y_M_isShelf b_M_isShelf 1 (some .boolean) (Cond.code y_M_isShelf b_M_isShelf 1 (some .boolean) :: wG) rm mc ms 1 ∧ (Cond.static y_M_isShelf).before args s = true := va_cwS 1 hts (wG_good (wG_cons ml_M_84 (wG_cons sm_M_isShelf (wG_cons in_M (wG_cons co_M_isShelf wG_self))))) rfl hrc hrs (by decide +kernel) hR
theorem lk_M_103 (hts : ∀ w ∈ wG, w.before args s = true) (hrc : rm.cells = mc) (hrs : rm.slots = ms) (hR : rm.frames + 1 ≤ R.frames ∧ 8 + (4 + 11) + rm.locals ≤ R.locals) : CallB R s args R_M 103 y_M_haveFactor b_M_haveFactor 4 (some .boolean) (Cond.code y_M_haveFactor b_M_haveFactor 4 (some .boolean) :: wG) rm mc ms 2 ∧ (Cond.static y_M_haveFactor).before args s = true := va_cwS 2 hts (wG_good (wG_cons ml_M_103 (wG_cons sm_M_haveFactor (wG_cons in_M (wG_cons co_M_haveFactor wG_self))))) rfl hrc hrs (by decide +kernel) hR
theorem lk_M_106 (hts : ∀ w ∈ wG, w.before args s = true) (hrc : rm.cells = mc) (hrs : rm.slots = ms) (hR : rm.frames + 1 ≤ R.frames ∧ 8 + (6 + 11) + rm.locals ≤ R.locals) : CallW R s args R_M R_M 106 y_M_isTaken b_M_isTaken 6 (some .boolean) (Cond.code y_M_isTaken b_M_isTaken 6 (some .boolean) :: wG) rm mc ms 3 := cwV 3 hts (wG_good (wG_cons ml_M_106 (wG_cons im_M_isTaken (wG_cons se_M_isTaken (wG_cons in_M (wG_cons co_M_isTaken wG_self)))))) rfl hrc hrs (by decide +kernel) hR
theorem lk_L_96 (hts : ∀ w ∈ wG, w.before args s = true) (hrc : rm.cells = mc) (hrs : rm.slots = ms) (hR : rm.frames + 1 ≤ R.frames ∧ 8 + (3 + 11) + rm.locals ≤ R.locals) : CallW R s args R_L R_M 96 y_M_shelf b_M_shelf 3 (some .int) (Cond.code y_M_shelf b_M_shelf 3 (some .int) :: wG) rm mc ms 2 := cwV 2 hts (wG_good (wG_cons ml_L_96 (wG_cons im_M_shelf (wG_cons se_M_shelf (wG_cons in_M (wG_cons co_M_shelf wG_self)))))) rfl hrc hrs (by decide +kernel) hR
theorem lk_M_114 (hts : ∀ w ∈ wG, w.before args s = true) (hrc : rm.cells = mc) (hrs : rm.slots = ms) (hR : rm.frames + 1 ≤ R.frames ∧ 8 + (2 + 11) + rm.locals ≤ R.locals) : CallW R s args R_M R_M 114 y_M_hasDirection b_M_hasDirection 2 (some .boolean) (Cond.code y_M_hasDirection b_M_hasDirection 2 (some .boolean) :: wG) rm mc ms 1 := cwV 1 hts (wG_good (wG_cons ml_M_114 (wG_cons im_M_hasDirection (wG_cons se_M_hasDirection (wG_cons in_M (wG_cons co_M_hasDirection wG_self)))))) rfl hrc hrs (by decide +kernel) hR
theorem lk_M_117 (hts : ∀ w ∈ wG, w.before args s = true) (hrc : rm.cells = mc) (hrs : rm.slots = ms) (hR : rm.frames + 1 ≤ R.frames ∧ 8 + (2 + 11) + rm.locals ≤ R.locals) : CallW R s args R_M R_M 117 y_M_binsOf b_M_binsOf 2 (some .int) (Cond.code y_M_binsOf b_M_binsOf 2 (some .int) :: wG) rm mc ms 1 := cwV 1 hts (wG_good (wG_cons ml_M_117 (wG_cons im_M_binsOf (wG_cons se_M_binsOf (wG_cons in_M (wG_cons co_M_binsOf wG_self)))))) rfl hrc hrs (by decide +kernel) hR
theorem lk_M_110 (hts : ∀ w ∈ wG, w.before args s = true) (hrc : rm.cells = mc) (hrs : rm.slots = ms) (hR : rm.frames + 1 ≤ R.frames ∧ 8 + (1 + 11) + rm.locals ≤ R.locals) : CallB R s args R_M 110 y_M_sizeOf b_M_sizeOf 1 (some .int) (Cond.code y_M_sizeOf b_M_sizeOf 1 (some .int) :: wG) rm mc ms 1 ∧ (Cond.static y_M_sizeOf).before args s = true := va_cwS 1 hts (wG_good (wG_cons ml_M_110 (wG_cons sm_M_sizeOf (wG_cons in_M (wG_cons co_M_sizeOf wG_self))))) rfl hrc hrs (by decide +kernel) hR
theorem lk_L_100 (hts : ∀ w ∈ wG, w.before args s = true) (hrc : rm.cells = mc) (hrs : rm.slots = ms) (hR : rm.frames + 1 ≤ R.frames ∧ 8 + (2 + 11) + rm.locals ≤ R.locals) : CallW R s args R_L R_M 100 y_M_project b_M_project 2 none (Cond.code y_M_project b_M_project 2 none :: wG) rm mc ms 1 := cwV 1 hts (wG_good (wG_cons ml_L_100 (wG_cons im_M_project (wG_cons se_M_project (wG_cons in_M (wG_cons co_M_project wG_self)))))) rfl hrc hrs (by decide +kernel) hR
theorem lk_M_128 (hts : ∀ w ∈ wG, w.before args s = true) (hrc : rm.cells = mc) (hrs : rm.slots = ms) (hR : rm.frames + 1 ≤ R.frames ∧ 8 + (4 + 11) + rm.locals ≤ R.locals) : CallW R s args R_M R_M 128 y_M_fill b_M_fill 4 none (Cond.code y_M_fill b_M_fill 4 none :: wG) rm mc ms 2 := cwV 2 hts (wG_good (wG_cons ml_M_128 (wG_cons im_M_fill (wG_cons se_M_fill (wG_cons in_M (wG_cons co_M_fill wG_self)))))) rfl hrc hrs (by decide +kernel) hR
theorem lk_M_124 (hts : ∀ w ∈ wG, w.before args s = true) (hrc : rm.cells = mc) (hrs : rm.slots = ms) (hR : rm.frames + 1 ≤ R.frames ∧ 8 + (5 + 11) + rm.locals ≤ R.locals) : CallW R s args R_M R_M 124 y_M_sumUp b_M_sumUp 5 none (Cond.code y_M_sumUp b_M_sumUp 5 none :: wG) rm mc ms 2 := cwV 2 hts (wG_good (wG_cons ml_M_124 (wG_cons im_M_sumUp (wG_cons se_M_sumUp (wG_cons in_M (wG_cons co_M_sumUp wG_self)))))) rfl hrc hrs (by decide +kernel) hR
theorem lk_M_120 (hts : ∀ w ∈ wG, w.before args s = true) (hrc : rm.cells = mc) (hrs : rm.slots = ms) (hR : rm.frames + 1 ≤ R.frames ∧ 8 + (5 + 11) + rm.locals ≤ R.locals) : CallW R s args R_M R_M 120 y_M_binAt b_M_binAt 5 (some .int) (Cond.code y_M_binAt b_M_binAt 5 (some .int) :: wG) rm mc ms 3 := cwV 3 hts (wG_good (wG_cons ml_M_120 (wG_cons im_M_binAt (wG_cons se_M_binAt (wG_cons in_M (wG_cons co_M_binAt wG_self)))))) rfl hrc hrs (by decide +kernel) hR
theorem lk_L_104 (hts : ∀ w ∈ wG, w.before args s = true) (hrc : rm.cells = mc) (hrs : rm.slots = ms) (hR : rm.frames + 1 ≤ R.frames ∧ 8 + (3 + 11) + rm.locals ≤ R.locals) : CallW R s args R_L R_M 104 y_M_drop b_M_drop 3 (some .boolean) (Cond.code y_M_drop b_M_drop 3 (some .boolean) :: wG) rm mc ms 1 := cwV 1 hts (wG_good (wG_cons ml_L_104 (wG_cons im_M_drop (wG_cons se_M_drop (wG_cons in_M (wG_cons co_M_drop wG_self)))))) rfl hrc hrs (by decide +kernel) hR
theorem lk_L_107 (hts : ∀ w ∈ wG, w.before args s = true) (hrc : rm.cells = mc) (hrs : rm.slots = ms) (hR : rm.frames + 1 ≤ R.frames ∧ 8 + (3 + 11) + rm.locals ≤ R.locals) : CallW R s args R_L R_M 107 y_M_bin b_M_bin 3 (some .int) (Cond.code y_M_bin b_M_bin 3 (some .int) :: wG) rm mc ms 2 := cwV 2 hts (wG_good (wG_cons ml_L_107 (wG_cons im_M_bin (wG_cons se_M_bin (wG_cons in_M (wG_cons co_M_bin wG_self)))))) rfl hrc hrs (by decide +kernel) hR
theorem lk_M_131 (hts : ∀ w ∈ wG, w.before args s = true) (hrc : rm.cells = mc) (hrs : rm.slots = ms) (hR : rm.frames + 1 ≤ R.frames ∧ 8 + (3 + 11) + rm.locals ≤ R.locals) : CallW R s args R_M R_M 131 y_M_hasNoBin b_M_hasNoBin 3 (some .boolean) (Cond.code y_M_hasNoBin b_M_hasNoBin 3 (some .boolean) :: wG) rm mc ms 2 := cwV 2 hts (wG_good (wG_cons ml_M_131 (wG_cons im_M_hasNoBin (wG_cons se_M_hasNoBin (wG_cons in_M (wG_cons co_M_hasNoBin wG_self)))))) rfl hrc hrs (by decide +kernel) hR
theorem lk_L_110 (hts : ∀ w ∈ wG, w.before args s = true) (hrc : rm.cells = mc) (hrs : rm.slots = ms) (hR : rm.frames + 1 ≤ R.frames ∧ 8 + (5 + 11) + rm.locals ≤ R.locals) : CallW R s args R_L R_M 110 y_M_put b_M_put 5 (some .int) (Cond.code y_M_put b_M_put 5 (some .int) :: wG) rm mc ms 3 := cwV 3 hts (wG_good (wG_cons ml_L_110 (wG_cons im_M_put (wG_cons se_M_put (wG_cons in_M (wG_cons co_M_put wG_self)))))) rfl hrc hrs (by decide +kernel) hR
theorem lk_L_113 (hts : ∀ w ∈ wG, w.before args s = true) (hrc : rm.cells = mc) (hrs : rm.slots = ms) (hR : rm.frames + 1 ≤ R.frames ∧ 8 + (2 + 11) + rm.locals ≤ R.locals) : CallW R s args R_L R_M 113 y_M_enough b_M_enough 2 (some .boolean) (Cond.code y_M_enough b_M_enough 2 (some .boolean) :: wG) rm mc ms 1 := cwV 1 hts (wG_good (wG_cons ml_L_113 (wG_cons im_M_enough (wG_cons se_M_enough (wG_cons in_M (wG_cons co_M_enough wG_self)))))) rfl hrc hrs (by decide +kernel) hR
theorem lk_M_137 (hts : ∀ w ∈ wG, w.before args s = true) (hrc : rm.cells = mc) (hrs : rm.slots = ms) (hR : rm.frames + 1 ≤ R.frames ∧ 8 + (1 + 11) + rm.locals ≤ R.locals) : CallB R s args R_M 137 y_M_isMask b_M_isMask 1 (some .boolean) (Cond.code y_M_isMask b_M_isMask 1 (some .boolean) :: wG) rm mc ms 1 ∧ (Cond.static y_M_isMask).before args s = true := va_cwS 1 hts (wG_good (wG_cons ml_M_137 (wG_cons sm_M_isMask (wG_cons in_M (wG_cons co_M_isMask wG_self))))) rfl hrc hrs (by decide +kernel) hR
theorem lk_M_140 (hts : ∀ w ∈ wG, w.before args s = true) (hrc : rm.cells = mc) (hrs : rm.slots = ms) (hR : rm.frames + 1 ≤ R.frames ∧ 8 + (5 + 11) + rm.locals ≤ R.locals) : CallW R s args R_M R_M 140 y_M_areEnough b_M_areEnough 5 (some .boolean) (Cond.code y_M_areEnough b_M_areEnough 5 (some .boolean) :: wG) rm mc ms 1 := cwV 1 hts (wG_good (wG_cons ml_M_140 (wG_cons im_M_areEnough (wG_cons se_M_areEnough (wG_cons in_M (wG_cons co_M_areEnough wG_self)))))) rfl hrc hrs (by decide +kernel) hR
theorem lk_M_134 (hts : ∀ w ∈ wG, w.before args s = true) (hrc : rm.cells = mc) (hrs : rm.slots = ms) (hR : rm.frames + 1 ≤ R.frames ∧ 8 + (3 + 11) + rm.locals ≤ R.locals) : CallW R s args R_M R_M 134 y_M_isOf b_M_isOf 3 (some .boolean) (Cond.code y_M_isOf b_M_isOf 3 (some .boolean) :: wG) rm mc ms 2 := cwV 2 hts (wG_good (wG_cons ml_M_134 (wG_cons im_M_isOf (wG_cons se_M_isOf (wG_cons in_M (wG_cons co_M_isOf wG_self)))))) rfl hrc hrs (by decide +kernel) hR
theorem lk_L_116 (hts : ∀ w ∈ wG, w.before args s = true) (hrc : rm.cells = mc) (hrs : rm.slots = ms) (hR : rm.frames + 1 ≤ R.frames ∧ 8 + (5 + 11) + rm.locals ≤ R.locals) : CallW R s args R_L R_M 116 y_M_rebuild b_M_rebuild 5 (some .int) (Cond.code y_M_rebuild b_M_rebuild 5 (some .int) :: wG) rm mc ms 1 := cwV 1 hts (wG_good (wG_cons ml_L_116 (wG_cons im_M_rebuild (wG_cons se_M_rebuild (wG_cons in_M (wG_cons co_M_rebuild wG_self)))))) rfl hrc hrs (by decide +kernel) hR
theorem lk_M_164 (hts : ∀ w ∈ wG, w.before args s = true) (hrc : rm.cells = mc) (hrs : rm.slots = ms) (hR : rm.frames + 1 ≤ R.frames ∧ 8 + (3 + 11) + rm.locals ≤ R.locals) : CallW R s args R_M R_M 164 y_M_comes b_M_comes 3 (some .boolean) (Cond.code y_M_comes b_M_comes 3 (some .boolean) :: wG) rm mc ms 1 := cwV 1 hts (wG_good (wG_cons ml_M_164 (wG_cons im_M_comes (wG_cons se_M_comes (wG_cons in_M (wG_cons co_M_comes wG_self)))))) rfl hrc hrs (by decide +kernel) hR
theorem lk_M_150 (hts : ∀ w ∈ wG, w.before args s = true) (hrc : rm.cells = mc) (hrs : rm.slots = ms) (hR : rm.frames + 1 ≤ R.frames ∧ 8 + (5 + 11) + rm.locals ≤ R.locals) : CallW R s args R_M R_M 150 y_M_beginTry b_M_beginTry 5 none (Cond.code y_M_beginTry b_M_beginTry 5 none :: wG) rm mc ms 1 := cwV 1 hts (wG_good (wG_cons ml_M_150 (wG_cons im_M_beginTry (wG_cons se_M_beginTry (wG_cons in_M (wG_cons co_M_beginTry wG_self)))))) rfl hrc hrs (by decide +kernel) hR
theorem lk_M_154 (hts : ∀ w ∈ wG, w.before args s = true) (hrc : rm.cells = mc) (hrs : rm.slots = ms) (hR : rm.frames + 1 ≤ R.frames ∧ 8 + (5 + 11) + rm.locals ≤ R.locals) : CallW R s args R_M R_M 154 y_M_single b_M_single 5 (some .int) (Cond.code y_M_single b_M_single 5 (some .int) :: wG) rm mc ms 1 := cwV 1 hts (wG_good (wG_cons ml_M_154 (wG_cons im_M_single (wG_cons se_M_single (wG_cons in_M (wG_cons co_M_single wG_self)))))) rfl hrc hrs (by decide +kernel) hR
theorem lk_M_157 (hts : ∀ w ∈ wG, w.before args s = true) (hrc : rm.cells = mc) (hrs : rm.slots = ms) (hR : rm.frames + 1 ≤ R.frames ∧ 8 + (7 + 11) + rm.locals ≤ R.locals) : CallW R s args R_M R_M 157 y_M_learnOf b_M_learnOf 7 none (Cond.code y_M_learnOf b_M_learnOf 7 none :: wG) rm mc ms 2 := cwV 2 hts (wG_good (wG_cons ml_M_157 (wG_cons im_M_learnOf (wG_cons se_M_learnOf (wG_cons in_M (wG_cons co_M_learnOf wG_self)))))) rfl hrc hrs (by decide +kernel) hR
theorem lk_M_146 (hts : ∀ w ∈ wG, w.before args s = true) (hrc : rm.cells = mc) (hrs : rm.slots = ms) (hR : rm.frames + 1 ≤ R.frames ∧ 8 + (7 + 11) + rm.locals ≤ R.locals) : CallW R s args R_M R_M 146 y_M_learn b_M_learn 7 none (Cond.code y_M_learn b_M_learn 7 none :: wG) rm mc ms 4 := cwV 4 hts (wG_good (wG_cons ml_M_146 (wG_cons im_M_learn (wG_cons se_M_learn (wG_cons in_M (wG_cons co_M_learn wG_self)))))) rfl hrc hrs (by decide +kernel) hR
theorem lk_M_170 (hts : ∀ w ∈ wG, w.before args s = true) (hrc : rm.cells = mc) (hrs : rm.slots = ms) (hR : rm.frames + 1 ≤ R.frames ∧ 8 + (3 + 11) + rm.locals ≤ R.locals) : CallW R s args R_M R_M 170 y_M_disagrees b_M_disagrees 3 (some .int) (Cond.code y_M_disagrees b_M_disagrees 3 (some .int) :: wG) rm mc ms 1 := cwV 1 hts (wG_good (wG_cons ml_M_170 (wG_cons im_M_disagrees (wG_cons se_M_disagrees (wG_cons in_M (wG_cons co_M_disagrees wG_self)))))) rfl hrc hrs (by decide +kernel) hR
theorem lk_M_161 (hts : ∀ w ∈ wG, w.before args s = true) (hrc : rm.cells = mc) (hrs : rm.slots = ms) (hR : rm.frames + 1 ≤ R.frames ∧ 8 + (4 + 11) + rm.locals ≤ R.locals) : CallW R s args R_M R_M 161 y_M_parts b_M_parts 4 (some .int) (Cond.code y_M_parts b_M_parts 4 (some .int) :: wG) rm mc ms 1 := cwV 1 hts (wG_good (wG_cons ml_M_161 (wG_cons im_M_parts (wG_cons se_M_parts (wG_cons in_M (wG_cons co_M_parts wG_self)))))) rfl hrc hrs (by decide +kernel) hR
theorem lk_L_119 (hts : ∀ w ∈ wG, w.before args s = true) (hrc : rm.cells = mc) (hrs : rm.slots = ms) (hR : rm.frames + 1 ≤ R.frames ∧ 8 + (2 + 11) + rm.locals ≤ R.locals) : CallW R s args R_L R_M 119 y_M_about b_M_about 2 (some .int) (Cond.code y_M_about b_M_about 2 (some .int) :: wG) rm mc ms 1 := cwV 1 hts (wG_good (wG_cons ml_L_119 (wG_cons im_M_about (wG_cons se_M_about (wG_cons in_M (wG_cons co_M_about wG_self)))))) rfl hrc hrs (by decide +kernel) hR
theorem lk_L_122 (hts : ∀ w ∈ wG, w.before args s = true) (hrc : rm.cells = mc) (hrs : rm.slots = ms) (hR : rm.frames + 1 ≤ R.frames ∧ 8 + (3 + 11) + rm.locals ≤ R.locals) : CallW R s args R_L R_M 122 y_M_regenerate b_M_regenerate 3 (some .boolean) (Cond.code y_M_regenerate b_M_regenerate 3 (some .boolean) :: wG) rm mc ms 1 := cwV 1 hts (wG_good (wG_cons ml_L_122 (wG_cons im_M_regenerate (wG_cons se_M_regenerate (wG_cons in_M (wG_cons co_M_regenerate wG_self)))))) rfl hrc hrs (by decide +kernel) hR
theorem lk_M_173 (hts : ∀ w ∈ wG, w.before args s = true) (hrc : rm.cells = mc) (hrs : rm.slots = ms) (hR : rm.frames + 1 ≤ R.frames ∧ 8 + (3 + 11) + rm.locals ≤ R.locals) : CallW R s args R_M R_M 173 y_M_filledOnes b_M_filledOnes 3 (some .int) (Cond.code y_M_filledOnes b_M_filledOnes 3 (some .int) :: wG) rm mc ms 0 := cwV 0 hts (wG_good (wG_cons ml_M_173 (wG_cons im_M_filledOnes (wG_cons se_M_filledOnes (wG_cons in_M (wG_cons co_M_filledOnes wG_self)))))) rfl hrc hrs (by decide +kernel) hR
theorem lk_L_126 (hts : ∀ w ∈ wG, w.before args s = true) (hrc : rm.cells = mc) (hrs : rm.slots = ms) (hR : rm.frames + 1 ≤ R.frames ∧ 8 + (3 + 11) + rm.locals ≤ R.locals) : CallW R s args R_L R_M 126 y_M_audit b_M_audit 3 (some .int) (Cond.code y_M_audit b_M_audit 3 (some .int) :: wG) rm mc ms 0 := cwV 0 hts (wG_good (wG_cons ml_L_126 (wG_cons im_M_audit (wG_cons se_M_audit (wG_cons in_M (wG_cons co_M_audit wG_self)))))) rfl hrc hrs (by decide +kernel) hR
theorem lk_M_177 (hts : ∀ w ∈ wG, w.before args s = true) (hrc : rm.cells = mc) (hrs : rm.slots = ms) (hR : rm.frames + 1 ≤ R.frames ∧ 8 + (2 + 11) + rm.locals ≤ R.locals) : CallW R s args R_M R_M 177 y_M_areOfOne b_M_areOfOne 2 (some .boolean) (Cond.code y_M_areOfOne b_M_areOfOne 2 (some .boolean) :: wG) rm mc ms 1 := cwV 1 hts (wG_good (wG_cons ml_M_177 (wG_cons im_M_areOfOne (wG_cons se_M_areOfOne (wG_cons in_M (wG_cons co_M_areOfOne wG_self)))))) rfl hrc hrs (by decide +kernel) hR
theorem lk_L_129 (hts : ∀ w ∈ wG, w.before args s = true) (hrc : rm.cells = mc) (hrs : rm.slots = ms) (hR : rm.frames + 1 ≤ R.frames ∧ 8 + (6 + 11) + rm.locals ≤ R.locals) : CallW R s args R_L R_M 129 y_M_ghost b_M_ghost 6 (some .int) (Cond.code y_M_ghost b_M_ghost 6 (some .int) :: wG) rm mc ms 3 := cwV 3 hts (wG_good (wG_cons ml_L_129 (wG_cons im_M_ghost (wG_cons se_M_ghost (wG_cons in_M (wG_cons co_M_ghost wG_self)))))) rfl hrc hrs (by decide +kernel) hR
theorem lk_M_180 (hts : ∀ w ∈ wG, w.before args s = true) (hrc : rm.cells = mc) (hrs : rm.slots = ms) (hR : rm.frames + 1 ≤ R.frames ∧ 8 + (6 + 11) + rm.locals ≤ R.locals) : CallW R s args R_M R_M 180 y_M_moveAway b_M_moveAway 6 none (Cond.code y_M_moveAway b_M_moveAway 6 none :: wG) rm mc ms 2 := cwV 2 hts (wG_good (wG_cons ml_M_180 (wG_cons im_M_moveAway (wG_cons se_M_moveAway (wG_cons in_M (wG_cons co_M_moveAway wG_self)))))) rfl hrc hrs (by decide +kernel) hR
theorem lk_M_183 (hts : ∀ w ∈ wG, w.before args s = true) (hrc : rm.cells = mc) (hrs : rm.slots = ms) (hR : rm.frames + 1 ≤ R.frames ∧ 8 + (3 + 11) + rm.locals ≤ R.locals) : CallW R s args R_M R_M 183 y_M_lowestColumn b_M_lowestColumn 3 (some .int) (Cond.code y_M_lowestColumn b_M_lowestColumn 3 (some .int) :: wG) rm mc ms 0 := cwV 0 hts (wG_good (wG_cons ml_M_183 (wG_cons im_M_lowestColumn (wG_cons se_M_lowestColumn (wG_cons in_M (wG_cons co_M_lowestColumn wG_self)))))) rfl hrc hrs (by decide +kernel) hR
theorem lk_L_133 (hts : ∀ w ∈ wG, w.before args s = true) (hrc : rm.cells = mc) (hrs : rm.slots = ms) (hR : rm.frames + 1 ≤ R.frames ∧ 8 + (2 + 11) + rm.locals ≤ R.locals) : CallW R s args R_L R_M 133 y_M_keep b_M_keep 2 none (Cond.code y_M_keep b_M_keep 2 none :: wG) rm mc ms 0 := cwV 0 hts (wG_good (wG_cons ml_L_133 (wG_cons im_M_keep (wG_cons se_M_keep (wG_cons in_M (wG_cons co_M_keep wG_self)))))) rfl hrc hrs (by decide +kernel) hR
theorem lk_L_137 (hts : ∀ w ∈ wG, w.before args s = true) (hrc : rm.cells = mc) (hrs : rm.slots = ms) (hR : rm.frames + 1 ≤ R.frames ∧ 8 + (6 + 11) + rm.locals ≤ R.locals) : CallW R s args R_L R_M 137 y_M_add b_M_add 6 (some .int) (Cond.code y_M_add b_M_add 6 (some .int) :: wG) rm mc ms 1 := cwV 1 hts (wG_good (wG_cons ml_L_137 (wG_cons im_M_add (wG_cons se_M_add (wG_cons in_M (wG_cons co_M_add wG_self)))))) rfl hrc hrs (by decide +kernel) hR
theorem lk_A_60 (hts : ∀ w ∈ wG, w.before args s = true) (hl : va_Nw (.methodLinkNest R_A 60 y_S_init R_A) s) (hrc : rm.cells = mc) (hrs : rm.slots = ms) (hR : rm.frames + 1 ≤ R.frames ∧ 8 + (1 + 11) + rm.locals ≤ R.locals) : va_CN R s args R_A 60 y_S_init R_A b_S_init 1 none (Cond.code y_S_init b_S_init 1 none :: wG) rm mc ms 0 ∧ y_S_init.name = "<init>" ∧ (Cond.instanceMethod y_S_init).before args s = true := ⟨va_cnB 0 hts (wG_good (wG_cons co_S_init wG_self)) rfl hrc hrs hl (hts _ in_S) (by decide +kernel) hR, rfl, hts _ im_S_init⟩
theorem lk_A_61 (hts : ∀ w ∈ wG, w.before args s = true) (hl : va_Nw (.methodLinkNest R_A 61 y_W_init R_A) s) (hrc : rm.cells = mc) (hrs : rm.slots = ms) (hR : rm.frames + 1 ≤ R.frames ∧ 8 + (1 + 11) + rm.locals ≤ R.locals) : va_CN R s args R_A 61 y_W_init R_A b_W_init 1 none (Cond.code y_W_init b_W_init 1 none :: wG) rm mc ms 0 ∧ y_W_init.name = "<init>" ∧ (Cond.instanceMethod y_W_init).before args s = true := ⟨va_cnB 0 hts (wG_good (wG_cons co_W_init wG_self)) rfl hrc hrs hl (hts _ in_W) (by decide +kernel) hR, rfl, hts _ im_W_init⟩
theorem lk_W_53 (hts : ∀ w ∈ wG, w.before args s = true) (hl : va_Nw (.methodLinkNest R_W 53 y_A_cellAt R_A) s) (hrc : rm.cells = mc) (hrs : rm.slots = ms) (hR : rm.frames + 1 ≤ R.frames ∧ 8 + (2 + 11) + rm.locals ≤ R.locals) : va_CN R s args R_W 53 y_A_cellAt R_A b_A_cellAt 2 (some .int) (Cond.code y_A_cellAt b_A_cellAt 2 (some .int) :: wG) rm mc ms 2 ∧ (Cond.static y_A_cellAt).before args s = true ∧ True := ⟨va_cnB 2 hts (wG_good (wG_cons co_A_cellAt wG_self)) rfl hrc hrs hl (hts _ in_A) (by decide +kernel) hR, hts _ sm_A_cellAt, trivial⟩
theorem lk_S_57 (hts : ∀ w ∈ wG, w.before args s = true) (hl : va_Nw (.methodLinkNest R_S 57 y_A_cellAt R_A) s) (hrc : rm.cells = mc) (hrs : rm.slots = ms) (hR : rm.frames + 1 ≤ R.frames ∧ 8 + (2 + 11) + rm.locals ≤ R.locals) : va_CN R s args R_S 57 y_A_cellAt R_A b_A_cellAt 2 (some .int) (Cond.code y_A_cellAt b_A_cellAt 2 (some .int) :: wG) rm mc ms 2 ∧ (Cond.static y_A_cellAt).before args s = true ∧ True := ⟨va_cnB 2 hts (wG_good (wG_cons co_A_cellAt wG_self)) rfl hrc hrs hl (hts _ in_A) (by decide +kernel) hR, hts _ sm_A_cellAt, trivial⟩
theorem lk_S_70 (hts : ∀ w ∈ wG, w.before args s = true) (hl : va_Nw (.methodLinkNest R_S 70 y_A_addEach R_A) s) (hrc : rm.cells = mc) (hrs : rm.slots = ms) (hR : rm.frames + 1 ≤ R.frames ∧ 8 + (5 + 11) + rm.locals ≤ R.locals) : va_CN R s args R_S 70 y_A_addEach R_A b_A_addEach 5 none (Cond.code y_A_addEach b_A_addEach 5 none :: wG) rm mc ms 4 ∧ (Cond.static y_A_addEach).before args s = true ∧ True := ⟨va_cnB 4 hts (wG_good (wG_cons co_A_addEach wG_self)) rfl hrc hrs hl (hts _ in_A) (by decide +kernel) hR, hts _ sm_A_addEach, trivial⟩
end LK
end
section
/-! the worlds' cells -/
abbrev rmF (f q mc ms : Nat) : Room := { frames := f, cells := mc, slots := ms, locals := q }
abbrev tyL (cI cZ cL cS cW : ClassId) : List (ClassId × FieldType) := [(cI, .int), (cZ, .boolean), (cL, .long), (cS, .object "ShadowArchive$Shelf"), (cW, .object "ShadowArchive$Worksheet")]
abbrev inA (cI : ClassId) (n : Nat) (f : Nat → Int32) : va_E := .inl (cI, n, .inl f)
abbrev rfA (cS : ClassId) (n : Nat) (f : Nat → Option Nat) : va_E := .inl (cS, n, .inr (.inr (.inr (.inr f))))
abbrev ShT : Type := Bool × Bool × Int × Int × Int × Int
abbrev shE (a : Nat) (t : ShT) : va_E := .inr (1, [.int (bI t.1), .int (bI t.2.1), .int (iI t.2.2.1), .int (iI t.2.2.2.1), .int (iI t.2.2.2.2.1), .int (iI t.2.2.2.2.2), .ref a])
abbrev wsE (ct lo : Int) (a1 a2 a3 : Nat) : va_E := .inr (2, [.int (iI ct), .int (iI lo), .ref a1, .ref a2, .ref a3])
def R_J : String := "java/util/Arrays"
theorem upd_all {f : Nat → Int32} {i : Nat} {x : Int32} (hf : ∀ k, k < i → f k = x) : ∀ k, k < i + 1 → upd f i x k = x := fun k hk => by
  by_cases h : k = i
  · rw [h, pk_us]
  · rw [pk_un h]; exact hf k (by omega)
theorem arr_ext {cA : ClassId} {n : Nat} {f f1 : Nat → Int32} (h : ∀ k, k < n → f k = f1 k) : vp_cell cA (n, .inl f) = vp_cell cA (n, .inl f1) := by
  show arrV cA n (fun j => .int (f j)) = arrV cA n (fun j => .int (f1 j))
  unfold arrV
  congr 2
  funext j
  show Value.int (f j.val) = Value.int (f1 j.val)
  rw [h j.val j.isLt]
section VB
variable {p : Program} {l : Launch} {e : Env} {R : Room} {s : State} {m : MethodId} {args : Array Value} {below : List Frame} {meth : Method} {c : Code} {Q : State → Prop} {H0 : Heap} {B : Nat} {D : va_G} {cl : List vw_C} {tys : List (ClassId × FieldType)} {Z : ZT} {cc : ByteArray} {nL N : Nat} {own : String} {Ts : List Cond} {cells slots : Nat} {ad : Nat → Nat} {g : Nat → va_E} {lv lv' : List (Nat × Value)} {st : List Value} {pc pc2 : Nat}
/-- an array's numbers beyond its length don't count -/
theorem v_ext {r n : Nat} {cA : ClassId} {f : Nat → Int32} (f1 : Nat → Int32) (hg : g r = inA cA n f) (he : ∀ k, k < n → f k = f1 k) (k : ∀ g1 : Nat → va_E, g1 r = inA cA n f1 → (∀ r1, r1 ≠ r → g1 r1 = g r1) → kV p l e R s m args below meth c Q H0 B D cl nL N cells slots ad g1 lv st pc) : kV p l e R s m args below meth c Q H0 B D cl nL N cells slots ad g lv st pc := fun H locs ls hl hP hD hS => by
  refine k (va_up g r (inA cA n f1)) (va_up_self _ _ _) (fun r1 h1 => va_up_ne _ _ h1) H locs ls hl (fun i q hq => ?_) ⟨fun i j x y hi hj hxy => ?_, fun i q hq => ?_⟩ hS
  · obtain ⟨h1, rfl⟩ := wl_of hq
    have h2 := hP i _ (wl_get h1)
    by_cases hi : i = r
    · subst hi
      rw [va_up_self]
      rw [hg] at h2
      show H[ad i]? = some (vp_cell cA (n, .inl f1))
      rw [← arr_ext he]
      exact h2
    · rw [va_up_ne _ _ hi]
      exact h2
  · obtain ⟨h1, rfl⟩ := wl_of hi
    obtain ⟨h2, rfl⟩ := wl_of hj
    exact hD.1 i j _ _ (wl_get h1) (wl_get h2) hxy
  · obtain ⟨h1, rfl⟩ := wl_of hq
    show aB B (ad i)
    exact hD.2 i _ (wl_get h1)
theorem v_mmin {a b : Int} {index : Nat} (C : Cx p m c s args cc nL own Ts H0 B D cl tys Z) (w1 : Cond.methodLink own index Lib.Math.min.name ∈ Ts) (w2 : Cond.static Lib.Math.min.name ∈ Ts) (w3 : Cond.initialized "java/lang/Math" ∈ Ts) (w4 : Cond.code Lib.Math.min.name Lib.Math.min.code 2 (some .int) ∈ Ts) (hf : 1 ≤ R.frames) (hq : (st.map fun v => v.category).sum + 13 ≤ R.locals) (hc : cells ≤ R.cells) (hs : slots ≤ R.slots) (hd : decode cc pc = .ok (.invokestatic index, 3) ∧ pc + 3 = pc2) (a1 : -2147483648 ≤ a) (a2 : a < 2147483648) (b1 : -2147483648 ≤ b) (b2 : b < 2147483648) (k : kV p l e R s m args below meth c Q H0 B D cl nL N cells slots ad g lv (.int (iI (if b < a then b else a)) :: st) pc2) : kV p l e R s m args below meth c Q H0 B D cl nL N cells slots ad g lv (.int (iI b) :: .int (iI a) :: st) pc := fun H locs ls hl hP hD hS => by
  obtain ⟨hd, rfl⟩ := hd
  have h := C.1.2.2.2.2
  refine va_mmin C.1.1 C.1.2.1 (C.1.2.2.1.trans hl.1.symm) C.1.2.2.2.1 (h _ w1) (h _ w2) (h _ w3) (h _ w4) hf hq hc hs hd ?_
  have e1 : (if iI b < iI a then iI b else iI a) = iI (if b < a then b else a) := by
    by_cases hh : b < a
    · rw [if_pos hh, if_pos ((iI_lt b1 b2 a1 a2).mpr hh)]
    · rw [if_neg hh, if_neg (fun q => hh ((iI_lt b1 b2 a1 a2).mp q))]
  rw [e1]
  exact k H locs ls hl hP hD hS
theorem v_mmax {a b : Int} {index : Nat} (C : Cx p m c s args cc nL own Ts H0 B D cl tys Z) (w1 : Cond.methodLink own index Lib.Math.max.name ∈ Ts) (w2 : Cond.static Lib.Math.max.name ∈ Ts) (w3 : Cond.initialized "java/lang/Math" ∈ Ts) (w4 : Cond.code Lib.Math.max.name Lib.Math.max.code 2 (some .int) ∈ Ts) (hf : 1 ≤ R.frames) (hq : (st.map fun v => v.category).sum + 13 ≤ R.locals) (hc : cells ≤ R.cells) (hs : slots ≤ R.slots) (hd : decode cc pc = .ok (.invokestatic index, 3) ∧ pc + 3 = pc2) (a1 : -2147483648 ≤ a) (a2 : a < 2147483648) (b1 : -2147483648 ≤ b) (b2 : b < 2147483648) (k : kV p l e R s m args below meth c Q H0 B D cl nL N cells slots ad g lv (.int (iI (if a < b then b else a)) :: st) pc2) : kV p l e R s m args below meth c Q H0 B D cl nL N cells slots ad g lv (.int (iI b) :: .int (iI a) :: st) pc := fun H locs ls hl hP hD hS => by
  obtain ⟨hd, rfl⟩ := hd
  have h := C.1.2.2.2.2
  refine va_mmax C.1.1 C.1.2.1 (C.1.2.2.1.trans hl.1.symm) C.1.2.2.2.1 (h _ w1) (h _ w2) (h _ w3) (h _ w4) hf hq hc hs hd ?_
  have e1 : (if iI a < iI b then iI b else iI a) = iI (if a < b then b else a) := by
    by_cases hh : a < b
    · rw [if_pos hh, if_pos ((iI_lt a1 a2 b1 b2).mpr hh)]
    · rw [if_neg hh, if_neg (fun q => hh ((iI_lt a1 a2 b1 b2).mp q))]
  rw [e1]
  exact k H locs ls hl hP hD hS
theorem v_mabs {a : Int} {index : Nat} (C : Cx p m c s args cc nL own Ts H0 B D cl tys Z) (w1 : Cond.methodLink own index Lib.Math.abs.name ∈ Ts) (w2 : Cond.static Lib.Math.abs.name ∈ Ts) (w3 : Cond.initialized "java/lang/Math" ∈ Ts) (w4 : Cond.code Lib.Math.abs.name Lib.Math.abs.code 1 (some .int) ∈ Ts) (hf : 1 ≤ R.frames) (hq : (st.map fun v => v.category).sum + 13 ≤ R.locals) (hc : cells ≤ R.cells) (hs : slots ≤ R.slots) (hd : decode cc pc = .ok (.invokestatic index, 3) ∧ pc + 3 = pc2) (a1 : -2147483648 ≤ a) (a2 : a < 2147483648) (k : kV p l e R s m args below meth c Q H0 B D cl nL N cells slots ad g lv (.int (iI (if 0 ≤ a then a else 0 - a)) :: st) pc2) : kV p l e R s m args below meth c Q H0 B D cl nL N cells slots ad g lv (.int (iI a) :: st) pc := fun H locs ls hl hP hD hS => by
  obtain ⟨hd, rfl⟩ := hd
  have h := C.1.2.2.2.2
  refine va_mabs C.1.1 C.1.2.1 (C.1.2.2.1.trans hl.1.symm) C.1.2.2.2.1 (h _ w1) (h _ w2) (h _ w3) (h _ w4) hf hq hc hs hd ?_
  have e1 : (if 0 ≤ iI a then iI a else 0 - iI a) = iI (if 0 ≤ a then a else 0 - a) := by
    have hz := iI_le (a := 0) (b := a) (by omega) (by omega) a1 a2
    rw [iI_0] at hz
    by_cases hh : 0 ≤ a
    · rw [if_pos hh, if_pos (hz.mpr hh)]
    · rw [if_neg hh, if_neg (fun q => hh (hz.mp q)), ← iI_0, iI_sub]
  rw [e1]
  exact k H locs ls hl hP hD hS
/-- System.arraycopy(a, 0, b, 0, n) -/
theorem v_copy {r0 r1 n0 n1 n : Nat} {z : Int} {f f1 : Nat → Int32} {index : Nat} (C : Cx p m c s args cc nL own Ts H0 B D cl tys Z) (w1 : Cond.methodLink own index arraycopyName ∈ Ts) (w2 : Cond.native arraycopyName ∈ Ts) (w3 : Cond.static arraycopyName ∈ Ts) (w4 : Cond.initialized "java/lang/System" ∈ Ts) (t0 : Nat) {cA : ClassId} (ht : tys[t0]? = some (cA, .int)) (hr0 : r0 < N) (hg0 : g r0 = inA cA n0 f) (hr1 : r1 < N) (hg1 : g r1 = inA cA n1 f1) (hz : z = (n : Int)) (h0 : n ≤ n0) (h1 : n ≤ n1) (hn : n < 2147483648) (hf : 1 ≤ R.frames) (hq : (st.map fun v => v.category).sum + (nativeFrameWords "java/lang/System" "arraycopy" 5 + 11) ≤ R.locals) (hd : decode cc pc = .ok (.invokestatic index, 3) ∧ pc + 3 = pc2) (k : ∀ g2 : Nat → va_E, g2 r1 = inA cA n1 (va_cpy f f1 0 0 n) → (∀ r2, r2 ≠ r1 → g2 r2 = g r2) → kV p l e R s m args below meth c Q H0 B D cl nL N cells slots ad g2 lv st pc2) : kV p l e R s m args below meth c Q H0 B D cl nL N cells slots ad g lv (.int (iI z) :: .int (iI 0) :: .ref (ad r1) :: .int (iI 0) :: .ref (ad r0) :: st) pc := fun H locs ls hl hP hD hS => by
  obtain ⟨hd, rfl⟩ := hd
  have h := C.1.2.2.2.2
  have e0 : (iI 0).toNatClampNeg = 0 := iI_cl (j := 0) rfl (by omega)
  have en : (iI z).toNatClampNeg = n := iI_cl hz hn
  have hz0 : ¬ iI z < 0 := by subst hz; rw [iI_nat]; exact nI_pos (by omega)
  refine va_copyi C.1.1 C.1.2.1 (C.1.2.2.1.trans hl.1.symm) C.1.2.2.2.1 (h _ w1) (h _ w2) (h _ w3) (h _ w4) C.2.1 hP hD hS r0 r1 t0 t0 ((wl_get hr0).trans (by rw [hg0])) ((wl_get hr1).trans (by rw [hg1])) ht ht rfl (by decide) (by decide) hz0 (by rw [e0, en]; omega) (by rw [e0, en]; omega) (fun i hi => rfl) hf hq hd (fun H1 locs1 hP hD hS => ?_)
  rw [e0, en, wl_set hr1] at hP hD
  exact k _ (va_up_self _ _ _) (fun r2 h2 => va_up_ne _ _ h2) H1 locs1 ls hl hP hD hS
end VB
end
section
/-! what the start gives for good -/
abbrev nest1 : Cond := .methodLinkNest R_A 60 y_S_init R_A
abbrev nest2 : Cond := .methodLinkNest R_A 61 y_W_init R_A
abbrev nest3 : Cond := .methodLinkNest R_W 53 y_A_cellAt R_A
abbrev nest4 : Cond := .methodLinkNest R_S 57 y_A_cellAt R_A
abbrev nest5 : Cond := .methodLinkNest R_S 70 y_A_addEach R_A
/-- words of the tables that stay though they aren't good ones -/
def fW : List Cond := lw_tbl.filter (fun w => w.onTables && w.keepsFace)
def strL : List (Nat × String) := [(64, "a picture has 1 to 16 columns and 1 to 16 rows"), (195, "no such pixel"), (205, "not in this state"), (92, "what is 0, 1 or 2"), (197, "no such shelf"), (103, "no direction"), (109, "another shelf has this direction"), (115, "what is 0 to 3"), (199, "no such bin"), (201, "a mask is 0 to 255"), (172, "what is 0 or 1")]
def Zs (B : Nat) : ZT := fun U H => (va_Nw nest1 U ∧ va_Nw nest2 U ∧ va_Nw nest3 U ∧ va_Nw nest4 U ∧ va_Nw nest5 U) ∧ (va_AO "ShadowArchive$Shelf" U ∧ va_AO "ShadowArchive$Worksheet" U) ∧ (∀ w ∈ fW, va_Nw w U) ∧ (∀ q ∈ strL, ∃ a, vk_R R_A q.1 q.2 a U) ∧ vx_Zq Bundle.tN "UNASSIGNED_STACK" Bundle.steD (aB B) U H ∧ vx_Zq Bundle.tN "SUPPRESSED_SENTINEL" Bundle.listD (aB B) U H
theorem fW_p {w : Cond} (h : w ∈ fW) : w.onTables = true ∧ w.keepsFace = true := by
  have := (List.mem_filter.mp h).2
  simpa using this
theorem Zs_mov (B : Nat) : Zmov B (Zs B) := by
  refine ⟨fun s U H H1 hW hsz hk hz => ?_, fun U U' H hv hz => ?_⟩
  · obtain ⟨⟨a1, a2, a3, a4, a5⟩, ⟨b1, b2⟩, c, d, e1, e2⟩ := hz
    refine ⟨⟨va_Nw.warmM hW a1, va_Nw.warmM hW a2, va_Nw.warmM hW a3, va_Nw.warmM hW a4, va_Nw.warmM hW a5⟩, ⟨b1.moved hW.alike, b2.moved hW.alike⟩, fun w hw => ?_, fun q hq => ?_, (e1.kept hk).moved hW.alike, (e2.kept hk).moved hW.alike⟩
    · exact va_tabs (fW_p hw).1 (rfl : (s.setVm U.vm).vm = U.vm) (Cond.before_shiftedFace (State.Shifted.of_warmed hW) w (fW_p hw).2 (c w hw))
    · obtain ⟨a, h⟩ := d q hq
      exact ⟨a, vk_R.warm hW h⟩
  · obtain ⟨⟨a1, a2, a3, a4, a5⟩, ⟨b1, b2⟩, c, d, e1, e2⟩ := hz
    have hA : U.vm.Alike U'.vm := by rw [hv]; exact Vm.Alike.refl _
    refine ⟨⟨va_Nw.same rfl hv a1, va_Nw.same rfl hv a2, va_Nw.same rfl hv a3, va_Nw.same rfl hv a4, va_Nw.same rfl hv a5⟩, ⟨b1.moved hA, b2.moved hA⟩, fun w hw => va_Nw.same (fW_p hw).1 hv (c w hw), fun q hq => ?_, e1.moved hA, e2.moved hA⟩
    obtain ⟨a, h⟩ := d q hq
    exact ⟨a, vk_R.same hv.symm h⟩
theorem fW_w {args : Array Value} {U : State} {w : Cond} (h : va_Nw w U) (hw : w ∈ fW) : w.before args U = true := va_Nw.use (fW_p hw).1 h
abbrev at_iae : List Cond := vx_atS R_A 66 "java/lang/IllegalArgumentException" ["java/lang/RuntimeException", "java/lang/Exception"]
theorem at_iae_in : ∀ w ∈ at_iae, w ∈ lw_tbl := by decide +kernel
theorem at_iae_ok : ∀ w ∈ at_iae, goodWord w = true ∨ (w.onTables && w.keepsFace) = true := by decide +kernel
theorem at_iae_ot : ∀ w ∈ Cond.classLink R_A 62 "java/lang/IllegalArgumentException" :: Cond.initialized "java/lang/IllegalArgumentException" :: at_iae, vx_ot w = true := by decide +kernel
abbrev at_ioo : List Cond := vx_atS R_A 94 "java/lang/IndexOutOfBoundsException" ["java/lang/RuntimeException", "java/lang/Exception"]
theorem at_ioo_in : ∀ w ∈ at_ioo, w ∈ lw_tbl := by decide +kernel
theorem at_ioo_ok : ∀ w ∈ at_ioo, goodWord w = true ∨ (w.onTables && w.keepsFace) = true := by decide +kernel
theorem at_ioo_ot : ∀ w ∈ Cond.classLink R_A 90 "java/lang/IndexOutOfBoundsException" :: Cond.initialized "java/lang/IndexOutOfBoundsException" :: at_ioo, vx_ot w = true := by decide +kernel
abbrev at_ise : List Cond := vx_atS R_A 207 "java/lang/IllegalStateException" ["java/lang/RuntimeException", "java/lang/Exception"]
theorem at_ise_in : ∀ w ∈ at_ise, w ∈ lw_tbl := by decide +kernel
theorem at_ise_ok : ∀ w ∈ at_ise, goodWord w = true ∨ (w.onTables && w.keepsFace) = true := by decide +kernel
theorem at_ise_ot : ∀ w ∈ Cond.classLink R_A 203 "java/lang/IllegalStateException" :: Cond.initialized "java/lang/IllegalStateException" :: at_ise, vx_ot w = true := by decide +kernel
section VT
variable {p : Program} {l : Launch} {e : Env} {R : Room} {s : State} {m : MethodId} {args : Array Value} {below : List Frame} {meth : Method} {c : Code} {Q : State → Prop} {B : Nat} {D : va_G} {tys : List (ClassId × FieldType)} {cc : ByteArray} {nL N : Nat} {cells slots : Nat} {ad : Nat → Nat} {g : Nat → va_E} {lv : List (Nat × Value)} {st : List Value} {pc : Nat} {mc ms : Nat} {Qc : Array Value → State → Outcome → State → Prop} {xp : String → Prop}
/-- throw new E("text") -/
theorem v_throwS {cls text : String} {ik is ic : Nat} {names : List String} (C : Cx p m c s args cc nL R_A wG s.heap B D classes tys (Zs B)) (hl : l.stackTraces = false) (hQ : Q = vx_MQ below Qc (QX B D classes N xp ad g) args s mc ms (aB B)) (hlocks : meth.locks = false) (htab : ∀ x ∈ c.exceptionTable.toList, False)
    (hk : Cond.classLink R_A ik cls ∈ wG) (hini : Cond.initialized cls ∈ wG) (hin : ∀ w ∈ vx_atS R_A ic cls names, w ∈ lw_tbl) (hok : ∀ w ∈ vx_atS R_A ic cls names, goodWord w = true ∨ (w.onTables && w.keepsFace) = true) (hot : ∀ w ∈ Cond.classLink R_A ik cls :: Cond.initialized cls :: vx_atS R_A ic cls names, vx_ot w = true) (hcls : Bundle.fit cls = true) (hnames : ∀ n ∈ names, Bundle.fit n = true) (hstr : (is, text) ∈ strL)
    (d0 : decode cc pc = .ok (.new ik, 3)) (d3 : decode cc (pc + 3) = .ok (.dup, 1)) (d4 : decode cc (pc + 4) = .ok (.ldc is, 2)) (d6 : decode cc (pc + 6) = .ok (.invokespecial ic, 3)) (d9 : decode cc (pc + 9) = .ok (.athrow, 1))
    (hf : names.length + 3 < R.frames) (hq : (st.map fun v => v.category).sum + (13 * (names.length + 1) + 43) ≤ R.locals) (hc : cells + 1 ≤ R.cells) (hs : slots + 6 ≤ R.slots) (hc2 : cells + 1 ≤ mc) (hs2 : slots + 6 ≤ ms) (hx : xp cls) : kV p l e R s m args below meth c Q s.heap B D classes nL N cells slots ad g lv st pc := fun H locs ls hl9 hP hD hS => by
  subst hQ
  obtain ⟨-, -, hfw, hst, e1, e2⟩ := C.2.2.2.1
  obtain ⟨sa, hsa⟩ := hst (is, text) hstr
  have hts := C.1.2.2.2.2
  refine vx_throwS (A := aB B) C.1.1 C.1.2.1 hl C.1.2.2.2.1 hcls hnames (hts _ hk) (hts _ hini) hsa (fun w hw => ?_) hot e1 e2 hS (hl9.1.trans C.1.2.2.1.symm) d0 d3 d4 d6 d9 (fun x hx => (htab x hx).elim) hf hq hc hs hlocks (fun t ha hsz h3 => ⟨(), trivial, ⟨hx, hP.kept (fun k q hk => h3 q.1 (hP k q hk).lt), hD⟩, Nat.le_trans hS.1 hsz, fun q h1 h2 => (h3 q (Nat.lt_of_lt_of_le h1 hS.1)).trans (hS.2.1 q h1 h2)⟩) hS.2.2 hc2 hs2
  rcases hok w hw with h | h
  · exact hts w (List.mem_filter.mpr ⟨hin w hw, h⟩)
  · exact fW_w (hfw w (List.mem_filter.mpr ⟨hin w hw, h⟩)) (List.mem_filter.mpr ⟨hin w hw, h⟩)
end VT
end
