section
-- ===== PART A: goes FIRST, ahead of the names: the tables' words, and 'selects' of the private methods out of them =====
/-- a private method of a class that the tables say can be made, by its rows of tables_1 -/
def lw_okq (q : MethodName × Nat) : Prop := (q.1.cls ≠ "java/lang/invoke/MethodHandle" ∧ q.1.cls ≠ "java/lang/invoke/VarHandle") ∧ Cond.instantiable q.1.cls q.2 ∈ tables_1 ∧ Cond.privateMethod q.1 ∈ tables_1 ∧ Cond.instanceMethod q.1 ∈ tables_1
theorem lw_p0 : lw_okq (⟨"SignMasons$Book", "countAlike", "()I"⟩, 4) := ⟨⟨by decide +kernel, by decide +kernel⟩, List.mem_of_getElem? (i := 40) (by decide +kernel), List.mem_of_getElem? (i := 99) (by decide +kernel), List.mem_of_getElem? (i := 100) (by decide +kernel)⟩
theorem lw_p1 : lw_okq (⟨"SignMasons$Places", "alike", "(II)Z"⟩, 2) := ⟨⟨by decide +kernel, by decide +kernel⟩, List.mem_of_getElem? (i := 24) (by decide +kernel), List.mem_of_getElem? (i := 103) (by decide +kernel), List.mem_of_getElem? (i := 104) (by decide +kernel)⟩
theorem lw_p2 : lw_okq (⟨"SignMasons$Places", "sameGroup", "(II)Z"⟩, 2) := ⟨⟨by decide +kernel, by decide +kernel⟩, List.mem_of_getElem? (i := 24) (by decide +kernel), List.mem_of_getElem? (i := 113) (by decide +kernel), List.mem_of_getElem? (i := 114) (by decide +kernel)⟩
theorem lw_p3 : lw_okq (⟨"SignMasons$Book", "countThumbApart", "()I"⟩, 4) := ⟨⟨by decide +kernel, by decide +kernel⟩, List.mem_of_getElem? (i := 40) (by decide +kernel), List.mem_of_getElem? (i := 117) (by decide +kernel), List.mem_of_getElem? (i := 118) (by decide +kernel)⟩
theorem lw_p4 : lw_okq (⟨"SignMasons$Places", "distance", "(II)I"⟩, 2) := ⟨⟨by decide +kernel, by decide +kernel⟩, List.mem_of_getElem? (i := 24) (by decide +kernel), List.mem_of_getElem? (i := 124) (by decide +kernel), List.mem_of_getElem? (i := 125) (by decide +kernel)⟩
theorem lw_p5 : lw_okq (⟨"SignMasons$Places", "stepsBetween", "(II)I"⟩, 2) := ⟨⟨by decide +kernel, by decide +kernel⟩, List.mem_of_getElem? (i := 24) (by decide +kernel), List.mem_of_getElem? (i := 141) (by decide +kernel), List.mem_of_getElem? (i := 142) (by decide +kernel)⟩
theorem lw_p6 : lw_okq (⟨"SignMasons$Book", "fewestApart", "()I"⟩, 4) := ⟨⟨by decide +kernel, by decide +kernel⟩, List.mem_of_getElem? (i := 40) (by decide +kernel), List.mem_of_getElem? (i := 148) (by decide +kernel), List.mem_of_getElem? (i := 149) (by decide +kernel)⟩
theorem lw_p7 : lw_okq (⟨"SignMasons$Book", "nearestBut", "(II)I"⟩, 4) := ⟨⟨by decide +kernel, by decide +kernel⟩, List.mem_of_getElem? (i := 40) (by decide +kernel), List.mem_of_getElem? (i := 152) (by decide +kernel), List.mem_of_getElem? (i := 153) (by decide +kernel)⟩
theorem lw_p8 : lw_okq (⟨"SignMasons$Book", "signNearMost", "()I"⟩, 4) := ⟨⟨by decide +kernel, by decide +kernel⟩, List.mem_of_getElem? (i := 40) (by decide +kernel), List.mem_of_getElem? (i := 159) (by decide +kernel), List.mem_of_getElem? (i := 160) (by decide +kernel)⟩
theorem lw_p9 : lw_okq (⟨"SignMasons$Book", "countNear", "(I)I"⟩, 4) := ⟨⟨by decide +kernel, by decide +kernel⟩, List.mem_of_getElem? (i := 40) (by decide +kernel), List.mem_of_getElem? (i := 163) (by decide +kernel), List.mem_of_getElem? (i := 164) (by decide +kernel)⟩
theorem lw_p10 : lw_okq (⟨"SignMasons$Book", "countUnderstood", "(LSignMasons$Book;)I"⟩, 4) := ⟨⟨by decide +kernel, by decide +kernel⟩, List.mem_of_getElem? (i := 40) (by decide +kernel), List.mem_of_getElem? (i := 167) (by decide +kernel), List.mem_of_getElem? (i := 168) (by decide +kernel)⟩
theorem lw_p11 : lw_okq (⟨"SignMasons$Book", "meaningRead", "(I)I"⟩, 4) := ⟨⟨by decide +kernel, by decide +kernel⟩, List.mem_of_getElem? (i := 40) (by decide +kernel), List.mem_of_getElem? (i := 171) (by decide +kernel), List.mem_of_getElem? (i := 172) (by decide +kernel)⟩
theorem lw_p12 : lw_okq (⟨"SignMasons$Book", "countMisread", "(LSignMasons$Book;)I"⟩, 4) := ⟨⟨by decide +kernel, by decide +kernel⟩, List.mem_of_getElem? (i := 40) (by decide +kernel), List.mem_of_getElem? (i := 175) (by decide +kernel), List.mem_of_getElem? (i := 176) (by decide +kernel)⟩
theorem lw_p13 : lw_okq (⟨"SignMasons", "bookOf", "(I)LSignMasons$Book;"⟩, 4) := ⟨⟨by decide +kernel, by decide +kernel⟩, List.mem_of_getElem? (i := 16) (by decide +kernel), List.mem_of_getElem? (i := 183) (by decide +kernel), List.mem_of_getElem? (i := 184) (by decide +kernel)⟩
theorem lw_p14 : lw_okq (⟨"java/lang/Throwable", "fillInStackTrace", "(I)Ljava/lang/Throwable;"⟩, 6) := ⟨⟨by decide +kernel, by decide +kernel⟩, List.mem_of_getElem? (i := 228) (by decide +kernel), List.mem_of_getElem? (i := 226) (by decide +kernel), List.mem_of_getElem? (i := 227) (by decide +kernel)⟩
theorem lw_p15 : lw_okq (⟨"SignMasons", "tryLoan", "(LSignMasons$Book;ILSignMasons$Book;)Z"⟩, 4) := ⟨⟨by decide +kernel, by decide +kernel⟩, List.mem_of_getElem? (i := 16) (by decide +kernel), List.mem_of_getElem? (i := 258) (by decide +kernel), List.mem_of_getElem? (i := 259) (by decide +kernel)⟩
def lw_privs_1 : List (MethodName × Nat) := [(⟨"SignMasons$Book", "countAlike", "()I"⟩, 4), (⟨"SignMasons$Places", "alike", "(II)Z"⟩, 2), (⟨"SignMasons$Places", "sameGroup", "(II)Z"⟩, 2), (⟨"SignMasons$Book", "countThumbApart", "()I"⟩, 4), (⟨"SignMasons$Places", "distance", "(II)I"⟩, 2), (⟨"SignMasons$Places", "stepsBetween", "(II)I"⟩, 2), (⟨"SignMasons$Book", "fewestApart", "()I"⟩, 4), (⟨"SignMasons$Book", "nearestBut", "(II)I"⟩, 4), (⟨"SignMasons$Book", "signNearMost", "()I"⟩, 4), (⟨"SignMasons$Book", "countNear", "(I)I"⟩, 4), (⟨"SignMasons$Book", "countUnderstood", "(LSignMasons$Book;)I"⟩, 4), (⟨"SignMasons$Book", "meaningRead", "(I)I"⟩, 4), (⟨"SignMasons$Book", "countMisread", "(LSignMasons$Book;)I"⟩, 4), (⟨"SignMasons", "bookOf", "(I)LSignMasons$Book;"⟩, 4), (⟨"java/lang/Throwable", "fillInStackTrace", "(I)Ljava/lang/Throwable;"⟩, 6), (⟨"SignMasons", "tryLoan", "(LSignMasons$Book;ILSignMasons$Book;)Z"⟩, 4)]
theorem lw_r1 : ∀ q ∈ lw_privs_1, lw_okq q := List.forall_mem_cons.mpr ⟨lw_p0, List.forall_mem_cons.mpr ⟨lw_p1, List.forall_mem_cons.mpr ⟨lw_p2, List.forall_mem_cons.mpr ⟨lw_p3, List.forall_mem_cons.mpr ⟨lw_p4, List.forall_mem_cons.mpr ⟨lw_p5, List.forall_mem_cons.mpr ⟨lw_p6, List.forall_mem_cons.mpr ⟨lw_p7, List.forall_mem_cons.mpr ⟨lw_p8, List.forall_mem_cons.mpr ⟨lw_p9, List.forall_mem_cons.mpr ⟨lw_p10, List.forall_mem_cons.mpr ⟨lw_p11, List.forall_mem_cons.mpr ⟨lw_p12, List.forall_mem_cons.mpr ⟨lw_p13, List.forall_mem_cons.mpr ⟨lw_p14, List.forall_mem_cons.mpr ⟨lw_p15, fun _ h => absurd h List.not_mem_nil⟩⟩⟩⟩⟩⟩⟩⟩⟩⟩⟩⟩⟩⟩⟩⟩
theorem lw_p16 : lw_okq (⟨"SignMasons$Book", "hasRoomFor", "(I)Z"⟩, 4) := ⟨⟨by decide +kernel, by decide +kernel⟩, List.mem_of_getElem? (i := 40) (by decide +kernel), List.mem_of_getElem? (i := 262) (by decide +kernel), List.mem_of_getElem? (i := 263) (by decide +kernel)⟩
theorem lw_p17 : lw_okq (⟨"SignMasons$Book", "find", "(I)I"⟩, 4) := ⟨⟨by decide +kernel, by decide +kernel⟩, List.mem_of_getElem? (i := 40) (by decide +kernel), List.mem_of_getElem? (i := 266) (by decide +kernel), List.mem_of_getElem? (i := 267) (by decide +kernel)⟩
theorem lw_p18 : lw_okq (⟨"SignMasons$Book", "firstUnlike", "(I)I"⟩, 4) := ⟨⟨by decide +kernel, by decide +kernel⟩, List.mem_of_getElem? (i := 40) (by decide +kernel), List.mem_of_getElem? (i := 270) (by decide +kernel), List.mem_of_getElem? (i := 271) (by decide +kernel)⟩
theorem lw_p19 : lw_okq (⟨"SignMasons$Book", "hasAlike", "(I)Z"⟩, 4) := ⟨⟨by decide +kernel, by decide +kernel⟩, List.mem_of_getElem? (i := 40) (by decide +kernel), List.mem_of_getElem? (i := 277) (by decide +kernel), List.mem_of_getElem? (i := 278) (by decide +kernel)⟩
theorem lw_p20 : lw_okq (⟨"SignMasons$Book", "copyFrom", "(LSignMasons$Book;)V"⟩, 4) := ⟨⟨by decide +kernel, by decide +kernel⟩, List.mem_of_getElem? (i := 40) (by decide +kernel), List.mem_of_getElem? (i := 281) (by decide +kernel), List.mem_of_getElem? (i := 282) (by decide +kernel)⟩
theorem lw_p21 : lw_okq (⟨"SignMasons$Book", "append", "(II)I"⟩, 4) := ⟨⟨by decide +kernel, by decide +kernel⟩, List.mem_of_getElem? (i := 40) (by decide +kernel), List.mem_of_getElem? (i := 288) (by decide +kernel), List.mem_of_getElem? (i := 289) (by decide +kernel)⟩
theorem lw_p22 : lw_okq (⟨"SignMasons$Book", "thumbFarthest", "(I)I"⟩, 4) := ⟨⟨by decide +kernel, by decide +kernel⟩, List.mem_of_getElem? (i := 40) (by decide +kernel), List.mem_of_getElem? (i := 298) (by decide +kernel), List.mem_of_getElem? (i := 299) (by decide +kernel)⟩
theorem lw_p23 : lw_okq (⟨"SignMasons$Book", "remove", "(I)I"⟩, 4) := ⟨⟨by decide +kernel, by decide +kernel⟩, List.mem_of_getElem? (i := 40) (by decide +kernel), List.mem_of_getElem? (i := 373) (by decide +kernel), List.mem_of_getElem? (i := 374) (by decide +kernel)⟩
theorem lw_p24 : lw_okq (⟨"SignMasons$Places", "unite", "(II)V"⟩, 2) := ⟨⟨by decide +kernel, by decide +kernel⟩, List.mem_of_getElem? (i := 24) (by decide +kernel), List.mem_of_getElem? (i := 395) (by decide +kernel), List.mem_of_getElem? (i := 396) (by decide +kernel)⟩
theorem lw_p25 : lw_okq (⟨"SignMasons", "lookOf", "(II)I"⟩, 4) := ⟨⟨by decide +kernel, by decide +kernel⟩, List.mem_of_getElem? (i := 16) (by decide +kernel), List.mem_of_getElem? (i := 438) (by decide +kernel), List.mem_of_getElem? (i := 439) (by decide +kernel)⟩
theorem lw_p26 : lw_okq (⟨"SignMasons$Book", "countCommon", "(LSignMasons$Book;)I"⟩, 4) := ⟨⟨by decide +kernel, by decide +kernel⟩, List.mem_of_getElem? (i := 40) (by decide +kernel), List.mem_of_getElem? (i := 543) (by decide +kernel), List.mem_of_getElem? (i := 544) (by decide +kernel)⟩
theorem lw_p27 : lw_okq (⟨"SignMasons$Book", "countAlikeIfJoined", "(II)I"⟩, 4) := ⟨⟨by decide +kernel, by decide +kernel⟩, List.mem_of_getElem? (i := 40) (by decide +kernel), List.mem_of_getElem? (i := 565) (by decide +kernel), List.mem_of_getElem? (i := 566) (by decide +kernel)⟩
theorem lw_p28 : lw_okq (⟨"SignMasons$Places", "alikeIf", "(IIII)Z"⟩, 2) := ⟨⟨by decide +kernel, by decide +kernel⟩, List.mem_of_getElem? (i := 24) (by decide +kernel), List.mem_of_getElem? (i := 569) (by decide +kernel), List.mem_of_getElem? (i := 570) (by decide +kernel)⟩
theorem lw_p29 : lw_okq (⟨"SignMasons$Places", "sameGroupIf", "(IIII)Z"⟩, 2) := ⟨⟨by decide +kernel, by decide +kernel⟩, List.mem_of_getElem? (i := 24) (by decide +kernel), List.mem_of_getElem? (i := 573) (by decide +kernel), List.mem_of_getElem? (i := 574) (by decide +kernel)⟩
theorem lw_p30 : lw_okq (⟨"SignMasonsModel", "fail", "(I)I"⟩, 9) := ⟨⟨by decide +kernel, by decide +kernel⟩, List.mem_of_getElem? (i := 577) (by decide +kernel), List.mem_of_getElem? (i := 619) (by decide +kernel), List.mem_of_getElem? (i := 620) (by decide +kernel)⟩
theorem lw_p31 : lw_okq (⟨"SignMasonsModel", "isLodge", "(I)Z"⟩, 9) := ⟨⟨by decide +kernel, by decide +kernel⟩, List.mem_of_getElem? (i := 577) (by decide +kernel), List.mem_of_getElem? (i := 627) (by decide +kernel), List.mem_of_getElem? (i := 628) (by decide +kernel)⟩
def lw_privs_2 : List (MethodName × Nat) := [(⟨"SignMasons$Book", "hasRoomFor", "(I)Z"⟩, 4), (⟨"SignMasons$Book", "find", "(I)I"⟩, 4), (⟨"SignMasons$Book", "firstUnlike", "(I)I"⟩, 4), (⟨"SignMasons$Book", "hasAlike", "(I)Z"⟩, 4), (⟨"SignMasons$Book", "copyFrom", "(LSignMasons$Book;)V"⟩, 4), (⟨"SignMasons$Book", "append", "(II)I"⟩, 4), (⟨"SignMasons$Book", "thumbFarthest", "(I)I"⟩, 4), (⟨"SignMasons$Book", "remove", "(I)I"⟩, 4), (⟨"SignMasons$Places", "unite", "(II)V"⟩, 2), (⟨"SignMasons", "lookOf", "(II)I"⟩, 4), (⟨"SignMasons$Book", "countCommon", "(LSignMasons$Book;)I"⟩, 4), (⟨"SignMasons$Book", "countAlikeIfJoined", "(II)I"⟩, 4), (⟨"SignMasons$Places", "alikeIf", "(IIII)Z"⟩, 2), (⟨"SignMasons$Places", "sameGroupIf", "(IIII)Z"⟩, 2), (⟨"SignMasonsModel", "fail", "(I)I"⟩, 9), (⟨"SignMasonsModel", "isLodge", "(I)Z"⟩, 9)]
theorem lw_r2 : ∀ q ∈ lw_privs_2, lw_okq q := List.forall_mem_cons.mpr ⟨lw_p16, List.forall_mem_cons.mpr ⟨lw_p17, List.forall_mem_cons.mpr ⟨lw_p18, List.forall_mem_cons.mpr ⟨lw_p19, List.forall_mem_cons.mpr ⟨lw_p20, List.forall_mem_cons.mpr ⟨lw_p21, List.forall_mem_cons.mpr ⟨lw_p22, List.forall_mem_cons.mpr ⟨lw_p23, List.forall_mem_cons.mpr ⟨lw_p24, List.forall_mem_cons.mpr ⟨lw_p25, List.forall_mem_cons.mpr ⟨lw_p26, List.forall_mem_cons.mpr ⟨lw_p27, List.forall_mem_cons.mpr ⟨lw_p28, List.forall_mem_cons.mpr ⟨lw_p29, List.forall_mem_cons.mpr ⟨lw_p30, List.forall_mem_cons.mpr ⟨lw_p31, fun _ h => absurd h List.not_mem_nil⟩⟩⟩⟩⟩⟩⟩⟩⟩⟩⟩⟩⟩⟩⟩⟩
theorem lw_p32 : lw_okq (⟨"SignMasonsModel", "signOf", "(II)I"⟩, 9) := ⟨⟨by decide +kernel, by decide +kernel⟩, List.mem_of_getElem? (i := 577) (by decide +kernel), List.mem_of_getElem? (i := 640) (by decide +kernel), List.mem_of_getElem? (i := 641) (by decide +kernel)⟩
theorem lw_p33 : lw_okq (⟨"SignMasonsModel", "write", "(IIIIII)V"⟩, 9) := ⟨⟨by decide +kernel, by decide +kernel⟩, List.mem_of_getElem? (i := 577) (by decide +kernel), List.mem_of_getElem? (i := 647) (by decide +kernel), List.mem_of_getElem? (i := 648) (by decide +kernel)⟩
theorem lw_p34 : lw_okq (⟨"SignMasonsModel", "isSign", "(II)Z"⟩, 9) := ⟨⟨by decide +kernel, by decide +kernel⟩, List.mem_of_getElem? (i := 577) (by decide +kernel), List.mem_of_getElem? (i := 655) (by decide +kernel), List.mem_of_getElem? (i := 656) (by decide +kernel)⟩
theorem lw_p35 : lw_okq (⟨"SignMasonsModel", "joinNow", "(II)V"⟩, 9) := ⟨⟨by decide +kernel, by decide +kernel⟩, List.mem_of_getElem? (i := 577) (by decide +kernel), List.mem_of_getElem? (i := 670) (by decide +kernel), List.mem_of_getElem? (i := 671) (by decide +kernel)⟩
theorem lw_p36 : lw_okq (⟨"SignMasonsModel", "allGroups", "()I"⟩, 9) := ⟨⟨by decide +kernel, by decide +kernel⟩, List.mem_of_getElem? (i := 577) (by decide +kernel), List.mem_of_getElem? (i := 678) (by decide +kernel), List.mem_of_getElem? (i := 679) (by decide +kernel)⟩
theorem lw_p37 : lw_okq (⟨"SignMasonsModel", "thumbFor", "(II)I"⟩, 9) := ⟨⟨by decide +kernel, by decide +kernel⟩, List.mem_of_getElem? (i := 577) (by decide +kernel), List.mem_of_getElem? (i := 686) (by decide +kernel), List.mem_of_getElem? (i := 687) (by decide +kernel)⟩
theorem lw_p38 : lw_okq (⟨"SignMasonsModel", "far", "(IIIII)I"⟩, 9) := ⟨⟨by decide +kernel, by decide +kernel⟩, List.mem_of_getElem? (i := 577) (by decide +kernel), List.mem_of_getElem? (i := 690) (by decide +kernel), List.mem_of_getElem? (i := 691) (by decide +kernel)⟩
theorem lw_p39 : lw_okq (⟨"SignMasonsModel", "stepsOf", "(II)I"⟩, 9) := ⟨⟨by decide +kernel, by decide +kernel⟩, List.mem_of_getElem? (i := 577) (by decide +kernel), List.mem_of_getElem? (i := 694) (by decide +kernel), List.mem_of_getElem? (i := 695) (by decide +kernel)⟩
theorem lw_p40 : lw_okq (⟨"SignMasonsModel", "told", "(I)I"⟩, 9) := ⟨⟨by decide +kernel, by decide +kernel⟩, List.mem_of_getElem? (i := 577) (by decide +kernel), List.mem_of_getElem? (i := 703) (by decide +kernel), List.mem_of_getElem? (i := 704) (by decide +kernel)⟩
theorem lw_p41 : lw_okq (⟨"SignMasonsModel", "of", "(II[I)I"⟩, 9) := ⟨⟨by decide +kernel, by decide +kernel⟩, List.mem_of_getElem? (i := 577) (by decide +kernel), List.mem_of_getElem? (i := 727) (by decide +kernel), List.mem_of_getElem? (i := 728) (by decide +kernel)⟩
theorem lw_p42 : lw_okq (⟨"SignMasonsModel", "far", "(II)I"⟩, 9) := ⟨⟨by decide +kernel, by decide +kernel⟩, List.mem_of_getElem? (i := 577) (by decide +kernel), List.mem_of_getElem? (i := 751) (by decide +kernel), List.mem_of_getElem? (i := 752) (by decide +kernel)⟩
theorem lw_p43 : lw_okq (⟨"SignMasonsModel", "alike", "(I)I"⟩, 9) := ⟨⟨by decide +kernel, by decide +kernel⟩, List.mem_of_getElem? (i := 577) (by decide +kernel), List.mem_of_getElem? (i := 759) (by decide +kernel), List.mem_of_getElem? (i := 760) (by decide +kernel)⟩
theorem lw_p44 : lw_okq (⟨"SignMasonsModel", "thumbs", "(I)I"⟩, 9) := ⟨⟨by decide +kernel, by decide +kernel⟩, List.mem_of_getElem? (i := 577) (by decide +kernel), List.mem_of_getElem? (i := 767) (by decide +kernel), List.mem_of_getElem? (i := 768) (by decide +kernel)⟩
theorem lw_p45 : lw_okq (⟨"SignMasonsModel", "nearest", "(I)I"⟩, 9) := ⟨⟨by decide +kernel, by decide +kernel⟩, List.mem_of_getElem? (i := 577) (by decide +kernel), List.mem_of_getElem? (i := 775) (by decide +kernel), List.mem_of_getElem? (i := 776) (by decide +kernel)⟩
theorem lw_p46 : lw_okq (⟨"SignMasonsModel", "mistaken", "(I)I"⟩, 9) := ⟨⟨by decide +kernel, by decide +kernel⟩, List.mem_of_getElem? (i := 577) (by decide +kernel), List.mem_of_getElem? (i := 783) (by decide +kernel), List.mem_of_getElem? (i := 784) (by decide +kernel)⟩
theorem lw_p47 : lw_okq (⟨"SignMasonsModel", "reads", "(II)I"⟩, 9) := ⟨⟨by decide +kernel, by decide +kernel⟩, List.mem_of_getElem? (i := 577) (by decide +kernel), List.mem_of_getElem? (i := 791) (by decide +kernel), List.mem_of_getElem? (i := 792) (by decide +kernel)⟩
def lw_privs_3 : List (MethodName × Nat) := [(⟨"SignMasonsModel", "signOf", "(II)I"⟩, 9), (⟨"SignMasonsModel", "write", "(IIIIII)V"⟩, 9), (⟨"SignMasonsModel", "isSign", "(II)Z"⟩, 9), (⟨"SignMasonsModel", "joinNow", "(II)V"⟩, 9), (⟨"SignMasonsModel", "allGroups", "()I"⟩, 9), (⟨"SignMasonsModel", "thumbFor", "(II)I"⟩, 9), (⟨"SignMasonsModel", "far", "(IIIII)I"⟩, 9), (⟨"SignMasonsModel", "stepsOf", "(II)I"⟩, 9), (⟨"SignMasonsModel", "told", "(I)I"⟩, 9), (⟨"SignMasonsModel", "of", "(II[I)I"⟩, 9), (⟨"SignMasonsModel", "far", "(II)I"⟩, 9), (⟨"SignMasonsModel", "alike", "(I)I"⟩, 9), (⟨"SignMasonsModel", "thumbs", "(I)I"⟩, 9), (⟨"SignMasonsModel", "nearest", "(I)I"⟩, 9), (⟨"SignMasonsModel", "mistaken", "(I)I"⟩, 9), (⟨"SignMasonsModel", "reads", "(II)I"⟩, 9)]
theorem lw_r3 : ∀ q ∈ lw_privs_3, lw_okq q := List.forall_mem_cons.mpr ⟨lw_p32, List.forall_mem_cons.mpr ⟨lw_p33, List.forall_mem_cons.mpr ⟨lw_p34, List.forall_mem_cons.mpr ⟨lw_p35, List.forall_mem_cons.mpr ⟨lw_p36, List.forall_mem_cons.mpr ⟨lw_p37, List.forall_mem_cons.mpr ⟨lw_p38, List.forall_mem_cons.mpr ⟨lw_p39, List.forall_mem_cons.mpr ⟨lw_p40, List.forall_mem_cons.mpr ⟨lw_p41, List.forall_mem_cons.mpr ⟨lw_p42, List.forall_mem_cons.mpr ⟨lw_p43, List.forall_mem_cons.mpr ⟨lw_p44, List.forall_mem_cons.mpr ⟨lw_p45, List.forall_mem_cons.mpr ⟨lw_p46, List.forall_mem_cons.mpr ⟨lw_p47, fun _ h => absurd h List.not_mem_nil⟩⟩⟩⟩⟩⟩⟩⟩⟩⟩⟩⟩⟩⟩⟩⟩
theorem lw_p48 : lw_okq (⟨"SignMasonsModel", "reads", "(IIIII)I"⟩, 9) := ⟨⟨by decide +kernel, by decide +kernel⟩, List.mem_of_getElem? (i := 577) (by decide +kernel), List.mem_of_getElem? (i := 795) (by decide +kernel), List.mem_of_getElem? (i := 796) (by decide +kernel)⟩
theorem lw_p49 : lw_okq (⟨"SignMasonsModel", "readAs", "(IIZ)I"⟩, 9) := ⟨⟨by decide +kernel, by decide +kernel⟩, List.mem_of_getElem? (i := 577) (by decide +kernel), List.mem_of_getElem? (i := 807) (by decide +kernel), List.mem_of_getElem? (i := 808) (by decide +kernel)⟩
theorem lw_p50 : lw_okq (⟨"SignMasonsModel", "bestThumbOf", "(II)I"⟩, 9) := ⟨⟨by decide +kernel, by decide +kernel⟩, List.mem_of_getElem? (i := 577) (by decide +kernel), List.mem_of_getElem? (i := 823) (by decide +kernel), List.mem_of_getElem? (i := 824) (by decide +kernel)⟩
theorem lw_p51 : lw_okq (⟨"SignMasonsModel", "toBorrow", "(II)I"⟩, 9) := ⟨⟨by decide +kernel, by decide +kernel⟩, List.mem_of_getElem? (i := 577) (by decide +kernel), List.mem_of_getElem? (i := 831) (by decide +kernel), List.mem_of_getElem? (i := 832) (by decide +kernel)⟩
def lw_privs_4 : List (MethodName × Nat) := [(⟨"SignMasonsModel", "reads", "(IIIII)I"⟩, 9), (⟨"SignMasonsModel", "readAs", "(IIZ)I"⟩, 9), (⟨"SignMasonsModel", "bestThumbOf", "(II)I"⟩, 9), (⟨"SignMasonsModel", "toBorrow", "(II)I"⟩, 9)]
theorem lw_r4 : ∀ q ∈ lw_privs_4, lw_okq q := List.forall_mem_cons.mpr ⟨lw_p48, List.forall_mem_cons.mpr ⟨lw_p49, List.forall_mem_cons.mpr ⟨lw_p50, List.forall_mem_cons.mpr ⟨lw_p51, fun _ h => absurd h List.not_mem_nil⟩⟩⟩⟩
def lw_privs : List (MethodName × Nat) := lw_privs_1 ++ (lw_privs_2 ++ (lw_privs_3 ++ (lw_privs_4)))
def lw_tbl : List Cond := k2_sels lw_privs ++ tables_1
theorem lw_privs_ok : ∀ q ∈ lw_privs, lw_okq q := by
  show ∀ q ∈ lw_privs_1 ++ (lw_privs_2 ++ (lw_privs_3 ++ (lw_privs_4))), lw_okq q
  exact List.forall_mem_append.mpr ⟨lw_r1, List.forall_mem_append.mpr ⟨lw_r2, List.forall_mem_append.mpr ⟨lw_r3, lw_r4⟩⟩⟩
/-- the streams that the claim lets the run draw from -/
abbrev lw_cs : List Choice := [Jvm.Choice.named "NaN.bits"]
theorem lw_bits : nanBits ∈ lw_cs := by first | decide | exact List.mem_cons_self | simp [lw_cs, nanBits]
/-! ===== BEGIN words of one list among another's, by their places ===== -/
theorem goodIn_r {big : List Cond} (ws : List Cond) (ps : List Nat) (hp : ws = ps.filterMap (fun i => big[i]?)) (h : ws.all goodWord = true) : GoodIn big ws := by
  intro w hw
  have h1 := List.all_eq_true.mp h w hw
  rw [hp] at hw
  obtain ⟨i, -, hi⟩ := List.mem_filterMap.mp hw
  have hm : w ∈ big := by first | exact List.mem_of_getElem? hi | exact List.getElem?_mem hi
  exact ⟨hm, good_of_word h1⟩
theorem goodIn_app {big a b : List Cond} (ha : GoodIn big a) (hb : GoodIn big b) : GoodIn big (a ++ b) := fun w h => (List.mem_append.mp h).elim (ha w) (hb w)
theorem goodIn_ca {big a b : List Cond} {c : Cond} (ha : GoodIn big (c :: a)) (hb : GoodIn big b) : GoodIn big (c :: (a ++ b)) := fun w h => (List.mem_cons.mp h).elim (fun e => ha w (List.mem_cons.mpr (Or.inl e))) (fun h => (List.mem_append.mp h).elim (fun h => ha w (List.mem_cons.mpr (Or.inr h))) (hb w))
theorem goodIn_sub {big ws : List Cond} (hm : ∀ w ∈ ws, w ∈ big) (h : ws.all goodWord = true) : GoodIn big ws := fun w hw => ⟨hm w hw, good_of_word (List.all_eq_true.mp h w hw)⟩
/-! ===== END ===== -/

/-! ===== BEGIN exceptions that leave a method, and their catching by the caller (launches without stack traces) ===== -/
section VXA
/-! The laws vx_back, vx_callV, vx_callS, vx_callSW, vx_throw0, vx_throwS follow proofs of the library, with one case more: JvmDerived/Free/Laws.lean (Back.of_free), Shelf42/LK1.lean (callV, callS), Shelf/KitTraced.lean (throwNew0V, throwNewS). -/
/-- where a method has thrown q: the class by its name, the cell, what was written, the world -/
def vx_T (XC : String → State → State → Prop) (st : State) (q : Addr) (t : State) (mc ms : Nat) (free : Addr → Prop) : Prop :=
  ∃ (E : String) (ce : Cell) (L : List Loc), XC E st t ∧ t.heap[q]? = some ce ∧ ce.vm = .none ∧ st.vm.findClass E = some ce.cls ∧ st.WarmedH t.vm ∧ st.sameButNew ({ t with vm := st.vm } : State) L mc ms ∧ ∀ z ∈ L, free z.base
def vx_Q (Qc : Array Value → State → Outcome → State → Prop) (XC : String → State → State → Prop) (mc ms : Nat) (free : Addr → Prop) : Array Value → State → Outcome → State → Prop := fun a st o t =>
  (Qc a st o t ∧ ∃ L, FrameEnd st o t L mc ms ∧ ∀ q ∈ L, free q.base) ∨ ∃ q, o = .threw q ∧ vx_T XC st q t mc ms free
/-- a callee that returns or throws -/
def vx_Met (l : Launch) (y : MethodName) (ws : List Cond) (rm : Room) (Pc : Array Value → State → Prop) (Qc : Array Value → State → Outcome → State → Prop) (XC : String → State → State → Prop) (mc ms : Nat) (free : Addr → Prop) : Prop :=
  MetFree l y (headSpec ws rm) Pc (fun _ _ _ _ _ => True) (vx_Q Qc XC mc ms free)
def vx_Post (XC : String → State → State → Prop) (mc ms : Nat) (free : Addr → Prop) : Pt → Array Value → Addr → Pt → Prop := fun A a q B =>
  ∃ (g : JFrame) (mk : MethodId) (t : State) (L : List Loc) (E : String) (ce : Cell), B.U.heap = t.heap ∧ B.U.vm = t.vm ∧ XC E (A.U.calling g mk a) t ∧ t.heap[q]? = some ce ∧ ce.vm = .none ∧ A.U.vm.findClass E = some ce.cls ∧ B.locs = A.locs ++ L ∧ (∀ z ∈ L, free z.base) ∧ B.cells = A.cells + mc ∧ B.slots = A.slots + ms
def vx_Back (l : Launch) (R : Room) (p : Program) (e : Env) (below : List Frame) (s : State) (sargs : Array Value) (y : MethodName) (len W9 : Nat)
    (Pre : Pt → Array Value → Prop) (Post : Pt → Array Value → Option Value → Pt → Prop) (PostX : Pt → Array Value → Addr → Pt → Prop) : Prop :=
  ∀ (m : MethodId) (meth : Method) (c : Code) (A : Pt) (g : JFrame) (ig : Instr) (mk : MethodId) (a : Array Value),
    Stand p l e R s m sargs below meth c A.U A.locs A.cells A.slots → g.method = m → g.locals.size = c.maxLocals → decode c.code g.pc = .ok (ig, len) →
    2 * g.monitorRoom + (g.stack.map fun v => v.category).sum ≤ W9 → A.U.methodNamed? y = some mk → Pre A a →
    (∃ (v : Option Value) (B : Pt), Stand p l e R s m sargs below meth c B.U B.locs B.cells B.slots ∧ Post A a v B ∧
      Steps p.tables e below (doInvoke e (A.U.setTop g) [] mk a).1 (B.U.setTop { g with pc := g.pc + len, stack := v.toList ++ g.stack })) ∨
    (∃ (q : Addr) (B : Pt), Stand p l e R s m sargs below meth c B.U B.locs B.cells B.slots ∧ PostX A a q B ∧
      Steps p.tables e below (doInvoke e (A.U.setTop g) [] mk a).1 ((B.U.setTop g).pushFrame (.throwing q)))
section Payer
variable {l : Launch} {R : Room} {p : Program} {e : Env} {below : List Frame} {s : State} {sargs : Array Value} {y : MethodName} {len W9 : Nat}
theorem vx_back {ws : List Cond} {rm : Room} {Pc : Array Value → State → Prop} {Qc : Array Value → State → Outcome → State → Prop} {XC : String → State → State → Prop} {mc ms : Nat} {free : Addr → Prop} {bytes : ByteArray} {maxL : Nat} {ret : Option FieldType}
    (hM : vx_Met l y ws rm Pc Qc XC mc ms free) (hblind : FrameBlind Pc) (hrc : rm.cells = mc) (hrs : rm.slots = ms)
    (hframes : rm.frames + 1 ≤ R.frames) (hlocals : W9 + (maxL + 11) + rm.locals ≤ R.locals)
    (hws : ∀ w ∈ ws, ∀ a' U, s.WarmedH U.vm → w.before a' U = true) (hcode : Cond.code y bytes maxL ret ∈ ws) (hinit : ∀ a' U, s.WarmedH U.vm → (Cond.initialized y.cls).before a' U = true) :
    vx_Back l R p e below s sargs y len W9 (PreOf R mc ms Pc) (PostOf Qc mc ms free) (vx_Post XC mc ms free) := by
  intro m meth c A g ig mk a X hg hsize hdg hW hn hp
  have h1 : (headSpec ws rm).pre.before a A.U = true := atoms_intro fun w hw => hws w hw _ _ X.warmed
  have h2 : (Cond.code y bytes maxL ret).before a A.U = true := hws _ hcode _ _ X.warmed
  have h3 : (Cond.initialized y.cls).before a A.U = true := hinit _ _ X.warmed
  have h4 : A.cells + (headSpec ws rm).room.cells ≤ R.cells := by rw [show (headSpec ws rm).room.cells = mc from hrc]; exact hp.1
  have h5 : A.slots + (headSpec ws rm).room.slots ≤ R.slots := by rw [show (headSpec ws rm).room.slots = ms from hrs]; exact hp.2.1
  have hPc : Pc a (A.U.calling g mk a) := hblind _ _ _ _ hp.2.2
  obtain ⟨U, Ls, c0, s0⟩ := A
  dsimp only [Pt.U, Pt.locs, Pt.cells, Pt.slots] at h1 h2 h3 h4 h5 X hn hPc ⊢
  obtain ⟨methY, cY, hmY, hcY, -, hlY, -, -, -, -⟩ := Cond.code_spec hn h2
  obtain ⟨kY, hkY, -⟩ := className_of_methodNamed hn
  have hinitY : kY.init = .initialized := Cond.initialized_spec (findClass_of_methodNamed hn) hkY h3
  have h : At U g.method c below := by rw [hg]; exact X.here
  have hlocals9 : W9 + (maxL + 11) + (headSpec ws rm).room.locals ≤ R.locals := hlocals
  have happ : (headSpec ws rm).appliesLoose y e.platform (U.calling g mk a) = true :=
    Spec.appliesLoose_calling (g := g) h hdg hn hkY hinitY
      (X.room_calling (g := g) (R' := (headSpec ws rm).room) hsize hmY hcY hframes (by rw [hlY]; omega) h4 h5) h1
  obtain ⟨mid, hmid⟩ := h.above
  have hfr : (U.setTop g).frames = (.java g :: mid) ++ below := by rw [State.frames_setTop' g h.top, hmid]; rfl
  obtain ⟨o, s₂, hsteps, -, hend, hq⟩ := Steps.callFree hM p X.admits X.cas X.clock (acts := []) hfr happ hPc trivial
  have hq' : vx_Q Qc XC mc ms free a (U.calling g mk a) o s₂ := hq
  rw [State.frames_setTop' g h.top] at hend
  obtain ⟨g₀, hg0⟩ := Option.isSome_iff_exists.mp h.top
  obtain ⟨r, hr⟩ := State.topJava?_eq_some.mp hg0
  have hr' : (({ U with heap := s₂.heap, slotsUsed := s₂.slotsUsed } : State).setVm s₂.vm).frames = .java g₀ :: r := hr
  rcases hq' with ⟨hqc, L, hfe, hL⟩ | ⟨q, rfl, E, ce, L, hx, hce, hcv, hcl, hW₂, hsm, hL⟩
  · obtain ⟨⟨v, rfl⟩, hW₂, e2, q2, q3, q4, q5, q6⟩ := id hfe
    have e3 : s₂ = ({ (U.calling g mk a).setFrames s₂.frames with heap := s₂.heap, slotsUsed := s₂.slotsUsed } : State).setVm s₂.vm := by
      have : s₂ = ({ s₂ with vm := (U.calling g mk a).vm } : State).setVm s₂.vm := rfl
      rw [e2] at this
      exact this
    obtain ⟨c₂, i₂, len₂, hc₂, hd₂, hf₂⟩ := hend
    have hW' : U.WarmedH s₂.vm := hW₂
    have hcc : c₂ = c := by
      have h1 : s₂.code? g.method = U.code? g.method := by
        rw [State.code?_eq, State.code?_eq, hW'.alike.method?]
      exact Option.some.inj (hc₂.symm.trans (h1.trans h.code))
    subst hcc
    have hlen : len₂ = len := by rw [hdg] at hd₂; cases hd₂; rfl
    subst hlen
    have hs₂ : s₂ = (({ U with heap := s₂.heap, slotsUsed := s₂.slotsUsed } : State).setVm s₂.vm).setTop { g with pc := g.pc + len₂, stack := v.toList ++ g.stack } := by
      refine e3.trans ?_
      rw [hf₂, State.calling_eq h.top, State.setFrames_setFrames, State.setTop_of_frames _ hr', hr]
      rfl
    have hsame : U.sameButNew ({ U with heap := s₂.heap, slotsUsed := s₂.slotsUsed } : State) L mc ms := by
      refine ⟨?_, q2, q3, q4, q5, q6⟩
      obtain ⟨t, ht, -⟩ := State.frames_cons hr
      show ({ U with heap := s₂.heap, slotsUsed := s₂.slotsUsed } : State) = { U.setFrames U.frames with heap := s₂.heap, slotsUsed := s₂.slotsUsed }
      rw [State.setFrames_self ht]
    subst hg
    refine Or.inl ⟨v, ⟨(({ U with heap := s₂.heap, slotsUsed := s₂.slotsUsed } : State).setVm s₂.vm), Ls ++ L, c0 + mc, s0 + ms⟩,
      ⟨X.admits, X.cas, X.clock, X.frames, X.room, X.hears, X.method, X.code, (X.here.setHeapUsed s₂.heap s₂.slotsUsed).setVm hW'.alike, X.tail, State.WarmedH.trans X.warmed hW', X.limits, X.bytes, X.same.trans (hsame.setVm s.vm)⟩,
      ⟨g, mk, s₂, L, rfl, rfl, hqc, rfl, hL, rfl, rfl⟩, ?_⟩
    show Steps p.tables e below _ ((({ U with heap := s₂.heap, slotsUsed := s₂.slotsUsed } : State).setVm s₂.vm).setTop { g with pc := g.pc + len₂, stack := v.toList ++ g.stack })
    rw [← hs₂]
    exact hsteps
  · obtain ⟨e2, q2, q3, q4, q5, q6⟩ := id hsm
    have e3 : s₂ = ({ (U.calling g mk a).setFrames s₂.frames with heap := s₂.heap, slotsUsed := s₂.slotsUsed } : State).setVm s₂.vm := by
      have : s₂ = ({ s₂ with vm := (U.calling g mk a).vm } : State).setVm s₂.vm := rfl
      rw [e2] at this
      exact this
    have hf₂ : s₂.frames = .throwing q :: .java g :: U.frames.tail := hend
    have hW' : U.WarmedH s₂.vm := hW₂
    have hs₂ : s₂ = ((({ U with heap := s₂.heap, slotsUsed := s₂.slotsUsed } : State).setVm s₂.vm).setTop g).pushFrame (.throwing q) := by
      refine e3.trans ?_
      rw [hf₂, State.calling_eq h.top, State.setFrames_setFrames, State.pushFrame, State.frames_setTop _ hr', State.setTop_of_frames _ hr', State.setFrames_setFrames, hr]
      rfl
    have hsame : U.sameButNew ({ U with heap := s₂.heap, slotsUsed := s₂.slotsUsed } : State) L mc ms := by
      refine ⟨?_, q2, q3, q4, q5, q6⟩
      obtain ⟨t, ht, -⟩ := State.frames_cons hr
      show ({ U with heap := s₂.heap, slotsUsed := s₂.slotsUsed } : State) = { U.setFrames U.frames with heap := s₂.heap, slotsUsed := s₂.slotsUsed }
      rw [State.setFrames_self ht]
    subst hg
    refine Or.inr ⟨q, ⟨(({ U with heap := s₂.heap, slotsUsed := s₂.slotsUsed } : State).setVm s₂.vm), Ls ++ L, c0 + mc, s0 + ms⟩,
      ⟨X.admits, X.cas, X.clock, X.frames, X.room, X.hears, X.method, X.code, (X.here.setHeapUsed s₂.heap s₂.slotsUsed).setVm hW'.alike, X.tail, State.WarmedH.trans X.warmed hW', X.limits, X.bytes, X.same.trans (hsame.setVm s.vm)⟩,
      ⟨g, mk, s₂, L, E, ce, rfl, rfl, hx, hce, hcv, hcl, rfl, hL, rfl, rfl⟩, ?_⟩
    show Steps p.tables e below _ (((({ U with heap := s₂.heap, slotsUsed := s₂.slotsUsed } : State).setVm s₂.vm).setTop g).pushFrame (.throwing q))
    rw [← hs₂]
    exact hsteps
end Payer
section Calls
variable {p : Program} {l : Launch} {e : Env} {R : Room} {s : State} {m : MethodId} {args : Array Value} {below : List Frame} {meth : Method} {c : Code} {T : State} {locs : List Loc} {cells slots : Nat}
theorem vx_callV (X : Stand p l e R s m args below meth c T locs cells slots) (hexec : p.tables.exec = Jvm.exec) {own C : String} {index : Nat} {y : MethodName} {bytes : ByteArray} {maxL : Nat} {ret : Option FieldType}
    (hown : s.vm.findClass own = some m.cls) (hlink : (Cond.methodLink own index y).before args s = true) (hinst : (Cond.instanceMethod y).before args s = true) (hsel : (Cond.selects C y y).before args s = true)
    (hcode : (Cond.code y bytes maxL ret).before args s = true) (hy : y.cls ≠ "java/lang/invoke/MethodHandle" ∧ y.cls ≠ "java/lang/invoke/VarHandle")
    {W9 : Nat} {Pre : Pt → Array Value → Prop} {Post : Pt → Array Value → Option Value → Pt → Prop} {PostX : Pt → Array Value → Addr → Pt → Prop} (hK : vx_Back l R p e below s args y 3 W9 Pre Post PostX)
    {b : Addr} {cellB : Cell} (hcell : T.heap[b]? = some cellB) (hobj : cellB.vm.isStatics = false) (hcls : s.vm.findClass C = some cellB.cls)
    {g : JFrame} (hg : g.method = m) (hsize : g.locals.size = c.maxLocals) {argsL rest : List Value} (hlen : ∀ sig, parseMethodDescriptor y.desc = some sig → argsL.length = sig.parameters.length)
    (hstack : g.stack = argsL.reverse ++ .ref b :: rest) (hW : 2 * g.monitorRoom + (rest.map fun v => v.category).sum ≤ W9) (hdg : decode c.code g.pc = .ok (.invokevirtual index, 3))
    (hpre : ∀ vm₁, s.WarmedH vm₁ → Pre ⟨T.setVm vm₁, locs, cells, slots⟩ (Value.ref b :: argsL).toArray) :
    (∃ (v : Option Value) (vm₁ : Vm) (B : Pt), s.WarmedH vm₁ ∧ Stand p l e R s m args below meth c B.U B.locs B.cells B.slots ∧ Post ⟨T.setVm vm₁, locs, cells, slots⟩ (Value.ref b :: argsL).toArray v B ∧
      ∀ target, Steps p.tables e below (B.U.setTop { g with pc := g.pc + 3, stack := v.toList ++ rest }) target → Steps p.tables e below (T.setTop g) target) ∨
    (∃ (q : Addr) (vm₁ : Vm) (B : Pt), s.WarmedH vm₁ ∧ Stand p l e R s m args below meth c B.U B.locs B.cells B.slots ∧ PostX ⟨T.setVm vm₁, locs, cells, slots⟩ (Value.ref b :: argsL).toArray q B ∧
      Steps p.tables e below (T.setTop g) ((B.U.setTop { g with stack := rest }).pushFrame (.throwing q))) := by
  obtain ⟨mk, methM, hnamed, hmethM, hstM, habM⟩ := Cond.instanceMethod_spec hinst
  obtain ⟨methM', cM, hmethM', -, -, -, -, -, -, hsigM⟩ := Cond.code_spec hnamed hcode
  cases hmethM.symm.trans hmethM'
  obtain ⟨c2, r2, m2, q1, q2, q3, q4, kP, hkP, hkPi⟩ := Cond.selects_spec hsel
  cases hcls.symm.trans q1
  cases (State.methodFound?_of_named hnamed hy).symm.trans q2
  cases hnamed.symm.trans q3
  have hselP : selectMethod e.platform s.vm cellB.cls mk = .method mk := by rw [Launch.admits_selectMethod X.admits]; exact q4
  obtain ⟨vm₁, X₁, hstep₁⟩ := X.invokevirtual hexec hown hlink hnamed hmethM hstM hkP hkPi hy (a := b) (cell := cellB) hcell
    (fun z h => by rw [h] at hobj; cases hobj) hselP hmethM habM hkP hkPi (g := g) hg (argsL := argsL) (rest := rest) (hlen _ hsigM) hstack hdg
  rcases hK m meth c ⟨T.setVm vm₁, locs, cells, slots⟩ { g with stack := rest } (.invokevirtual index) mk (Value.ref b :: argsL).toArray X₁ hg hsize hdg hW (X₁.named hnamed) (hpre vm₁ X₁.warmed) with ⟨v, B, X', hpost, hsteps⟩ | ⟨q, B, X', hpost, hsteps⟩
  · exact Or.inl ⟨v, vm₁, B, X₁.warmed, X', hpost, fun target h => hstep₁ _ fun acts => by rw [doInvoke_state]; exact hsteps.trans h⟩
  · exact Or.inr ⟨q, vm₁, B, X₁.warmed, X', hpost, hstep₁ _ fun acts => by rw [doInvoke_state]; exact hsteps⟩
theorem vx_callS (X : Stand p l e R s m args below meth c T locs cells slots) (hexec : p.tables.exec = Jvm.exec) {own : String} {index : Nat} {y : MethodName} {bytes : ByteArray} {maxL : Nat} {ret : Option FieldType}
    (hown : s.vm.findClass own = some m.cls) (hlink : (Cond.methodLink own index y).before args s = true) (hstat : (Cond.static y).before args s = true) (hinit : (Cond.initialized y.cls).before args s = true)
    (hcode : (Cond.code y bytes maxL ret).before args s = true) (hy : y.cls ≠ "java/lang/invoke/MethodHandle" ∧ y.cls ≠ "java/lang/invoke/VarHandle")
    {W9 : Nat} {Pre : Pt → Array Value → Prop} {Post : Pt → Array Value → Option Value → Pt → Prop} {PostX : Pt → Array Value → Addr → Pt → Prop} (hK : vx_Back l R p e below s args y 3 W9 Pre Post PostX)
    {g : JFrame} (hg : g.method = m) (hsize : g.locals.size = c.maxLocals) {argsL rest : List Value} (hlen : ∀ sig, parseMethodDescriptor y.desc = some sig → argsL.length = sig.parameters.length)
    (hstack : g.stack = argsL.reverse ++ rest) (hW : 2 * g.monitorRoom + (rest.map fun v => v.category).sum ≤ W9) (hdg : decode c.code g.pc = .ok (.invokestatic index, 3))
    (hpre : ∀ vm₁, s.WarmedH vm₁ → Pre ⟨T.setVm vm₁, locs, cells, slots⟩ argsL.toArray) :
    (∃ (v : Option Value) (vm₁ : Vm) (B : Pt), s.WarmedH vm₁ ∧ Stand p l e R s m args below meth c B.U B.locs B.cells B.slots ∧ Post ⟨T.setVm vm₁, locs, cells, slots⟩ argsL.toArray v B ∧
      ∀ target, Steps p.tables e below (B.U.setTop { g with pc := g.pc + 3, stack := v.toList ++ rest }) target → Steps p.tables e below (T.setTop g) target) ∨
    (∃ (q : Addr) (vm₁ : Vm) (B : Pt), s.WarmedH vm₁ ∧ Stand p l e R s m args below meth c B.U B.locs B.cells B.slots ∧ PostX ⟨T.setVm vm₁, locs, cells, slots⟩ argsL.toArray q B ∧
      Steps p.tables e below (T.setTop g) ((B.U.setTop { g with stack := rest }).pushFrame (.throwing q))) := by
  obtain ⟨mk, hnamed⟩ := Cond.code_named hcode
  obtain ⟨methM, cM, hmethM, -, -, -, -, -, -, hsigM⟩ := Cond.code_spec hnamed hcode
  have hstatic : methM.isStatic = true := Cond.static_spec hnamed hmethM hstat
  obtain ⟨kP, hkP, -⟩ := className_of_methodNamed hnamed
  have hinitP : kP.init = .initialized := Cond.initialized_spec (findClass_of_methodNamed hnamed) hkP hinit
  obtain ⟨vm₁, X₁, hstep₁⟩ := X.invokestatic hexec hown hlink hnamed hmethM hstatic hkP hinitP hy (g := g) hg (argsL := argsL) (rest := rest) (hlen _ hsigM) hstack hdg
  rcases hK m meth c ⟨T.setVm vm₁, locs, cells, slots⟩ { g with stack := rest } (.invokestatic index) mk argsL.toArray X₁ hg hsize hdg hW (X₁.named hnamed) (hpre vm₁ X₁.warmed) with ⟨v, B, X', hpost, hsteps⟩ | ⟨q, B, X', hpost, hsteps⟩
  · exact Or.inl ⟨v, vm₁, B, X₁.warmed, X', hpost, fun target h => hstep₁ _ fun acts => by rw [doInvoke_state]; exact hsteps.trans h⟩
  · exact Or.inr ⟨q, vm₁, B, X₁.warmed, X', hpost, hstep₁ _ fun acts => by rw [doInvoke_state]; exact hsteps⟩
end Calls
theorem vx_cls {s : State} {T : State} {vm₁ : Vm} {E : String} {k : ClassId} (hW : s.WarmedH vm₁) (h : (T.setVm vm₁).vm.findClass E = some k) : s.vm.findClass E = some k := by
  have h1 : vm₁.findClass E = some k := h
  rw [hW.alike.findClass] at h1
  exact h1
/-- the method's frame g, with q thrown over it -/
def vx_W (p : Program) (l : Launch) (e : Env) (R : Room) (s : State) (m : MethodId) (args : Array Value) (below : List Frame) (meth : Method) (c : Code) (H : Heap) (locs : List Loc) (cells slots : Nat) (Q : State → Prop) (g : JFrame) (q : Addr) : Prop :=
  ∀ T : State, T.heap = H → Stand p l e R s m args below meth c T locs cells slots → ∃ t, Steps p.tables e below ((T.setTop g).pushFrame (.throwing q)) t ∧ Q t
def vx_Run (p : Program) (l : Launch) (e : Env) (R : Room) (s : State) (m : MethodId) (args : Array Value) (below : List Frame) (meth : Method) (c : Code) (H : Heap) (locs : List Loc) (cells slots mc ms : Nat) (g : JFrame) (rest : List Value) (Qa : State → Outcome → State → Prop) (XC : String → State → State → Prop) (free : Addr → Prop) : Prop :=
  ∀ T : State, T.heap = H → Stand p l e R s m args below meth c T locs cells slots →
    (∃ (v : Option Value) (st₀ t T' : State) (L : List Loc), st₀.heap = H ∧ Stand p l e R s m args below meth c T' (locs ++ L) (cells + mc) (slots + ms) ∧ (∀ q ∈ L, free q.base) ∧ T'.heap = t.heap ∧ T'.vm = t.vm ∧ Qa st₀ (.returned v) t ∧
      Goes p e below T g T' { g with pc := g.pc + 3, stack := v.toList ++ rest }) ∨
    (∃ (q : Addr) (st₀ t T' : State) (L : List Loc) (E : String) (ce : Cell), st₀.heap = H ∧ Stand p l e R s m args below meth c T' (locs ++ L) (cells + mc) (slots + ms) ∧ (∀ z ∈ L, free z.base) ∧ T'.heap = t.heap ∧ T'.vm = t.vm ∧ XC E st₀ t ∧ t.heap[q]? = some ce ∧ ce.vm = .none ∧ s.vm.findClass E = some ce.cls ∧
      Steps p.tables e below (T.setTop g) ((T'.setTop { g with stack := rest }).pushFrame (.throwing q)))
def vx_X {S : Type} (px : S → Prop) (B : String → S → State → Prop) (A : Nat → Prop) : String → State → State → Prop := fun E st t => ∃ u : S, px u ∧ B E u t ∧ va_F A st t
section Runs
variable {p : Program} {l : Launch} {e : Env} {R : Room} {s : State} {m : MethodId} {args : Array Value} {below : List Frame} {meth : Method} {c : Code} {H : Heap} {locs : List Loc} {cells slots : Nat}
variable {y : MethodName} {bytes cc : ByteArray} {maxL nL mc ms n index : Nat} {ret : Option FieldType} {ws : List Cond} {rm : Room} {Pc : Array Value → State → Prop} {Qc : Array Value → State → Outcome → State → Prop} {XC : String → State → State → Prop} {free : Addr → Prop} {Ts : List Cond} {own C : String} {b : Addr} {As rest : List Value} {g : JFrame}
theorem vx_callBack (cb : CallB R s args own index y bytes maxL ret ws rm mc ms n) (hM : vx_Met l y ws rm Pc Qc XC mc ms free) (hbl : FrameBlind Pc) : vx_Back l R p e below s args y 3 8 (PreOf R mc ms Pc) (PostOf Qc mc ms free) (vx_Post XC mc ms free) := by
  obtain ⟨hrc, hrs, hfr, hlo, hws, hcw, -, hini, -⟩ := cb
  exact vx_back (bytes := bytes) (maxL := maxL) (ret := ret) hM hbl hrc hrs hfr hlo hws hcw (fun a' U hW => word_at hW (Or.inl (by first | rfl | simp [Cond.onTables, Cond.keeps, Cond.steady])) hini)
theorem vx_runV (S : CallFix p m c cc nL s args Ts own) (hM : vx_Met l y ws rm Pc Qc XC mc ms free) (cw : CallW R s args own C index y bytes maxL ret ws rm mc ms n) (hp : PreV s H C b Pc As)
    (hg : g.method = m) (hn : As.length = n) (hsize : g.locals.size = nL) (hstack : g.stack = As.reverse ++ .ref b :: rest) (hW : 2 * g.monitorRoom + (rest.map fun v => v.category).sum ≤ 8) (hdg : decode cc g.pc = .ok (.invokevirtual index, 3)) (hf : cells + mc ≤ R.cells ∧ slots + ms ≤ R.slots) :
    vx_Run p l e R s m args below meth c H locs cells slots mc ms g rest (Qc (Value.ref b :: As).toArray) XC free := by
  have hK : vx_Back l R p e below s args y 3 8 (PreOf R mc ms Pc) (PostOf Qc mc ms free) (vx_Post XC mc ms free) := vx_callBack cw.1 hM hp.1
  obtain ⟨⟨-, -, -, -, -, -, hcode, -, hy, hlen, hl⟩, hin, hse⟩ := cw
  obtain ⟨hx, hb, hml, ho, -⟩ := S
  obtain ⟨-, ⟨cellB, hcB, hoB, hclB⟩, hPc⟩ := hp
  intro T hT X
  rcases vx_callV X hx (C := C) (bytes := bytes) (maxL := maxL) (ret := ret) ho hl hin hse hcode hy hK (by rw [hT]; exact hcB) hoB hclB hg (hsize.trans hml.symm) (argsL := As) (rest := rest) (fun sig h => hn.trans (hlen sig h)) hstack hW (by rw [hb]; exact hdg)
    (fun vm₁ hW₁ => ⟨hf.1, hf.2, hPc (T.setVm vm₁) hT hW₁⟩) with ⟨v, vm₁, ⟨U', l2, c2, s2⟩, hW₁, X', ⟨g', mk, t, L, e1, e2, hq, h1, hL, h2, h3⟩, st⟩ | ⟨q, vm₁, ⟨U', l2, c2, s2⟩, hW₁, X', ⟨g', mk, t, L, E, ce, e1, e2, hq, hce, hcv, hcl, h1, hL, h2, h3⟩, st⟩
  · dsimp only [Pt.U, Pt.locs, Pt.cells, Pt.slots] at X' e1 e2 h1 h2 h3 st
    subst h1; subst h2; subst h3
    exact Or.inl ⟨v, (T.setVm vm₁).calling g' mk (Value.ref b :: As).toArray, t, U', L, hT, X', hL, e1, e2, hq, st⟩
  · dsimp only [Pt.U, Pt.locs, Pt.cells, Pt.slots] at X' e1 e2 h1 h2 h3 st hcl
    subst h1; subst h2; subst h3
    exact Or.inr ⟨q, (T.setVm vm₁).calling g' mk (Value.ref b :: As).toArray, t, U', L, E, ce, hT, X', hL, e1, e2, hq, hce, hcv, vx_cls hW₁ hcl, st⟩
theorem vx_runS (S : CallFix p m c cc nL s args Ts own) (hM : vx_Met l y ws rm Pc Qc XC mc ms free) (cw : CallB R s args own index y bytes maxL ret ws rm mc ms n ∧ (Cond.static y).before args s = true) (hp : PreS s H Pc As)
    (hg : g.method = m) (hn : As.length = n) (hsize : g.locals.size = nL) (hstack : g.stack = As.reverse ++ rest) (hW : 2 * g.monitorRoom + (rest.map fun v => v.category).sum ≤ 8) (hdg : decode cc g.pc = .ok (.invokestatic index, 3)) (hf : cells + mc ≤ R.cells ∧ slots + ms ≤ R.slots) :
    vx_Run p l e R s m args below meth c H locs cells slots mc ms g rest (Qc As.toArray) XC free := by
  have hK : vx_Back l R p e below s args y 3 8 (PreOf R mc ms Pc) (PostOf Qc mc ms free) (vx_Post XC mc ms free) := vx_callBack cw.1 hM hp.1
  obtain ⟨⟨-, -, -, -, -, -, hcode, hini, hy, hlen, hl⟩, hstt⟩ := cw
  obtain ⟨hx, hb, hml, ho, -⟩ := S
  intro T hT X
  rcases vx_callS X hx (bytes := bytes) (maxL := maxL) (ret := ret) ho hl hstt hini hcode hy hK hg (hsize.trans hml.symm) (argsL := As) (rest := rest) (fun sig h => hn.trans (hlen sig h)) hstack hW (by rw [hb]; exact hdg)
    (fun vm₁ hW₁ => ⟨hf.1, hf.2, hp.2 (T.setVm vm₁) hT hW₁⟩) with ⟨v, vm₁, ⟨U', l2, c2, s2⟩, hW₁, X', ⟨g', mk, t, L, e1, e2, hq, h1, hL, h2, h3⟩, st⟩ | ⟨q, vm₁, ⟨U', l2, c2, s2⟩, hW₁, X', ⟨g', mk, t, L, E, ce, e1, e2, hq, hce, hcv, hcl, h1, hL, h2, h3⟩, st⟩
  · dsimp only [Pt.U, Pt.locs, Pt.cells, Pt.slots] at X' e1 e2 h1 h2 h3 st
    subst h1; subst h2; subst h3
    exact Or.inl ⟨v, (T.setVm vm₁).calling g' mk As.toArray, t, U', L, hT, X', hL, e1, e2, hq, st⟩
  · dsimp only [Pt.U, Pt.locs, Pt.cells, Pt.slots] at X' e1 e2 h1 h2 h3 st hcl
    subst h1; subst h2; subst h3
    exact Or.inr ⟨q, (T.setVm vm₁).calling g' mk As.toArray, t, U', L, E, ce, hT, X', hL, e1, e2, hq, hce, hcv, vx_cls hW₁ hcl, st⟩
end Runs
section Rows
variable {p : Program} {l : Launch} {e : Env} {R : Room} {s : State} {m : MethodId} {args : Array Value} {below : List Frame} {meth : Method} {c : Code} {H : Heap} {locs : List Loc} {cells slots : Nat} {Q : State → Prop}
variable {mc ms : Nat} {free : Addr → Prop} {A0 A1 : Nat → Prop} {H0 : Heap} {a : Array Value} {pc : Nat} {ls : Array Slot} {st0 rest : List Value}
theorem vx_keep {st₀ t T' : State} {L : List Loc} (h0 : st₀.heap = H) (e1 : T'.heap = t.heap) (hS : va_S A0 H0 H locs) (hA : ∀ q, q < H.size → A1 q → A0 q) (hf : ∀ q, free q → A0 q) (hL : ∀ q ∈ L, free q.base) (hF : va_F A1 st₀ t) :
    H.size ≤ T'.heap.size ∧ (∀ q : Nat, q < H.size → ¬ A1 q → T'.heap[q]? = H[q]?) ∧ va_S A0 H0 T'.heap (locs ++ L) := by
  obtain ⟨hz, hk⟩ := hF
  rw [h0] at hz hk
  exact ⟨by rw [e1]; exact hz, fun q h1 h2 => by rw [e1]; exact hk q h1 h2,
    ⟨Nat.le_trans hS.1 (by rw [e1]; exact hz), fun q h1 h2 => by rw [e1, hk q (Nat.lt_of_lt_of_le h1 hS.1) (fun z => h2 (hA q (Nat.lt_of_lt_of_le h1 hS.1) z))]; exact hS.2.1 q h1 h2, fun q hq => by
      rcases List.mem_append.mp hq with h | h
      · exact hS.2.2 q h
      · exact hf _ (hL q h)⟩⟩
theorem vx_calli {S SX : Type} {post : Int32 → S → Prop} {px : SX → Prop} {B : S → State → Prop} {BX : String → SX → State → Prop} {AX : Nat → Prop} (hr : vx_Run p l e R s m args below meth c H locs cells slots mc ms (F0 m pc ls st0) rest (va_Qi post B A1 a) (vx_X px BX AX) free) (hS : va_S A0 H0 H locs) (hA : ∀ q, q < H.size → A1 q → A0 q) (hf : ∀ q, free q → A0 q) (hAX : ∀ q, q < H.size → AX q → A0 q)
    (kx : ∀ (E : String) (ce : Cell) (q9 : Addr) (u : SX) (t : State) (H1 : Heap) (locs1 : List Loc), t.heap = H1 → s.vm.Alike t.vm → px u → BX E u t → H.size ≤ H1.size → (∀ q : Nat, q < H.size → ¬ AX q → H1[q]? = H[q]?) → va_S A0 H0 H1 locs1 → H1[q9]? = some ce → ce.vm = .none → s.vm.findClass E = some ce.cls → vx_W p l e R s m args below meth c H1 locs1 (cells + mc) (slots + ms) Q (F0 m pc ls rest) q9)
    (kk : ∀ (r : Int32) (u : S) (t : State) (H1 : Heap) (locs1 : List Loc), t.heap = H1 → s.vm.Alike t.vm → post r u → B u t → H.size ≤ H1.size → (∀ q : Nat, q < H.size → ¬ A1 q → H1[q]? = H[q]?) → va_S A0 H0 H1 locs1 → W p l e R s m args below meth c H1 locs1 (cells + mc) (slots + ms) Q (F0 m (pc + 3) ls (.int r :: rest))) : W p l e R s m args below meth c H locs cells slots Q (F0 m pc ls st0) := by
  intro T hT X
  rcases hr T hT X with ⟨v, st₀, t, T', L, h0, X', hL, e1, e2, ⟨⟨r, u, hv, hp, hb⟩, hF⟩, st⟩ | ⟨q, st₀, t, T', L, E, ce, h0, X', hL, e1, e2, ⟨u, hp, hb, hF⟩, hce, hcv, hcl, st⟩
  · cases hv
    obtain ⟨k1, k2, k3⟩ := vx_keep h0 e1 hS hA hf hL hF
    obtain ⟨t2, a1, b1⟩ := kk r u t T'.heap (locs ++ L) e1.symm (by rw [← e2]; exact X'.warmed.alike) hp hb k1 k2 k3 T' rfl X'
    exact ⟨t2, st t2 a1, b1⟩
  · obtain ⟨k1, k2, k3⟩ := vx_keep h0 e1 hS hAX hf hL hF
    obtain ⟨t2, a1, b1⟩ := kx E ce q u t T'.heap (locs ++ L) e1.symm (by rw [← e2]; exact X'.warmed.alike) hp hb k1 k2 k3 (by rw [e1]; exact hce) hcv hcl T' rfl X'
    exact ⟨t2, st.trans a1, b1⟩
theorem vx_calll {S SX : Type} {post : Int64 → S → Prop} {px : SX → Prop} {B : S → State → Prop} {BX : String → SX → State → Prop} {AX : Nat → Prop} (hr : vx_Run p l e R s m args below meth c H locs cells slots mc ms (F0 m pc ls st0) rest (va_Ql post B A1 a) (vx_X px BX AX) free) (hS : va_S A0 H0 H locs) (hA : ∀ q, q < H.size → A1 q → A0 q) (hf : ∀ q, free q → A0 q) (hAX : ∀ q, q < H.size → AX q → A0 q)
    (kx : ∀ (E : String) (ce : Cell) (q9 : Addr) (u : SX) (t : State) (H1 : Heap) (locs1 : List Loc), t.heap = H1 → s.vm.Alike t.vm → px u → BX E u t → H.size ≤ H1.size → (∀ q : Nat, q < H.size → ¬ AX q → H1[q]? = H[q]?) → va_S A0 H0 H1 locs1 → H1[q9]? = some ce → ce.vm = .none → s.vm.findClass E = some ce.cls → vx_W p l e R s m args below meth c H1 locs1 (cells + mc) (slots + ms) Q (F0 m pc ls rest) q9)
    (kk : ∀ (r : Int64) (u : S) (t : State) (H1 : Heap) (locs1 : List Loc), t.heap = H1 → s.vm.Alike t.vm → post r u → B u t → H.size ≤ H1.size → (∀ q : Nat, q < H.size → ¬ A1 q → H1[q]? = H[q]?) → va_S A0 H0 H1 locs1 → W p l e R s m args below meth c H1 locs1 (cells + mc) (slots + ms) Q (F0 m (pc + 3) ls (.long r :: rest))) : W p l e R s m args below meth c H locs cells slots Q (F0 m pc ls st0) := by
  intro T hT X
  rcases hr T hT X with ⟨v, st₀, t, T', L, h0, X', hL, e1, e2, ⟨⟨r, u, hv, hp, hb⟩, hF⟩, st⟩ | ⟨q, st₀, t, T', L, E, ce, h0, X', hL, e1, e2, ⟨u, hp, hb, hF⟩, hce, hcv, hcl, st⟩
  · cases hv
    obtain ⟨k1, k2, k3⟩ := vx_keep h0 e1 hS hA hf hL hF
    obtain ⟨t2, a1, b1⟩ := kk r u t T'.heap (locs ++ L) e1.symm (by rw [← e2]; exact X'.warmed.alike) hp hb k1 k2 k3 T' rfl X'
    exact ⟨t2, st t2 a1, b1⟩
  · obtain ⟨k1, k2, k3⟩ := vx_keep h0 e1 hS hAX hf hL hF
    obtain ⟨t2, a1, b1⟩ := kx E ce q u t T'.heap (locs ++ L) e1.symm (by rw [← e2]; exact X'.warmed.alike) hp hb k1 k2 k3 (by rw [e1]; exact hce) hcv hcl T' rfl X'
    exact ⟨t2, st.trans a1, b1⟩
theorem vx_callf {S SX : Type} {post : UInt32 → S → Prop} {px : SX → Prop} {B : S → State → Prop} {BX : String → SX → State → Prop} {AX : Nat → Prop} (hr : vx_Run p l e R s m args below meth c H locs cells slots mc ms (F0 m pc ls st0) rest (va_Qf post B A1 a) (vx_X px BX AX) free) (hS : va_S A0 H0 H locs) (hA : ∀ q, q < H.size → A1 q → A0 q) (hf : ∀ q, free q → A0 q) (hAX : ∀ q, q < H.size → AX q → A0 q)
    (kx : ∀ (E : String) (ce : Cell) (q9 : Addr) (u : SX) (t : State) (H1 : Heap) (locs1 : List Loc), t.heap = H1 → s.vm.Alike t.vm → px u → BX E u t → H.size ≤ H1.size → (∀ q : Nat, q < H.size → ¬ AX q → H1[q]? = H[q]?) → va_S A0 H0 H1 locs1 → H1[q9]? = some ce → ce.vm = .none → s.vm.findClass E = some ce.cls → vx_W p l e R s m args below meth c H1 locs1 (cells + mc) (slots + ms) Q (F0 m pc ls rest) q9)
    (kk : ∀ (r : UInt32) (u : S) (t : State) (H1 : Heap) (locs1 : List Loc), t.heap = H1 → s.vm.Alike t.vm → post r u → B u t → H.size ≤ H1.size → (∀ q : Nat, q < H.size → ¬ A1 q → H1[q]? = H[q]?) → va_S A0 H0 H1 locs1 → W p l e R s m args below meth c H1 locs1 (cells + mc) (slots + ms) Q (F0 m (pc + 3) ls (.float r :: rest))) : W p l e R s m args below meth c H locs cells slots Q (F0 m pc ls st0) := by
  intro T hT X
  rcases hr T hT X with ⟨v, st₀, t, T', L, h0, X', hL, e1, e2, ⟨⟨r, u, hv, hp, hb⟩, hF⟩, st⟩ | ⟨q, st₀, t, T', L, E, ce, h0, X', hL, e1, e2, ⟨u, hp, hb, hF⟩, hce, hcv, hcl, st⟩
  · cases hv
    obtain ⟨k1, k2, k3⟩ := vx_keep h0 e1 hS hA hf hL hF
    obtain ⟨t2, a1, b1⟩ := kk r u t T'.heap (locs ++ L) e1.symm (by rw [← e2]; exact X'.warmed.alike) hp hb k1 k2 k3 T' rfl X'
    exact ⟨t2, st t2 a1, b1⟩
  · obtain ⟨k1, k2, k3⟩ := vx_keep h0 e1 hS hAX hf hL hF
    obtain ⟨t2, a1, b1⟩ := kx E ce q u t T'.heap (locs ++ L) e1.symm (by rw [← e2]; exact X'.warmed.alike) hp hb k1 k2 k3 (by rw [e1]; exact hce) hcv hcl T' rfl X'
    exact ⟨t2, st.trans a1, b1⟩
theorem vx_calld {S SX : Type} {post : UInt64 → S → Prop} {px : SX → Prop} {B : S → State → Prop} {BX : String → SX → State → Prop} {AX : Nat → Prop} (hr : vx_Run p l e R s m args below meth c H locs cells slots mc ms (F0 m pc ls st0) rest (va_Qd post B A1 a) (vx_X px BX AX) free) (hS : va_S A0 H0 H locs) (hA : ∀ q, q < H.size → A1 q → A0 q) (hf : ∀ q, free q → A0 q) (hAX : ∀ q, q < H.size → AX q → A0 q)
    (kx : ∀ (E : String) (ce : Cell) (q9 : Addr) (u : SX) (t : State) (H1 : Heap) (locs1 : List Loc), t.heap = H1 → s.vm.Alike t.vm → px u → BX E u t → H.size ≤ H1.size → (∀ q : Nat, q < H.size → ¬ AX q → H1[q]? = H[q]?) → va_S A0 H0 H1 locs1 → H1[q9]? = some ce → ce.vm = .none → s.vm.findClass E = some ce.cls → vx_W p l e R s m args below meth c H1 locs1 (cells + mc) (slots + ms) Q (F0 m pc ls rest) q9)
    (kk : ∀ (r : UInt64) (u : S) (t : State) (H1 : Heap) (locs1 : List Loc), t.heap = H1 → s.vm.Alike t.vm → post r u → B u t → H.size ≤ H1.size → (∀ q : Nat, q < H.size → ¬ A1 q → H1[q]? = H[q]?) → va_S A0 H0 H1 locs1 → W p l e R s m args below meth c H1 locs1 (cells + mc) (slots + ms) Q (F0 m (pc + 3) ls (.double r :: rest))) : W p l e R s m args below meth c H locs cells slots Q (F0 m pc ls st0) := by
  intro T hT X
  rcases hr T hT X with ⟨v, st₀, t, T', L, h0, X', hL, e1, e2, ⟨⟨r, u, hv, hp, hb⟩, hF⟩, st⟩ | ⟨q, st₀, t, T', L, E, ce, h0, X', hL, e1, e2, ⟨u, hp, hb, hF⟩, hce, hcv, hcl, st⟩
  · cases hv
    obtain ⟨k1, k2, k3⟩ := vx_keep h0 e1 hS hA hf hL hF
    obtain ⟨t2, a1, b1⟩ := kk r u t T'.heap (locs ++ L) e1.symm (by rw [← e2]; exact X'.warmed.alike) hp hb k1 k2 k3 T' rfl X'
    exact ⟨t2, st t2 a1, b1⟩
  · obtain ⟨k1, k2, k3⟩ := vx_keep h0 e1 hS hAX hf hL hF
    obtain ⟨t2, a1, b1⟩ := kx E ce q u t T'.heap (locs ++ L) e1.symm (by rw [← e2]; exact X'.warmed.alike) hp hb k1 k2 k3 (by rw [e1]; exact hce) hcv hcl T' rfl X'
    exact ⟨t2, st.trans a1, b1⟩
theorem vx_callv {S SX : Type} {post : S → Prop} {px : SX → Prop} {B : S → State → Prop} {BX : String → SX → State → Prop} {AX : Nat → Prop} (hr : vx_Run p l e R s m args below meth c H locs cells slots mc ms (F0 m pc ls st0) rest (va_Qv post B A1 a) (vx_X px BX AX) free) (hS : va_S A0 H0 H locs) (hA : ∀ q, q < H.size → A1 q → A0 q) (hf : ∀ q, free q → A0 q) (hAX : ∀ q, q < H.size → AX q → A0 q)
    (kx : ∀ (E : String) (ce : Cell) (q9 : Addr) (u : SX) (t : State) (H1 : Heap) (locs1 : List Loc), t.heap = H1 → s.vm.Alike t.vm → px u → BX E u t → H.size ≤ H1.size → (∀ q : Nat, q < H.size → ¬ AX q → H1[q]? = H[q]?) → va_S A0 H0 H1 locs1 → H1[q9]? = some ce → ce.vm = .none → s.vm.findClass E = some ce.cls → vx_W p l e R s m args below meth c H1 locs1 (cells + mc) (slots + ms) Q (F0 m pc ls rest) q9)
    (kk : ∀ (u : S) (t : State) (H1 : Heap) (locs1 : List Loc), t.heap = H1 → s.vm.Alike t.vm → post u → B u t → H.size ≤ H1.size → (∀ q : Nat, q < H.size → ¬ A1 q → H1[q]? = H[q]?) → va_S A0 H0 H1 locs1 → W p l e R s m args below meth c H1 locs1 (cells + mc) (slots + ms) Q (F0 m (pc + 3) ls (rest))) : W p l e R s m args below meth c H locs cells slots Q (F0 m pc ls st0) := by
  intro T hT X
  rcases hr T hT X with ⟨v, st₀, t, T', L, h0, X', hL, e1, e2, ⟨⟨u, hv, hp, hb⟩, hF⟩, st⟩ | ⟨q, st₀, t, T', L, E, ce, h0, X', hL, e1, e2, ⟨u, hp, hb, hF⟩, hce, hcv, hcl, st⟩
  · cases hv
    obtain ⟨k1, k2, k3⟩ := vx_keep h0 e1 hS hA hf hL hF
    obtain ⟨t2, a1, b1⟩ := kk u t T'.heap (locs ++ L) e1.symm (by rw [← e2]; exact X'.warmed.alike) hp hb k1 k2 k3 T' rfl X'
    exact ⟨t2, st t2 a1, b1⟩
  · obtain ⟨k1, k2, k3⟩ := vx_keep h0 e1 hS hAX hf hL hF
    obtain ⟨t2, a1, b1⟩ := kx E ce q u t T'.heap (locs ++ L) e1.symm (by rw [← e2]; exact X'.warmed.alike) hp hb k1 k2 k3 (by rw [e1]; exact hce) hcv hcl T' rfl X'
    exact ⟨t2, st.trans a1, b1⟩
/-- caught by the row x of this method's table; the rows ahead don't take it -/
theorem vx_catch {own name : String} {E : String} {ce : Cell} {q : Addr} (hown : s.vm.findClass own = some m.cls) (pre : List ExceptionTableEntry) (x : ExceptionTableEntry) (suf : List ExceptionTableEntry) (hsplit : c.exceptionTable.toList = pre ++ x :: suf)
    (hpass : ∀ z ∈ pre, covers z pc = false ∨ (z.catchType ≠ 0 ∧ ∃ nm : String, (Cond.classLink own z.catchType nm).before args s = true ∧ va_Nc E nm s)) (hx : covers x pc = true) (h0 : x.catchType ≠ 0)
    (hlink : (Cond.classLink own x.catchType name).before args s = true) (hcast : (Cond.castable E name).before args s = true) (hcell : H[q]? = some ce) (hv : ce.vm = .none) (hcl : s.vm.findClass E = some ce.cls)
    (kk : W p l e R s m args below meth c H locs cells slots Q (F0 m x.handlerPc ls [.ref q])) : vx_W p l e R s m args below meth c H locs cells slots Q (F0 m pc ls rest) q := by
  intro T hT X
  have hpl : e.platform.magicAccessors = ({} : Platform).magicAccessors := by rw [X.admits.platform]
  obtain ⟨c3, c4, hc3, hc4, hasg⟩ := Cond.castable_spec hcast
  cases Option.some.inj (hc3.symm.trans hcl)
  obtain ⟨c5, hc5, hcl5⟩ := Cond.classLink_spec hown hlink e.platform hpl
  cases Option.some.inj (hc4.symm.trans hc5)
  obtain ⟨vm', X', st⟩ := X.thenCaughtThrough q (g := F0 m pc ls rest) rfl (Steps.refl _) (by rw [hT]; exact hcell) (by rw [hv]; rfl) (by obtain ⟨k9, h9, -⟩ := Vm.findClass_spec hcl; exact ⟨k9, h9⟩) pre x suf hsplit
    (fun z hz => by
      rcases hpass z hz with h | ⟨hz0, nm, hl1, hn1⟩
      · exact Or.inl h
      · obtain ⟨c6, hc6, hcl6⟩ := Cond.classLink_spec hown hl1 e.platform hpl
        obtain ⟨a8, b8, h1, h2, h3⟩ := hn1
        cases Option.some.inj (h1.symm.trans hcl)
        cases Option.some.inj (h2.symm.trans hc6)
        exact Or.inr ⟨hz0, _, hcl6, h3⟩) hx (Or.inr ⟨h0, c4, hcl5, hasg⟩)
  obtain ⟨t, a1, b1⟩ := kk (T.setVm vm') hT X'
  exact ⟨t, st.trans a1, b1⟩
end Rows
section Ends
variable {p : Program} {l : Launch} {e : Env} {R : Room} {s : State} {m : MethodId} {args : Array Value} {below : List Frame} {meth : Method} {c : Code} {H : Heap} {locs : List Loc} {cells slots : Nat} {Q : State → Prop}
variable {mc ms : Nat} {free : Addr → Prop} {A0 A1 : Nat → Prop} {H0 : Heap} {a : Array Value} {ls : Array Slot} {st0 rest : List Value}
variable {Qc : Array Value → State → Outcome → State → Prop} {XC : String → State → State → Prop}
/-- what a body that may throw owes at its end -/
def vx_MQ (below : List Frame) (Qc : Array Value → State → Outcome → State → Prop) (XC : String → State → State → Prop) (a : Array Value) (s : State) (mc ms : Nat) (free : Addr → Prop) : State → Prop := fun t =>
  ∃ o, t.status = .running ∧ Ended t below o ∧ vx_Q Qc XC mc ms free a s o t
theorem vx_ret {g : JFrame} {mc ms : Nat} (k : W p l e R s m args below meth c H locs cells slots (MQ below Qc args s mc ms free) g) : W p l e R s m args below meth c H locs cells slots (vx_MQ below Qc XC args s mc ms free) g := by
  intro T hT X
  obtain ⟨t, a1, o, b1, b2, b3, b4⟩ := k T hT X
  exact ⟨t, a1, o, b1, b2, Or.inl ⟨b3, b4⟩⟩
/-- not caught here: it goes on to the caller -/
theorem vx_widen {g : JFrame} {q : Addr} {k n : Nat} (h1 : cells ≤ k) (h2 : slots ≤ n) (kk : vx_W p l e R s m args below meth c H locs k n Q g q) : vx_W p l e R s m args below meth c H locs cells slots Q g q := fun T hT X => kk T hT (stand_widen X h1 h2)
theorem vx_out {pc : Nat} {E : String} {ce : Cell} {q : Addr} {mc ms : Nat} (hout : ∀ x ∈ c.exceptionTable.toList, covers x pc = false) (hlocks : meth.locks = false) (hcell : H[q]? = some ce) (hv : ce.vm = .none) (hcl : s.vm.findClass E = some ce.cls)
    (hx : ∀ t : State, t.heap = H → s.vm.Alike t.vm → XC E s t) (hf : ∀ z ∈ locs, free z.base) (hc : cells ≤ mc) (hs : slots ≤ ms) :
    vx_W p l e R s m args below meth c H locs cells slots (vx_MQ below Qc XC args s mc ms free) (F0 m pc ls rest) q := by
  intro T hT X
  obtain ⟨st1, hrun, hend, hW, hsm⟩ := X.leaveThrown q (g := F0 m pc ls rest) rfl rfl rfl hout hlocks
  have hcell9 : (T.setFrames (.throwing q :: below)).heap[q]? = some ce := by
    show T.heap[q]? = some ce
    rw [hT]; exact hcell
  exact ⟨_, st1, .threw q, hrun, hend, Or.inr ⟨q, rfl, E, ce, locs, hx _ hT hW.alike, hcell9, hv, hcl, hW, hsm.mono hc hs, hf⟩⟩
theorem vx_frame {U : State} {k n : Nat} (h : s.sameButNew ({ U with vm := s.vm } : State) locs k n) : s.heap.size ≤ U.heap.size ∧ ∀ q : Nat, q < s.heap.size → (∀ z ∈ locs, z.base ≠ q) → U.heap[q]? = s.heap[q]? := by
  obtain ⟨-, h2, -, -, -, h6⟩ := h
  refine ⟨h2, fun q hq hz => ?_⟩
  obtain ⟨c9, e1, e2, e3, e4⟩ := h6 q _ (Array.getElem?_eq_getElem hq)
  have hs : c9.slots = (s.heap[q]).slots := Array.ext_getElem? fun i => e4 i fun hm => hz _ hm rfl
  have h9 : c9 = s.heap[q] := by
    rw [hs] at e2
    exact e2
  have e5 : U.heap[q]? = some c9 := e1
  rw [e5, h9, Array.getElem?_eq_getElem hq]
/-- the words of a throw but the four that speak of the heap -/
def vx_no (w : Cond) : Bool := decide (w ≠ .isRef (.static Bundle.tN "UNASSIGNED_STACK" Bundle.steD)) && decide (w ≠ .isRef (.static Bundle.tN "SUPPRESSED_SENTINEL" Bundle.listD)) && decide (w ≠ .laysStatic Bundle.tN "UNASSIGNED_STACK" Bundle.steD) && decide (w ≠ .laysStatic Bundle.tN "SUPPRESSED_SENTINEL" Bundle.listD)
def vx_at0 (own : String) (ic : Nat) (X : String) (names : List String) : List Cond := (Bundle.ownAtoms0 own ic X names).filter vx_no
def vx_atS (own : String) (ic : Nat) (X : String) (names : List String) : List Cond := (Bundle.ownAtoms own ic X names).filter vx_no
/-- a word that the tables alone decide, or a good one -/
def vx_ot (w : Cond) : Bool := w.onTables || goodWord w
theorem vx_ot_at {args a' : Array Value} {s U : State} {w : Cond} (hW : s.WarmedH U.vm) (hvm : s.vm = U.vm) (hg : vx_ot w = true) (h : w.before args s = true) : w.before a' U = true := by
  simp only [vx_ot, Bool.or_eq_true] at hg
  rcases hg with hg | hg
  · exact va_tabs hg hvm h
  · exact word_at hW (good_of_word hg) h
/-- a list's words: the good ones out of the method's own list, the others by premises of their own -/
theorem vx_hat {args : Array Value} {s : State} {L B : List Cond} (h1 : ∀ w ∈ L.filter goodWord, w.before args s = true) (h2 : ∀ w ∈ L.filter (fun w => !goodWord w), w ∈ B) (h3 : ∀ w ∈ B, w.before args s = true) : ∀ w ∈ L, w.before args s = true := by
  intro w hw
  by_cases g : goodWord w = true
  · exact h1 w (List.mem_filter.mpr ⟨hw, g⟩)
  · refine h3 w (h2 w (List.mem_filter.mpr ⟨hw, ?_⟩))
    show (!goodWord w) = true
    cases hgw : goodWord w
    · rfl
    · exact absurd hgw g
theorem vx_c {args : Array Value} {s : State} {w : Cond} {B : List Cond} (h : w.before args s = true) (t : ∀ w ∈ B, w.before args s = true) : ∀ w' ∈ w :: B, w'.before args s = true := fun w' h' => (List.mem_cons.mp h').elim (fun e => by rw [e]; exact h) (t w')
theorem vx_n {args : Array Value} {s : State} : ∀ w ∈ ([] : List Cond), w.before args s = true := fun _ h => nomatch h
theorem vx_own {args : Array Value} {s : State} {L : List Cond} (h1 : ∀ w ∈ L.filter vx_no, w.before args s = true)
    (hU : (Cond.isRef (.static Bundle.tN "UNASSIGNED_STACK" Bundle.steD)).before args s = true) (hN : (Cond.isRef (.static Bundle.tN "SUPPRESSED_SENTINEL" Bundle.listD)).before args s = true)
    (lU : (Cond.laysStatic Bundle.tN "UNASSIGNED_STACK" Bundle.steD).before args s = true) (lN : (Cond.laysStatic Bundle.tN "SUPPRESSED_SENTINEL" Bundle.listD).before args s = true) : ∀ w ∈ L, w.before args s = true := by
  intro w hw
  by_cases e1 : w = .isRef (.static Bundle.tN "UNASSIGNED_STACK" Bundle.steD)
  · rw [e1]; exact hU
  · by_cases e2 : w = .isRef (.static Bundle.tN "SUPPRESSED_SENTINEL" Bundle.listD)
    · rw [e2]; exact hN
    · by_cases e3 : w = .laysStatic Bundle.tN "UNASSIGNED_STACK" Bundle.steD
      · rw [e3]; exact lU
      · by_cases e4 : w = .laysStatic Bundle.tN "SUPPRESSED_SENTINEL" Bundle.listD
        · rw [e4]; exact lN
        · exact h1 w (List.mem_filter.mpr ⟨hw, by unfold vx_no; rw [decide_eq_true e1, decide_eq_true e2, decide_eq_true e3, decide_eq_true e4]; rfl⟩)
/-- where a static field lies, its class's statics cell in H -/
def vx_L (C n d : String) (A : Nat → Prop) (U : State) (H : Heap) : Prop := ∃ (c : ClassId) (k : Class) (i : Nat) (f : Field) (a : Nat) (cell : Cell), U.vm.findClass C = some c ∧ U.fieldFound? C n d = some (c, k, i, f) ∧ f.isStatic = true ∧ k.statics = some a ∧ H[a]? = some cell ∧ cell.vm.isStatics = true ∧ cell.cls = c ∧ f.slot < cell.slots.size ∧ k.staticTypes[f.slot]? = some f.type ∧ ¬ A a
theorem vx_L.moved {C n d : String} {A : Nat → Prop} {u U : State} {H : Heap} (hvm : u.vm.Alike U.vm) (h : vx_L C n d A u H) : vx_L C n d A U H := by
  obtain ⟨c, k, i, f, a, cell, h1, h2, h3, h4, h5, h6, h7, h8, h9, h10⟩ := h
  obtain ⟨k', hi', he⟩ := State.fieldFound?_setVm hvm h2
  exact ⟨c, k', i, f, a, cell, by rw [hvm.findClass]; exact h1, hi', h3, by rw [he]; exact h4, h5, h6, h7, h8, by rw [he]; exact h9, h10⟩
theorem vx_L.kept {C n d : String} {A : Nat → Prop} {U : State} {H H1 : Heap} (h : vx_L C n d A U H) (hq : ∀ a : Nat, a < H.size → ¬ A a → H1[a]? = H[a]?) : vx_L C n d A U H1 := by
  obtain ⟨c, k, i, f, a, cell, h1, h2, h3, h4, h5, h6, h7, h8, h9, h10⟩ := h
  exact ⟨c, k, i, f, a, cell, h1, h2, h3, h4, by rw [hq a (Array.getElem?_eq_some_iff.mp h5).1 h10]; exact h5, h6, h7, h8, h9, h10⟩
theorem vx_L.narrow {C n d : String} {A B : Nat → Prop} {U : State} {H : Heap} (h : vx_L C n d A U H) (hAB : ∀ q, B q → A q) : vx_L C n d B U H := by
  obtain ⟨c, k, i, f, a, cell, h1, h2, h3, h4, h5, h6, h7, h8, h9, h10⟩ := h
  exact ⟨c, k, i, f, a, cell, h1, h2, h3, h4, h5, h6, h7, h8, h9, fun z => h10 (hAB _ z)⟩
theorem vx_L.word {C n d : String} {A : Nat → Prop} {s : State} {args : Array Value} (h : vx_L C n d A s s.heap) : (Cond.laysStatic C n d).before args s = true := by
  obtain ⟨c, k, i, f, a, cell, h1, h2, h3, h4, h5, h6, h7, h8, h9, -⟩ := h
  show (Cond.laysStatic C n d).holds args s none s [] = true
  exact Cond.laysStatic_of h1 h2 h3 h4 h5 h6 h7 h8 h9
/-- .. and what it holds: null or some reference -/
def vx_Zq (C n d : String) (A : Nat → Prop) (U : State) (H : Heap) : Prop := va_Zq C n d A U H ∧ vx_L C n d A U H
theorem vx_Zq.moved {C n d : String} {A : Nat → Prop} {u U : State} {H : Heap} (hvm : u.vm.Alike U.vm) (h : vx_Zq C n d A u H) : vx_Zq C n d A U H := ⟨va_Zq.moved hvm h.1, vx_L.moved hvm h.2⟩
theorem vx_Zq.kept {C n d : String} {A : Nat → Prop} {U : State} {H H1 : Heap} (h : vx_Zq C n d A U H) (hq : ∀ a : Nat, a < H.size → ¬ A a → H1[a]? = H[a]?) : vx_Zq C n d A U H1 := ⟨va_Zq.kept h.1 hq, vx_L.kept h.2 hq⟩
theorem vx_Zq.narrow {C n d : String} {A B : Nat → Prop} {U : State} {H : Heap} (h : vx_Zq C n d A U H) (hAB : ∀ q, B q → A q) : vx_Zq C n d B U H := ⟨va_Zq.narrow h.1 hAB, vx_L.narrow h.2 hAB⟩
theorem vx_Zqof {args : Array Value} {s : State} {C n d : String} {A : Nat → Prop} (hl : (Cond.laysStatic C n d).before args s = true) (hini : (Cond.initialized C).before args s = true) (h : (Cond.isRef (.static C n d)).before args s = true) (hA : ∀ a : Nat, a < s.heap.size → ¬ A a) : vx_Zq C n d A s s.heap := by
  refine ⟨va_Zqof hl hini h hA, ?_⟩
  obtain ⟨c, k, i, f, a, cell, h1, h2, h3, h4, h5, h6, h7, h8, h9⟩ := Cond.laysStatic_spec hl
  exact ⟨c, k, i, f, a, cell, h1, h2, h3, h4, h5, h6, h7, h8, h9, hA a (Array.getElem?_eq_some_iff.mp h5).1⟩
theorem vx_isRef {C n d : String} {v : Value} {A : Nat → Prop} {s : State} {args : Array Value} (h : va_Z C n d v A s s.heap) (hv : v.isRef = true) : (Cond.isRef (.static C n d)).before args s = true := by
  obtain ⟨cf, kf, fi, f, a, cell, h1, h2, h3, h4, h5, h6, h7, -⟩ := h
  have he : (Term.static C n d).eval args s none [] s = some v := by
    simp [Term.eval, State.fieldNamed?, h1, h2, h4, h5, h6, h7]
  simp only [Cond.before, Cond.holds, Cond.value, he]
  cases v <;> simp_all [Value.isRef]
theorem vx_isRefq {C n d : String} {A : Nat → Prop} {s : State} {args : Array Value} (h : va_Zq C n d A s s.heap) : (Cond.isRef (.static C n d)).before args s = true := by
  rcases h with h | ⟨t, h⟩
  · exact vx_isRef h rfl
  · exact vx_isRef h rfl
/-- the same frame, seen from here: as if the method were called anew in this heap -/
theorem vx_rebase {T : State} (X : Stand p l e R s m args below meth c T locs cells slots) {R' : Room} (hf : R'.frames ≤ R.frames) (hl : R'.locals ≤ R.locals) (hc : cells + R'.cells ≤ R.cells) (hs : slots + R'.slots ≤ R.slots) :
    Stand p l e R' ((T.setVm s.vm).setFrames (.invoking m args :: below)) m args below meth c T [] 0 0 := by
  have htop : (T.setVm s.vm).topJava?.isSome := X.here.top
  have hF : ((T.setVm s.vm).setFrames (.invoking m args :: below)).frames = .invoking m args :: below := State.frames_setFrames _ (State.cur_lt_of_top htop)
  obtain ⟨g₀, hg0⟩ := Option.isSome_iff_exists.mp htop
  obtain ⟨r, hr⟩ := State.topJava?_eq_some.mp hg0
  have hl9 : e.platform.stackLimits (T.setVm s.vm).me = e.platform.stackLimits s.me := X.limits
  have hb9 : (T.setVm s.vm).me.stackBytes = s.me.stackBytes := X.bytes
  refine ⟨X.admits, X.cas, X.clock, hF, ?_, X.hears, X.method, X.code, X.here, X.tail, X.warmed, ?_, ?_, ?_⟩
  · have h := X.room
    have hU : ((T.setVm s.vm).setFrames (.invoking m args :: below)).localsInUse = s.localsInUse := by
      rw [State.localsInUse_invoking hF (meth := meth) (c := c) X.method X.code, State.localsInUse_invoking X.frames X.method X.code]
    simp only [State.hasRoom, Bool.and_eq_true, decide_eq_true_eq] at h ⊢
    obtain ⟨⟨⟨⟨h1, h2, h3, h4, h5, h6⟩, h7⟩, h8⟩, h9⟩ := h
    rw [X.frames, List.length_cons] at h2 h3
    have q1 := X.heapSize
    have q2 := X.used
    simp only [hF, hU, List.length_cons, State.stackLimits_setFrames, State.stackBytes_setFrames, hl9, hb9]
    refine ⟨⟨⟨⟨by omega, by omega, by omega, by omega, by omega, h6⟩, ?_⟩, ?_⟩, X.book⟩
    · show T.heap.size + R'.cells ≤ e.platform.maxCells
      omega
    · show T.slotsUsed + R'.slots ≤ e.platform.maxSlots
      omega
  · rw [State.stackLimits_setFrames]; rfl
  · rw [State.stackBytes_setFrames]; rfl
  · refine ⟨?_, Nat.le_refl _, Nat.le_refl _, ?_, ?_, fun a c9 h9 => ⟨c9, h9, rfl, rfl, fun _ _ => rfl⟩⟩
    · obtain ⟨t, ht, -⟩ := State.frames_cons hr
      show T.setVm s.vm = { ((T.setVm s.vm).setFrames (.invoking m args :: below)).setFrames (T.setVm s.vm).frames with heap := T.heap, slotsUsed := T.slotsUsed }
      rw [State.setFrames_setFrames, State.setFrames_self ht]
      rfl
    · show T.slotsUsed = T.slotsUsed + ((T.heap.toList.drop T.heap.size).map (·.slots.size)).sum
      rw [List.drop_eq_nil_of_le (Nat.le_of_eq Array.length_toList)]
      rfl
    · show ((T.heap.toList.drop T.heap.size).map (·.slots.size)).sum ≤ 0
      rw [List.drop_eq_nil_of_le (Nat.le_of_eq Array.length_toList)]
      exact Nat.le_refl _
/-- 'throw new E()': new; dup; invokespecial; athrow -/
theorem vx_throw0 {cc : ByteArray} {pc : Nat} (hexec : p.tables.exec = Jvm.exec) (hb : c.code = cc) (hl : l.stackTraces = false) {own cls : String} {names : List String} {ik ic mc ms : Nat} {A : Nat → Prop}
    (hown : s.vm.findClass own = some m.cls) (hcls : Bundle.fit cls = true) (hnames : ∀ n ∈ names, Bundle.fit n = true)
    (hk : (Cond.classLink own ik cls).before args s = true) (hini : (Cond.initialized cls).before args s = true) (hat : ∀ w ∈ vx_at0 own ic cls names, w.before args s = true)
    (hgood : ∀ w ∈ Cond.classLink own ik cls :: Cond.initialized cls :: vx_at0 own ic cls names, vx_ot w = true)
    (hU : vx_Zq Bundle.tN "UNASSIGNED_STACK" Bundle.steD A s s.heap) (hN : vx_Zq Bundle.tN "SUPPRESSED_SENTINEL" Bundle.listD A s s.heap) (hS : va_S A s.heap H locs) (hsize : ls.size = c.maxLocals)
    (d0 : decode cc pc = .ok (.new ik, 3)) (d3 : decode cc (pc + 3) = .ok (.dup, 1)) (d4 : decode cc (pc + 4) = .ok (.invokespecial ic, 3)) (d7 : decode cc (pc + 7) = .ok (.athrow, 1))
    (hout : ∀ x ∈ c.exceptionTable.toList, covers x (pc + 7) = false)
    (hRframes : names.length + 3 < R.frames) (hRlocals : (rest.map fun v => v.category).sum + (13 * (names.length + 1) + 42) ≤ R.locals) (hRcells : cells + 1 ≤ R.cells) (hRslots : slots + 6 ≤ R.slots) (hlocks : meth.locks = false)
    (hx : ∀ t : State, s.vm.Alike t.vm → H.size ≤ t.heap.size → (∀ q : Nat, q < H.size → t.heap[q]? = H[q]?) → XC cls s t)
    (hf : ∀ z ∈ locs, free z.base) (hc : cells + 1 ≤ mc) (hs : slots + 6 ≤ ms) :
    W p l e R s m args below meth c H locs cells slots (vx_MQ below Qc XC args s mc ms free) (F0 m pc ls rest) := by
  intro T hT X
  have htr : e.platform.stackTraces = false := (show e.platform.stackTraces = l.stackTraces by rw [X.admits.platform]).trans hl
  have Y := vx_rebase X (R' := { frames := R.frames, locals := R.locals, cells := 1, slots := 6 }) (Nat.le_refl _) (Nat.le_refl _) hRcells hRslots
  obtain ⟨s', hA⟩ : ∃ z, z = (T.setVm s.vm).setFrames (.invoking m args :: below) := ⟨_, rfl⟩
  rw [← hA] at Y
  have hvm : s'.vm = s.vm := by rw [hA]; rfl
  have hhp : s'.heap = H := by rw [hA]; exact hT
  have hW0 : s.WarmedH s'.vm := by rw [hvm]; exact State.WarmedH.refl s
  have hat' : ∀ w ∈ vx_at0 own ic cls names, w.before args s' = true := fun w hw => vx_ot_at hW0 hvm.symm (hgood w (List.mem_cons_of_mem _ (List.mem_cons_of_mem _ hw))) (hat w hw)
  have hk' : (Cond.classLink own ik cls).before args s' = true := vx_ot_at hW0 hvm.symm (hgood _ List.mem_cons_self) hk
  have hini' : (Cond.initialized cls).before args s' = true := vx_ot_at hW0 hvm.symm (hgood _ (List.mem_cons_of_mem _ List.mem_cons_self)) hini
  have hU' : vx_Zq Bundle.tN "UNASSIGNED_STACK" Bundle.steD A s' s'.heap := by rw [hhp]; exact vx_Zq.moved hW0.alike (hU.kept hS.2.1)
  have hN' : vx_Zq Bundle.tN "SUPPRESSED_SENTINEL" Bundle.listD A s' s'.heap := by rw [hhp]; exact vx_Zq.moved hW0.alike (hN.kept hS.2.1)
  have h : ∀ w ∈ Bundle.ownAtoms0 own ic cls names, w.before args s' = true := vx_own hat' (vx_isRefq hU'.1) (vx_isRefq hN'.1) hU'.2.word hN'.2.word
  have hown' : s'.vm.findClass own = some m.cls := by rw [hvm]; exact hown
  have hins : (Cond.instantiable cls 6).before args s' = true := h _ (by simp [Bundle.ownAtoms0])
  obtain ⟨vm₁, cX, kX, hfX, hkX, -, -, X₁, st1⟩ := Y.newCold hexec (own := own) (C := cls) (index := ik) (n := 6) hown' hk' hins hini'
    (g := F0 m pc ls rest) rfl (by rw [hb]; exact d0) (Nat.le_refl _) (Nat.le_refl _)
  generalize hT1 : (T.setVm vm₁).pushCell { cls := cX, slots := kX.instanceTypes.map defaultValue, vm := .none } = T1 at X₁ st1
  have hcat : (Value.ref T.heap.size).category = 1 := rfl
  have hcellA : T1.heap[T.heap.size]? = some (freshCell cX kX) := by rw [← hT1]; exact State.heap_pushCell_size _ _
  have d3' : decode c.code (pc + 3) = .ok (.dup, 1) := by rw [hb]; exact d3
  obtain ⟨U, hsteps, hrun, hend, hW, hsame, ce, hce, hO⟩ := X₁.ctorThrow0 hexec htr (own := own) (cls := cls) (names := names) (ic := ic) hown' hcls hnames h (fun x hx => nomatch hx) hfX hkX hcellA (by rw [hhp, hT]; exact Nat.le_refl _)
    (g := { method := m, pc := pc + 4, locals := ls, stack := .ref T.heap.size :: .ref T.heap.size :: rest, locked := none }) rfl hsize rfl rfl (rest := rest) rfl
    (by rw [hb]; exact d4) (by rw [hb]; exact d7) hout hRframes (by simp only [List.map_cons, List.sum_cons, hcat]; omega) hlocks
  obtain ⟨f1, f2⟩ := vx_frame hsame
  rw [hhp] at f1 f2
  have hWs : s.WarmedH U.vm := State.WarmedH.trans hW0 hW
  have hcl : s.vm.findClass cls = some ce.cls := by
    have h9 := hO.cls
    rw [hvm] at h9
    exact h9
  have hall : s.sameButNew ({ U with vm := s.vm } : State) locs mc ms := by
    subst hA
    obtain ⟨e1, e2⟩ := hsame
    rw [State.setFrames_setFrames] at e1
    have h2 : (T.setVm s.vm).sameButNew ({ U with vm := s.vm } : State) [] (0 + 1) (0 + 6) := ⟨e1, e2⟩
    have h3 := X.same.trans h2
    rw [List.append_nil] at h3
    exact h3.mono hc hs
  refine ⟨U, ?_, .threw T.heap.size, hrun, hend, Or.inr ⟨T.heap.size, rfl, cls, ce, locs, hx U hWs.alike f1 (fun q hq => f2 q hq (fun z hz => nomatch hz)), hce, hO.vm, hcl, hWs, hall, hf⟩⟩
  refine st1 _ ?_
  show Steps p.tables e below (T1.setTop { method := m, pc := pc + 3, locals := ls, stack := .ref T.heap.size :: rest, locked := none }) _
  jvm_step X₁.here [X₁.here.top, hexec, d3', Value.category]
  exact hsteps
/-- 'throw new E("text")': new; dup; ldc; invokespecial; athrow -/
theorem vx_throwS {cc : ByteArray} {pc : Nat} (hexec : p.tables.exec = Jvm.exec) (hb : c.code = cc) (hl : l.stackTraces = false) {own cls text : String} {names : List String} {ik is ic mc ms sa : Nat} {A : Nat → Prop}
    (hown : s.vm.findClass own = some m.cls) (hcls : Bundle.fit cls = true) (hnames : ∀ n ∈ names, Bundle.fit n = true)
    (hk : (Cond.classLink own ik cls).before args s = true) (hini : (Cond.initialized cls).before args s = true) (hstr : vk_R own is text sa s) (hat : ∀ w ∈ vx_atS own ic cls names, w.before args s = true)
    (hgood : ∀ w ∈ Cond.classLink own ik cls :: Cond.initialized cls :: vx_atS own ic cls names, vx_ot w = true)
    (hU : vx_Zq Bundle.tN "UNASSIGNED_STACK" Bundle.steD A s s.heap) (hN : vx_Zq Bundle.tN "SUPPRESSED_SENTINEL" Bundle.listD A s s.heap) (hS : va_S A s.heap H locs) (hsize : ls.size = c.maxLocals)
    (d0 : decode cc pc = .ok (.new ik, 3)) (d3 : decode cc (pc + 3) = .ok (.dup, 1)) (d4 : decode cc (pc + 4) = .ok (.ldc is, 2)) (d6 : decode cc (pc + 6) = .ok (.invokespecial ic, 3)) (d9 : decode cc (pc + 9) = .ok (.athrow, 1))
    (hout : ∀ x ∈ c.exceptionTable.toList, covers x (pc + 9) = false)
    (hRframes : names.length + 3 < R.frames) (hRlocals : (rest.map fun v => v.category).sum + (13 * (names.length + 1) + 43) ≤ R.locals) (hRcells : cells + 1 ≤ R.cells) (hRslots : slots + 6 ≤ R.slots) (hlocks : meth.locks = false)
    (hx : ∀ t : State, s.vm.Alike t.vm → H.size ≤ t.heap.size → (∀ q : Nat, q < H.size → t.heap[q]? = H[q]?) → XC cls s t)
    (hf : ∀ z ∈ locs, free z.base) (hc : cells + 1 ≤ mc) (hs : slots + 6 ≤ ms) :
    W p l e R s m args below meth c H locs cells slots (vx_MQ below Qc XC args s mc ms free) (F0 m pc ls rest) := by
  intro T hT X
  have htr : e.platform.stackTraces = false := (show e.platform.stackTraces = l.stackTraces by rw [X.admits.platform]).trans hl
  have Y := vx_rebase X (R' := { frames := R.frames, locals := R.locals, cells := 1, slots := 6 }) (Nat.le_refl _) (Nat.le_refl _) hRcells hRslots
  obtain ⟨s', hA⟩ : ∃ z, z = (T.setVm s.vm).setFrames (.invoking m args :: below) := ⟨_, rfl⟩
  rw [← hA] at Y
  have hvm : s'.vm = s.vm := by rw [hA]; rfl
  have hhp : s'.heap = H := by rw [hA]; exact hT
  have hW0 : s.WarmedH s'.vm := by rw [hvm]; exact State.WarmedH.refl s
  have hat' : ∀ w ∈ vx_atS own ic cls names, w.before args s' = true := fun w hw => vx_ot_at hW0 hvm.symm (hgood w (List.mem_cons_of_mem _ (List.mem_cons_of_mem _ hw))) (hat w hw)
  have hk' : (Cond.classLink own ik cls).before args s' = true := vx_ot_at hW0 hvm.symm (hgood _ List.mem_cons_self) hk
  have hini' : (Cond.initialized cls).before args s' = true := vx_ot_at hW0 hvm.symm (hgood _ (List.mem_cons_of_mem _ List.mem_cons_self)) hini
  have hU' : vx_Zq Bundle.tN "UNASSIGNED_STACK" Bundle.steD A s' s'.heap := by rw [hhp]; exact vx_Zq.moved hW0.alike (hU.kept hS.2.1)
  have hN' : vx_Zq Bundle.tN "SUPPRESSED_SENTINEL" Bundle.listD A s' s'.heap := by rw [hhp]; exact vx_Zq.moved hW0.alike (hN.kept hS.2.1)
  have h : ∀ w ∈ Bundle.ownAtoms own ic cls names, w.before args s' = true := vx_own hat' (vx_isRefq hU'.1) (vx_isRefq hN'.1) hU'.2.word hN'.2.word
  have hown' : s'.vm.findClass own = some m.cls := by rw [hvm]; exact hown
  have hins : (Cond.instantiable cls 6).before args s' = true := h _ (by simp [Bundle.ownAtoms])
  obtain ⟨vm₁, cX, kX, hfX, hkX, -, -, X₁, st1⟩ := Y.newCold hexec (own := own) (C := cls) (index := ik) (n := 6) hown' hk' hins hini'
    (g := F0 m pc ls rest) rfl (by rw [hb]; exact d0) (Nat.le_refl _) (Nat.le_refl _)
  generalize hT1 : (T.setVm vm₁).pushCell { cls := cX, slots := kX.instanceTypes.map defaultValue, vm := .none } = T1 at X₁ st1
  have hcat : (Value.ref T.heap.size).category = 1 := rfl
  have hcellA : T1.heap[T.heap.size]? = some (freshCell cX kX) := by rw [← hT1]; exact State.heap_pushCell_size _ _
  have d3' : decode c.code (pc + 3) = .ok (.dup, 1) := by rw [hb]; exact d3
  have d4' : decode c.code (pc + 4) = .ok (.ldc is, 2) := by rw [hb]; exact d4
  have hstr' : vk_R own is text sa s' := vk_R.warm hW0 hstr
  obtain ⟨U, hsteps, hrun, hend, hW, hsame, ce, hce, hO⟩ := X₁.ctorThrowS hexec htr (own := own) (cls := cls) (names := names) (ic := ic) hown' hcls hnames h (fun x hx => nomatch hx) hfX hkX hcellA (by rw [hhp, hT]; exact Nat.le_refl _) (msg := .ref sa) rfl
    (g := { method := m, pc := pc + 6, locals := ls, stack := .ref sa :: .ref T.heap.size :: .ref T.heap.size :: rest, locked := none }) rfl hsize rfl rfl (rest := rest) rfl
    (by rw [hb]; exact d6) (by rw [hb]; exact d9) hout hRframes (by simp only [List.map_cons, List.sum_cons, hcat]; omega) hlocks
  obtain ⟨f1, f2⟩ := vx_frame hsame
  rw [hhp] at f1 f2
  have hWs : s.WarmedH U.vm := State.WarmedH.trans hW0 hW
  have hcl : s.vm.findClass cls = some ce.cls := by
    have h9 := hO.cls
    rw [hvm] at h9
    exact h9
  have hall : s.sameButNew ({ U with vm := s.vm } : State) locs mc ms := by
    subst hA
    obtain ⟨e1, e2⟩ := hsame
    rw [State.setFrames_setFrames] at e1
    have h2 : (T.setVm s.vm).sameButNew ({ U with vm := s.vm } : State) [] (0 + 1) (0 + 6) := ⟨e1, e2⟩
    have h3 := X.same.trans h2
    rw [List.append_nil] at h3
    exact h3.mono hc hs
  refine ⟨U, ?_, .threw T.heap.size, hrun, hend, Or.inr ⟨T.heap.size, rfl, cls, ce, locs, hx U hWs.alike f1 (fun q hq => f2 q hq (fun z hz => nomatch hz)), hce, hO.vm, hcl, hWs, hall, hf⟩⟩
  refine st1 _ ?_
  show Steps p.tables e below (T1.setTop { method := m, pc := pc + 3, locals := ls, stack := .ref T.heap.size :: rest, locked := none }) _
  jvm_step X₁.here [X₁.here.top, hexec, d3', Value.category]
  exact X₁.ldcString hexec (own := own) (text := text) (index := is) (a := sa) hown' hstr'.1 hstr'.2
    (g := { method := m, pc := pc + 4, locals := ls, stack := .ref T.heap.size :: .ref T.heap.size :: rest, locked := none }) rfl d4' _ hsteps
/-- 'throw new E("text")', the text by a wide index -/
theorem vx_throwSW {cc : ByteArray} {pc : Nat} (hexec : p.tables.exec = Jvm.exec) (hb : c.code = cc) (hl : l.stackTraces = false) {own cls text : String} {names : List String} {ik is ic mc ms sa : Nat} {A : Nat → Prop}
    (hown : s.vm.findClass own = some m.cls) (hcls : Bundle.fit cls = true) (hnames : ∀ n ∈ names, Bundle.fit n = true)
    (hk : (Cond.classLink own ik cls).before args s = true) (hini : (Cond.initialized cls).before args s = true) (hstr : vk_R own is text sa s) (hat : ∀ w ∈ vx_atS own ic cls names, w.before args s = true)
    (hgood : ∀ w ∈ Cond.classLink own ik cls :: Cond.initialized cls :: vx_atS own ic cls names, vx_ot w = true)
    (hU : vx_Zq Bundle.tN "UNASSIGNED_STACK" Bundle.steD A s s.heap) (hN : vx_Zq Bundle.tN "SUPPRESSED_SENTINEL" Bundle.listD A s s.heap) (hS : va_S A s.heap H locs) (hsize : ls.size = c.maxLocals)
    (d0 : decode cc pc = .ok (.new ik, 3)) (d3 : decode cc (pc + 3) = .ok (.dup, 1)) (d4 : decode cc (pc + 4) = .ok (.ldc_w is, 3)) (d7 : decode cc (pc + 7) = .ok (.invokespecial ic, 3)) (d10 : decode cc (pc + 10) = .ok (.athrow, 1))
    (hout : ∀ x ∈ c.exceptionTable.toList, covers x (pc + 10) = false)
    (hRframes : names.length + 3 < R.frames) (hRlocals : (rest.map fun v => v.category).sum + (13 * (names.length + 1) + 43) ≤ R.locals) (hRcells : cells + 1 ≤ R.cells) (hRslots : slots + 6 ≤ R.slots) (hlocks : meth.locks = false)
    (hx : ∀ t : State, s.vm.Alike t.vm → H.size ≤ t.heap.size → (∀ q : Nat, q < H.size → t.heap[q]? = H[q]?) → XC cls s t)
    (hf : ∀ z ∈ locs, free z.base) (hc : cells + 1 ≤ mc) (hs : slots + 6 ≤ ms) :
    W p l e R s m args below meth c H locs cells slots (vx_MQ below Qc XC args s mc ms free) (F0 m pc ls rest) := by
  intro T hT X
  have htr : e.platform.stackTraces = false := (show e.platform.stackTraces = l.stackTraces by rw [X.admits.platform]).trans hl
  have Y := vx_rebase X (R' := { frames := R.frames, locals := R.locals, cells := 1, slots := 6 }) (Nat.le_refl _) (Nat.le_refl _) hRcells hRslots
  obtain ⟨s', hA⟩ : ∃ z, z = (T.setVm s.vm).setFrames (.invoking m args :: below) := ⟨_, rfl⟩
  rw [← hA] at Y
  have hvm : s'.vm = s.vm := by rw [hA]; rfl
  have hhp : s'.heap = H := by rw [hA]; exact hT
  have hW0 : s.WarmedH s'.vm := by rw [hvm]; exact State.WarmedH.refl s
  have hat' : ∀ w ∈ vx_atS own ic cls names, w.before args s' = true := fun w hw => vx_ot_at hW0 hvm.symm (hgood w (List.mem_cons_of_mem _ (List.mem_cons_of_mem _ hw))) (hat w hw)
  have hk' : (Cond.classLink own ik cls).before args s' = true := vx_ot_at hW0 hvm.symm (hgood _ List.mem_cons_self) hk
  have hini' : (Cond.initialized cls).before args s' = true := vx_ot_at hW0 hvm.symm (hgood _ (List.mem_cons_of_mem _ List.mem_cons_self)) hini
  have hU' : vx_Zq Bundle.tN "UNASSIGNED_STACK" Bundle.steD A s' s'.heap := by rw [hhp]; exact vx_Zq.moved hW0.alike (hU.kept hS.2.1)
  have hN' : vx_Zq Bundle.tN "SUPPRESSED_SENTINEL" Bundle.listD A s' s'.heap := by rw [hhp]; exact vx_Zq.moved hW0.alike (hN.kept hS.2.1)
  have h : ∀ w ∈ Bundle.ownAtoms own ic cls names, w.before args s' = true := vx_own hat' (vx_isRefq hU'.1) (vx_isRefq hN'.1) hU'.2.word hN'.2.word
  have hown' : s'.vm.findClass own = some m.cls := by rw [hvm]; exact hown
  have hins : (Cond.instantiable cls 6).before args s' = true := h _ (by simp [Bundle.ownAtoms])
  obtain ⟨vm₁, cX, kX, hfX, hkX, -, -, X₁, st1⟩ := Y.newCold hexec (own := own) (C := cls) (index := ik) (n := 6) hown' hk' hins hini'
    (g := F0 m pc ls rest) rfl (by rw [hb]; exact d0) (Nat.le_refl _) (Nat.le_refl _)
  generalize hT1 : (T.setVm vm₁).pushCell { cls := cX, slots := kX.instanceTypes.map defaultValue, vm := .none } = T1 at X₁ st1
  have hcat : (Value.ref T.heap.size).category = 1 := rfl
  have hcellA : T1.heap[T.heap.size]? = some (freshCell cX kX) := by rw [← hT1]; exact State.heap_pushCell_size _ _
  have d3' : decode c.code (pc + 3) = .ok (.dup, 1) := by rw [hb]; exact d3
  have d4' : decode c.code (pc + 4) = .ok (.ldc_w is, 3) := by rw [hb]; exact d4
  have hstr' : vk_R own is text sa s' := vk_R.warm hW0 hstr
  obtain ⟨U, hsteps, hrun, hend, hW, hsame, ce, hce, hO⟩ := X₁.ctorThrowS hexec htr (own := own) (cls := cls) (names := names) (ic := ic) hown' hcls hnames h (fun x hx => nomatch hx) hfX hkX hcellA (by rw [hhp, hT]; exact Nat.le_refl _) (msg := .ref sa) rfl
    (g := { method := m, pc := pc + 7, locals := ls, stack := .ref sa :: .ref T.heap.size :: .ref T.heap.size :: rest, locked := none }) rfl hsize rfl rfl (rest := rest) rfl
    (by rw [hb]; exact d7) (by rw [hb]; exact d10) hout hRframes (by simp only [List.map_cons, List.sum_cons, hcat]; omega) hlocks
  obtain ⟨f1, f2⟩ := vx_frame hsame
  rw [hhp] at f1 f2
  have hWs : s.WarmedH U.vm := State.WarmedH.trans hW0 hW
  have hcl : s.vm.findClass cls = some ce.cls := by
    have h9 := hO.cls
    rw [hvm] at h9
    exact h9
  have hall : s.sameButNew ({ U with vm := s.vm } : State) locs mc ms := by
    subst hA
    obtain ⟨e1, e2⟩ := hsame
    rw [State.setFrames_setFrames] at e1
    have h2 : (T.setVm s.vm).sameButNew ({ U with vm := s.vm } : State) [] (0 + 1) (0 + 6) := ⟨e1, e2⟩
    have h3 := X.same.trans h2
    rw [List.append_nil] at h3
    exact h3.mono hc hs
  refine ⟨U, ?_, .threw T.heap.size, hrun, hend, Or.inr ⟨T.heap.size, rfl, cls, ce, locs, hx U hWs.alike f1 (fun q hq => f2 q hq (fun z hz => nomatch hz)), hce, hO.vm, hcl, hWs, hall, hf⟩⟩
  refine st1 _ ?_
  show Steps p.tables e below (T1.setTop { method := m, pc := pc + 3, locals := ls, stack := .ref T.heap.size :: rest, locked := none }) _
  jvm_step X₁.here [X₁.here.top, hexec, d3', Value.category]
  exact X₁.ldcStringW hexec (own := own) (text := text) (index := is) (a := sa) hown' hstr'.1 hstr'.2
    (g := { method := m, pc := pc + 4, locals := ls, stack := .ref T.heap.size :: .ref T.heap.size :: rest, locked := none }) rfl d4' _ hsteps
end Ends
section Bodies
variable {l : Launch}
theorem vx_ofW {y : MethodName} {ws ws' : List Cond} {rm : Room} {Pc : Array Value → State → Prop} {Qc : Array Value → State → Outcome → State → Prop} {XC : String → State → State → Prop} {mc ms : Nat} {free : Addr → Prop} {cc : ByteArray} {maxL : Nat} {ret : Option FieldType}
    (hy : plainName y.cls = true) (hw : ws = Cond.code y cc maxL ret :: ws')
    (body : ∀ p e s m args below meth c s₁, BodyLoose p l y (headSpec ws rm) cc maxL ret e s m args below meth c s₁ → c.maxLocals = maxL → (∀ x ∈ c.exceptionTable.toList, False) → Pc args s →
      W p l e (headSpec ws rm).room s m args below meth c s.heap [] 0 0 (vx_MQ below Qc XC args s mc ms free) (entryFrame m args maxL)) : vx_Met l y ws rm Pc Qc XC mc ms free := by
  refine MetFree.of_bodyS (code := cc) (maxLocals := maxL) (ret := ret) hy ?_ ?_
  · intro args s m h hn
    obtain ⟨meth, c, h1, h2, h3, h4, h5, h6, -, -⟩ := Cond.code_spec hn (atoms_spec (ws := ws) h _ (by rw [hw]; exact List.mem_cons_self))
    exact ⟨meth, c, h1, h2, h3, h4, h5, h6⟩
  · intro p e s m args below meth c s₁ B hml hP _
    have hh0 : s₁.heap = s.heap := by rw [B.state]; rfl
    have ht : ∀ x ∈ c.exceptionTable.toList, False := by
      obtain ⟨meth9, c9, h1, h2, -, -, -, -, h7, -⟩ := Cond.code_spec B.named (atoms_spec (ws := ws) B.pre _ (by rw [hw]; exact List.mem_cons_self))
      cases Option.some.inj (h1.symm.trans B.method)
      cases Option.some.inj (h2.symm.trans (Stand.of_body B).code)
      intro x hx
      rw [Array.isEmpty_iff.mp h7] at hx
      cases hx
    obtain ⟨t, a1, o, b1, b2, b3⟩ := body p e s m args below meth c s₁ B hml ht hP s₁ hh0 (Stand.of_body B)
    exact ⟨t, o, a1, b1, b2, b3⟩
/-- the table of a body with handlers -/
theorem vx_table {p : Program} {x y : MethodName} {S : Spec} {cc bytes : ByteArray} {maxL maxL' : Nat} {ret ret' : Option FieldType} {e : Env} {s s₁ : State} {m : MethodId} {args : Array Value} {below : List Frame} {meth : Method} {c : Code} {hh : List (Nat × Nat × Nat × Nat)}
    (B : BodyLoose p l y S cc maxL ret e s m args below meth c s₁) (h : (Cond.codeWith y bytes maxL' ret' hh).before args s = true) : c.exceptionTable.toList = tableOf hh := by
  obtain ⟨m9, meth9, c9, hn9, h1, h2, -, -, h6, -⟩ := Cond.codeWith_spec h
  cases Option.some.inj (hn9.symm.trans B.named)
  cases Option.some.inj (h1.symm.trans B.method)
  cases Option.some.inj (h2.symm.trans (Stand.of_body B).code)
  rw [← h6, table_eq]
end Bodies
end VXA
/-! ===== END ===== -/
/-! ===== BEGIN a static call of a method with an exception table ===== -/
section VXS
variable {p : Program} {l : Launch} {e : Env} {R : Room} {s : State} {m : MethodId} {args : Array Value} {below : List Frame} {meth : Method} {c : Code} {T : State} {H : Heap} {locs : List Loc} {cells slots : Nat}
abbrev vx_CSW (R : Room) (s : State) (args : Array Value) (own : String) (index : Nat) (y : MethodName) (bytes : ByteArray) (maxL : Nat) (ret : Option FieldType) (hh : List (Nat × Nat × Nat × Nat)) (ws : List Cond) (rm : Room) (mc ms n : Nat) : Prop :=
  (rm.cells = mc ∧ rm.slots = ms ∧ rm.frames + 1 ≤ R.frames ∧ 8 + (maxL + 11) + rm.locals ≤ R.locals ∧ (∀ w ∈ ws, ∀ (a' : Array Value) (U : State), s.WarmedH U.vm → w.before a' U = true) ∧ Cond.codeWith y bytes maxL ret hh ∈ ws) ∧
  (Cond.codeWith y bytes maxL ret hh).before args s = true ∧ (Cond.initialized y.cls).before args s = true ∧ (y.cls ≠ "java/lang/invoke/MethodHandle" ∧ y.cls ≠ "java/lang/invoke/VarHandle") ∧
  (∀ sig, parseMethodDescriptor y.desc = some sig → n = sig.parameters.length) ∧ (Cond.methodLink own index y).before args s = true ∧ (Cond.static y).before args s = true
theorem vx_cwSW {own : String} {index maxL mc ms : Nat} {y : MethodName} {bytes : ByteArray} {ret : Option FieldType} {hh : List (Nat × Nat × Nat × Nat)} {Ts ws ws' : List Cond} {rm : Room} (n : Nat) (ht : ∀ w ∈ Ts, w.before args s = true) (hT : GoodIn Ts (va_wsS own index y ws)) (hw : ws = Cond.codeWith y bytes maxL ret hh :: ws') (hrc : rm.cells = mc) (hrs : rm.slots = ms)
    (hd : y.cls ≠ "java/lang/invoke/MethodHandle" ∧ y.cls ≠ "java/lang/invoke/VarHandle" ∧ (parseMethodDescriptor y.desc).map (fun d => d.parameters.length) = some n) (hR : rm.frames + 1 ≤ R.frames ∧ 8 + (maxL + 11) + rm.locals ≤ R.locals) :
    vx_CSW R s args own index y bytes maxL ret hh ws rm mc ms n := by
  have ok : ∀ w ∈ va_wsS own index y ws, w.before args s = true := fun w h => ht w (hT w h).1
  have hG : GoodIn Ts ws := fun w h => hT w (by unfold va_wsS; exact List.mem_append_right _ h)
  have hc : Cond.codeWith y bytes maxL ret hh ∈ ws := by rw [hw]; exact List.mem_cons_self
  refine ⟨⟨hrc, hrs, hR.1, hR.2, pay_in ht hG, hc⟩, ht _ (hG _ hc).1, ok _ (by simp [va_wsS]), ⟨hd.1, hd.2.1⟩, fun sig h => ?_, ok _ (by simp [va_wsS]), ok _ (by simp [va_wsS])⟩
  have h2 := hd.2.2
  rw [h] at h2
  exact (Option.some.inj h2).symm
theorem vx_callSW (X : Stand p l e R s m args below meth c T locs cells slots) (hexec : p.tables.exec = Jvm.exec) {own : String} {index : Nat} {y : MethodName} {bytes : ByteArray} {maxL : Nat} {ret : Option FieldType} {hh : List (Nat × Nat × Nat × Nat)}
    (hown : s.vm.findClass own = some m.cls) (hlink : (Cond.methodLink own index y).before args s = true) (hstat : (Cond.static y).before args s = true) (hinit : (Cond.initialized y.cls).before args s = true)
    (hcode : (Cond.codeWith y bytes maxL ret hh).before args s = true) (hy : y.cls ≠ "java/lang/invoke/MethodHandle" ∧ y.cls ≠ "java/lang/invoke/VarHandle")
    {W9 : Nat} {Pre : Pt → Array Value → Prop} {Post : Pt → Array Value → Option Value → Pt → Prop} (hK : Back l R p e below s args y 3 W9 Pre Post)
    {g : JFrame} (hg : g.method = m) (hsize : g.locals.size = c.maxLocals) {argsL rest : List Value} (hlen : ∀ sig, parseMethodDescriptor y.desc = some sig → argsL.length = sig.parameters.length)
    (hstack : g.stack = argsL.reverse ++ rest) (hW : 2 * g.monitorRoom + (rest.map fun v => v.category).sum ≤ W9) (hdg : decode c.code g.pc = .ok (.invokestatic index, 3))
    (hpre : ∀ vm₁, s.WarmedH vm₁ → Pre ⟨T.setVm vm₁, locs, cells, slots⟩ argsL.toArray) :
    ∃ (v : Option Value) (vm₁ : Vm) (B : Pt), s.WarmedH vm₁ ∧ Stand p l e R s m args below meth c B.U B.locs B.cells B.slots ∧ Post ⟨T.setVm vm₁, locs, cells, slots⟩ argsL.toArray v B ∧
      ∀ target, Steps p.tables e below (B.U.setTop { g with pc := g.pc + 3, stack := v.toList ++ rest }) target → Steps p.tables e below (T.setTop g) target := by
  obtain ⟨mk, methM, cM, hnamed, hmethM, -, -, -, -, -, -, hsigM⟩ := Cond.codeWith_spec hcode
  have hstatic : methM.isStatic = true := Cond.static_spec hnamed hmethM hstat
  obtain ⟨kP, hkP, -⟩ := className_of_methodNamed hnamed
  have hinitP : kP.init = .initialized := Cond.initialized_spec (findClass_of_methodNamed hnamed) hkP hinit
  obtain ⟨vm₁, X₁, hstep₁⟩ := X.invokestatic hexec hown hlink hnamed hmethM hstatic hkP hinitP hy (g := g) hg (argsL := argsL) (rest := rest) (hlen _ hsigM) hstack hdg
  obtain ⟨v, B, X', hpost, hsteps⟩ := hK m meth c ⟨T.setVm vm₁, locs, cells, slots⟩ { g with stack := rest } (.invokestatic index) mk argsL.toArray X₁ hg hsize hdg hW (X₁.named hnamed) (hpre vm₁ X₁.warmed)
  exact ⟨v, vm₁, B, X₁.warmed, X', hpost, fun target h => hstep₁ _ fun acts => by rw [doInvoke_state]; exact hsteps.trans h⟩
theorem vx_runSW {y : MethodName} {bytes cc : ByteArray} {maxL nL mc ms n index : Nat} {ret : Option FieldType} {hh : List (Nat × Nat × Nat × Nat)} {ws : List Cond} {rm : Room} {Pc : Array Value → State → Prop} {Qc : Array Value → State → Outcome → State → Prop} {free : Addr → Prop} {Ts : List Cond} {own : String} {As rest : List Value} {g : JFrame}
    (S : CallFix p m c cc nL s args Ts own) (hM : Met l y ws rm Pc Qc mc ms free) (cw : vx_CSW R s args own index y bytes maxL ret hh ws rm mc ms n) (hp : PreS s H Pc As)
    (hg : g.method = m) (hn : As.length = n) (hsize : g.locals.size = nL) (hstack : g.stack = As.reverse ++ rest) (hW : 2 * g.monitorRoom + (rest.map fun v => v.category).sum ≤ 8) (hdg : decode cc g.pc = .ok (.invokestatic index, 3)) (hf : cells + mc ≤ R.cells ∧ slots + ms ≤ R.slots) :
    va_Run p l e R s m args below meth c H locs cells slots mc ms g rest (Qc As.toArray) (free) := by
  obtain ⟨⟨hrc, hrs, hfr, hlo, hws, hcw⟩, hcode, hini, hy, hlen, hl, hstt⟩ := cw
  have hK : Back l R p e below s args y 3 8 (PreOf R mc ms Pc) (PostOf Qc mc ms free) := va_backW (hh := hh) (bytes := bytes) (maxL := maxL) (ret := ret) hM hp.1 hrc hrs hfr hlo hws hcw (fun a' U hW => word_at hW (Or.inl (by first | rfl | simp [Cond.onTables, Cond.keeps, Cond.steady])) hini)
  obtain ⟨hx, hb, hml, ho, -⟩ := S
  intro T hT X
  obtain ⟨v, vm₁, ⟨U', l2, c2, s2⟩, hW₁, X', ⟨g', mk, t, L, e1, e2, hq, h1, hL, h2, h3⟩, st⟩ := vx_callSW X hx (hh := hh) (bytes := bytes) (maxL := maxL) (ret := ret) ho hl hstt hini hcode hy hK hg (hsize.trans hml.symm) (argsL := As) (rest := rest) (fun sig h => hn.trans (hlen sig h)) hstack hW (by rw [hb]; exact hdg)
    (fun vm₁ hW₁ => ⟨hf.1, hf.2, hp.2 (T.setVm vm₁) hT hW₁⟩)
  dsimp only [Pt.U, Pt.locs, Pt.cells, Pt.slots] at X' e1 e2 h1 h2 h3 st
  subst h1; subst h2; subst h3
  exact ⟨v, (T.setVm vm₁).calling g' mk As.toArray, t, U', L, hT, X', hL, e1, e2, hq, st⟩
/-- not caught here, past rows that name other classes: it goes on to the caller -/
theorem vx_outP {p : Program} {l : Launch} {e : Env} {R : Room} {s : State} {m : MethodId} {args : Array Value} {below : List Frame} {meth : Method} {c : Code} {H : Heap} {locs : List Loc} {cells slots : Nat} {free : Addr → Prop} {ls : Array Slot} {rest : List Value} {Qc : Array Value → State → Outcome → State → Prop} {XC : String → State → State → Prop}
    {pc : Nat} {own E : String} {ce : Cell} {q : Addr} {mc ms : Nat} (hown : s.vm.findClass own = some m.cls) (hlocks : meth.locks = false)
    (hpass : ∀ z ∈ c.exceptionTable.toList, covers z pc = false ∨ (z.catchType ≠ 0 ∧ ∃ nm : String, (Cond.classLink own z.catchType nm).before args s = true ∧ va_Nc E nm s)) (hcell : H[q]? = some ce) (hv : ce.vm = .none) (hcl : s.vm.findClass E = some ce.cls)
    (hx : ∀ t : State, t.heap = H → s.vm.Alike t.vm → XC E s t) (hf : ∀ z ∈ locs, free z.base) (hc : cells ≤ mc) (hs : slots ≤ ms) :
    vx_W p l e R s m args below meth c H locs cells slots (vx_MQ below Qc XC args s mc ms free) (F0 m pc ls rest) q := by
  intro T hT X
  have hpl : e.platform.magicAccessors = ({} : Platform).magicAccessors := by rw [X.admits.platform]
  obtain ⟨vm', hW', X', st⟩ := X.outThrough hlocks q (g := F0 m pc ls rest) rfl rfl rfl (cell := ce) (by rw [hT]; exact hcell) (by rw [hv]; rfl)
    (by obtain ⟨k9, h9, -⟩ := Vm.findClass_spec hcl; exact ⟨k9, h9⟩) (fun z hz => by
      rcases hpass z hz with h | ⟨hz0, nm, hl1, hn1⟩
      · exact Or.inl h
      · obtain ⟨c6, hc6, hcl6⟩ := Cond.classLink_spec hown hl1 e.platform hpl
        obtain ⟨a8, b8, h1, h2, h3⟩ := hn1
        cases Option.some.inj (h1.symm.trans hcl)
        cases Option.some.inj (h2.symm.trans hc6)
        exact Or.inr ⟨hz0, _, hcl6, h3⟩)
  obtain ⟨g₀, hfr⟩ := X'.frames_eq
  have hcell9 : ((T.setVm vm').setFrames (.throwing q :: below)).heap[q]? = some ce := by
    show T.heap[q]? = some ce
    rw [hT]; exact hcell
  have hend : Ended ((T.setVm vm').setFrames (.throwing q :: below)) below (.threw q) := State.frames_setFrames _ (State.cur_lt_of_frames hfr)
  refine ⟨(T.setVm vm').setFrames (.throwing q :: below), ?_, .threw q, X'.here.running, hend, Or.inr ⟨q, rfl, E, ce, locs, hx _ hT (X'.ends _).1.alike, hcell9, hv, hcl, (X'.ends _).1, (X'.ends _).2.mono hc hs, hf⟩⟩
  rw [X.pushThrowing_eq]
  exact st
/-- a thing of a world lies in the heap -/
theorem vx_lt {D : va_G} {cl : List vw_C} {ws : va_W} {H1 : Heap} (h : va_P D cl ws H1) {k : Nat} {q : Nat × va_E} (hk : ws[k]? = some q) : q.1 < H1.size := (h k q hk).lt
end VXS
/-! ===== END ===== -/
/-! ===== BEGIN methods with a table of their own: called by a name, returning or throwing ===== -/
section VXH
/-! vx_backW, vx_callVX, vx_callSX, vx_callVW, vx_runVW, vx_runVX, vx_runSX, vx_ofWH follow the same proofs as their sisters above (Free/Laws.lean, Shelf42/LK1.lean); vx_outP calls Shelf42/NT130.lean (outThrough). -/
section
variable {l : Launch} {R : Room} {p : Program} {e : Env} {below : List Frame} {s : State} {sargs : Array Value} {y : MethodName} {len W9 : Nat}
theorem vx_backW {ws : List Cond} {rm : Room} {Pc : Array Value → State → Prop} {Qc : Array Value → State → Outcome → State → Prop} {XC : String → State → State → Prop} {mc ms : Nat} {free : Addr → Prop} {bytes : ByteArray} {maxL : Nat} {ret : Option FieldType} {hh : List (Nat × Nat × Nat × Nat)}
    (hM : vx_Met l y ws rm Pc Qc XC mc ms free) (hblind : FrameBlind Pc) (hrc : rm.cells = mc) (hrs : rm.slots = ms)
    (hframes : rm.frames + 1 ≤ R.frames) (hlocals : W9 + (maxL + 11) + rm.locals ≤ R.locals)
    (hws : ∀ w ∈ ws, ∀ a' U, s.WarmedH U.vm → w.before a' U = true) (hcode : Cond.codeWith y bytes maxL ret hh ∈ ws) (hinit : ∀ a' U, s.WarmedH U.vm → (Cond.initialized y.cls).before a' U = true) :
    vx_Back l R p e below s sargs y len W9 (PreOf R mc ms Pc) (PostOf Qc mc ms free) (vx_Post XC mc ms free) := by
  intro m meth c A g ig mk a X hg hsize hdg hW hn hp
  have h1 : (headSpec ws rm).pre.before a A.U = true := atoms_intro fun w hw => hws w hw _ _ X.warmed
  have h2 : (Cond.codeWith y bytes maxL ret hh).before a A.U = true := hws _ hcode _ _ X.warmed
  have h3 : (Cond.initialized y.cls).before a A.U = true := hinit _ _ X.warmed
  have h4 : A.cells + (headSpec ws rm).room.cells ≤ R.cells := by rw [show (headSpec ws rm).room.cells = mc from hrc]; exact hp.1
  have h5 : A.slots + (headSpec ws rm).room.slots ≤ R.slots := by rw [show (headSpec ws rm).room.slots = ms from hrs]; exact hp.2.1
  have hPc : Pc a (A.U.calling g mk a) := hblind _ _ _ _ hp.2.2
  obtain ⟨U, Ls, c0, s0⟩ := A
  dsimp only [Pt.U, Pt.locs, Pt.cells, Pt.slots] at h1 h2 h3 h4 h5 X hn hPc ⊢
  obtain ⟨m9, methY, cY, hn9, hmY, hcY, -, hlY, -⟩ := Cond.codeWith_spec h2
  cases Option.some.inj (hn9.symm.trans hn)
  obtain ⟨kY, hkY, -⟩ := className_of_methodNamed hn
  have hinitY : kY.init = .initialized := Cond.initialized_spec (findClass_of_methodNamed hn) hkY h3
  have h : At U g.method c below := by rw [hg]; exact X.here
  have hlocals9 : W9 + (maxL + 11) + (headSpec ws rm).room.locals ≤ R.locals := hlocals
  have happ : (headSpec ws rm).appliesLoose y e.platform (U.calling g mk a) = true :=
    Spec.appliesLoose_calling (g := g) h hdg hn hkY hinitY
      (X.room_calling (g := g) (R' := (headSpec ws rm).room) hsize hmY hcY hframes (by rw [hlY]; omega) h4 h5) h1
  obtain ⟨mid, hmid⟩ := h.above
  have hfr : (U.setTop g).frames = (.java g :: mid) ++ below := by rw [State.frames_setTop' g h.top, hmid]; rfl
  obtain ⟨o, s₂, hsteps, -, hend, hq⟩ := Steps.callFree hM p X.admits X.cas X.clock (acts := []) hfr happ hPc trivial
  have hq' : vx_Q Qc XC mc ms free a (U.calling g mk a) o s₂ := hq
  rw [State.frames_setTop' g h.top] at hend
  obtain ⟨g₀, hg0⟩ := Option.isSome_iff_exists.mp h.top
  obtain ⟨r, hr⟩ := State.topJava?_eq_some.mp hg0
  have hr' : (({ U with heap := s₂.heap, slotsUsed := s₂.slotsUsed } : State).setVm s₂.vm).frames = .java g₀ :: r := hr
  rcases hq' with ⟨hqc, L, hfe, hL⟩ | ⟨q, rfl, E, ce, L, hx, hce, hcv, hcl, hW₂, hsm, hL⟩
  · obtain ⟨⟨v, rfl⟩, hW₂, e2, q2, q3, q4, q5, q6⟩ := id hfe
    have e3 : s₂ = ({ (U.calling g mk a).setFrames s₂.frames with heap := s₂.heap, slotsUsed := s₂.slotsUsed } : State).setVm s₂.vm := by
      have : s₂ = ({ s₂ with vm := (U.calling g mk a).vm } : State).setVm s₂.vm := rfl
      rw [e2] at this
      exact this
    obtain ⟨c₂, i₂, len₂, hc₂, hd₂, hf₂⟩ := hend
    have hW' : U.WarmedH s₂.vm := hW₂
    have hcc : c₂ = c := by
      have h1 : s₂.code? g.method = U.code? g.method := by
        rw [State.code?_eq, State.code?_eq, hW'.alike.method?]
      exact Option.some.inj (hc₂.symm.trans (h1.trans h.code))
    subst hcc
    have hlen : len₂ = len := by rw [hdg] at hd₂; cases hd₂; rfl
    subst hlen
    have hs₂ : s₂ = (({ U with heap := s₂.heap, slotsUsed := s₂.slotsUsed } : State).setVm s₂.vm).setTop { g with pc := g.pc + len₂, stack := v.toList ++ g.stack } := by
      refine e3.trans ?_
      rw [hf₂, State.calling_eq h.top, State.setFrames_setFrames, State.setTop_of_frames _ hr', hr]
      rfl
    have hsame : U.sameButNew ({ U with heap := s₂.heap, slotsUsed := s₂.slotsUsed } : State) L mc ms := by
      refine ⟨?_, q2, q3, q4, q5, q6⟩
      obtain ⟨t, ht, -⟩ := State.frames_cons hr
      show ({ U with heap := s₂.heap, slotsUsed := s₂.slotsUsed } : State) = { U.setFrames U.frames with heap := s₂.heap, slotsUsed := s₂.slotsUsed }
      rw [State.setFrames_self ht]
    subst hg
    refine Or.inl ⟨v, ⟨(({ U with heap := s₂.heap, slotsUsed := s₂.slotsUsed } : State).setVm s₂.vm), Ls ++ L, c0 + mc, s0 + ms⟩,
      ⟨X.admits, X.cas, X.clock, X.frames, X.room, X.hears, X.method, X.code, (X.here.setHeapUsed s₂.heap s₂.slotsUsed).setVm hW'.alike, X.tail, State.WarmedH.trans X.warmed hW', X.limits, X.bytes, X.same.trans (hsame.setVm s.vm)⟩,
      ⟨g, mk, s₂, L, rfl, rfl, hqc, rfl, hL, rfl, rfl⟩, ?_⟩
    show Steps p.tables e below _ ((({ U with heap := s₂.heap, slotsUsed := s₂.slotsUsed } : State).setVm s₂.vm).setTop { g with pc := g.pc + len₂, stack := v.toList ++ g.stack })
    rw [← hs₂]
    exact hsteps
  · obtain ⟨e2, q2, q3, q4, q5, q6⟩ := id hsm
    have e3 : s₂ = ({ (U.calling g mk a).setFrames s₂.frames with heap := s₂.heap, slotsUsed := s₂.slotsUsed } : State).setVm s₂.vm := by
      have : s₂ = ({ s₂ with vm := (U.calling g mk a).vm } : State).setVm s₂.vm := rfl
      rw [e2] at this
      exact this
    have hf₂ : s₂.frames = .throwing q :: .java g :: U.frames.tail := hend
    have hW' : U.WarmedH s₂.vm := hW₂
    have hs₂ : s₂ = ((({ U with heap := s₂.heap, slotsUsed := s₂.slotsUsed } : State).setVm s₂.vm).setTop g).pushFrame (.throwing q) := by
      refine e3.trans ?_
      rw [hf₂, State.calling_eq h.top, State.setFrames_setFrames, State.pushFrame, State.frames_setTop _ hr', State.setTop_of_frames _ hr', State.setFrames_setFrames, hr]
      rfl
    have hsame : U.sameButNew ({ U with heap := s₂.heap, slotsUsed := s₂.slotsUsed } : State) L mc ms := by
      refine ⟨?_, q2, q3, q4, q5, q6⟩
      obtain ⟨t, ht, -⟩ := State.frames_cons hr
      show ({ U with heap := s₂.heap, slotsUsed := s₂.slotsUsed } : State) = { U.setFrames U.frames with heap := s₂.heap, slotsUsed := s₂.slotsUsed }
      rw [State.setFrames_self ht]
    subst hg
    refine Or.inr ⟨q, ⟨(({ U with heap := s₂.heap, slotsUsed := s₂.slotsUsed } : State).setVm s₂.vm), Ls ++ L, c0 + mc, s0 + ms⟩,
      ⟨X.admits, X.cas, X.clock, X.frames, X.room, X.hears, X.method, X.code, (X.here.setHeapUsed s₂.heap s₂.slotsUsed).setVm hW'.alike, X.tail, State.WarmedH.trans X.warmed hW', X.limits, X.bytes, X.same.trans (hsame.setVm s.vm)⟩,
      ⟨g, mk, s₂, L, E, ce, rfl, rfl, hx, hce, hcv, hcl, rfl, hL, rfl, rfl⟩, ?_⟩
    show Steps p.tables e below _ (((({ U with heap := s₂.heap, slotsUsed := s₂.slotsUsed } : State).setVm s₂.vm).setTop g).pushFrame (.throwing q))
    rw [← hs₂]
    exact hsteps
end
variable {p : Program} {l : Launch} {e : Env} {R : Room} {s : State} {m : MethodId} {args : Array Value} {below : List Frame} {meth : Method} {c : Code} {T : State} {H : Heap} {locs : List Loc} {cells slots : Nat}
theorem vx_callVX (X : Stand p l e R s m args below meth c T locs cells slots) (hexec : p.tables.exec = Jvm.exec) {own C : String} {index : Nat} {y : MethodName} {bytes : ByteArray} {maxL : Nat} {ret : Option FieldType} {hh : List (Nat × Nat × Nat × Nat)}
    (hown : s.vm.findClass own = some m.cls) (hlink : (Cond.methodLink own index y).before args s = true) (hinst : (Cond.instanceMethod y).before args s = true) (hsel : (Cond.selects C y y).before args s = true)
    (hcode : (Cond.codeWith y bytes maxL ret hh).before args s = true) (hy : y.cls ≠ "java/lang/invoke/MethodHandle" ∧ y.cls ≠ "java/lang/invoke/VarHandle")
    {W9 : Nat} {Pre : Pt → Array Value → Prop} {Post : Pt → Array Value → Option Value → Pt → Prop} {PostX : Pt → Array Value → Addr → Pt → Prop} (hK : vx_Back l R p e below s args y 3 W9 Pre Post PostX)
    {b : Addr} {cellB : Cell} (hcell : T.heap[b]? = some cellB) (hobj : cellB.vm.isStatics = false) (hcls : s.vm.findClass C = some cellB.cls)
    {g : JFrame} (hg : g.method = m) (hsize : g.locals.size = c.maxLocals) {argsL rest : List Value} (hlen : ∀ sig, parseMethodDescriptor y.desc = some sig → argsL.length = sig.parameters.length)
    (hstack : g.stack = argsL.reverse ++ .ref b :: rest) (hW : 2 * g.monitorRoom + (rest.map fun v => v.category).sum ≤ W9) (hdg : decode c.code g.pc = .ok (.invokevirtual index, 3))
    (hpre : ∀ vm₁, s.WarmedH vm₁ → Pre ⟨T.setVm vm₁, locs, cells, slots⟩ (Value.ref b :: argsL).toArray) :
    (∃ (v : Option Value) (vm₁ : Vm) (B : Pt), s.WarmedH vm₁ ∧ Stand p l e R s m args below meth c B.U B.locs B.cells B.slots ∧ Post ⟨T.setVm vm₁, locs, cells, slots⟩ (Value.ref b :: argsL).toArray v B ∧
      ∀ target, Steps p.tables e below (B.U.setTop { g with pc := g.pc + 3, stack := v.toList ++ rest }) target → Steps p.tables e below (T.setTop g) target) ∨
    (∃ (q : Addr) (vm₁ : Vm) (B : Pt), s.WarmedH vm₁ ∧ Stand p l e R s m args below meth c B.U B.locs B.cells B.slots ∧ PostX ⟨T.setVm vm₁, locs, cells, slots⟩ (Value.ref b :: argsL).toArray q B ∧
      Steps p.tables e below (T.setTop g) ((B.U.setTop { g with stack := rest }).pushFrame (.throwing q))) := by
  obtain ⟨mk, methM, hnamed, hmethM, hstM, habM⟩ := Cond.instanceMethod_spec hinst
  obtain ⟨m8, methM', cM, hn8, hmethM', -, -, -, -, -, -, hsigM⟩ := Cond.codeWith_spec hcode
  cases Option.some.inj (hn8.symm.trans hnamed)
  cases hmethM.symm.trans hmethM'
  obtain ⟨c2, r2, m2, q1, q2, q3, q4, kP, hkP, hkPi⟩ := Cond.selects_spec hsel
  cases hcls.symm.trans q1
  cases (State.methodFound?_of_named hnamed hy).symm.trans q2
  cases hnamed.symm.trans q3
  have hselP : selectMethod e.platform s.vm cellB.cls mk = .method mk := by rw [Launch.admits_selectMethod X.admits]; exact q4
  obtain ⟨vm₁, X₁, hstep₁⟩ := X.invokevirtual hexec hown hlink hnamed hmethM hstM hkP hkPi hy (a := b) (cell := cellB) hcell
    (fun z h => by rw [h] at hobj; cases hobj) hselP hmethM habM hkP hkPi (g := g) hg (argsL := argsL) (rest := rest) (hlen _ hsigM) hstack hdg
  rcases hK m meth c ⟨T.setVm vm₁, locs, cells, slots⟩ { g with stack := rest } (.invokevirtual index) mk (Value.ref b :: argsL).toArray X₁ hg hsize hdg hW (X₁.named hnamed) (hpre vm₁ X₁.warmed) with ⟨v, B, X', hpost, hsteps⟩ | ⟨q, B, X', hpost, hsteps⟩
  · exact Or.inl ⟨v, vm₁, B, X₁.warmed, X', hpost, fun target h => hstep₁ _ fun acts => by rw [doInvoke_state]; exact hsteps.trans h⟩
  · exact Or.inr ⟨q, vm₁, B, X₁.warmed, X', hpost, hstep₁ _ fun acts => by rw [doInvoke_state]; exact hsteps⟩
theorem vx_callSX (X : Stand p l e R s m args below meth c T locs cells slots) (hexec : p.tables.exec = Jvm.exec) {own : String} {index : Nat} {y : MethodName} {bytes : ByteArray} {maxL : Nat} {ret : Option FieldType} {hh : List (Nat × Nat × Nat × Nat)}
    (hown : s.vm.findClass own = some m.cls) (hlink : (Cond.methodLink own index y).before args s = true) (hstat : (Cond.static y).before args s = true) (hinit : (Cond.initialized y.cls).before args s = true)
    (hcode : (Cond.codeWith y bytes maxL ret hh).before args s = true) (hy : y.cls ≠ "java/lang/invoke/MethodHandle" ∧ y.cls ≠ "java/lang/invoke/VarHandle")
    {W9 : Nat} {Pre : Pt → Array Value → Prop} {Post : Pt → Array Value → Option Value → Pt → Prop} {PostX : Pt → Array Value → Addr → Pt → Prop} (hK : vx_Back l R p e below s args y 3 W9 Pre Post PostX)
    {g : JFrame} (hg : g.method = m) (hsize : g.locals.size = c.maxLocals) {argsL rest : List Value} (hlen : ∀ sig, parseMethodDescriptor y.desc = some sig → argsL.length = sig.parameters.length)
    (hstack : g.stack = argsL.reverse ++ rest) (hW : 2 * g.monitorRoom + (rest.map fun v => v.category).sum ≤ W9) (hdg : decode c.code g.pc = .ok (.invokestatic index, 3))
    (hpre : ∀ vm₁, s.WarmedH vm₁ → Pre ⟨T.setVm vm₁, locs, cells, slots⟩ argsL.toArray) :
    (∃ (v : Option Value) (vm₁ : Vm) (B : Pt), s.WarmedH vm₁ ∧ Stand p l e R s m args below meth c B.U B.locs B.cells B.slots ∧ Post ⟨T.setVm vm₁, locs, cells, slots⟩ argsL.toArray v B ∧
      ∀ target, Steps p.tables e below (B.U.setTop { g with pc := g.pc + 3, stack := v.toList ++ rest }) target → Steps p.tables e below (T.setTop g) target) ∨
    (∃ (q : Addr) (vm₁ : Vm) (B : Pt), s.WarmedH vm₁ ∧ Stand p l e R s m args below meth c B.U B.locs B.cells B.slots ∧ PostX ⟨T.setVm vm₁, locs, cells, slots⟩ argsL.toArray q B ∧
      Steps p.tables e below (T.setTop g) ((B.U.setTop { g with stack := rest }).pushFrame (.throwing q))) := by
  obtain ⟨mk, methM, cM, hnamed, hmethM, -, -, -, -, -, -, hsigM⟩ := Cond.codeWith_spec hcode
  have hstatic : methM.isStatic = true := Cond.static_spec hnamed hmethM hstat
  obtain ⟨kP, hkP, -⟩ := className_of_methodNamed hnamed
  have hinitP : kP.init = .initialized := Cond.initialized_spec (findClass_of_methodNamed hnamed) hkP hinit
  obtain ⟨vm₁, X₁, hstep₁⟩ := X.invokestatic hexec hown hlink hnamed hmethM hstatic hkP hinitP hy (g := g) hg (argsL := argsL) (rest := rest) (hlen _ hsigM) hstack hdg
  rcases hK m meth c ⟨T.setVm vm₁, locs, cells, slots⟩ { g with stack := rest } (.invokestatic index) mk argsL.toArray X₁ hg hsize hdg hW (X₁.named hnamed) (hpre vm₁ X₁.warmed) with ⟨v, B, X', hpost, hsteps⟩ | ⟨q, B, X', hpost, hsteps⟩
  · exact Or.inl ⟨v, vm₁, B, X₁.warmed, X', hpost, fun target h => hstep₁ _ fun acts => by rw [doInvoke_state]; exact hsteps.trans h⟩
  · exact Or.inr ⟨q, vm₁, B, X₁.warmed, X', hpost, hstep₁ _ fun acts => by rw [doInvoke_state]; exact hsteps⟩
theorem vx_callVW (X : Stand p l e R s m args below meth c T locs cells slots) (hexec : p.tables.exec = Jvm.exec) {own C : String} {index : Nat} {y : MethodName} {bytes : ByteArray} {maxL : Nat} {ret : Option FieldType} {hh : List (Nat × Nat × Nat × Nat)}
    (hown : s.vm.findClass own = some m.cls) (hlink : (Cond.methodLink own index y).before args s = true) (hinst : (Cond.instanceMethod y).before args s = true) (hsel : (Cond.selects C y y).before args s = true)
    (hcode : (Cond.codeWith y bytes maxL ret hh).before args s = true) (hy : y.cls ≠ "java/lang/invoke/MethodHandle" ∧ y.cls ≠ "java/lang/invoke/VarHandle")
    {W9 : Nat} {Pre : Pt → Array Value → Prop} {Post : Pt → Array Value → Option Value → Pt → Prop} (hK : Back l R p e below s args y 3 W9 Pre Post)
    {b : Addr} {cellB : Cell} (hcell : T.heap[b]? = some cellB) (hobj : cellB.vm.isStatics = false) (hcls : s.vm.findClass C = some cellB.cls)
    {g : JFrame} (hg : g.method = m) (hsize : g.locals.size = c.maxLocals) {argsL rest : List Value} (hlen : ∀ sig, parseMethodDescriptor y.desc = some sig → argsL.length = sig.parameters.length)
    (hstack : g.stack = argsL.reverse ++ .ref b :: rest) (hW : 2 * g.monitorRoom + (rest.map fun v => v.category).sum ≤ W9) (hdg : decode c.code g.pc = .ok (.invokevirtual index, 3))
    (hpre : ∀ vm₁, s.WarmedH vm₁ → Pre ⟨T.setVm vm₁, locs, cells, slots⟩ (Value.ref b :: argsL).toArray) :
    ∃ (v : Option Value) (vm₁ : Vm) (B : Pt), s.WarmedH vm₁ ∧ Stand p l e R s m args below meth c B.U B.locs B.cells B.slots ∧ Post ⟨T.setVm vm₁, locs, cells, slots⟩ (Value.ref b :: argsL).toArray v B ∧
      ∀ target, Steps p.tables e below (B.U.setTop { g with pc := g.pc + 3, stack := v.toList ++ rest }) target → Steps p.tables e below (T.setTop g) target := by
  obtain ⟨mk, methM, hnamed, hmethM, hstM, habM⟩ := Cond.instanceMethod_spec hinst
  obtain ⟨m8, methM', cM, hn8, hmethM', -, -, -, -, -, -, hsigM⟩ := Cond.codeWith_spec hcode
  cases Option.some.inj (hn8.symm.trans hnamed)
  cases hmethM.symm.trans hmethM'
  obtain ⟨c2, r2, m2, q1, q2, q3, q4, kP, hkP, hkPi⟩ := Cond.selects_spec hsel
  cases hcls.symm.trans q1
  cases (State.methodFound?_of_named hnamed hy).symm.trans q2
  cases hnamed.symm.trans q3
  have hselP : selectMethod e.platform s.vm cellB.cls mk = .method mk := by rw [Launch.admits_selectMethod X.admits]; exact q4
  obtain ⟨vm₁, X₁, hstep₁⟩ := X.invokevirtual hexec hown hlink hnamed hmethM hstM hkP hkPi hy (a := b) (cell := cellB) hcell
    (fun z h => by rw [h] at hobj; cases hobj) hselP hmethM habM hkP hkPi (g := g) hg (argsL := argsL) (rest := rest) (hlen _ hsigM) hstack hdg
  obtain ⟨v, B, X', hpost, hsteps⟩ := hK m meth c ⟨T.setVm vm₁, locs, cells, slots⟩ { g with stack := rest } (.invokevirtual index) mk (Value.ref b :: argsL).toArray X₁ hg hsize hdg hW (X₁.named hnamed) (hpre vm₁ X₁.warmed)
  exact ⟨v, vm₁, B, X₁.warmed, X', hpost, fun target h => hstep₁ _ fun acts => by rw [doInvoke_state]; exact hsteps.trans h⟩
abbrev vx_CVW (R : Room) (s : State) (args : Array Value) (own C : String) (index : Nat) (y : MethodName) (bytes : ByteArray) (maxL : Nat) (ret : Option FieldType) (hh : List (Nat × Nat × Nat × Nat)) (ws : List Cond) (rm : Room) (mc ms n : Nat) : Prop :=
  (rm.cells = mc ∧ rm.slots = ms ∧ rm.frames + 1 ≤ R.frames ∧ 8 + (maxL + 11) + rm.locals ≤ R.locals ∧ (∀ w ∈ ws, ∀ (a' : Array Value) (U : State), s.WarmedH U.vm → w.before a' U = true) ∧ Cond.codeWith y bytes maxL ret hh ∈ ws) ∧
  (Cond.codeWith y bytes maxL ret hh).before args s = true ∧ (Cond.initialized y.cls).before args s = true ∧ (y.cls ≠ "java/lang/invoke/MethodHandle" ∧ y.cls ≠ "java/lang/invoke/VarHandle") ∧
  (∀ sig, parseMethodDescriptor y.desc = some sig → n = sig.parameters.length) ∧ (Cond.methodLink own index y).before args s = true ∧ (Cond.instanceMethod y).before args s = true ∧ (Cond.selects C y y).before args s = true
theorem vx_cwVW {own C : String} {index maxL mc ms : Nat} {y : MethodName} {bytes : ByteArray} {ret : Option FieldType} {hh : List (Nat × Nat × Nat × Nat)} {Ts ws ws' : List Cond} {rm : Room} (n : Nat) (ht : ∀ w ∈ Ts, w.before args s = true) (hT : GoodIn Ts (wsV own index C y ws)) (hw : ws = Cond.codeWith y bytes maxL ret hh :: ws') (hrc : rm.cells = mc) (hrs : rm.slots = ms)
    (hd : y.cls = C ∧ y.cls ≠ "java/lang/invoke/MethodHandle" ∧ y.cls ≠ "java/lang/invoke/VarHandle" ∧ (parseMethodDescriptor y.desc).map (fun d => d.parameters.length) = some n) (hR : rm.frames + 1 ≤ R.frames ∧ 8 + (maxL + 11) + rm.locals ≤ R.locals) :
    vx_CVW R s args own C index y bytes maxL ret hh ws rm mc ms n := by
  obtain ⟨hC, hd⟩ := hd
  subst hC
  have ok : ∀ w ∈ wsV own index y.cls y ws, w.before args s = true := fun w h => ht w (hT w h).1
  have hG : GoodIn Ts ws := fun w h => hT w (by unfold wsV; exact List.mem_append_right _ h)
  have hc : Cond.codeWith y bytes maxL ret hh ∈ ws := by rw [hw]; exact List.mem_cons_self
  refine ⟨⟨hrc, hrs, hR.1, hR.2, pay_in ht hG, hc⟩, ht _ (hG _ hc).1, ok _ (by simp [wsV]), ⟨hd.1, hd.2.1⟩, fun sig h => ?_, ok _ (by simp [wsV]), ok _ (by simp [wsV]), ok _ (by simp [wsV])⟩
  have h2 := hd.2.2
  rw [h] at h2
  exact (Option.some.inj h2).symm
theorem vx_runVW {y : MethodName} {bytes cc : ByteArray} {maxL nL mc ms n index : Nat} {ret : Option FieldType} {hh : List (Nat × Nat × Nat × Nat)} {ws : List Cond} {rm : Room} {Pc : Array Value → State → Prop} {Qc : Array Value → State → Outcome → State → Prop} {free : Addr → Prop} {Ts : List Cond} {own C : String} {b : Addr} {As rest : List Value} {g : JFrame}
    (S : CallFix p m c cc nL s args Ts own) (hM : Met l y ws rm Pc Qc mc ms free) (cw : vx_CVW R s args own C index y bytes maxL ret hh ws rm mc ms n) (hp : PreV s H C b Pc As)
    (hg : g.method = m) (hn : As.length = n) (hsize : g.locals.size = nL) (hstack : g.stack = As.reverse ++ .ref b :: rest) (hW : 2 * g.monitorRoom + (rest.map fun v => v.category).sum ≤ 8) (hdg : decode cc g.pc = .ok (.invokevirtual index, 3)) (hf : cells + mc ≤ R.cells ∧ slots + ms ≤ R.slots) :
    va_Run p l e R s m args below meth c H locs cells slots mc ms g rest (Qc (Value.ref b :: As).toArray) free := by
  obtain ⟨⟨hrc, hrs, hfr, hlo, hws, hcw⟩, hcode, hini, hy, hlen, hl, hin, hse⟩ := cw
  have hK : Back l R p e below s args y 3 8 (PreOf R mc ms Pc) (PostOf Qc mc ms free) := va_backW (hh := hh) (bytes := bytes) (maxL := maxL) (ret := ret) hM hp.1 hrc hrs hfr hlo hws hcw (fun a' U hW => word_at hW (Or.inl (by first | rfl | simp [Cond.onTables, Cond.keeps, Cond.steady])) hini)
  obtain ⟨hx, hb, hml, ho, -⟩ := S
  obtain ⟨-, ⟨cellB, hcB, hoB, hclB⟩, hPc⟩ := hp
  intro T hT X
  obtain ⟨v, vm₁, ⟨U', l2, c2, s2⟩, hW₁, X', ⟨g', mk, t, L, e1, e2, hq, h1, hL, h2, h3⟩, st⟩ := vx_callVW X hx (C := C) (hh := hh) (bytes := bytes) (maxL := maxL) (ret := ret) ho hl hin hse hcode hy hK (by rw [hT]; exact hcB) hoB hclB hg (hsize.trans hml.symm) (argsL := As) (rest := rest) (fun sig h => hn.trans (hlen sig h)) hstack hW (by rw [hb]; exact hdg)
    (fun vm₁ hW₁ => ⟨hf.1, hf.2, hPc (T.setVm vm₁) hT hW₁⟩)
  dsimp only [Pt.U, Pt.locs, Pt.cells, Pt.slots] at X' e1 e2 h1 h2 h3 st
  subst h1; subst h2; subst h3
  exact ⟨v, (T.setVm vm₁).calling g' mk (Value.ref b :: As).toArray, t, U', L, hT, X', hL, e1, e2, hq, st⟩
section
variable {y : MethodName} {bytes cc : ByteArray} {maxL nL mc ms n index : Nat} {ret : Option FieldType} {ws : List Cond} {rm : Room} {Pc : Array Value → State → Prop} {Qc : Array Value → State → Outcome → State → Prop} {XC : String → State → State → Prop} {free : Addr → Prop} {Ts : List Cond} {own C : String} {b : Addr} {As rest : List Value} {g : JFrame}
theorem vx_runVX {hh : List (Nat × Nat × Nat × Nat)} (S : CallFix p m c cc nL s args Ts own) (hM : vx_Met l y ws rm Pc Qc XC mc ms free) (cw : vx_CVW R s args own C index y bytes maxL ret hh ws rm mc ms n) (hp : PreV s H C b Pc As)
    (hg : g.method = m) (hn : As.length = n) (hsize : g.locals.size = nL) (hstack : g.stack = As.reverse ++ .ref b :: rest) (hW : 2 * g.monitorRoom + (rest.map fun v => v.category).sum ≤ 8) (hdg : decode cc g.pc = .ok (.invokevirtual index, 3)) (hf : cells + mc ≤ R.cells ∧ slots + ms ≤ R.slots) :
    vx_Run p l e R s m args below meth c H locs cells slots mc ms g rest (Qc (Value.ref b :: As).toArray) XC free := by
  obtain ⟨⟨hrc, hrs, hfr, hlo, hws, hcw⟩, hcode, hini, hy, hlen, hl, hin, hse⟩ := cw
  have hK : vx_Back l R p e below s args y 3 8 (PreOf R mc ms Pc) (PostOf Qc mc ms free) (vx_Post XC mc ms free) := vx_backW (hh := hh) (bytes := bytes) (maxL := maxL) (ret := ret) hM hp.1 hrc hrs hfr hlo hws hcw (fun a' U hW => word_at hW (Or.inl (by first | rfl | simp [Cond.onTables, Cond.keeps, Cond.steady])) hini)
  obtain ⟨hx, hb, hml, ho, -⟩ := S
  obtain ⟨-, ⟨cellB, hcB, hoB, hclB⟩, hPc⟩ := hp
  intro T hT X
  rcases vx_callVX X hx (C := C) (hh := hh) (bytes := bytes) (maxL := maxL) (ret := ret) ho hl hin hse hcode hy hK (by rw [hT]; exact hcB) hoB hclB hg (hsize.trans hml.symm) (argsL := As) (rest := rest) (fun sig h => hn.trans (hlen sig h)) hstack hW (by rw [hb]; exact hdg)
    (fun vm₁ hW₁ => ⟨hf.1, hf.2, hPc (T.setVm vm₁) hT hW₁⟩) with ⟨v, vm₁, ⟨U', l2, c2, s2⟩, hW₁, X', ⟨g', mk, t, L, e1, e2, hq, h1, hL, h2, h3⟩, st⟩ | ⟨q, vm₁, ⟨U', l2, c2, s2⟩, hW₁, X', ⟨g', mk, t, L, E, ce, e1, e2, hq, hce, hcv, hcl, h1, hL, h2, h3⟩, st⟩
  · dsimp only [Pt.U, Pt.locs, Pt.cells, Pt.slots] at X' e1 e2 h1 h2 h3 st
    subst h1; subst h2; subst h3
    exact Or.inl ⟨v, (T.setVm vm₁).calling g' mk (Value.ref b :: As).toArray, t, U', L, hT, X', hL, e1, e2, hq, st⟩
  · dsimp only [Pt.U, Pt.locs, Pt.cells, Pt.slots] at X' e1 e2 h1 h2 h3 st hcl
    subst h1; subst h2; subst h3
    exact Or.inr ⟨q, (T.setVm vm₁).calling g' mk (Value.ref b :: As).toArray, t, U', L, E, ce, hT, X', hL, e1, e2, hq, hce, hcv, vx_cls hW₁ hcl, st⟩
theorem vx_runSX {hh : List (Nat × Nat × Nat × Nat)} (S : CallFix p m c cc nL s args Ts own) (hM : vx_Met l y ws rm Pc Qc XC mc ms free) (cw : vx_CSW R s args own index y bytes maxL ret hh ws rm mc ms n) (hp : PreS s H Pc As)
    (hg : g.method = m) (hn : As.length = n) (hsize : g.locals.size = nL) (hstack : g.stack = As.reverse ++ rest) (hW : 2 * g.monitorRoom + (rest.map fun v => v.category).sum ≤ 8) (hdg : decode cc g.pc = .ok (.invokestatic index, 3)) (hf : cells + mc ≤ R.cells ∧ slots + ms ≤ R.slots) :
    vx_Run p l e R s m args below meth c H locs cells slots mc ms g rest (Qc As.toArray) XC free := by
  obtain ⟨⟨hrc, hrs, hfr, hlo, hws, hcw⟩, hcode, hini, hy, hlen, hl, hstt⟩ := cw
  have hK : vx_Back l R p e below s args y 3 8 (PreOf R mc ms Pc) (PostOf Qc mc ms free) (vx_Post XC mc ms free) := vx_backW (hh := hh) (bytes := bytes) (maxL := maxL) (ret := ret) hM hp.1 hrc hrs hfr hlo hws hcw (fun a' U hW => word_at hW (Or.inl (by first | rfl | simp [Cond.onTables, Cond.keeps, Cond.steady])) hini)
  obtain ⟨hx, hb, hml, ho, -⟩ := S
  intro T hT X
  rcases vx_callSX X hx (hh := hh) (bytes := bytes) (maxL := maxL) (ret := ret) ho hl hstt hini hcode hy hK hg (hsize.trans hml.symm) (argsL := As) (rest := rest) (fun sig h => hn.trans (hlen sig h)) hstack hW (by rw [hb]; exact hdg)
    (fun vm₁ hW₁ => ⟨hf.1, hf.2, hp.2 (T.setVm vm₁) hT hW₁⟩) with ⟨v, vm₁, ⟨U', l2, c2, s2⟩, hW₁, X', ⟨g', mk, t, L, e1, e2, hq, h1, hL, h2, h3⟩, st⟩ | ⟨q, vm₁, ⟨U', l2, c2, s2⟩, hW₁, X', ⟨g', mk, t, L, E, ce, e1, e2, hq, hce, hcv, hcl, h1, hL, h2, h3⟩, st⟩
  · dsimp only [Pt.U, Pt.locs, Pt.cells, Pt.slots] at X' e1 e2 h1 h2 h3 st
    subst h1; subst h2; subst h3
    exact Or.inl ⟨v, (T.setVm vm₁).calling g' mk As.toArray, t, U', L, hT, X', hL, e1, e2, hq, st⟩
  · dsimp only [Pt.U, Pt.locs, Pt.cells, Pt.slots] at X' e1 e2 h1 h2 h3 st hcl
    subst h1; subst h2; subst h3
    exact Or.inr ⟨q, (T.setVm vm₁).calling g' mk As.toArray, t, U', L, E, ce, hT, X', hL, e1, e2, hq, hce, hcv, vx_cls hW₁ hcl, st⟩
end
end VXH
theorem vx_ofWH {l : Launch} {y : MethodName} {ws ws' : List Cond} {rm : Room} {Pc : Array Value → State → Prop} {Qc : Array Value → State → Outcome → State → Prop} {XC : String → State → State → Prop} {mc ms : Nat} {free : Addr → Prop} {cc : ByteArray} {maxL : Nat} {ret : Option FieldType} {hh : List (Nat × Nat × Nat × Nat)}
    (hy : plainName y.cls = true) (hw : ws = Cond.codeWith y cc maxL ret hh :: ws')
    (body : ∀ p e s m args below meth c s₁, BodyLoose p l y (headSpec ws rm) cc maxL ret e s m args below meth c s₁ → c.maxLocals = maxL → Pc args s →
      W p l e (headSpec ws rm).room s m args below meth c s.heap [] 0 0 (vx_MQ below Qc XC args s mc ms free) (entryFrame m args maxL)) : vx_Met l y ws rm Pc Qc XC mc ms free := by
  refine MetFree.of_bodyS (code := cc) (maxLocals := maxL) (ret := ret) hy ?_ ?_
  · intro args s m h hn
    obtain ⟨m9, meth, c, hn9, h1, h2, h3, h4, -, h5, h6, -⟩ := Cond.codeWith_spec (atoms_spec (ws := ws) h _ (by rw [hw]; exact List.mem_cons_self))
    cases hn.symm.trans hn9
    exact ⟨meth, c, h1, h2, h3, h4, h5, h6⟩
  · intro p e s m args below meth c s₁ B hml hP _
    have hh0 : s₁.heap = s.heap := by rw [B.state]; rfl
    obtain ⟨t, a1, o, b1, b2, b3⟩ := body p e s m args below meth c s₁ B hml hP s₁ hh0 (Stand.of_body B)
    exact ⟨t, o, a1, b1, b2, b3⟩
/-! ===== END ===== -/
end
section
def RX0 : String := "SignMasons$Book"
def TX0 : u_T := fun k => match k with
  | 0 => ("SignMasons$Book", "places", "LSignMasons$Places;", true)
  | 1 => ("SignMasons$Book", "looks", "[I", true)
  | 2 => ("SignMasons$Book", "meanings", "[I", true)
  | _ => ("SignMasons$Book", "count", "I", false)
def tyX0 : Nat → FieldType := fun k => match k with
  | 0 => .object "SignMasons$Places"
  | 1 => .array .int
  | 2 => .array .int
  | _ => .int
abbrev wsX00 : List Cond := u_ws RX0 TX0 4
theorem nmX0 : ∀ a, a < 4 → ∀ b, b < 4 → a ≠ b → (TX0 a).2.1 ≠ (TX0 b).2.1 := by decide +kernel
theorem tyX0_ok : ∀ k, k < 4 → parseFieldDescriptor (TX0 k).2.2.1 = some (tyX0 k) := by decide +kernel
abbrev cX0_init : ByteArray := prog_2_method_1_code
def yX0_init : MethodName := ⟨RX0, "<init>", "(LSignMasons$Places;)V"⟩
abbrev cX0_copyFrom : ByteArray := prog_2_method_2_code
def yX0_copyFrom : MethodName := ⟨RX0, "copyFrom", "(LSignMasons$Book;)V"⟩
abbrev cX0_hasRoomFor : ByteArray := prog_2_method_3_code
def yX0_hasRoomFor : MethodName := ⟨RX0, "hasRoomFor", "(I)Z"⟩
abbrev cX0_append : ByteArray := prog_2_method_4_code
def yX0_append : MethodName := ⟨RX0, "append", "(II)I"⟩
abbrev cX0_remove : ByteArray := prog_2_method_5_code
def yX0_remove : MethodName := ⟨RX0, "remove", "(I)I"⟩
abbrev cX0_find : ByteArray := prog_2_method_6_code
def yX0_find : MethodName := ⟨RX0, "find", "(I)I"⟩
abbrev cX0_hasAlike : ByteArray := prog_2_method_7_code
def yX0_hasAlike : MethodName := ⟨RX0, "hasAlike", "(I)Z"⟩
abbrev cX0_firstUnlike : ByteArray := prog_2_method_8_code
def yX0_firstUnlike : MethodName := ⟨RX0, "firstUnlike", "(I)I"⟩
abbrev cX0_countAlike : ByteArray := prog_2_method_9_code
def yX0_countAlike : MethodName := ⟨RX0, "countAlike", "()I"⟩
abbrev cX0_countAlikeIfJoined : ByteArray := prog_2_method_10_code
def yX0_countAlikeIfJoined : MethodName := ⟨RX0, "countAlikeIfJoined", "(II)I"⟩
abbrev cX0_countThumbApart : ByteArray := prog_2_method_11_code
def yX0_countThumbApart : MethodName := ⟨RX0, "countThumbApart", "()I"⟩
abbrev cX0_nearestBut : ByteArray := prog_2_method_12_code
def yX0_nearestBut : MethodName := ⟨RX0, "nearestBut", "(II)I"⟩
abbrev cX0_fewestApart : ByteArray := prog_2_method_13_code
def yX0_fewestApart : MethodName := ⟨RX0, "fewestApart", "()I"⟩
abbrev cX0_countNear : ByteArray := prog_2_method_14_code
def yX0_countNear : MethodName := ⟨RX0, "countNear", "(I)I"⟩
abbrev cX0_signNearMost : ByteArray := prog_2_method_15_code
def yX0_signNearMost : MethodName := ⟨RX0, "signNearMost", "()I"⟩
abbrev cX0_thumbFarthest : ByteArray := prog_2_method_16_code
def yX0_thumbFarthest : MethodName := ⟨RX0, "thumbFarthest", "(I)I"⟩
abbrev cX0_meaningRead : ByteArray := prog_2_method_17_code
def yX0_meaningRead : MethodName := ⟨RX0, "meaningRead", "(I)I"⟩
abbrev cX0_countUnderstood : ByteArray := prog_2_method_18_code
def yX0_countUnderstood : MethodName := ⟨RX0, "countUnderstood", "(LSignMasons$Book;)I"⟩
abbrev cX0_countMisread : ByteArray := prog_2_method_19_code
def yX0_countMisread : MethodName := ⟨RX0, "countMisread", "(LSignMasons$Book;)I"⟩
abbrev cX0_countCommon : ByteArray := prog_2_method_20_code
def yX0_countCommon : MethodName := ⟨RX0, "countCommon", "(LSignMasons$Book;)I"⟩
def RX1 : String := "SignMasons$Look"
def TX1 : u_T := fun k => match k with
  | _ => ("", "", "", false)
def tyX1 : Nat → FieldType := fun k => match k with
  | _ => .int
abbrev wsX10 : List Cond := u_ws RX1 TX1 0
theorem nmX1 : ∀ a, a < 0 → ∀ b, b < 0 → a ≠ b → (TX1 a).2.1 ≠ (TX1 b).2.1 := by decide +kernel
theorem tyX1_ok : ∀ k, k < 0 → parseFieldDescriptor (TX1 k).2.2.1 = some (tyX1 k) := by decide +kernel
abbrev cX1_of : ByteArray := prog_3_method_2_code
def yX1_of : MethodName := ⟨RX1, "of", "(IIII)I"⟩
abbrev cX1_shape : ByteArray := prog_3_method_3_code
def yX1_shape : MethodName := ⟨RX1, "shape", "(I)I"⟩
abbrev cX1_thumb : ByteArray := prog_3_method_4_code
def yX1_thumb : MethodName := ⟨RX1, "thumb", "(I)I"⟩
abbrev cX1_movement : ByteArray := prog_3_method_5_code
def yX1_movement : MethodName := ⟨RX1, "movement", "(I)I"⟩
abbrev cX1_place : ByteArray := prog_3_method_6_code
def yX1_place : MethodName := ⟨RX1, "place", "(I)I"⟩
abbrev cX1_withThumb : ByteArray := prog_3_method_7_code
def yX1_withThumb : MethodName := ⟨RX1, "withThumb", "(II)I"⟩
abbrev cX1_sameButForPlace : ByteArray := prog_3_method_8_code
def yX1_sameButForPlace : MethodName := ⟨RX1, "sameButForPlace", "(II)Z"⟩
def RX2 : String := "SignMasons$Places"
def TX2 : u_T := fun k => match k with
  | 0 => ("SignMasons$Places", "groupAt", "[I", true)
  | _ => ("SignMasons$Places", "groupCount", "I", false)
def tyX2 : Nat → FieldType := fun k => match k with
  | 0 => .array .int
  | _ => .int
abbrev wsX20 : List Cond := u_ws RX2 TX2 2
theorem nmX2 : ∀ a, a < 2 → ∀ b, b < 2 → a ≠ b → (TX2 a).2.1 ≠ (TX2 b).2.1 := by decide +kernel
theorem tyX2_ok : ∀ k, k < 2 → parseFieldDescriptor (TX2 k).2.2.1 = some (tyX2 k) := by decide +kernel
abbrev cX2_init : ByteArray := prog_4_method_1_code
def yX2_init : MethodName := ⟨RX2, "<init>", "()V"⟩
abbrev cX2_unite : ByteArray := prog_4_method_2_code
def yX2_unite : MethodName := ⟨RX2, "unite", "(II)V"⟩
abbrev cX2_sameGroup : ByteArray := prog_4_method_3_code
def yX2_sameGroup : MethodName := ⟨RX2, "sameGroup", "(II)Z"⟩
abbrev cX2_sameGroupIf : ByteArray := prog_4_method_4_code
def yX2_sameGroupIf : MethodName := ⟨RX2, "sameGroupIf", "(IIII)Z"⟩
abbrev cX2_stepsBetween : ByteArray := prog_4_method_5_code
def yX2_stepsBetween : MethodName := ⟨RX2, "stepsBetween", "(II)I"⟩
abbrev cX2_alike : ByteArray := prog_4_method_6_code
def yX2_alike : MethodName := ⟨RX2, "alike", "(II)Z"⟩
abbrev cX2_alikeIf : ByteArray := prog_4_method_7_code
def yX2_alikeIf : MethodName := ⟨RX2, "alikeIf", "(IIII)Z"⟩
abbrev cX2_distance : ByteArray := prog_4_method_8_code
def yX2_distance : MethodName := ⟨RX2, "distance", "(II)I"⟩
def RX3 : String := "SignMasons"
def TX3 : u_T := fun k => match k with
  | 0 => ("SignMasons", "places", "LSignMasons$Places;", true)
  | 1 => ("SignMasons", "books", "[LSignMasons$Book;", true)
  | 2 => ("SignMasons", "trial", "LSignMasons$Book;", true)
  | _ => ("SignMasons", "lodgeCount", "I", false)
def tyX3 : Nat → FieldType := fun k => match k with
  | 0 => .object "SignMasons$Places"
  | 1 => .array (.object "SignMasons$Book")
  | 2 => .object "SignMasons$Book"
  | _ => .int
abbrev wsX30 : List Cond := u_ws RX3 TX3 4
theorem nmX3 : ∀ a, a < 4 → ∀ b, b < 4 → a ≠ b → (TX3 a).2.1 ≠ (TX3 b).2.1 := by decide +kernel
theorem tyX3_ok : ∀ k, k < 4 → parseFieldDescriptor (TX3 k).2.2.1 = some (tyX3 k) := by decide +kernel
abbrev cX3_init : ByteArray := prog_1_method_1_code
def yX3_init : MethodName := ⟨RX3, "<init>", "()V"⟩
abbrev cX3_addLodge : ByteArray := prog_1_method_2_code
def yX3_addLodge : MethodName := ⟨RX3, "addLodge", "()I"⟩
abbrev cX3_addSign : ByteArray := prog_1_method_3_code
def yX3_addSign : MethodName := ⟨RX3, "addSign", "(IIIIII)I"⟩
abbrev cX3_forget : ByteArray := prog_1_method_4_code
def yX3_forget : MethodName := ⟨RX3, "forget", "(II)I"⟩
abbrev cX3_setThumb : ByteArray := prog_1_method_5_code
def yX3_setThumb : MethodName := ⟨RX3, "setThumb", "(III)I"⟩
abbrev cX3_join : ByteArray := prog_1_method_6_code
def yX3_join : MethodName := ⟨RX3, "join", "(II)I"⟩
abbrev cX3_borrow : ByteArray := prog_1_method_7_code
def yX3_borrow : MethodName := ⟨RX3, "borrow", "(III)I"⟩
abbrev cX3_groups : ByteArray := prog_1_method_8_code
def yX3_groups : MethodName := ⟨RX3, "groups", "()I"⟩
abbrev cX3_areJoined : ByteArray := prog_1_method_9_code
def yX3_areJoined : MethodName := ⟨RX3, "areJoined", "(II)Z"⟩
abbrev cX3_steps : ByteArray := prog_1_method_10_code
def yX3_steps : MethodName := ⟨RX3, "steps", "(II)I"⟩
abbrev cX3_lodges : ByteArray := prog_1_method_11_code
def yX3_lodges : MethodName := ⟨RX3, "lodges", "()I"⟩
abbrev cX3_signsOf : ByteArray := prog_1_method_12_code
def yX3_signsOf : MethodName := ⟨RX3, "signsOf", "(I)I"⟩
abbrev cX3_shapeOf : ByteArray := prog_1_method_13_code
def yX3_shapeOf : MethodName := ⟨RX3, "shapeOf", "(II)I"⟩
abbrev cX3_thumbOf : ByteArray := prog_1_method_14_code
def yX3_thumbOf : MethodName := ⟨RX3, "thumbOf", "(II)I"⟩
abbrev cX3_placeOf : ByteArray := prog_1_method_15_code
def yX3_placeOf : MethodName := ⟨RX3, "placeOf", "(II)I"⟩
abbrev cX3_meaningOf : ByteArray := prog_1_method_16_code
def yX3_meaningOf : MethodName := ⟨RX3, "meaningOf", "(II)I"⟩
abbrev cX3_signFor : ByteArray := prog_1_method_17_code
def yX3_signFor : MethodName := ⟨RX3, "signFor", "(II)I"⟩
abbrev cX3_apart : ByteArray := prog_1_method_18_code
def yX3_apart : MethodName := ⟨RX3, "apart", "(III)I"⟩
abbrev cX3_alikePairs : ByteArray := prog_1_method_19_code
def yX3_alikePairs : MethodName := ⟨RX3, "alikePairs", "(I)I"⟩
abbrev cX3_thumbPairs : ByteArray := prog_1_method_20_code
def yX3_thumbPairs : MethodName := ⟨RX3, "thumbPairs", "(I)I"⟩
abbrev cX3_closest : ByteArray := prog_1_method_21_code
def yX3_closest : MethodName := ⟨RX3, "closest", "(I)I"⟩
abbrev cX3_mostMistaken : ByteArray := prog_1_method_22_code
def yX3_mostMistaken : MethodName := ⟨RX3, "mostMistaken", "(I)I"⟩
abbrev cX3_read : ByteArray := prog_1_method_23_code
def yX3_read : MethodName := ⟨RX3, "read", "(III)I"⟩
abbrev cX3_readShown : ByteArray := prog_1_method_24_code
def yX3_readShown : MethodName := ⟨RX3, "readShown", "(IIIII)I"⟩
abbrev cX3_understood : ByteArray := prog_1_method_25_code
def yX3_understood : MethodName := ⟨RX3, "understood", "(II)I"⟩
abbrev cX3_misread : ByteArray := prog_1_method_26_code
def yX3_misread : MethodName := ⟨RX3, "misread", "(II)I"⟩
abbrev cX3_common : ByteArray := prog_1_method_27_code
def yX3_common : MethodName := ⟨RX3, "common", "(II)I"⟩
abbrev cX3_bestThumb : ByteArray := prog_1_method_28_code
def yX3_bestThumb : MethodName := ⟨RX3, "bestThumb", "(II)I"⟩
abbrev cX3_bestToBorrow : ByteArray := prog_1_method_29_code
def yX3_bestToBorrow : MethodName := ⟨RX3, "bestToBorrow", "(II)I"⟩
abbrev cX3_alikeIfJoined : ByteArray := prog_1_method_30_code
def yX3_alikeIfJoined : MethodName := ⟨RX3, "alikeIfJoined", "(II)I"⟩
abbrev cX3_meanSigns : ByteArray := prog_1_method_31_code
def yX3_meanSigns : MethodName := ⟨RX3, "meanSigns", "()D"⟩
abbrev cX3_digest : ByteArray := prog_1_method_32_code
def yX3_digest : MethodName := ⟨RX3, "digest", "()J"⟩
abbrev cX3_mix : ByteArray := prog_1_method_33_code
def yX3_mix : MethodName := ⟨RX3, "mix", "(JJ)J"⟩
abbrev cX3_mixBook : ByteArray := prog_1_method_34_code
def yX3_mixBook : MethodName := ⟨RX3, "mixBook", "(JLSignMasons$Book;)J"⟩
abbrev cX3_mixSigns : ByteArray := prog_1_method_35_code
def yX3_mixSigns : MethodName := ⟨RX3, "mixSigns", "(JLSignMasons$Book;)J"⟩
abbrev cX3_tryLoan : ByteArray := prog_1_method_36_code
def yX3_tryLoan : MethodName := ⟨RX3, "tryLoan", "(LSignMasons$Book;ILSignMasons$Book;)Z"⟩
abbrev cX3_isBelow : ByteArray := prog_1_method_37_code
def yX3_isBelow : MethodName := ⟨RX3, "isBelow", "(II)Z"⟩
abbrev cX3_bookOf : ByteArray := prog_1_method_38_code
def yX3_bookOf : MethodName := ⟨RX3, "bookOf", "(I)LSignMasons$Book;"⟩
abbrev cX3_lookOf : ByteArray := prog_1_method_39_code
def yX3_lookOf : MethodName := ⟨RX3, "lookOf", "(II)I"⟩
abbrev cX3_checkSign : ByteArray := prog_1_method_40_code
def yX3_checkSign : MethodName := ⟨RX3, "checkSign", "(LSignMasons$Book;I)V"⟩
abbrev cX3_checkPlace : ByteArray := prog_1_method_41_code
def yX3_checkPlace : MethodName := ⟨RX3, "checkPlace", "(I)V"⟩
abbrev cX3_checkLook : ByteArray := prog_1_method_42_code
def yX3_checkLook : MethodName := ⟨RX3, "checkLook", "(IIII)V"⟩
def RX4 : String := "SignMasonsModel"
def TX4 : u_T := fun k => match k with
  | 0 => ("SignMasonsModel", "thrown", "I", false)
  | 1 => ("SignMasonsModel", "lodges", "I", false)
  | 2 => ("SignMasonsModel", "many", "[I", true)
  | 3 => ("SignMasonsModel", "shape", "[I", true)
  | 4 => ("SignMasonsModel", "thumb", "[I", true)
  | 5 => ("SignMasonsModel", "place", "[I", true)
  | 6 => ("SignMasonsModel", "move", "[I", true)
  | 7 => ("SignMasonsModel", "means", "[I", true)
  | _ => ("SignMasonsModel", "group", "[I", true)
def tyX4 : Nat → FieldType := fun k => match k with
  | 0 => .int
  | 1 => .int
  | 2 => .array .int
  | 3 => .array .int
  | 4 => .array .int
  | 5 => .array .int
  | 6 => .array .int
  | 7 => .array .int
  | _ => .array .int
abbrev wsX40 : List Cond := u_ws RX4 TX4 9
theorem nmX4 : ∀ a, a < 9 → ∀ b, b < 9 → a ≠ b → (TX4 a).2.1 ≠ (TX4 b).2.1 := by decide +kernel
theorem tyX4_ok : ∀ k, k < 9 → parseFieldDescriptor (TX4 k).2.2.1 = some (tyX4 k) := by decide +kernel
abbrev cX4_init : ByteArray := prog_6_method_1_code
def yX4_init : MethodName := ⟨RX4, "<init>", "()V"⟩
abbrev cX4_thrown : ByteArray := prog_6_method_2_code
def yX4_thrown : MethodName := ⟨RX4, "thrown", "()I"⟩
abbrev cX4_fail : ByteArray := prog_6_method_3_code
def yX4_fail : MethodName := ⟨RX4, "fail", "(I)I"⟩
abbrev cX4_told : ByteArray := prog_6_method_4_code
def yX4_told : MethodName := ⟨RX4, "told", "(I)I"⟩
abbrev cX4_isIn : ByteArray := prog_6_method_5_code
def yX4_isIn : MethodName := ⟨RX4, "isIn", "(III)Z"⟩
abbrev cX4_isLodge : ByteArray := prog_6_method_6_code
def yX4_isLodge : MethodName := ⟨RX4, "isLodge", "(I)Z"⟩
abbrev cX4_isSign : ByteArray := prog_6_method_7_code
def yX4_isSign : MethodName := ⟨RX4, "isSign", "(II)Z"⟩
abbrev cX4_isPlace : ByteArray := prog_6_method_8_code
def yX4_isPlace : MethodName := ⟨RX4, "isPlace", "(I)Z"⟩
abbrev cX4_isShown : ByteArray := prog_6_method_9_code
def yX4_isShown : MethodName := ⟨RX4, "isShown", "(IIII)Z"⟩
abbrev cX4_at : ByteArray := prog_6_method_10_code
def yX4_at : MethodName := ⟨RX4, "at", "(II)I"⟩
abbrev cX4_stepsOf : ByteArray := prog_6_method_11_code
def yX4_stepsOf : MethodName := ⟨RX4, "stepsOf", "(II)I"⟩
abbrev cX4_far : ByteArray := prog_6_method_12_code
def yX4_far : MethodName := ⟨RX4, "far", "(IIIII)I"⟩
abbrev cX4_far_ : ByteArray := prog_6_method_13_code
def yX4_far_ : MethodName := ⟨RX4, "far", "(II)I"⟩
abbrev cX4_reads : ByteArray := prog_6_method_14_code
def yX4_reads : MethodName := ⟨RX4, "reads", "(IIIII)I"⟩
abbrev cX4_reads_ : ByteArray := prog_6_method_15_code
def yX4_reads_ : MethodName := ⟨RX4, "reads", "(II)I"⟩
abbrev cX4_signOf : ByteArray := prog_6_method_16_code
def yX4_signOf : MethodName := ⟨RX4, "signOf", "(II)I"⟩
abbrev cX4_write : ByteArray := prog_6_method_17_code
def yX4_write : MethodName := ⟨RX4, "write", "(IIIIII)V"⟩
abbrev cX4_thumbFor : ByteArray := prog_6_method_18_code
def yX4_thumbFor : MethodName := ⟨RX4, "thumbFor", "(II)I"⟩
abbrev cX4_alike : ByteArray := prog_6_method_19_code
def yX4_alike : MethodName := ⟨RX4, "alike", "(I)I"⟩
abbrev cX4_readAs : ByteArray := prog_6_method_20_code
def yX4_readAs : MethodName := ⟨RX4, "readAs", "(IIZ)I"⟩
abbrev cX4_addLodge : ByteArray := prog_6_method_21_code
def yX4_addLodge : MethodName := ⟨RX4, "addLodge", "()I"⟩
abbrev cX4_addSign : ByteArray := prog_6_method_22_code
def yX4_addSign : MethodName := ⟨RX4, "addSign", "(IIIIII)I"⟩
abbrev cX4_close : ByteArray := prog_6_method_23_code
def yX4_close : MethodName := ⟨RX4, "close", "([III)V"⟩
abbrev cX4_forget : ByteArray := prog_6_method_24_code
def yX4_forget : MethodName := ⟨RX4, "forget", "(II)I"⟩
abbrev cX4_setThumb : ByteArray := prog_6_method_25_code
def yX4_setThumb : MethodName := ⟨RX4, "setThumb", "(III)I"⟩
abbrev cX4_allGroups : ByteArray := prog_6_method_26_code
def yX4_allGroups : MethodName := ⟨RX4, "allGroups", "()I"⟩
abbrev cX4_joinNow : ByteArray := prog_6_method_27_code
def yX4_joinNow : MethodName := ⟨RX4, "joinNow", "(II)V"⟩
abbrev cX4_join : ByteArray := prog_6_method_28_code
def yX4_join : MethodName := ⟨RX4, "join", "(II)I"⟩
abbrev cX4_borrow : ByteArray := prog_6_method_29_code
def yX4_borrow : MethodName := ⟨RX4, "borrow", "(III)I"⟩
abbrev cX4_groups : ByteArray := prog_6_method_30_code
def yX4_groups : MethodName := ⟨RX4, "groups", "()I"⟩
abbrev cX4_areJoined : ByteArray := prog_6_method_31_code
def yX4_areJoined : MethodName := ⟨RX4, "areJoined", "(II)Z"⟩
abbrev cX4_steps : ByteArray := prog_6_method_32_code
def yX4_steps : MethodName := ⟨RX4, "steps", "(II)I"⟩
abbrev cX4_lodges : ByteArray := prog_6_method_33_code
def yX4_lodges : MethodName := ⟨RX4, "lodges", "()I"⟩
abbrev cX4_signsOf : ByteArray := prog_6_method_34_code
def yX4_signsOf : MethodName := ⟨RX4, "signsOf", "(I)I"⟩
abbrev cX4_of : ByteArray := prog_6_method_35_code
def yX4_of : MethodName := ⟨RX4, "of", "(II[I)I"⟩
abbrev cX4_shapeOf : ByteArray := prog_6_method_36_code
def yX4_shapeOf : MethodName := ⟨RX4, "shapeOf", "(II)I"⟩
abbrev cX4_thumbOf : ByteArray := prog_6_method_37_code
def yX4_thumbOf : MethodName := ⟨RX4, "thumbOf", "(II)I"⟩
abbrev cX4_placeOf : ByteArray := prog_6_method_38_code
def yX4_placeOf : MethodName := ⟨RX4, "placeOf", "(II)I"⟩
abbrev cX4_meaningOf : ByteArray := prog_6_method_39_code
def yX4_meaningOf : MethodName := ⟨RX4, "meaningOf", "(II)I"⟩
abbrev cX4_signFor : ByteArray := prog_6_method_40_code
def yX4_signFor : MethodName := ⟨RX4, "signFor", "(II)I"⟩
abbrev cX4_apart : ByteArray := prog_6_method_41_code
def yX4_apart : MethodName := ⟨RX4, "apart", "(III)I"⟩
abbrev cX4_alikePairs : ByteArray := prog_6_method_42_code
def yX4_alikePairs : MethodName := ⟨RX4, "alikePairs", "(I)I"⟩
abbrev cX4_thumbs : ByteArray := prog_6_method_43_code
def yX4_thumbs : MethodName := ⟨RX4, "thumbs", "(I)I"⟩
abbrev cX4_thumbPairs : ByteArray := prog_6_method_44_code
def yX4_thumbPairs : MethodName := ⟨RX4, "thumbPairs", "(I)I"⟩
abbrev cX4_nearest : ByteArray := prog_6_method_45_code
def yX4_nearest : MethodName := ⟨RX4, "nearest", "(I)I"⟩
abbrev cX4_closest : ByteArray := prog_6_method_46_code
def yX4_closest : MethodName := ⟨RX4, "closest", "(I)I"⟩
abbrev cX4_mistaken : ByteArray := prog_6_method_47_code
def yX4_mistaken : MethodName := ⟨RX4, "mistaken", "(I)I"⟩
abbrev cX4_mostMistaken : ByteArray := prog_6_method_48_code
def yX4_mostMistaken : MethodName := ⟨RX4, "mostMistaken", "(I)I"⟩
abbrev cX4_read : ByteArray := prog_6_method_49_code
def yX4_read : MethodName := ⟨RX4, "read", "(III)I"⟩
abbrev cX4_readShown : ByteArray := prog_6_method_50_code
def yX4_readShown : MethodName := ⟨RX4, "readShown", "(IIIII)I"⟩
abbrev cX4_understood : ByteArray := prog_6_method_51_code
def yX4_understood : MethodName := ⟨RX4, "understood", "(II)I"⟩
abbrev cX4_misread : ByteArray := prog_6_method_52_code
def yX4_misread : MethodName := ⟨RX4, "misread", "(II)I"⟩
abbrev cX4_common : ByteArray := prog_6_method_53_code
def yX4_common : MethodName := ⟨RX4, "common", "(II)I"⟩
abbrev cX4_bestThumbOf : ByteArray := prog_6_method_54_code
def yX4_bestThumbOf : MethodName := ⟨RX4, "bestThumbOf", "(II)I"⟩
abbrev cX4_bestThumb : ByteArray := prog_6_method_55_code
def yX4_bestThumb : MethodName := ⟨RX4, "bestThumb", "(II)I"⟩
abbrev cX4_toBorrow : ByteArray := prog_6_method_56_code
def yX4_toBorrow : MethodName := ⟨RX4, "toBorrow", "(II)I"⟩
abbrev cX4_bestToBorrow : ByteArray := prog_6_method_57_code
def yX4_bestToBorrow : MethodName := ⟨RX4, "bestToBorrow", "(II)I"⟩
abbrev cX4_alikeIfJoined : ByteArray := prog_6_method_58_code
def yX4_alikeIfJoined : MethodName := ⟨RX4, "alikeIfJoined", "(II)I"⟩
abbrev cX4_meanSigns : ByteArray := prog_6_method_59_code
def yX4_meanSigns : MethodName := ⟨RX4, "meanSigns", "()D"⟩
abbrev cX4_digest : ByteArray := prog_6_method_60_code
def yX4_digest : MethodName := ⟨RX4, "digest", "()J"⟩
def RJ6 : String := "java/lang/Integer"
def TJ6 : u_T := fun k => match k with
  | _ => ("", "", "", false)
def tyJ6 : Nat → FieldType := fun k => match k with
  | _ => .int
abbrev wsJ60 : List Cond := u_ws RJ6 TJ6 0
theorem nmJ6 : ∀ a, a < 0 → ∀ b, b < 0 → a ≠ b → (TJ6 a).2.1 ≠ (TJ6 b).2.1 := by decide +kernel
theorem tyJ6_ok : ∀ k, k < 0 → parseFieldDescriptor (TJ6 k).2.2.1 = some (tyJ6 k) := by decide +kernel
abbrev cJ6_bitCount_0f7a4 : ByteArray := prog_11_method_49_code
def yJ6_bitCount_0f7a4 : MethodName := ⟨RJ6, "bitCount", "(I)I"⟩
def RJ9 : String := "java/lang/Math"
def TJ9 : u_T := fun k => match k with
  | _ => ("", "", "", false)
def tyJ9 : Nat → FieldType := fun k => match k with
  | _ => .int
abbrev wsJ90 : List Cond := u_ws RJ9 TJ9 0
theorem nmJ9 : ∀ a, a < 0 → ∀ b, b < 0 → a ≠ b → (TJ9 a).2.1 ≠ (TJ9 b).2.1 := by decide +kernel
theorem tyJ9_ok : ∀ k, k < 0 → parseFieldDescriptor (TJ9 k).2.2.1 = some (tyJ9 k) := by decide +kernel
abbrev cJ9_abs_0f7a4 : ByteArray := prog_12_method_59_code
def yJ9_abs_0f7a4 : MethodName := ⟨RJ9, "abs", "(I)I"⟩
abbrev cJ9_max_7cf53 : ByteArray := prog_12_method_65_code
def yJ9_max_7cf53 : MethodName := ⟨RJ9, "max", "(II)I"⟩
abbrev cJ9_min_7cf53 : ByteArray := prog_12_method_69_code
def yJ9_min_7cf53 : MethodName := ⟨RJ9, "min", "(II)I"⟩
def RJ0 : String := "java/lang/String"
def TJ0 : u_T := fun k => match k with
  | _ => ("", "", "", false)
def tyJ0 : Nat → FieldType := fun k => match k with
  | _ => .int
abbrev wsJ00 : List Cond := u_ws RJ0 TJ0 0
theorem nmJ0 : ∀ a, a < 0 → ∀ b, b < 0 → a ≠ b → (TJ0 a).2.1 ≠ (TJ0 b).2.1 := by decide +kernel
theorem tyJ0_ok : ∀ k, k < 0 → parseFieldDescriptor (TJ0 k).2.2.1 = some (tyJ0 k) := by decide +kernel
def RJ10 : String := "java/lang/System"
def TJ10 : u_T := fun k => match k with
  | _ => ("", "", "", false)
def tyJ10 : Nat → FieldType := fun k => match k with
  | _ => .int
abbrev wsJ100 : List Cond := u_ws RJ10 TJ10 0
theorem nmJ10 : ∀ a, a < 0 → ∀ b, b < 0 → a ≠ b → (TJ10 a).2.1 ≠ (TJ10 b).2.1 := by decide +kernel
theorem tyJ10_ok : ∀ k, k < 0 → parseFieldDescriptor (TJ10 k).2.2.1 = some (tyJ10 k) := by decide +kernel
def RL : String := "SignMasonsLaw"
abbrev cL_addLodge : ByteArray := method_3_code
def yL_addLodge : MethodName := ⟨RL, "addLodge", "(LSignMasons;[J)I"⟩
abbrev cL_addSign : ByteArray := method_4_code
def yL_addSign : MethodName := ⟨RL, "addSign", "(LSignMasons;IIIIII[J)I"⟩
abbrev cL_forget : ByteArray := method_5_code
def yL_forget : MethodName := ⟨RL, "forget", "(LSignMasons;II[J)I"⟩
abbrev cL_setThumb : ByteArray := method_6_code
def yL_setThumb : MethodName := ⟨RL, "setThumb", "(LSignMasons;III[J)I"⟩
abbrev cL_join : ByteArray := method_7_code
def yL_join : MethodName := ⟨RL, "join", "(LSignMasons;II[J)I"⟩
abbrev cL_borrow : ByteArray := method_8_code
def yL_borrow : MethodName := ⟨RL, "borrow", "(LSignMasons;III[J)I"⟩
abbrev cL_areJoined : ByteArray := method_9_code
def yL_areJoined : MethodName := ⟨RL, "areJoined", "(LSignMasons;II[J)I"⟩
abbrev cL_steps : ByteArray := method_10_code
def yL_steps : MethodName := ⟨RL, "steps", "(LSignMasons;II[J)I"⟩
abbrev cL_signsOf : ByteArray := method_11_code
def yL_signsOf : MethodName := ⟨RL, "signsOf", "(LSignMasons;I[J)I"⟩
abbrev cL_shapeOf : ByteArray := method_12_code
def yL_shapeOf : MethodName := ⟨RL, "shapeOf", "(LSignMasons;II[J)I"⟩
abbrev cL_thumbOf : ByteArray := method_13_code
def yL_thumbOf : MethodName := ⟨RL, "thumbOf", "(LSignMasons;II[J)I"⟩
abbrev cL_placeOf : ByteArray := method_14_code
def yL_placeOf : MethodName := ⟨RL, "placeOf", "(LSignMasons;II[J)I"⟩
abbrev cL_meaningOf : ByteArray := method_15_code
def yL_meaningOf : MethodName := ⟨RL, "meaningOf", "(LSignMasons;II[J)I"⟩
abbrev cL_signFor : ByteArray := method_16_code
def yL_signFor : MethodName := ⟨RL, "signFor", "(LSignMasons;II[J)I"⟩
abbrev cL_apart : ByteArray := method_17_code
def yL_apart : MethodName := ⟨RL, "apart", "(LSignMasons;III[J)I"⟩
abbrev cL_alikePairs : ByteArray := method_18_code
def yL_alikePairs : MethodName := ⟨RL, "alikePairs", "(LSignMasons;I[J)I"⟩
abbrev cL_thumbPairs : ByteArray := method_19_code
def yL_thumbPairs : MethodName := ⟨RL, "thumbPairs", "(LSignMasons;I[J)I"⟩
abbrev cL_closest : ByteArray := method_20_code
def yL_closest : MethodName := ⟨RL, "closest", "(LSignMasons;I[J)I"⟩
abbrev cL_mostMistaken : ByteArray := method_21_code
def yL_mostMistaken : MethodName := ⟨RL, "mostMistaken", "(LSignMasons;I[J)I"⟩
abbrev cL_read : ByteArray := method_22_code
def yL_read : MethodName := ⟨RL, "read", "(LSignMasons;III[J)I"⟩
abbrev cL_readShown : ByteArray := method_23_code
def yL_readShown : MethodName := ⟨RL, "readShown", "(LSignMasons;IIIII[J)I"⟩
abbrev cL_understood : ByteArray := method_24_code
def yL_understood : MethodName := ⟨RL, "understood", "(LSignMasons;II[J)I"⟩
abbrev cL_misread : ByteArray := method_25_code
def yL_misread : MethodName := ⟨RL, "misread", "(LSignMasons;II[J)I"⟩
abbrev cL_common : ByteArray := method_26_code
def yL_common : MethodName := ⟨RL, "common", "(LSignMasons;II[J)I"⟩
abbrev cL_bestThumb : ByteArray := method_27_code
def yL_bestThumb : MethodName := ⟨RL, "bestThumb", "(LSignMasons;II[J)I"⟩
abbrev cL_bestToBorrow : ByteArray := method_28_code
def yL_bestToBorrow : MethodName := ⟨RL, "bestToBorrow", "(LSignMasons;II[J)I"⟩
abbrev cL_alikeIfJoined : ByteArray := method_29_code
def yL_alikeIfJoined : MethodName := ⟨RL, "alikeIfJoined", "(LSignMasons;II[J)I"⟩
abbrev cL_law : ByteArray := code
def yL_law : MethodName := ⟨RL, "law", "([I)Z"⟩
abbrev vwCl : List vw_C := [(RX0, TX0, 4), (RX2, TX2, 2), (RX3, TX3, 4), (RX4, TX4, 9)]
end
section
theorem dX0_init_0 : decode cX0_init 0 = .ok (.aload_n 0, 1) := by decide +kernel
theorem dX0_init_1 : decode cX0_init 1 = .ok (.invokespecial 3, 3) := by decide +kernel
theorem dX0_init_4 : decode cX0_init 4 = .ok (.aload_n 0, 1) := by decide +kernel
theorem dX0_init_5 : decode cX0_init 5 = .ok (.aload_n 1, 1) := by decide +kernel
theorem dX0_init_6 : decode cX0_init 6 = .ok (.putfield 9, 3) := by decide +kernel
theorem dX0_init_9 : decode cX0_init 9 = .ok (.aload_n 0, 1) := by decide +kernel
theorem dX0_init_10 : decode cX0_init 10 = .ok (.bipush 16, 2) := by decide +kernel
theorem dX0_init_12 : decode cX0_init 12 = .ok (.newarray .int, 2) := by decide +kernel
theorem dX0_init_14 : decode cX0_init 14 = .ok (.putfield 15, 3) := by decide +kernel
theorem dX0_init_17 : decode cX0_init 17 = .ok (.aload_n 0, 1) := by decide +kernel
theorem dX0_init_18 : decode cX0_init 18 = .ok (.bipush 16, 2) := by decide +kernel
theorem dX0_init_20 : decode cX0_init 20 = .ok (.newarray .int, 2) := by decide +kernel
theorem dX0_init_22 : decode cX0_init 22 = .ok (.putfield 19, 3) := by decide +kernel
theorem dX0_init_25 : decode cX0_init 25 = .ok (.aload_n 0, 1) := by decide +kernel
theorem dX0_init_26 : decode cX0_init 26 = .ok (.iconst 0, 1) := by decide +kernel
theorem dX0_init_27 : decode cX0_init 27 = .ok (.putfield 22, 3) := by decide +kernel
theorem dX0_init_30 : decode cX0_init 30 = .ok (.return_, 1) := by decide +kernel
theorem dX0_copyFrom_0 : decode cX0_copyFrom 0 = .ok (.aload_n 1, 1) := by decide +kernel
theorem dX0_copyFrom_1 : decode cX0_copyFrom 1 = .ok (.getfield 15, 3) := by decide +kernel
theorem dX0_copyFrom_4 : decode cX0_copyFrom 4 = .ok (.iconst 0, 1) := by decide +kernel
theorem dX0_copyFrom_5 : decode cX0_copyFrom 5 = .ok (.aload_n 0, 1) := by decide +kernel
theorem dX0_copyFrom_6 : decode cX0_copyFrom 6 = .ok (.getfield 15, 3) := by decide +kernel
theorem dX0_copyFrom_9 : decode cX0_copyFrom 9 = .ok (.iconst 0, 1) := by decide +kernel
theorem dX0_copyFrom_10 : decode cX0_copyFrom 10 = .ok (.bipush 16, 2) := by decide +kernel
theorem dX0_copyFrom_12 : decode cX0_copyFrom 12 = .ok (.invokestatic 26, 3) := by decide +kernel
theorem dX0_copyFrom_15 : decode cX0_copyFrom 15 = .ok (.aload_n 1, 1) := by decide +kernel
theorem dX0_copyFrom_16 : decode cX0_copyFrom 16 = .ok (.getfield 19, 3) := by decide +kernel
theorem dX0_copyFrom_19 : decode cX0_copyFrom 19 = .ok (.iconst 0, 1) := by decide +kernel
theorem dX0_copyFrom_20 : decode cX0_copyFrom 20 = .ok (.aload_n 0, 1) := by decide +kernel
theorem dX0_copyFrom_21 : decode cX0_copyFrom 21 = .ok (.getfield 19, 3) := by decide +kernel
theorem dX0_copyFrom_24 : decode cX0_copyFrom 24 = .ok (.iconst 0, 1) := by decide +kernel
theorem dX0_copyFrom_25 : decode cX0_copyFrom 25 = .ok (.bipush 16, 2) := by decide +kernel
theorem dX0_copyFrom_27 : decode cX0_copyFrom 27 = .ok (.invokestatic 26, 3) := by decide +kernel
theorem dX0_copyFrom_30 : decode cX0_copyFrom 30 = .ok (.aload_n 0, 1) := by decide +kernel
theorem dX0_copyFrom_31 : decode cX0_copyFrom 31 = .ok (.aload_n 1, 1) := by decide +kernel
theorem dX0_copyFrom_32 : decode cX0_copyFrom 32 = .ok (.getfield 22, 3) := by decide +kernel
theorem dX0_copyFrom_35 : decode cX0_copyFrom 35 = .ok (.putfield 22, 3) := by decide +kernel
theorem dX0_copyFrom_38 : decode cX0_copyFrom 38 = .ok (.return_, 1) := by decide +kernel
theorem dX0_hasRoomFor_0 : decode cX0_hasRoomFor 0 = .ok (.aload_n 0, 1) := by decide +kernel
theorem dX0_hasRoomFor_1 : decode cX0_hasRoomFor 1 = .ok (.getfield 22, 3) := by decide +kernel
theorem dX0_hasRoomFor_4 : decode cX0_hasRoomFor 4 = .ok (.bipush 16, 2) := by decide +kernel
theorem dX0_hasRoomFor_6 : decode cX0_hasRoomFor 6 = .ok (.if_icmp .ge 16, 3) := by decide +kernel
theorem dX0_hasRoomFor_9 : decode cX0_hasRoomFor 9 = .ok (.aload_n 0, 1) := by decide +kernel
theorem dX0_hasRoomFor_10 : decode cX0_hasRoomFor 10 = .ok (.iload_n 1, 1) := by decide +kernel
theorem dX0_hasRoomFor_11 : decode cX0_hasRoomFor 11 = .ok (.invokevirtual 32, 3) := by decide +kernel
theorem dX0_hasRoomFor_14 : decode cX0_hasRoomFor 14 = .ok (.iconst (-1), 1) := by decide +kernel
theorem dX0_hasRoomFor_15 : decode cX0_hasRoomFor 15 = .ok (.if_icmp .ne 7, 3) := by decide +kernel
theorem dX0_hasRoomFor_18 : decode cX0_hasRoomFor 18 = .ok (.iconst 1, 1) := by decide +kernel
theorem dX0_hasRoomFor_19 : decode cX0_hasRoomFor 19 = .ok (.goto 4, 3) := by decide +kernel
theorem dX0_hasRoomFor_22 : decode cX0_hasRoomFor 22 = .ok (.iconst 0, 1) := by decide +kernel
theorem dX0_hasRoomFor_23 : decode cX0_hasRoomFor 23 = .ok (.ireturn, 1) := by decide +kernel
theorem dX0_append_0 : decode cX0_append 0 = .ok (.aload_n 0, 1) := by decide +kernel
theorem dX0_append_1 : decode cX0_append 1 = .ok (.getfield 22, 3) := by decide +kernel
theorem dX0_append_4 : decode cX0_append 4 = .ok (.istore_n 3, 1) := by decide +kernel
theorem dX0_append_5 : decode cX0_append 5 = .ok (.iload_n 3, 1) := by decide +kernel
theorem dX0_append_6 : decode cX0_append 6 = .ok (.bipush 16, 2) := by decide +kernel
theorem dX0_append_8 : decode cX0_append 8 = .ok (.if_icmp .lt 5, 3) := by decide +kernel
theorem dX0_append_11 : decode cX0_append 11 = .ok (.iconst (-1), 1) := by decide +kernel
theorem dX0_append_12 : decode cX0_append 12 = .ok (.ireturn, 1) := by decide +kernel
theorem dX0_append_13 : decode cX0_append 13 = .ok (.aload_n 0, 1) := by decide +kernel
theorem dX0_append_14 : decode cX0_append 14 = .ok (.getfield 15, 3) := by decide +kernel
theorem dX0_append_17 : decode cX0_append 17 = .ok (.iload_n 3, 1) := by decide +kernel
theorem dX0_append_18 : decode cX0_append 18 = .ok (.iload_n 1, 1) := by decide +kernel
theorem dX0_append_19 : decode cX0_append 19 = .ok (.iastore, 1) := by decide +kernel
theorem dX0_append_20 : decode cX0_append 20 = .ok (.aload_n 0, 1) := by decide +kernel
theorem dX0_append_21 : decode cX0_append 21 = .ok (.getfield 19, 3) := by decide +kernel
theorem dX0_append_24 : decode cX0_append 24 = .ok (.iload_n 3, 1) := by decide +kernel
theorem dX0_append_25 : decode cX0_append 25 = .ok (.iload_n 2, 1) := by decide +kernel
theorem dX0_append_26 : decode cX0_append 26 = .ok (.iastore, 1) := by decide +kernel
theorem dX0_append_27 : decode cX0_append 27 = .ok (.aload_n 0, 1) := by decide +kernel
theorem dX0_append_28 : decode cX0_append 28 = .ok (.dup, 1) := by decide +kernel
theorem dX0_append_29 : decode cX0_append 29 = .ok (.getfield 22, 3) := by decide +kernel
theorem dX0_append_32 : decode cX0_append 32 = .ok (.iconst 1, 1) := by decide +kernel
theorem dX0_append_33 : decode cX0_append 33 = .ok (.iadd, 1) := by decide +kernel
theorem dX0_append_34 : decode cX0_append 34 = .ok (.putfield 22, 3) := by decide +kernel
theorem dX0_append_37 : decode cX0_append 37 = .ok (.iload_n 3, 1) := by decide +kernel
theorem dX0_append_38 : decode cX0_append 38 = .ok (.ireturn, 1) := by decide +kernel
theorem dX0_remove_0 : decode cX0_remove 0 = .ok (.aload_n 0, 1) := by decide +kernel
theorem dX0_remove_1 : decode cX0_remove 1 = .ok (.getfield 19, 3) := by decide +kernel
theorem dX0_remove_4 : decode cX0_remove 4 = .ok (.iload_n 1, 1) := by decide +kernel
theorem dX0_remove_5 : decode cX0_remove 5 = .ok (.iaload, 1) := by decide +kernel
theorem dX0_remove_6 : decode cX0_remove 6 = .ok (.istore_n 2, 1) := by decide +kernel
theorem dX0_remove_7 : decode cX0_remove 7 = .ok (.iload_n 1, 1) := by decide +kernel
theorem dX0_remove_8 : decode cX0_remove 8 = .ok (.iconst 1, 1) := by decide +kernel
theorem dX0_remove_9 : decode cX0_remove 9 = .ok (.iadd, 1) := by decide +kernel
theorem dX0_remove_10 : decode cX0_remove 10 = .ok (.istore_n 3, 1) := by decide +kernel
theorem dX0_remove_11 : decode cX0_remove 11 = .ok (.iload_n 3, 1) := by decide +kernel
theorem dX0_remove_12 : decode cX0_remove 12 = .ok (.aload_n 0, 1) := by decide +kernel
theorem dX0_remove_13 : decode cX0_remove 13 = .ok (.getfield 22, 3) := by decide +kernel
theorem dX0_remove_16 : decode cX0_remove 16 = .ok (.if_icmp .ge 37, 3) := by decide +kernel
theorem dX0_remove_19 : decode cX0_remove 19 = .ok (.aload_n 0, 1) := by decide +kernel
theorem dX0_remove_20 : decode cX0_remove 20 = .ok (.getfield 15, 3) := by decide +kernel
theorem dX0_remove_23 : decode cX0_remove 23 = .ok (.iload_n 3, 1) := by decide +kernel
theorem dX0_remove_24 : decode cX0_remove 24 = .ok (.iconst 1, 1) := by decide +kernel
theorem dX0_remove_25 : decode cX0_remove 25 = .ok (.isub, 1) := by decide +kernel
theorem dX0_remove_26 : decode cX0_remove 26 = .ok (.aload_n 0, 1) := by decide +kernel
theorem dX0_remove_27 : decode cX0_remove 27 = .ok (.getfield 15, 3) := by decide +kernel
theorem dX0_remove_30 : decode cX0_remove 30 = .ok (.iload_n 3, 1) := by decide +kernel
theorem dX0_remove_31 : decode cX0_remove 31 = .ok (.iaload, 1) := by decide +kernel
theorem dX0_remove_32 : decode cX0_remove 32 = .ok (.iastore, 1) := by decide +kernel
theorem dX0_remove_33 : decode cX0_remove 33 = .ok (.aload_n 0, 1) := by decide +kernel
theorem dX0_remove_34 : decode cX0_remove 34 = .ok (.getfield 19, 3) := by decide +kernel
theorem dX0_remove_37 : decode cX0_remove 37 = .ok (.iload_n 3, 1) := by decide +kernel
theorem dX0_remove_38 : decode cX0_remove 38 = .ok (.iconst 1, 1) := by decide +kernel
theorem dX0_remove_39 : decode cX0_remove 39 = .ok (.isub, 1) := by decide +kernel
theorem dX0_remove_40 : decode cX0_remove 40 = .ok (.aload_n 0, 1) := by decide +kernel
theorem dX0_remove_41 : decode cX0_remove 41 = .ok (.getfield 19, 3) := by decide +kernel
theorem dX0_remove_44 : decode cX0_remove 44 = .ok (.iload_n 3, 1) := by decide +kernel
theorem dX0_remove_45 : decode cX0_remove 45 = .ok (.iaload, 1) := by decide +kernel
theorem dX0_remove_46 : decode cX0_remove 46 = .ok (.iastore, 1) := by decide +kernel
theorem dX0_remove_47 : decode cX0_remove 47 = .ok (.iinc 3 1, 3) := by decide +kernel
theorem dX0_remove_50 : decode cX0_remove 50 = .ok (.goto (-39), 3) := by decide +kernel
theorem dX0_remove_53 : decode cX0_remove 53 = .ok (.aload_n 0, 1) := by decide +kernel
theorem dX0_remove_54 : decode cX0_remove 54 = .ok (.dup, 1) := by decide +kernel
theorem dX0_remove_55 : decode cX0_remove 55 = .ok (.getfield 22, 3) := by decide +kernel
theorem dX0_remove_58 : decode cX0_remove 58 = .ok (.iconst 1, 1) := by decide +kernel
theorem dX0_remove_59 : decode cX0_remove 59 = .ok (.isub, 1) := by decide +kernel
theorem dX0_remove_60 : decode cX0_remove 60 = .ok (.putfield 22, 3) := by decide +kernel
theorem dX0_remove_63 : decode cX0_remove 63 = .ok (.iload_n 2, 1) := by decide +kernel
theorem dX0_remove_64 : decode cX0_remove 64 = .ok (.ireturn, 1) := by decide +kernel
theorem dX0_find_0 : decode cX0_find 0 = .ok (.iconst 0, 1) := by decide +kernel
theorem dX0_find_1 : decode cX0_find 1 = .ok (.istore_n 2, 1) := by decide +kernel
theorem dX0_find_2 : decode cX0_find 2 = .ok (.iload_n 2, 1) := by decide +kernel
theorem dX0_find_3 : decode cX0_find 3 = .ok (.aload_n 0, 1) := by decide +kernel
theorem dX0_find_4 : decode cX0_find 4 = .ok (.getfield 22, 3) := by decide +kernel
theorem dX0_find_7 : decode cX0_find 7 = .ok (.if_icmp .ge 21, 3) := by decide +kernel
theorem dX0_find_10 : decode cX0_find 10 = .ok (.aload_n 0, 1) := by decide +kernel
theorem dX0_find_11 : decode cX0_find 11 = .ok (.getfield 19, 3) := by decide +kernel
theorem dX0_find_14 : decode cX0_find 14 = .ok (.iload_n 2, 1) := by decide +kernel
theorem dX0_find_15 : decode cX0_find 15 = .ok (.iaload, 1) := by decide +kernel
theorem dX0_find_16 : decode cX0_find 16 = .ok (.iload_n 1, 1) := by decide +kernel
theorem dX0_find_17 : decode cX0_find 17 = .ok (.if_icmp .ne 5, 3) := by decide +kernel
theorem dX0_find_20 : decode cX0_find 20 = .ok (.iload_n 2, 1) := by decide +kernel
theorem dX0_find_21 : decode cX0_find 21 = .ok (.ireturn, 1) := by decide +kernel
theorem dX0_find_22 : decode cX0_find 22 = .ok (.iinc 2 1, 3) := by decide +kernel
theorem dX0_find_25 : decode cX0_find 25 = .ok (.goto (-23), 3) := by decide +kernel
theorem dX0_find_28 : decode cX0_find 28 = .ok (.iconst (-1), 1) := by decide +kernel
theorem dX0_find_29 : decode cX0_find 29 = .ok (.ireturn, 1) := by decide +kernel
theorem dX0_hasAlike_0 : decode cX0_hasAlike 0 = .ok (.iconst 0, 1) := by decide +kernel
theorem dX0_hasAlike_1 : decode cX0_hasAlike 1 = .ok (.istore_n 2, 1) := by decide +kernel
theorem dX0_hasAlike_2 : decode cX0_hasAlike 2 = .ok (.iload_n 2, 1) := by decide +kernel
theorem dX0_hasAlike_3 : decode cX0_hasAlike 3 = .ok (.aload_n 0, 1) := by decide +kernel
theorem dX0_hasAlike_4 : decode cX0_hasAlike 4 = .ok (.getfield 22, 3) := by decide +kernel
theorem dX0_hasAlike_7 : decode cX0_hasAlike 7 = .ok (.if_icmp .ge 28, 3) := by decide +kernel
theorem dX0_hasAlike_10 : decode cX0_hasAlike 10 = .ok (.aload_n 0, 1) := by decide +kernel
theorem dX0_hasAlike_11 : decode cX0_hasAlike 11 = .ok (.getfield 9, 3) := by decide +kernel
theorem dX0_hasAlike_14 : decode cX0_hasAlike 14 = .ok (.iload_n 1, 1) := by decide +kernel
theorem dX0_hasAlike_15 : decode cX0_hasAlike 15 = .ok (.aload_n 0, 1) := by decide +kernel
theorem dX0_hasAlike_16 : decode cX0_hasAlike 16 = .ok (.getfield 15, 3) := by decide +kernel
theorem dX0_hasAlike_19 : decode cX0_hasAlike 19 = .ok (.iload_n 2, 1) := by decide +kernel
theorem dX0_hasAlike_20 : decode cX0_hasAlike 20 = .ok (.iaload, 1) := by decide +kernel
theorem dX0_hasAlike_21 : decode cX0_hasAlike 21 = .ok (.invokevirtual 36, 3) := by decide +kernel
theorem dX0_hasAlike_24 : decode cX0_hasAlike 24 = .ok (.ifCond .eq 5, 3) := by decide +kernel
theorem dX0_hasAlike_27 : decode cX0_hasAlike 27 = .ok (.iconst 1, 1) := by decide +kernel
theorem dX0_hasAlike_28 : decode cX0_hasAlike 28 = .ok (.ireturn, 1) := by decide +kernel
theorem dX0_hasAlike_29 : decode cX0_hasAlike 29 = .ok (.iinc 2 1, 3) := by decide +kernel
theorem dX0_hasAlike_32 : decode cX0_hasAlike 32 = .ok (.goto (-30), 3) := by decide +kernel
theorem dX0_hasAlike_35 : decode cX0_hasAlike 35 = .ok (.iconst 0, 1) := by decide +kernel
theorem dX0_hasAlike_36 : decode cX0_hasAlike 36 = .ok (.ireturn, 1) := by decide +kernel
theorem dX0_firstUnlike_0 : decode cX0_firstUnlike 0 = .ok (.iload_n 1, 1) := by decide +kernel
theorem dX0_firstUnlike_1 : decode cX0_firstUnlike 1 = .ok (.invokestatic 42, 3) := by decide +kernel
theorem dX0_firstUnlike_4 : decode cX0_firstUnlike 4 = .ok (.istore_n 2, 1) := by decide +kernel
theorem dX0_firstUnlike_5 : decode cX0_firstUnlike 5 = .ok (.iconst 0, 1) := by decide +kernel
theorem dX0_firstUnlike_6 : decode cX0_firstUnlike 6 = .ok (.istore_n 3, 1) := by decide +kernel
theorem dX0_firstUnlike_7 : decode cX0_firstUnlike 7 = .ok (.iload_n 3, 1) := by decide +kernel
theorem dX0_firstUnlike_8 : decode cX0_firstUnlike 8 = .ok (.iconst 4, 1) := by decide +kernel
theorem dX0_firstUnlike_9 : decode cX0_firstUnlike 9 = .ok (.if_icmp .ge 32, 3) := by decide +kernel
theorem dX0_firstUnlike_12 : decode cX0_firstUnlike 12 = .ok (.iload_n 1, 1) := by decide +kernel
theorem dX0_firstUnlike_13 : decode cX0_firstUnlike 13 = .ok (.iload_n 2, 1) := by decide +kernel
theorem dX0_firstUnlike_14 : decode cX0_firstUnlike 14 = .ok (.iload_n 3, 1) := by decide +kernel
theorem dX0_firstUnlike_15 : decode cX0_firstUnlike 15 = .ok (.iadd, 1) := by decide +kernel
theorem dX0_firstUnlike_16 : decode cX0_firstUnlike 16 = .ok (.iconst 4, 1) := by decide +kernel
theorem dX0_firstUnlike_17 : decode cX0_firstUnlike 17 = .ok (.irem, 1) := by decide +kernel
theorem dX0_firstUnlike_18 : decode cX0_firstUnlike 18 = .ok (.invokestatic 47, 3) := by decide +kernel
theorem dX0_firstUnlike_21 : decode cX0_firstUnlike 21 = .ok (.istore 4, 2) := by decide +kernel
theorem dX0_firstUnlike_23 : decode cX0_firstUnlike 23 = .ok (.aload_n 0, 1) := by decide +kernel
theorem dX0_firstUnlike_24 : decode cX0_firstUnlike 24 = .ok (.iload 4, 2) := by decide +kernel
theorem dX0_firstUnlike_26 : decode cX0_firstUnlike 26 = .ok (.invokevirtual 51, 3) := by decide +kernel
theorem dX0_firstUnlike_29 : decode cX0_firstUnlike 29 = .ok (.ifCond .ne 6, 3) := by decide +kernel
theorem dX0_firstUnlike_32 : decode cX0_firstUnlike 32 = .ok (.iload 4, 2) := by decide +kernel
theorem dX0_firstUnlike_34 : decode cX0_firstUnlike 34 = .ok (.ireturn, 1) := by decide +kernel
theorem dX0_firstUnlike_35 : decode cX0_firstUnlike 35 = .ok (.iinc 3 1, 3) := by decide +kernel
theorem dX0_firstUnlike_38 : decode cX0_firstUnlike 38 = .ok (.goto (-31), 3) := by decide +kernel
theorem dX0_firstUnlike_41 : decode cX0_firstUnlike 41 = .ok (.iconst (-1), 1) := by decide +kernel
theorem dX0_firstUnlike_42 : decode cX0_firstUnlike 42 = .ok (.ireturn, 1) := by decide +kernel
theorem dX0_countAlike_0 : decode cX0_countAlike 0 = .ok (.iconst 0, 1) := by decide +kernel
theorem dX0_countAlike_1 : decode cX0_countAlike 1 = .ok (.istore_n 1, 1) := by decide +kernel
theorem dX0_countAlike_2 : decode cX0_countAlike 2 = .ok (.iconst 0, 1) := by decide +kernel
theorem dX0_countAlike_3 : decode cX0_countAlike 3 = .ok (.istore_n 2, 1) := by decide +kernel
theorem dX0_countAlike_4 : decode cX0_countAlike 4 = .ok (.iload_n 2, 1) := by decide +kernel
theorem dX0_countAlike_5 : decode cX0_countAlike 5 = .ok (.aload_n 0, 1) := by decide +kernel
theorem dX0_countAlike_6 : decode cX0_countAlike 6 = .ok (.getfield 22, 3) := by decide +kernel
theorem dX0_countAlike_9 : decode cX0_countAlike 9 = .ok (.if_icmp .ge 52, 3) := by decide +kernel
theorem dX0_countAlike_12 : decode cX0_countAlike 12 = .ok (.iload_n 2, 1) := by decide +kernel
theorem dX0_countAlike_13 : decode cX0_countAlike 13 = .ok (.iconst 1, 1) := by decide +kernel
theorem dX0_countAlike_14 : decode cX0_countAlike 14 = .ok (.iadd, 1) := by decide +kernel
theorem dX0_countAlike_15 : decode cX0_countAlike 15 = .ok (.istore_n 3, 1) := by decide +kernel
theorem dX0_countAlike_16 : decode cX0_countAlike 16 = .ok (.iload_n 3, 1) := by decide +kernel
theorem dX0_countAlike_17 : decode cX0_countAlike 17 = .ok (.aload_n 0, 1) := by decide +kernel
theorem dX0_countAlike_18 : decode cX0_countAlike 18 = .ok (.getfield 22, 3) := by decide +kernel
theorem dX0_countAlike_21 : decode cX0_countAlike 21 = .ok (.if_icmp .ge 34, 3) := by decide +kernel
theorem dX0_countAlike_24 : decode cX0_countAlike 24 = .ok (.aload_n 0, 1) := by decide +kernel
theorem dX0_countAlike_25 : decode cX0_countAlike 25 = .ok (.getfield 9, 3) := by decide +kernel
theorem dX0_countAlike_28 : decode cX0_countAlike 28 = .ok (.aload_n 0, 1) := by decide +kernel
theorem dX0_countAlike_29 : decode cX0_countAlike 29 = .ok (.getfield 15, 3) := by decide +kernel
theorem dX0_countAlike_32 : decode cX0_countAlike 32 = .ok (.iload_n 2, 1) := by decide +kernel
theorem dX0_countAlike_33 : decode cX0_countAlike 33 = .ok (.iaload, 1) := by decide +kernel
theorem dX0_countAlike_34 : decode cX0_countAlike 34 = .ok (.aload_n 0, 1) := by decide +kernel
theorem dX0_countAlike_35 : decode cX0_countAlike 35 = .ok (.getfield 15, 3) := by decide +kernel
theorem dX0_countAlike_38 : decode cX0_countAlike 38 = .ok (.iload_n 3, 1) := by decide +kernel
theorem dX0_countAlike_39 : decode cX0_countAlike 39 = .ok (.iaload, 1) := by decide +kernel
theorem dX0_countAlike_40 : decode cX0_countAlike 40 = .ok (.invokevirtual 36, 3) := by decide +kernel
theorem dX0_countAlike_43 : decode cX0_countAlike 43 = .ok (.ifCond .eq 6, 3) := by decide +kernel
theorem dX0_countAlike_46 : decode cX0_countAlike 46 = .ok (.iinc 1 1, 3) := by decide +kernel
theorem dX0_countAlike_49 : decode cX0_countAlike 49 = .ok (.iinc 3 1, 3) := by decide +kernel
theorem dX0_countAlike_52 : decode cX0_countAlike 52 = .ok (.goto (-36), 3) := by decide +kernel
theorem dX0_countAlike_55 : decode cX0_countAlike 55 = .ok (.iinc 2 1, 3) := by decide +kernel
theorem dX0_countAlike_58 : decode cX0_countAlike 58 = .ok (.goto (-54), 3) := by decide +kernel
theorem dX0_countAlike_61 : decode cX0_countAlike 61 = .ok (.iload_n 1, 1) := by decide +kernel
theorem dX0_countAlike_62 : decode cX0_countAlike 62 = .ok (.ireturn, 1) := by decide +kernel
theorem dX0_countAlikeIfJoined_0 : decode cX0_countAlikeIfJoined 0 = .ok (.iconst 0, 1) := by decide +kernel
theorem dX0_countAlikeIfJoined_1 : decode cX0_countAlikeIfJoined 1 = .ok (.istore_n 3, 1) := by decide +kernel
theorem dX0_countAlikeIfJoined_2 : decode cX0_countAlikeIfJoined 2 = .ok (.iconst 0, 1) := by decide +kernel
theorem dX0_countAlikeIfJoined_3 : decode cX0_countAlikeIfJoined 3 = .ok (.istore 4, 2) := by decide +kernel
theorem dX0_countAlikeIfJoined_5 : decode cX0_countAlikeIfJoined 5 = .ok (.iload 4, 2) := by decide +kernel
theorem dX0_countAlikeIfJoined_7 : decode cX0_countAlikeIfJoined 7 = .ok (.aload_n 0, 1) := by decide +kernel
theorem dX0_countAlikeIfJoined_8 : decode cX0_countAlikeIfJoined 8 = .ok (.getfield 22, 3) := by decide +kernel
theorem dX0_countAlikeIfJoined_11 : decode cX0_countAlikeIfJoined 11 = .ok (.if_icmp .ge 59, 3) := by decide +kernel
theorem dX0_countAlikeIfJoined_14 : decode cX0_countAlikeIfJoined 14 = .ok (.iload 4, 2) := by decide +kernel
theorem dX0_countAlikeIfJoined_16 : decode cX0_countAlikeIfJoined 16 = .ok (.iconst 1, 1) := by decide +kernel
theorem dX0_countAlikeIfJoined_17 : decode cX0_countAlikeIfJoined 17 = .ok (.iadd, 1) := by decide +kernel
theorem dX0_countAlikeIfJoined_18 : decode cX0_countAlikeIfJoined 18 = .ok (.istore 5, 2) := by decide +kernel
theorem dX0_countAlikeIfJoined_20 : decode cX0_countAlikeIfJoined 20 = .ok (.iload 5, 2) := by decide +kernel
theorem dX0_countAlikeIfJoined_22 : decode cX0_countAlikeIfJoined 22 = .ok (.aload_n 0, 1) := by decide +kernel
theorem dX0_countAlikeIfJoined_23 : decode cX0_countAlikeIfJoined 23 = .ok (.getfield 22, 3) := by decide +kernel
theorem dX0_countAlikeIfJoined_26 : decode cX0_countAlikeIfJoined 26 = .ok (.if_icmp .ge 38, 3) := by decide +kernel
theorem dX0_countAlikeIfJoined_29 : decode cX0_countAlikeIfJoined 29 = .ok (.aload_n 0, 1) := by decide +kernel
theorem dX0_countAlikeIfJoined_30 : decode cX0_countAlikeIfJoined 30 = .ok (.getfield 9, 3) := by decide +kernel
theorem dX0_countAlikeIfJoined_33 : decode cX0_countAlikeIfJoined 33 = .ok (.iload_n 1, 1) := by decide +kernel
theorem dX0_countAlikeIfJoined_34 : decode cX0_countAlikeIfJoined 34 = .ok (.iload_n 2, 1) := by decide +kernel
theorem dX0_countAlikeIfJoined_35 : decode cX0_countAlikeIfJoined 35 = .ok (.aload_n 0, 1) := by decide +kernel
theorem dX0_countAlikeIfJoined_36 : decode cX0_countAlikeIfJoined 36 = .ok (.getfield 15, 3) := by decide +kernel
theorem dX0_countAlikeIfJoined_39 : decode cX0_countAlikeIfJoined 39 = .ok (.iload 4, 2) := by decide +kernel
theorem dX0_countAlikeIfJoined_41 : decode cX0_countAlikeIfJoined 41 = .ok (.iaload, 1) := by decide +kernel
theorem dX0_countAlikeIfJoined_42 : decode cX0_countAlikeIfJoined 42 = .ok (.aload_n 0, 1) := by decide +kernel
theorem dX0_countAlikeIfJoined_43 : decode cX0_countAlikeIfJoined 43 = .ok (.getfield 15, 3) := by decide +kernel
theorem dX0_countAlikeIfJoined_46 : decode cX0_countAlikeIfJoined 46 = .ok (.iload 5, 2) := by decide +kernel
theorem dX0_countAlikeIfJoined_48 : decode cX0_countAlikeIfJoined 48 = .ok (.iaload, 1) := by decide +kernel
theorem dX0_countAlikeIfJoined_49 : decode cX0_countAlikeIfJoined 49 = .ok (.invokevirtual 55, 3) := by decide +kernel
theorem dX0_countAlikeIfJoined_52 : decode cX0_countAlikeIfJoined 52 = .ok (.ifCond .eq 6, 3) := by decide +kernel
theorem dX0_countAlikeIfJoined_55 : decode cX0_countAlikeIfJoined 55 = .ok (.iinc 3 1, 3) := by decide +kernel
theorem dX0_countAlikeIfJoined_58 : decode cX0_countAlikeIfJoined 58 = .ok (.iinc 5 1, 3) := by decide +kernel
theorem dX0_countAlikeIfJoined_61 : decode cX0_countAlikeIfJoined 61 = .ok (.goto (-41), 3) := by decide +kernel
theorem dX0_countAlikeIfJoined_64 : decode cX0_countAlikeIfJoined 64 = .ok (.iinc 4 1, 3) := by decide +kernel
theorem dX0_countAlikeIfJoined_67 : decode cX0_countAlikeIfJoined 67 = .ok (.goto (-62), 3) := by decide +kernel
theorem dX0_countAlikeIfJoined_70 : decode cX0_countAlikeIfJoined 70 = .ok (.iload_n 3, 1) := by decide +kernel
theorem dX0_countAlikeIfJoined_71 : decode cX0_countAlikeIfJoined 71 = .ok (.ireturn, 1) := by decide +kernel
theorem dX0_countThumbApart_0 : decode cX0_countThumbApart 0 = .ok (.iconst 0, 1) := by decide +kernel
theorem dX0_countThumbApart_1 : decode cX0_countThumbApart 1 = .ok (.istore_n 1, 1) := by decide +kernel
theorem dX0_countThumbApart_2 : decode cX0_countThumbApart 2 = .ok (.iconst 0, 1) := by decide +kernel
theorem dX0_countThumbApart_3 : decode cX0_countThumbApart 3 = .ok (.istore_n 2, 1) := by decide +kernel
theorem dX0_countThumbApart_4 : decode cX0_countThumbApart 4 = .ok (.iload_n 2, 1) := by decide +kernel
theorem dX0_countThumbApart_5 : decode cX0_countThumbApart 5 = .ok (.aload_n 0, 1) := by decide +kernel
theorem dX0_countThumbApart_6 : decode cX0_countThumbApart 6 = .ok (.getfield 22, 3) := by decide +kernel
theorem dX0_countThumbApart_9 : decode cX0_countThumbApart 9 = .ok (.if_icmp .ge 74, 3) := by decide +kernel
theorem dX0_countThumbApart_12 : decode cX0_countThumbApart 12 = .ok (.iload_n 2, 1) := by decide +kernel
theorem dX0_countThumbApart_13 : decode cX0_countThumbApart 13 = .ok (.iconst 1, 1) := by decide +kernel
theorem dX0_countThumbApart_14 : decode cX0_countThumbApart 14 = .ok (.iadd, 1) := by decide +kernel
theorem dX0_countThumbApart_15 : decode cX0_countThumbApart 15 = .ok (.istore_n 3, 1) := by decide +kernel
theorem dX0_countThumbApart_16 : decode cX0_countThumbApart 16 = .ok (.iload_n 3, 1) := by decide +kernel
theorem dX0_countThumbApart_17 : decode cX0_countThumbApart 17 = .ok (.aload_n 0, 1) := by decide +kernel
theorem dX0_countThumbApart_18 : decode cX0_countThumbApart 18 = .ok (.getfield 22, 3) := by decide +kernel
theorem dX0_countThumbApart_21 : decode cX0_countThumbApart 21 = .ok (.if_icmp .ge 56, 3) := by decide +kernel
theorem dX0_countThumbApart_24 : decode cX0_countThumbApart 24 = .ok (.aload_n 0, 1) := by decide +kernel
theorem dX0_countThumbApart_25 : decode cX0_countThumbApart 25 = .ok (.getfield 15, 3) := by decide +kernel
theorem dX0_countThumbApart_28 : decode cX0_countThumbApart 28 = .ok (.iload_n 2, 1) := by decide +kernel
theorem dX0_countThumbApart_29 : decode cX0_countThumbApart 29 = .ok (.iaload, 1) := by decide +kernel
theorem dX0_countThumbApart_30 : decode cX0_countThumbApart 30 = .ok (.invokestatic 42, 3) := by decide +kernel
theorem dX0_countThumbApart_33 : decode cX0_countThumbApart 33 = .ok (.aload_n 0, 1) := by decide +kernel
theorem dX0_countThumbApart_34 : decode cX0_countThumbApart 34 = .ok (.getfield 15, 3) := by decide +kernel
theorem dX0_countThumbApart_37 : decode cX0_countThumbApart 37 = .ok (.iload_n 3, 1) := by decide +kernel
theorem dX0_countThumbApart_38 : decode cX0_countThumbApart 38 = .ok (.iaload, 1) := by decide +kernel
theorem dX0_countThumbApart_39 : decode cX0_countThumbApart 39 = .ok (.invokestatic 42, 3) := by decide +kernel
theorem dX0_countThumbApart_42 : decode cX0_countThumbApart 42 = .ok (.if_icmp .eq 29, 3) := by decide +kernel
theorem dX0_countThumbApart_45 : decode cX0_countThumbApart 45 = .ok (.aload_n 0, 1) := by decide +kernel
theorem dX0_countThumbApart_46 : decode cX0_countThumbApart 46 = .ok (.getfield 9, 3) := by decide +kernel
theorem dX0_countThumbApart_49 : decode cX0_countThumbApart 49 = .ok (.aload_n 0, 1) := by decide +kernel
theorem dX0_countThumbApart_50 : decode cX0_countThumbApart 50 = .ok (.getfield 15, 3) := by decide +kernel
theorem dX0_countThumbApart_53 : decode cX0_countThumbApart 53 = .ok (.iload_n 2, 1) := by decide +kernel
theorem dX0_countThumbApart_54 : decode cX0_countThumbApart 54 = .ok (.iaload, 1) := by decide +kernel
theorem dX0_countThumbApart_55 : decode cX0_countThumbApart 55 = .ok (.aload_n 0, 1) := by decide +kernel
theorem dX0_countThumbApart_56 : decode cX0_countThumbApart 56 = .ok (.getfield 15, 3) := by decide +kernel
theorem dX0_countThumbApart_59 : decode cX0_countThumbApart 59 = .ok (.iload_n 3, 1) := by decide +kernel
theorem dX0_countThumbApart_60 : decode cX0_countThumbApart 60 = .ok (.iaload, 1) := by decide +kernel
theorem dX0_countThumbApart_61 : decode cX0_countThumbApart 61 = .ok (.invokevirtual 59, 3) := by decide +kernel
theorem dX0_countThumbApart_64 : decode cX0_countThumbApart 64 = .ok (.iconst 1, 1) := by decide +kernel
theorem dX0_countThumbApart_65 : decode cX0_countThumbApart 65 = .ok (.if_icmp .ne 6, 3) := by decide +kernel
theorem dX0_countThumbApart_68 : decode cX0_countThumbApart 68 = .ok (.iinc 1 1, 3) := by decide +kernel
theorem dX0_countThumbApart_71 : decode cX0_countThumbApart 71 = .ok (.iinc 3 1, 3) := by decide +kernel
theorem dX0_countThumbApart_74 : decode cX0_countThumbApart 74 = .ok (.goto (-58), 3) := by decide +kernel
theorem dX0_countThumbApart_77 : decode cX0_countThumbApart 77 = .ok (.iinc 2 1, 3) := by decide +kernel
theorem dX0_countThumbApart_80 : decode cX0_countThumbApart 80 = .ok (.goto (-76), 3) := by decide +kernel
theorem dX0_countThumbApart_83 : decode cX0_countThumbApart 83 = .ok (.iload_n 1, 1) := by decide +kernel
theorem dX0_countThumbApart_84 : decode cX0_countThumbApart 84 = .ok (.ireturn, 1) := by decide +kernel
theorem dX0_nearestBut_0 : decode cX0_nearestBut 0 = .ok (.bipush 100, 2) := by decide +kernel
theorem dX0_nearestBut_2 : decode cX0_nearestBut 2 = .ok (.istore_n 3, 1) := by decide +kernel
theorem dX0_nearestBut_3 : decode cX0_nearestBut 3 = .ok (.iconst 0, 1) := by decide +kernel
theorem dX0_nearestBut_4 : decode cX0_nearestBut 4 = .ok (.istore 4, 2) := by decide +kernel
theorem dX0_nearestBut_6 : decode cX0_nearestBut 6 = .ok (.iload 4, 2) := by decide +kernel
theorem dX0_nearestBut_8 : decode cX0_nearestBut 8 = .ok (.aload_n 0, 1) := by decide +kernel
theorem dX0_nearestBut_9 : decode cX0_nearestBut 9 = .ok (.getfield 22, 3) := by decide +kernel
theorem dX0_nearestBut_12 : decode cX0_nearestBut 12 = .ok (.if_icmp .ge 35, 3) := by decide +kernel
theorem dX0_nearestBut_15 : decode cX0_nearestBut 15 = .ok (.iload 4, 2) := by decide +kernel
theorem dX0_nearestBut_17 : decode cX0_nearestBut 17 = .ok (.iload_n 1, 1) := by decide +kernel
theorem dX0_nearestBut_18 : decode cX0_nearestBut 18 = .ok (.if_icmp .eq 23, 3) := by decide +kernel
theorem dX0_nearestBut_21 : decode cX0_nearestBut 21 = .ok (.iload_n 3, 1) := by decide +kernel
theorem dX0_nearestBut_22 : decode cX0_nearestBut 22 = .ok (.aload_n 0, 1) := by decide +kernel
theorem dX0_nearestBut_23 : decode cX0_nearestBut 23 = .ok (.getfield 9, 3) := by decide +kernel
theorem dX0_nearestBut_26 : decode cX0_nearestBut 26 = .ok (.iload_n 2, 1) := by decide +kernel
theorem dX0_nearestBut_27 : decode cX0_nearestBut 27 = .ok (.aload_n 0, 1) := by decide +kernel
theorem dX0_nearestBut_28 : decode cX0_nearestBut 28 = .ok (.getfield 15, 3) := by decide +kernel
theorem dX0_nearestBut_31 : decode cX0_nearestBut 31 = .ok (.iload 4, 2) := by decide +kernel
theorem dX0_nearestBut_33 : decode cX0_nearestBut 33 = .ok (.iaload, 1) := by decide +kernel
theorem dX0_nearestBut_34 : decode cX0_nearestBut 34 = .ok (.invokevirtual 59, 3) := by decide +kernel
theorem dX0_nearestBut_37 : decode cX0_nearestBut 37 = .ok (.invokestatic 62, 3) := by decide +kernel
theorem dX0_nearestBut_40 : decode cX0_nearestBut 40 = .ok (.istore_n 3, 1) := by decide +kernel
theorem dX0_nearestBut_41 : decode cX0_nearestBut 41 = .ok (.iinc 4 1, 3) := by decide +kernel
theorem dX0_nearestBut_44 : decode cX0_nearestBut 44 = .ok (.goto (-38), 3) := by decide +kernel
theorem dX0_nearestBut_47 : decode cX0_nearestBut 47 = .ok (.iload_n 3, 1) := by decide +kernel
theorem dX0_nearestBut_48 : decode cX0_nearestBut 48 = .ok (.ireturn, 1) := by decide +kernel
theorem dX0_fewestApart_0 : decode cX0_fewestApart 0 = .ok (.aload_n 0, 1) := by decide +kernel
theorem dX0_fewestApart_1 : decode cX0_fewestApart 1 = .ok (.getfield 22, 3) := by decide +kernel
theorem dX0_fewestApart_4 : decode cX0_fewestApart 4 = .ok (.iconst 2, 1) := by decide +kernel
theorem dX0_fewestApart_5 : decode cX0_fewestApart 5 = .ok (.if_icmp .ge 5, 3) := by decide +kernel
theorem dX0_fewestApart_8 : decode cX0_fewestApart 8 = .ok (.iconst 0, 1) := by decide +kernel
theorem dX0_fewestApart_9 : decode cX0_fewestApart 9 = .ok (.ireturn, 1) := by decide +kernel
theorem dX0_fewestApart_10 : decode cX0_fewestApart 10 = .ok (.bipush 100, 2) := by decide +kernel
theorem dX0_fewestApart_12 : decode cX0_fewestApart 12 = .ok (.istore_n 1, 1) := by decide +kernel
theorem dX0_fewestApart_13 : decode cX0_fewestApart 13 = .ok (.iconst 0, 1) := by decide +kernel
theorem dX0_fewestApart_14 : decode cX0_fewestApart 14 = .ok (.istore_n 2, 1) := by decide +kernel
theorem dX0_fewestApart_15 : decode cX0_fewestApart 15 = .ok (.iload_n 2, 1) := by decide +kernel
theorem dX0_fewestApart_16 : decode cX0_fewestApart 16 = .ok (.aload_n 0, 1) := by decide +kernel
theorem dX0_fewestApart_17 : decode cX0_fewestApart 17 = .ok (.getfield 22, 3) := by decide +kernel
theorem dX0_fewestApart_20 : decode cX0_fewestApart 20 = .ok (.if_icmp .ge 25, 3) := by decide +kernel
theorem dX0_fewestApart_23 : decode cX0_fewestApart 23 = .ok (.iload_n 1, 1) := by decide +kernel
theorem dX0_fewestApart_24 : decode cX0_fewestApart 24 = .ok (.aload_n 0, 1) := by decide +kernel
theorem dX0_fewestApart_25 : decode cX0_fewestApart 25 = .ok (.iload_n 2, 1) := by decide +kernel
theorem dX0_fewestApart_26 : decode cX0_fewestApart 26 = .ok (.aload_n 0, 1) := by decide +kernel
theorem dX0_fewestApart_27 : decode cX0_fewestApart 27 = .ok (.getfield 15, 3) := by decide +kernel
theorem dX0_fewestApart_30 : decode cX0_fewestApart 30 = .ok (.iload_n 2, 1) := by decide +kernel
theorem dX0_fewestApart_31 : decode cX0_fewestApart 31 = .ok (.iaload, 1) := by decide +kernel
theorem dX0_fewestApart_32 : decode cX0_fewestApart 32 = .ok (.invokevirtual 67, 3) := by decide +kernel
theorem dX0_fewestApart_35 : decode cX0_fewestApart 35 = .ok (.invokestatic 62, 3) := by decide +kernel
theorem dX0_fewestApart_38 : decode cX0_fewestApart 38 = .ok (.istore_n 1, 1) := by decide +kernel
theorem dX0_fewestApart_39 : decode cX0_fewestApart 39 = .ok (.iinc 2 1, 3) := by decide +kernel
theorem dX0_fewestApart_42 : decode cX0_fewestApart 42 = .ok (.goto (-27), 3) := by decide +kernel
theorem dX0_fewestApart_45 : decode cX0_fewestApart 45 = .ok (.iload_n 1, 1) := by decide +kernel
theorem dX0_fewestApart_46 : decode cX0_fewestApart 46 = .ok (.ireturn, 1) := by decide +kernel
theorem dX0_countNear_0 : decode cX0_countNear 0 = .ok (.iconst 0, 1) := by decide +kernel
theorem dX0_countNear_1 : decode cX0_countNear 1 = .ok (.istore_n 2, 1) := by decide +kernel
theorem dX0_countNear_2 : decode cX0_countNear 2 = .ok (.iconst 0, 1) := by decide +kernel
theorem dX0_countNear_3 : decode cX0_countNear 3 = .ok (.istore_n 3, 1) := by decide +kernel
theorem dX0_countNear_4 : decode cX0_countNear 4 = .ok (.iload_n 3, 1) := by decide +kernel
theorem dX0_countNear_5 : decode cX0_countNear 5 = .ok (.aload_n 0, 1) := by decide +kernel
theorem dX0_countNear_6 : decode cX0_countNear 6 = .ok (.getfield 22, 3) := by decide +kernel
theorem dX0_countNear_9 : decode cX0_countNear 9 = .ok (.if_icmp .ge 40, 3) := by decide +kernel
theorem dX0_countNear_12 : decode cX0_countNear 12 = .ok (.iload_n 3, 1) := by decide +kernel
theorem dX0_countNear_13 : decode cX0_countNear 13 = .ok (.iload_n 1, 1) := by decide +kernel
theorem dX0_countNear_14 : decode cX0_countNear 14 = .ok (.if_icmp .eq 29, 3) := by decide +kernel
theorem dX0_countNear_17 : decode cX0_countNear 17 = .ok (.aload_n 0, 1) := by decide +kernel
theorem dX0_countNear_18 : decode cX0_countNear 18 = .ok (.getfield 9, 3) := by decide +kernel
theorem dX0_countNear_21 : decode cX0_countNear 21 = .ok (.aload_n 0, 1) := by decide +kernel
theorem dX0_countNear_22 : decode cX0_countNear 22 = .ok (.getfield 15, 3) := by decide +kernel
theorem dX0_countNear_25 : decode cX0_countNear 25 = .ok (.iload_n 1, 1) := by decide +kernel
theorem dX0_countNear_26 : decode cX0_countNear 26 = .ok (.iaload, 1) := by decide +kernel
theorem dX0_countNear_27 : decode cX0_countNear 27 = .ok (.aload_n 0, 1) := by decide +kernel
theorem dX0_countNear_28 : decode cX0_countNear 28 = .ok (.getfield 15, 3) := by decide +kernel
theorem dX0_countNear_31 : decode cX0_countNear 31 = .ok (.iload_n 3, 1) := by decide +kernel
theorem dX0_countNear_32 : decode cX0_countNear 32 = .ok (.iaload, 1) := by decide +kernel
theorem dX0_countNear_33 : decode cX0_countNear 33 = .ok (.invokevirtual 59, 3) := by decide +kernel
theorem dX0_countNear_36 : decode cX0_countNear 36 = .ok (.iconst 3, 1) := by decide +kernel
theorem dX0_countNear_37 : decode cX0_countNear 37 = .ok (.if_icmp .gt 6, 3) := by decide +kernel
theorem dX0_countNear_40 : decode cX0_countNear 40 = .ok (.iinc 2 1, 3) := by decide +kernel
theorem dX0_countNear_43 : decode cX0_countNear 43 = .ok (.iinc 3 1, 3) := by decide +kernel
theorem dX0_countNear_46 : decode cX0_countNear 46 = .ok (.goto (-42), 3) := by decide +kernel
theorem dX0_countNear_49 : decode cX0_countNear 49 = .ok (.iload_n 2, 1) := by decide +kernel
theorem dX0_countNear_50 : decode cX0_countNear 50 = .ok (.ireturn, 1) := by decide +kernel
theorem dX0_signNearMost_0 : decode cX0_signNearMost 0 = .ok (.iconst (-1), 1) := by decide +kernel
theorem dX0_signNearMost_1 : decode cX0_signNearMost 1 = .ok (.istore_n 1, 1) := by decide +kernel
theorem dX0_signNearMost_2 : decode cX0_signNearMost 2 = .ok (.iconst (-1), 1) := by decide +kernel
theorem dX0_signNearMost_3 : decode cX0_signNearMost 3 = .ok (.istore_n 2, 1) := by decide +kernel
theorem dX0_signNearMost_4 : decode cX0_signNearMost 4 = .ok (.iconst 0, 1) := by decide +kernel
theorem dX0_signNearMost_5 : decode cX0_signNearMost 5 = .ok (.istore_n 3, 1) := by decide +kernel
theorem dX0_signNearMost_6 : decode cX0_signNearMost 6 = .ok (.iload_n 3, 1) := by decide +kernel
theorem dX0_signNearMost_7 : decode cX0_signNearMost 7 = .ok (.aload_n 0, 1) := by decide +kernel
theorem dX0_signNearMost_8 : decode cX0_signNearMost 8 = .ok (.getfield 22, 3) := by decide +kernel
theorem dX0_signNearMost_11 : decode cX0_signNearMost 11 = .ok (.if_icmp .ge 27, 3) := by decide +kernel
theorem dX0_signNearMost_14 : decode cX0_signNearMost 14 = .ok (.aload_n 0, 1) := by decide +kernel
theorem dX0_signNearMost_15 : decode cX0_signNearMost 15 = .ok (.iload_n 3, 1) := by decide +kernel
theorem dX0_signNearMost_16 : decode cX0_signNearMost 16 = .ok (.invokevirtual 70, 3) := by decide +kernel
theorem dX0_signNearMost_19 : decode cX0_signNearMost 19 = .ok (.istore 4, 2) := by decide +kernel
theorem dX0_signNearMost_21 : decode cX0_signNearMost 21 = .ok (.iload 4, 2) := by decide +kernel
theorem dX0_signNearMost_23 : decode cX0_signNearMost 23 = .ok (.iload_n 2, 1) := by decide +kernel
theorem dX0_signNearMost_24 : decode cX0_signNearMost 24 = .ok (.if_icmp .le 8, 3) := by decide +kernel
theorem dX0_signNearMost_27 : decode cX0_signNearMost 27 = .ok (.iload 4, 2) := by decide +kernel
theorem dX0_signNearMost_29 : decode cX0_signNearMost 29 = .ok (.istore_n 2, 1) := by decide +kernel
theorem dX0_signNearMost_30 : decode cX0_signNearMost 30 = .ok (.iload_n 3, 1) := by decide +kernel
theorem dX0_signNearMost_31 : decode cX0_signNearMost 31 = .ok (.istore_n 1, 1) := by decide +kernel
theorem dX0_signNearMost_32 : decode cX0_signNearMost 32 = .ok (.iinc 3 1, 3) := by decide +kernel
theorem dX0_signNearMost_35 : decode cX0_signNearMost 35 = .ok (.goto (-29), 3) := by decide +kernel
theorem dX0_signNearMost_38 : decode cX0_signNearMost 38 = .ok (.iload_n 1, 1) := by decide +kernel
theorem dX0_signNearMost_39 : decode cX0_signNearMost 39 = .ok (.ireturn, 1) := by decide +kernel
theorem dX0_thumbFarthest_0 : decode cX0_thumbFarthest 0 = .ok (.aload_n 0, 1) := by decide +kernel
theorem dX0_thumbFarthest_1 : decode cX0_thumbFarthest 1 = .ok (.getfield 15, 3) := by decide +kernel
theorem dX0_thumbFarthest_4 : decode cX0_thumbFarthest 4 = .ok (.iload_n 1, 1) := by decide +kernel
theorem dX0_thumbFarthest_5 : decode cX0_thumbFarthest 5 = .ok (.iaload, 1) := by decide +kernel
theorem dX0_thumbFarthest_6 : decode cX0_thumbFarthest 6 = .ok (.istore_n 2, 1) := by decide +kernel
theorem dX0_thumbFarthest_7 : decode cX0_thumbFarthest 7 = .ok (.aload_n 0, 1) := by decide +kernel
theorem dX0_thumbFarthest_8 : decode cX0_thumbFarthest 8 = .ok (.getfield 22, 3) := by decide +kernel
theorem dX0_thumbFarthest_11 : decode cX0_thumbFarthest 11 = .ok (.iconst 2, 1) := by decide +kernel
theorem dX0_thumbFarthest_12 : decode cX0_thumbFarthest 12 = .ok (.if_icmp .ge 8, 3) := by decide +kernel
theorem dX0_thumbFarthest_15 : decode cX0_thumbFarthest 15 = .ok (.iload_n 2, 1) := by decide +kernel
theorem dX0_thumbFarthest_16 : decode cX0_thumbFarthest 16 = .ok (.invokestatic 42, 3) := by decide +kernel
theorem dX0_thumbFarthest_19 : decode cX0_thumbFarthest 19 = .ok (.ireturn, 1) := by decide +kernel
theorem dX0_thumbFarthest_20 : decode cX0_thumbFarthest 20 = .ok (.iconst 0, 1) := by decide +kernel
theorem dX0_thumbFarthest_21 : decode cX0_thumbFarthest 21 = .ok (.istore_n 3, 1) := by decide +kernel
theorem dX0_thumbFarthest_22 : decode cX0_thumbFarthest 22 = .ok (.iconst (-1), 1) := by decide +kernel
theorem dX0_thumbFarthest_23 : decode cX0_thumbFarthest 23 = .ok (.istore 4, 2) := by decide +kernel
theorem dX0_thumbFarthest_25 : decode cX0_thumbFarthest 25 = .ok (.iconst 0, 1) := by decide +kernel
theorem dX0_thumbFarthest_26 : decode cX0_thumbFarthest 26 = .ok (.istore 5, 2) := by decide +kernel
theorem dX0_thumbFarthest_28 : decode cX0_thumbFarthest 28 = .ok (.iload 5, 2) := by decide +kernel
theorem dX0_thumbFarthest_30 : decode cX0_thumbFarthest 30 = .ok (.iconst 4, 1) := by decide +kernel
theorem dX0_thumbFarthest_31 : decode cX0_thumbFarthest 31 = .ok (.if_icmp .ge 36, 3) := by decide +kernel
theorem dX0_thumbFarthest_34 : decode cX0_thumbFarthest 34 = .ok (.aload_n 0, 1) := by decide +kernel
theorem dX0_thumbFarthest_35 : decode cX0_thumbFarthest 35 = .ok (.iload_n 1, 1) := by decide +kernel
theorem dX0_thumbFarthest_36 : decode cX0_thumbFarthest 36 = .ok (.iload_n 2, 1) := by decide +kernel
theorem dX0_thumbFarthest_37 : decode cX0_thumbFarthest 37 = .ok (.iload 5, 2) := by decide +kernel
theorem dX0_thumbFarthest_39 : decode cX0_thumbFarthest 39 = .ok (.invokestatic 47, 3) := by decide +kernel
theorem dX0_thumbFarthest_42 : decode cX0_thumbFarthest 42 = .ok (.invokevirtual 67, 3) := by decide +kernel
theorem dX0_thumbFarthest_45 : decode cX0_thumbFarthest 45 = .ok (.istore 6, 2) := by decide +kernel
theorem dX0_thumbFarthest_47 : decode cX0_thumbFarthest 47 = .ok (.iload 6, 2) := by decide +kernel
theorem dX0_thumbFarthest_49 : decode cX0_thumbFarthest 49 = .ok (.iload 4, 2) := by decide +kernel
theorem dX0_thumbFarthest_51 : decode cX0_thumbFarthest 51 = .ok (.if_icmp .le 10, 3) := by decide +kernel
theorem dX0_thumbFarthest_54 : decode cX0_thumbFarthest 54 = .ok (.iload 6, 2) := by decide +kernel
theorem dX0_thumbFarthest_56 : decode cX0_thumbFarthest 56 = .ok (.istore 4, 2) := by decide +kernel
theorem dX0_thumbFarthest_58 : decode cX0_thumbFarthest 58 = .ok (.iload 5, 2) := by decide +kernel
theorem dX0_thumbFarthest_60 : decode cX0_thumbFarthest 60 = .ok (.istore_n 3, 1) := by decide +kernel
theorem dX0_thumbFarthest_61 : decode cX0_thumbFarthest 61 = .ok (.iinc 5 1, 3) := by decide +kernel
theorem dX0_thumbFarthest_64 : decode cX0_thumbFarthest 64 = .ok (.goto (-36), 3) := by decide +kernel
theorem dX0_thumbFarthest_67 : decode cX0_thumbFarthest 67 = .ok (.iload_n 3, 1) := by decide +kernel
theorem dX0_thumbFarthest_68 : decode cX0_thumbFarthest 68 = .ok (.ireturn, 1) := by decide +kernel
theorem dX0_meaningRead_0 : decode cX0_meaningRead 0 = .ok (.iconst 4, 1) := by decide +kernel
theorem dX0_meaningRead_1 : decode cX0_meaningRead 1 = .ok (.istore_n 2, 1) := by decide +kernel
theorem dX0_meaningRead_2 : decode cX0_meaningRead 2 = .ok (.iconst (-1), 1) := by decide +kernel
theorem dX0_meaningRead_3 : decode cX0_meaningRead 3 = .ok (.istore_n 3, 1) := by decide +kernel
theorem dX0_meaningRead_4 : decode cX0_meaningRead 4 = .ok (.iconst 0, 1) := by decide +kernel
theorem dX0_meaningRead_5 : decode cX0_meaningRead 5 = .ok (.istore 4, 2) := by decide +kernel
theorem dX0_meaningRead_7 : decode cX0_meaningRead 7 = .ok (.iload 4, 2) := by decide +kernel
theorem dX0_meaningRead_9 : decode cX0_meaningRead 9 = .ok (.aload_n 0, 1) := by decide +kernel
theorem dX0_meaningRead_10 : decode cX0_meaningRead 10 = .ok (.getfield 22, 3) := by decide +kernel
theorem dX0_meaningRead_13 : decode cX0_meaningRead 13 = .ok (.if_icmp .ge 54, 3) := by decide +kernel
theorem dX0_meaningRead_16 : decode cX0_meaningRead 16 = .ok (.aload_n 0, 1) := by decide +kernel
theorem dX0_meaningRead_17 : decode cX0_meaningRead 17 = .ok (.getfield 9, 3) := by decide +kernel
theorem dX0_meaningRead_20 : decode cX0_meaningRead 20 = .ok (.iload_n 1, 1) := by decide +kernel
theorem dX0_meaningRead_21 : decode cX0_meaningRead 21 = .ok (.aload_n 0, 1) := by decide +kernel
theorem dX0_meaningRead_22 : decode cX0_meaningRead 22 = .ok (.getfield 15, 3) := by decide +kernel
theorem dX0_meaningRead_25 : decode cX0_meaningRead 25 = .ok (.iload 4, 2) := by decide +kernel
theorem dX0_meaningRead_27 : decode cX0_meaningRead 27 = .ok (.iaload, 1) := by decide +kernel
theorem dX0_meaningRead_28 : decode cX0_meaningRead 28 = .ok (.invokevirtual 59, 3) := by decide +kernel
theorem dX0_meaningRead_31 : decode cX0_meaningRead 31 = .ok (.istore 5, 2) := by decide +kernel
theorem dX0_meaningRead_33 : decode cX0_meaningRead 33 = .ok (.iload 5, 2) := by decide +kernel
theorem dX0_meaningRead_35 : decode cX0_meaningRead 35 = .ok (.iload_n 2, 1) := by decide +kernel
theorem dX0_meaningRead_36 : decode cX0_meaningRead 36 = .ok (.if_icmp .ge 17, 3) := by decide +kernel
theorem dX0_meaningRead_39 : decode cX0_meaningRead 39 = .ok (.iload 5, 2) := by decide +kernel
theorem dX0_meaningRead_41 : decode cX0_meaningRead 41 = .ok (.istore_n 2, 1) := by decide +kernel
theorem dX0_meaningRead_42 : decode cX0_meaningRead 42 = .ok (.aload_n 0, 1) := by decide +kernel
theorem dX0_meaningRead_43 : decode cX0_meaningRead 43 = .ok (.getfield 19, 3) := by decide +kernel
theorem dX0_meaningRead_46 : decode cX0_meaningRead 46 = .ok (.iload 4, 2) := by decide +kernel
theorem dX0_meaningRead_48 : decode cX0_meaningRead 48 = .ok (.iaload, 1) := by decide +kernel
theorem dX0_meaningRead_49 : decode cX0_meaningRead 49 = .ok (.istore_n 3, 1) := by decide +kernel
theorem dX0_meaningRead_50 : decode cX0_meaningRead 50 = .ok (.goto 11, 3) := by decide +kernel
theorem dX0_meaningRead_53 : decode cX0_meaningRead 53 = .ok (.iload 5, 2) := by decide +kernel
theorem dX0_meaningRead_55 : decode cX0_meaningRead 55 = .ok (.iload_n 2, 1) := by decide +kernel
theorem dX0_meaningRead_56 : decode cX0_meaningRead 56 = .ok (.if_icmp .ne 5, 3) := by decide +kernel
theorem dX0_meaningRead_59 : decode cX0_meaningRead 59 = .ok (.iconst (-1), 1) := by decide +kernel
theorem dX0_meaningRead_60 : decode cX0_meaningRead 60 = .ok (.istore_n 3, 1) := by decide +kernel
theorem dX0_meaningRead_61 : decode cX0_meaningRead 61 = .ok (.iinc 4 1, 3) := by decide +kernel
theorem dX0_meaningRead_64 : decode cX0_meaningRead 64 = .ok (.goto (-57), 3) := by decide +kernel
theorem dX0_meaningRead_67 : decode cX0_meaningRead 67 = .ok (.iload_n 3, 1) := by decide +kernel
theorem dX0_meaningRead_68 : decode cX0_meaningRead 68 = .ok (.ireturn, 1) := by decide +kernel
theorem dX0_countUnderstood_0 : decode cX0_countUnderstood 0 = .ok (.iconst 0, 1) := by decide +kernel
theorem dX0_countUnderstood_1 : decode cX0_countUnderstood 1 = .ok (.istore_n 2, 1) := by decide +kernel
theorem dX0_countUnderstood_2 : decode cX0_countUnderstood 2 = .ok (.iconst 0, 1) := by decide +kernel
theorem dX0_countUnderstood_3 : decode cX0_countUnderstood 3 = .ok (.istore_n 3, 1) := by decide +kernel
theorem dX0_countUnderstood_4 : decode cX0_countUnderstood 4 = .ok (.iload_n 3, 1) := by decide +kernel
theorem dX0_countUnderstood_5 : decode cX0_countUnderstood 5 = .ok (.aload_n 1, 1) := by decide +kernel
theorem dX0_countUnderstood_6 : decode cX0_countUnderstood 6 = .ok (.getfield 22, 3) := by decide +kernel
theorem dX0_countUnderstood_9 : decode cX0_countUnderstood 9 = .ok (.if_icmp .ge 31, 3) := by decide +kernel
theorem dX0_countUnderstood_12 : decode cX0_countUnderstood 12 = .ok (.aload_n 0, 1) := by decide +kernel
theorem dX0_countUnderstood_13 : decode cX0_countUnderstood 13 = .ok (.aload_n 1, 1) := by decide +kernel
theorem dX0_countUnderstood_14 : decode cX0_countUnderstood 14 = .ok (.getfield 15, 3) := by decide +kernel
theorem dX0_countUnderstood_17 : decode cX0_countUnderstood 17 = .ok (.iload_n 3, 1) := by decide +kernel
theorem dX0_countUnderstood_18 : decode cX0_countUnderstood 18 = .ok (.iaload, 1) := by decide +kernel
theorem dX0_countUnderstood_19 : decode cX0_countUnderstood 19 = .ok (.invokevirtual 73, 3) := by decide +kernel
theorem dX0_countUnderstood_22 : decode cX0_countUnderstood 22 = .ok (.aload_n 1, 1) := by decide +kernel
theorem dX0_countUnderstood_23 : decode cX0_countUnderstood 23 = .ok (.getfield 19, 3) := by decide +kernel
theorem dX0_countUnderstood_26 : decode cX0_countUnderstood 26 = .ok (.iload_n 3, 1) := by decide +kernel
theorem dX0_countUnderstood_27 : decode cX0_countUnderstood 27 = .ok (.iaload, 1) := by decide +kernel
theorem dX0_countUnderstood_28 : decode cX0_countUnderstood 28 = .ok (.if_icmp .ne 6, 3) := by decide +kernel
theorem dX0_countUnderstood_31 : decode cX0_countUnderstood 31 = .ok (.iinc 2 1, 3) := by decide +kernel
theorem dX0_countUnderstood_34 : decode cX0_countUnderstood 34 = .ok (.iinc 3 1, 3) := by decide +kernel
theorem dX0_countUnderstood_37 : decode cX0_countUnderstood 37 = .ok (.goto (-33), 3) := by decide +kernel
theorem dX0_countUnderstood_40 : decode cX0_countUnderstood 40 = .ok (.iload_n 2, 1) := by decide +kernel
theorem dX0_countUnderstood_41 : decode cX0_countUnderstood 41 = .ok (.ireturn, 1) := by decide +kernel
theorem dX0_countMisread_0 : decode cX0_countMisread 0 = .ok (.iconst 0, 1) := by decide +kernel
theorem dX0_countMisread_1 : decode cX0_countMisread 1 = .ok (.istore_n 2, 1) := by decide +kernel
theorem dX0_countMisread_2 : decode cX0_countMisread 2 = .ok (.iconst 0, 1) := by decide +kernel
theorem dX0_countMisread_3 : decode cX0_countMisread 3 = .ok (.istore_n 3, 1) := by decide +kernel
theorem dX0_countMisread_4 : decode cX0_countMisread 4 = .ok (.iload_n 3, 1) := by decide +kernel
theorem dX0_countMisread_5 : decode cX0_countMisread 5 = .ok (.aload_n 1, 1) := by decide +kernel
theorem dX0_countMisread_6 : decode cX0_countMisread 6 = .ok (.getfield 22, 3) := by decide +kernel
theorem dX0_countMisread_9 : decode cX0_countMisread 9 = .ok (.if_icmp .ge 41, 3) := by decide +kernel
theorem dX0_countMisread_12 : decode cX0_countMisread 12 = .ok (.aload_n 0, 1) := by decide +kernel
theorem dX0_countMisread_13 : decode cX0_countMisread 13 = .ok (.aload_n 1, 1) := by decide +kernel
theorem dX0_countMisread_14 : decode cX0_countMisread 14 = .ok (.getfield 15, 3) := by decide +kernel
theorem dX0_countMisread_17 : decode cX0_countMisread 17 = .ok (.iload_n 3, 1) := by decide +kernel
theorem dX0_countMisread_18 : decode cX0_countMisread 18 = .ok (.iaload, 1) := by decide +kernel
theorem dX0_countMisread_19 : decode cX0_countMisread 19 = .ok (.invokevirtual 73, 3) := by decide +kernel
theorem dX0_countMisread_22 : decode cX0_countMisread 22 = .ok (.istore 4, 2) := by decide +kernel
theorem dX0_countMisread_24 : decode cX0_countMisread 24 = .ok (.iload 4, 2) := by decide +kernel
theorem dX0_countMisread_26 : decode cX0_countMisread 26 = .ok (.iconst (-1), 1) := by decide +kernel
theorem dX0_countMisread_27 : decode cX0_countMisread 27 = .ok (.if_icmp .eq 17, 3) := by decide +kernel
theorem dX0_countMisread_30 : decode cX0_countMisread 30 = .ok (.iload 4, 2) := by decide +kernel
theorem dX0_countMisread_32 : decode cX0_countMisread 32 = .ok (.aload_n 1, 1) := by decide +kernel
theorem dX0_countMisread_33 : decode cX0_countMisread 33 = .ok (.getfield 19, 3) := by decide +kernel
theorem dX0_countMisread_36 : decode cX0_countMisread 36 = .ok (.iload_n 3, 1) := by decide +kernel
theorem dX0_countMisread_37 : decode cX0_countMisread 37 = .ok (.iaload, 1) := by decide +kernel
theorem dX0_countMisread_38 : decode cX0_countMisread 38 = .ok (.if_icmp .eq 6, 3) := by decide +kernel
theorem dX0_countMisread_41 : decode cX0_countMisread 41 = .ok (.iinc 2 1, 3) := by decide +kernel
theorem dX0_countMisread_44 : decode cX0_countMisread 44 = .ok (.iinc 3 1, 3) := by decide +kernel
theorem dX0_countMisread_47 : decode cX0_countMisread 47 = .ok (.goto (-43), 3) := by decide +kernel
theorem dX0_countMisread_50 : decode cX0_countMisread 50 = .ok (.iload_n 2, 1) := by decide +kernel
theorem dX0_countMisread_51 : decode cX0_countMisread 51 = .ok (.ireturn, 1) := by decide +kernel
theorem dX0_countCommon_0 : decode cX0_countCommon 0 = .ok (.iconst 0, 1) := by decide +kernel
theorem dX0_countCommon_1 : decode cX0_countCommon 1 = .ok (.istore_n 2, 1) := by decide +kernel
theorem dX0_countCommon_2 : decode cX0_countCommon 2 = .ok (.iconst 0, 1) := by decide +kernel
theorem dX0_countCommon_3 : decode cX0_countCommon 3 = .ok (.istore_n 3, 1) := by decide +kernel
theorem dX0_countCommon_4 : decode cX0_countCommon 4 = .ok (.iload_n 3, 1) := by decide +kernel
theorem dX0_countCommon_5 : decode cX0_countCommon 5 = .ok (.aload_n 0, 1) := by decide +kernel
theorem dX0_countCommon_6 : decode cX0_countCommon 6 = .ok (.getfield 22, 3) := by decide +kernel
theorem dX0_countCommon_9 : decode cX0_countCommon 9 = .ok (.if_icmp .ge 65, 3) := by decide +kernel
theorem dX0_countCommon_12 : decode cX0_countCommon 12 = .ok (.aload_n 0, 1) := by decide +kernel
theorem dX0_countCommon_13 : decode cX0_countCommon 13 = .ok (.getfield 19, 3) := by decide +kernel
theorem dX0_countCommon_16 : decode cX0_countCommon 16 = .ok (.iload_n 3, 1) := by decide +kernel
theorem dX0_countCommon_17 : decode cX0_countCommon 17 = .ok (.iaload, 1) := by decide +kernel
theorem dX0_countCommon_18 : decode cX0_countCommon 18 = .ok (.istore 4, 2) := by decide +kernel
theorem dX0_countCommon_20 : decode cX0_countCommon 20 = .ok (.aload_n 1, 1) := by decide +kernel
theorem dX0_countCommon_21 : decode cX0_countCommon 21 = .ok (.iload 4, 2) := by decide +kernel
theorem dX0_countCommon_23 : decode cX0_countCommon 23 = .ok (.invokevirtual 32, 3) := by decide +kernel
theorem dX0_countCommon_26 : decode cX0_countCommon 26 = .ok (.istore 5, 2) := by decide +kernel
theorem dX0_countCommon_28 : decode cX0_countCommon 28 = .ok (.iload 5, 2) := by decide +kernel
theorem dX0_countCommon_30 : decode cX0_countCommon 30 = .ok (.iconst (-1), 1) := by decide +kernel
theorem dX0_countCommon_31 : decode cX0_countCommon 31 = .ok (.if_icmp .eq 37, 3) := by decide +kernel
theorem dX0_countCommon_34 : decode cX0_countCommon 34 = .ok (.aload_n 1, 1) := by decide +kernel
theorem dX0_countCommon_35 : decode cX0_countCommon 35 = .ok (.aload_n 0, 1) := by decide +kernel
theorem dX0_countCommon_36 : decode cX0_countCommon 36 = .ok (.getfield 15, 3) := by decide +kernel
theorem dX0_countCommon_39 : decode cX0_countCommon 39 = .ok (.iload_n 3, 1) := by decide +kernel
theorem dX0_countCommon_40 : decode cX0_countCommon 40 = .ok (.iaload, 1) := by decide +kernel
theorem dX0_countCommon_41 : decode cX0_countCommon 41 = .ok (.invokevirtual 73, 3) := by decide +kernel
theorem dX0_countCommon_44 : decode cX0_countCommon 44 = .ok (.iload 4, 2) := by decide +kernel
theorem dX0_countCommon_46 : decode cX0_countCommon 46 = .ok (.if_icmp .ne 22, 3) := by decide +kernel
theorem dX0_countCommon_49 : decode cX0_countCommon 49 = .ok (.aload_n 0, 1) := by decide +kernel
theorem dX0_countCommon_50 : decode cX0_countCommon 50 = .ok (.aload_n 1, 1) := by decide +kernel
theorem dX0_countCommon_51 : decode cX0_countCommon 51 = .ok (.getfield 15, 3) := by decide +kernel
theorem dX0_countCommon_54 : decode cX0_countCommon 54 = .ok (.iload 5, 2) := by decide +kernel
theorem dX0_countCommon_56 : decode cX0_countCommon 56 = .ok (.iaload, 1) := by decide +kernel
theorem dX0_countCommon_57 : decode cX0_countCommon 57 = .ok (.invokevirtual 73, 3) := by decide +kernel
theorem dX0_countCommon_60 : decode cX0_countCommon 60 = .ok (.iload 4, 2) := by decide +kernel
theorem dX0_countCommon_62 : decode cX0_countCommon 62 = .ok (.if_icmp .ne 6, 3) := by decide +kernel
theorem dX0_countCommon_65 : decode cX0_countCommon 65 = .ok (.iinc 2 1, 3) := by decide +kernel
theorem dX0_countCommon_68 : decode cX0_countCommon 68 = .ok (.iinc 3 1, 3) := by decide +kernel
theorem dX0_countCommon_71 : decode cX0_countCommon 71 = .ok (.goto (-67), 3) := by decide +kernel
theorem dX0_countCommon_74 : decode cX0_countCommon 74 = .ok (.iload_n 2, 1) := by decide +kernel
theorem dX0_countCommon_75 : decode cX0_countCommon 75 = .ok (.ireturn, 1) := by decide +kernel
theorem dX1_of_0 : decode cX1_of 0 = .ok (.iload_n 0, 1) := by decide +kernel
theorem dX1_of_1 : decode cX1_of 1 = .ok (.iload_n 1, 1) := by decide +kernel
theorem dX1_of_2 : decode cX1_of 2 = .ok (.iconst 4, 1) := by decide +kernel
theorem dX1_of_3 : decode cX1_of 3 = .ok (.ishl, 1) := by decide +kernel
theorem dX1_of_4 : decode cX1_of 4 = .ok (.ior, 1) := by decide +kernel
theorem dX1_of_5 : decode cX1_of 5 = .ok (.iload_n 3, 1) := by decide +kernel
theorem dX1_of_6 : decode cX1_of 6 = .ok (.bipush 6, 2) := by decide +kernel
theorem dX1_of_8 : decode cX1_of 8 = .ok (.ishl, 1) := by decide +kernel
theorem dX1_of_9 : decode cX1_of 9 = .ok (.ior, 1) := by decide +kernel
theorem dX1_of_10 : decode cX1_of 10 = .ok (.iload_n 2, 1) := by decide +kernel
theorem dX1_of_11 : decode cX1_of 11 = .ok (.bipush 8, 2) := by decide +kernel
theorem dX1_of_13 : decode cX1_of 13 = .ok (.ishl, 1) := by decide +kernel
theorem dX1_of_14 : decode cX1_of 14 = .ok (.ior, 1) := by decide +kernel
theorem dX1_of_15 : decode cX1_of 15 = .ok (.ireturn, 1) := by decide +kernel
theorem dX1_shape_0 : decode cX1_shape 0 = .ok (.iload_n 0, 1) := by decide +kernel
theorem dX1_shape_1 : decode cX1_shape 1 = .ok (.bipush 15, 2) := by decide +kernel
theorem dX1_shape_3 : decode cX1_shape 3 = .ok (.iand, 1) := by decide +kernel
theorem dX1_shape_4 : decode cX1_shape 4 = .ok (.ireturn, 1) := by decide +kernel
theorem dX1_thumb_0 : decode cX1_thumb 0 = .ok (.iload_n 0, 1) := by decide +kernel
theorem dX1_thumb_1 : decode cX1_thumb 1 = .ok (.iconst 4, 1) := by decide +kernel
theorem dX1_thumb_2 : decode cX1_thumb 2 = .ok (.ishr, 1) := by decide +kernel
theorem dX1_thumb_3 : decode cX1_thumb 3 = .ok (.iconst 3, 1) := by decide +kernel
theorem dX1_thumb_4 : decode cX1_thumb 4 = .ok (.iand, 1) := by decide +kernel
theorem dX1_thumb_5 : decode cX1_thumb 5 = .ok (.ireturn, 1) := by decide +kernel
theorem dX1_movement_0 : decode cX1_movement 0 = .ok (.iload_n 0, 1) := by decide +kernel
theorem dX1_movement_1 : decode cX1_movement 1 = .ok (.bipush 6, 2) := by decide +kernel
theorem dX1_movement_3 : decode cX1_movement 3 = .ok (.ishr, 1) := by decide +kernel
theorem dX1_movement_4 : decode cX1_movement 4 = .ok (.iconst 3, 1) := by decide +kernel
theorem dX1_movement_5 : decode cX1_movement 5 = .ok (.iand, 1) := by decide +kernel
theorem dX1_movement_6 : decode cX1_movement 6 = .ok (.ireturn, 1) := by decide +kernel
theorem dX1_place_0 : decode cX1_place 0 = .ok (.iload_n 0, 1) := by decide +kernel
theorem dX1_place_1 : decode cX1_place 1 = .ok (.bipush 8, 2) := by decide +kernel
theorem dX1_place_3 : decode cX1_place 3 = .ok (.ishr, 1) := by decide +kernel
theorem dX1_place_4 : decode cX1_place 4 = .ok (.bipush 15, 2) := by decide +kernel
theorem dX1_place_6 : decode cX1_place 6 = .ok (.iand, 1) := by decide +kernel
theorem dX1_place_7 : decode cX1_place 7 = .ok (.ireturn, 1) := by decide +kernel
theorem dX1_withThumb_0 : decode cX1_withThumb 0 = .ok (.iload_n 0, 1) := by decide +kernel
theorem dX1_withThumb_1 : decode cX1_withThumb 1 = .ok (.bipush (-49), 2) := by decide +kernel
theorem dX1_withThumb_3 : decode cX1_withThumb 3 = .ok (.iand, 1) := by decide +kernel
theorem dX1_withThumb_4 : decode cX1_withThumb 4 = .ok (.iload_n 1, 1) := by decide +kernel
theorem dX1_withThumb_5 : decode cX1_withThumb 5 = .ok (.iconst 4, 1) := by decide +kernel
theorem dX1_withThumb_6 : decode cX1_withThumb 6 = .ok (.ishl, 1) := by decide +kernel
theorem dX1_withThumb_7 : decode cX1_withThumb 7 = .ok (.ior, 1) := by decide +kernel
theorem dX1_withThumb_8 : decode cX1_withThumb 8 = .ok (.ireturn, 1) := by decide +kernel
theorem dX1_sameButForPlace_0 : decode cX1_sameButForPlace 0 = .ok (.iload_n 0, 1) := by decide +kernel
theorem dX1_sameButForPlace_1 : decode cX1_sameButForPlace 1 = .ok (.iload_n 1, 1) := by decide +kernel
theorem dX1_sameButForPlace_2 : decode cX1_sameButForPlace 2 = .ok (.ixor, 1) := by decide +kernel
theorem dX1_sameButForPlace_3 : decode cX1_sameButForPlace 3 = .ok (.sipush (-3841), 3) := by decide +kernel
theorem dX1_sameButForPlace_6 : decode cX1_sameButForPlace 6 = .ok (.iand, 1) := by decide +kernel
theorem dX1_sameButForPlace_7 : decode cX1_sameButForPlace 7 = .ok (.ifCond .ne 7, 3) := by decide +kernel
theorem dX1_sameButForPlace_10 : decode cX1_sameButForPlace 10 = .ok (.iconst 1, 1) := by decide +kernel
theorem dX1_sameButForPlace_11 : decode cX1_sameButForPlace 11 = .ok (.goto 4, 3) := by decide +kernel
theorem dX1_sameButForPlace_14 : decode cX1_sameButForPlace 14 = .ok (.iconst 0, 1) := by decide +kernel
theorem dX1_sameButForPlace_15 : decode cX1_sameButForPlace 15 = .ok (.ireturn, 1) := by decide +kernel
theorem dX2_init_0 : decode cX2_init 0 = .ok (.aload_n 0, 1) := by decide +kernel
theorem dX2_init_1 : decode cX2_init 1 = .ok (.invokespecial 3, 3) := by decide +kernel
theorem dX2_init_4 : decode cX2_init 4 = .ok (.aload_n 0, 1) := by decide +kernel
theorem dX2_init_5 : decode cX2_init 5 = .ok (.bipush 9, 2) := by decide +kernel
theorem dX2_init_7 : decode cX2_init 7 = .ok (.newarray .int, 2) := by decide +kernel
theorem dX2_init_9 : decode cX2_init 9 = .ok (.putfield 9, 3) := by decide +kernel
theorem dX2_init_12 : decode cX2_init 12 = .ok (.iconst 0, 1) := by decide +kernel
theorem dX2_init_13 : decode cX2_init 13 = .ok (.istore_n 1, 1) := by decide +kernel
theorem dX2_init_14 : decode cX2_init 14 = .ok (.iload_n 1, 1) := by decide +kernel
theorem dX2_init_15 : decode cX2_init 15 = .ok (.bipush 9, 2) := by decide +kernel
theorem dX2_init_17 : decode cX2_init 17 = .ok (.if_icmp .ge 16, 3) := by decide +kernel
theorem dX2_init_20 : decode cX2_init 20 = .ok (.aload_n 0, 1) := by decide +kernel
theorem dX2_init_21 : decode cX2_init 21 = .ok (.getfield 9, 3) := by decide +kernel
theorem dX2_init_24 : decode cX2_init 24 = .ok (.iload_n 1, 1) := by decide +kernel
theorem dX2_init_25 : decode cX2_init 25 = .ok (.iload_n 1, 1) := by decide +kernel
theorem dX2_init_26 : decode cX2_init 26 = .ok (.iastore, 1) := by decide +kernel
theorem dX2_init_27 : decode cX2_init 27 = .ok (.iinc 1 1, 3) := by decide +kernel
theorem dX2_init_30 : decode cX2_init 30 = .ok (.goto (-16), 3) := by decide +kernel
theorem dX2_init_33 : decode cX2_init 33 = .ok (.aload_n 0, 1) := by decide +kernel
theorem dX2_init_34 : decode cX2_init 34 = .ok (.bipush 9, 2) := by decide +kernel
theorem dX2_init_36 : decode cX2_init 36 = .ok (.putfield 15, 3) := by decide +kernel
theorem dX2_init_39 : decode cX2_init 39 = .ok (.return_, 1) := by decide +kernel
theorem dX2_unite_0 : decode cX2_unite 0 = .ok (.aload_n 0, 1) := by decide +kernel
theorem dX2_unite_1 : decode cX2_unite 1 = .ok (.getfield 9, 3) := by decide +kernel
theorem dX2_unite_4 : decode cX2_unite 4 = .ok (.iload_n 1, 1) := by decide +kernel
theorem dX2_unite_5 : decode cX2_unite 5 = .ok (.iaload, 1) := by decide +kernel
theorem dX2_unite_6 : decode cX2_unite 6 = .ok (.istore_n 3, 1) := by decide +kernel
theorem dX2_unite_7 : decode cX2_unite 7 = .ok (.aload_n 0, 1) := by decide +kernel
theorem dX2_unite_8 : decode cX2_unite 8 = .ok (.getfield 9, 3) := by decide +kernel
theorem dX2_unite_11 : decode cX2_unite 11 = .ok (.iload_n 2, 1) := by decide +kernel
theorem dX2_unite_12 : decode cX2_unite 12 = .ok (.iaload, 1) := by decide +kernel
theorem dX2_unite_13 : decode cX2_unite 13 = .ok (.istore 4, 2) := by decide +kernel
theorem dX2_unite_15 : decode cX2_unite 15 = .ok (.iload_n 3, 1) := by decide +kernel
theorem dX2_unite_16 : decode cX2_unite 16 = .ok (.iload 4, 2) := by decide +kernel
theorem dX2_unite_18 : decode cX2_unite 18 = .ok (.if_icmp .ne 4, 3) := by decide +kernel
theorem dX2_unite_21 : decode cX2_unite 21 = .ok (.return_, 1) := by decide +kernel
theorem dX2_unite_22 : decode cX2_unite 22 = .ok (.iconst 0, 1) := by decide +kernel
theorem dX2_unite_23 : decode cX2_unite 23 = .ok (.istore 5, 2) := by decide +kernel
theorem dX2_unite_25 : decode cX2_unite 25 = .ok (.iload 5, 2) := by decide +kernel
theorem dX2_unite_27 : decode cX2_unite 27 = .ok (.bipush 9, 2) := by decide +kernel
theorem dX2_unite_29 : decode cX2_unite 29 = .ok (.if_icmp .ge 29, 3) := by decide +kernel
theorem dX2_unite_32 : decode cX2_unite 32 = .ok (.aload_n 0, 1) := by decide +kernel
theorem dX2_unite_33 : decode cX2_unite 33 = .ok (.getfield 9, 3) := by decide +kernel
theorem dX2_unite_36 : decode cX2_unite 36 = .ok (.iload 5, 2) := by decide +kernel
theorem dX2_unite_38 : decode cX2_unite 38 = .ok (.iaload, 1) := by decide +kernel
theorem dX2_unite_39 : decode cX2_unite 39 = .ok (.iload 4, 2) := by decide +kernel
theorem dX2_unite_41 : decode cX2_unite 41 = .ok (.if_icmp .ne 11, 3) := by decide +kernel
theorem dX2_unite_44 : decode cX2_unite 44 = .ok (.aload_n 0, 1) := by decide +kernel
theorem dX2_unite_45 : decode cX2_unite 45 = .ok (.getfield 9, 3) := by decide +kernel
theorem dX2_unite_48 : decode cX2_unite 48 = .ok (.iload 5, 2) := by decide +kernel
theorem dX2_unite_50 : decode cX2_unite 50 = .ok (.iload_n 3, 1) := by decide +kernel
theorem dX2_unite_51 : decode cX2_unite 51 = .ok (.iastore, 1) := by decide +kernel
theorem dX2_unite_52 : decode cX2_unite 52 = .ok (.iinc 5 1, 3) := by decide +kernel
theorem dX2_unite_55 : decode cX2_unite 55 = .ok (.goto (-30), 3) := by decide +kernel
theorem dX2_unite_58 : decode cX2_unite 58 = .ok (.aload_n 0, 1) := by decide +kernel
theorem dX2_unite_59 : decode cX2_unite 59 = .ok (.dup, 1) := by decide +kernel
theorem dX2_unite_60 : decode cX2_unite 60 = .ok (.getfield 15, 3) := by decide +kernel
theorem dX2_unite_63 : decode cX2_unite 63 = .ok (.iconst 1, 1) := by decide +kernel
theorem dX2_unite_64 : decode cX2_unite 64 = .ok (.isub, 1) := by decide +kernel
theorem dX2_unite_65 : decode cX2_unite 65 = .ok (.putfield 15, 3) := by decide +kernel
theorem dX2_unite_68 : decode cX2_unite 68 = .ok (.return_, 1) := by decide +kernel
theorem dX2_sameGroup_0 : decode cX2_sameGroup 0 = .ok (.aload_n 0, 1) := by decide +kernel
theorem dX2_sameGroup_1 : decode cX2_sameGroup 1 = .ok (.getfield 9, 3) := by decide +kernel
theorem dX2_sameGroup_4 : decode cX2_sameGroup 4 = .ok (.iload_n 1, 1) := by decide +kernel
theorem dX2_sameGroup_5 : decode cX2_sameGroup 5 = .ok (.iaload, 1) := by decide +kernel
theorem dX2_sameGroup_6 : decode cX2_sameGroup 6 = .ok (.aload_n 0, 1) := by decide +kernel
theorem dX2_sameGroup_7 : decode cX2_sameGroup 7 = .ok (.getfield 9, 3) := by decide +kernel
theorem dX2_sameGroup_10 : decode cX2_sameGroup 10 = .ok (.iload_n 2, 1) := by decide +kernel
theorem dX2_sameGroup_11 : decode cX2_sameGroup 11 = .ok (.iaload, 1) := by decide +kernel
theorem dX2_sameGroup_12 : decode cX2_sameGroup 12 = .ok (.if_icmp .ne 7, 3) := by decide +kernel
theorem dX2_sameGroup_15 : decode cX2_sameGroup 15 = .ok (.iconst 1, 1) := by decide +kernel
theorem dX2_sameGroup_16 : decode cX2_sameGroup 16 = .ok (.goto 4, 3) := by decide +kernel
theorem dX2_sameGroup_19 : decode cX2_sameGroup 19 = .ok (.iconst 0, 1) := by decide +kernel
theorem dX2_sameGroup_20 : decode cX2_sameGroup 20 = .ok (.ireturn, 1) := by decide +kernel
theorem dX2_sameGroupIf_0 : decode cX2_sameGroupIf 0 = .ok (.aload_n 0, 1) := by decide +kernel
theorem dX2_sameGroupIf_1 : decode cX2_sameGroupIf 1 = .ok (.iload_n 3, 1) := by decide +kernel
theorem dX2_sameGroupIf_2 : decode cX2_sameGroupIf 2 = .ok (.iload 4, 2) := by decide +kernel
theorem dX2_sameGroupIf_4 : decode cX2_sameGroupIf 4 = .ok (.invokevirtual 19, 3) := by decide +kernel
theorem dX2_sameGroupIf_7 : decode cX2_sameGroupIf 7 = .ok (.ifCond .ne 41, 3) := by decide +kernel
theorem dX2_sameGroupIf_10 : decode cX2_sameGroupIf 10 = .ok (.aload_n 0, 1) := by decide +kernel
theorem dX2_sameGroupIf_11 : decode cX2_sameGroupIf 11 = .ok (.iload_n 3, 1) := by decide +kernel
theorem dX2_sameGroupIf_12 : decode cX2_sameGroupIf 12 = .ok (.iload_n 1, 1) := by decide +kernel
theorem dX2_sameGroupIf_13 : decode cX2_sameGroupIf 13 = .ok (.invokevirtual 19, 3) := by decide +kernel
theorem dX2_sameGroupIf_16 : decode cX2_sameGroupIf 16 = .ok (.ifCond .eq 13, 3) := by decide +kernel
theorem dX2_sameGroupIf_19 : decode cX2_sameGroupIf 19 = .ok (.aload_n 0, 1) := by decide +kernel
theorem dX2_sameGroupIf_20 : decode cX2_sameGroupIf 20 = .ok (.iload 4, 2) := by decide +kernel
theorem dX2_sameGroupIf_22 : decode cX2_sameGroupIf 22 = .ok (.iload_n 2, 1) := by decide +kernel
theorem dX2_sameGroupIf_23 : decode cX2_sameGroupIf 23 = .ok (.invokevirtual 19, 3) := by decide +kernel
theorem dX2_sameGroupIf_26 : decode cX2_sameGroupIf 26 = .ok (.ifCond .ne 22, 3) := by decide +kernel
theorem dX2_sameGroupIf_29 : decode cX2_sameGroupIf 29 = .ok (.aload_n 0, 1) := by decide +kernel
theorem dX2_sameGroupIf_30 : decode cX2_sameGroupIf 30 = .ok (.iload_n 3, 1) := by decide +kernel
theorem dX2_sameGroupIf_31 : decode cX2_sameGroupIf 31 = .ok (.iload_n 2, 1) := by decide +kernel
theorem dX2_sameGroupIf_32 : decode cX2_sameGroupIf 32 = .ok (.invokevirtual 19, 3) := by decide +kernel
theorem dX2_sameGroupIf_35 : decode cX2_sameGroupIf 35 = .ok (.ifCond .eq 17, 3) := by decide +kernel
theorem dX2_sameGroupIf_38 : decode cX2_sameGroupIf 38 = .ok (.aload_n 0, 1) := by decide +kernel
theorem dX2_sameGroupIf_39 : decode cX2_sameGroupIf 39 = .ok (.iload 4, 2) := by decide +kernel
theorem dX2_sameGroupIf_41 : decode cX2_sameGroupIf 41 = .ok (.iload_n 1, 1) := by decide +kernel
theorem dX2_sameGroupIf_42 : decode cX2_sameGroupIf 42 = .ok (.invokevirtual 19, 3) := by decide +kernel
theorem dX2_sameGroupIf_45 : decode cX2_sameGroupIf 45 = .ok (.ifCond .eq 7, 3) := by decide +kernel
theorem dX2_sameGroupIf_48 : decode cX2_sameGroupIf 48 = .ok (.iconst 1, 1) := by decide +kernel
theorem dX2_sameGroupIf_49 : decode cX2_sameGroupIf 49 = .ok (.goto 4, 3) := by decide +kernel
theorem dX2_sameGroupIf_52 : decode cX2_sameGroupIf 52 = .ok (.iconst 0, 1) := by decide +kernel
theorem dX2_sameGroupIf_53 : decode cX2_sameGroupIf 53 = .ok (.ireturn, 1) := by decide +kernel
theorem dX2_stepsBetween_0 : decode cX2_stepsBetween 0 = .ok (.aload_n 0, 1) := by decide +kernel
theorem dX2_stepsBetween_1 : decode cX2_stepsBetween 1 = .ok (.iload_n 1, 1) := by decide +kernel
theorem dX2_stepsBetween_2 : decode cX2_stepsBetween 2 = .ok (.iload_n 2, 1) := by decide +kernel
theorem dX2_stepsBetween_3 : decode cX2_stepsBetween 3 = .ok (.invokevirtual 19, 3) := by decide +kernel
theorem dX2_stepsBetween_6 : decode cX2_stepsBetween 6 = .ok (.ifCond .eq 5, 3) := by decide +kernel
theorem dX2_stepsBetween_9 : decode cX2_stepsBetween 9 = .ok (.iconst 0, 1) := by decide +kernel
theorem dX2_stepsBetween_10 : decode cX2_stepsBetween 10 = .ok (.ireturn, 1) := by decide +kernel
theorem dX2_stepsBetween_11 : decode cX2_stepsBetween 11 = .ok (.iload_n 1, 1) := by decide +kernel
theorem dX2_stepsBetween_12 : decode cX2_stepsBetween 12 = .ok (.iconst 3, 1) := by decide +kernel
theorem dX2_stepsBetween_13 : decode cX2_stepsBetween 13 = .ok (.idiv, 1) := by decide +kernel
theorem dX2_stepsBetween_14 : decode cX2_stepsBetween 14 = .ok (.iload_n 2, 1) := by decide +kernel
theorem dX2_stepsBetween_15 : decode cX2_stepsBetween 15 = .ok (.iconst 3, 1) := by decide +kernel
theorem dX2_stepsBetween_16 : decode cX2_stepsBetween 16 = .ok (.idiv, 1) := by decide +kernel
theorem dX2_stepsBetween_17 : decode cX2_stepsBetween 17 = .ok (.isub, 1) := by decide +kernel
theorem dX2_stepsBetween_18 : decode cX2_stepsBetween 18 = .ok (.invokestatic 23, 3) := by decide +kernel
theorem dX2_stepsBetween_21 : decode cX2_stepsBetween 21 = .ok (.istore_n 3, 1) := by decide +kernel
theorem dX2_stepsBetween_22 : decode cX2_stepsBetween 22 = .ok (.iload_n 1, 1) := by decide +kernel
theorem dX2_stepsBetween_23 : decode cX2_stepsBetween 23 = .ok (.iconst 3, 1) := by decide +kernel
theorem dX2_stepsBetween_24 : decode cX2_stepsBetween 24 = .ok (.irem, 1) := by decide +kernel
theorem dX2_stepsBetween_25 : decode cX2_stepsBetween 25 = .ok (.iload_n 2, 1) := by decide +kernel
theorem dX2_stepsBetween_26 : decode cX2_stepsBetween 26 = .ok (.iconst 3, 1) := by decide +kernel
theorem dX2_stepsBetween_27 : decode cX2_stepsBetween 27 = .ok (.irem, 1) := by decide +kernel
theorem dX2_stepsBetween_28 : decode cX2_stepsBetween 28 = .ok (.isub, 1) := by decide +kernel
theorem dX2_stepsBetween_29 : decode cX2_stepsBetween 29 = .ok (.invokestatic 23, 3) := by decide +kernel
theorem dX2_stepsBetween_32 : decode cX2_stepsBetween 32 = .ok (.istore 4, 2) := by decide +kernel
theorem dX2_stepsBetween_34 : decode cX2_stepsBetween 34 = .ok (.iload_n 3, 1) := by decide +kernel
theorem dX2_stepsBetween_35 : decode cX2_stepsBetween 35 = .ok (.iload 4, 2) := by decide +kernel
theorem dX2_stepsBetween_37 : decode cX2_stepsBetween 37 = .ok (.iadd, 1) := by decide +kernel
theorem dX2_stepsBetween_38 : decode cX2_stepsBetween 38 = .ok (.ireturn, 1) := by decide +kernel
theorem dX2_alike_0 : decode cX2_alike 0 = .ok (.iload_n 1, 1) := by decide +kernel
theorem dX2_alike_1 : decode cX2_alike 1 = .ok (.iload_n 2, 1) := by decide +kernel
theorem dX2_alike_2 : decode cX2_alike 2 = .ok (.invokestatic 29, 3) := by decide +kernel
theorem dX2_alike_5 : decode cX2_alike 5 = .ok (.ifCond .eq 22, 3) := by decide +kernel
theorem dX2_alike_8 : decode cX2_alike 8 = .ok (.aload_n 0, 1) := by decide +kernel
theorem dX2_alike_9 : decode cX2_alike 9 = .ok (.iload_n 1, 1) := by decide +kernel
theorem dX2_alike_10 : decode cX2_alike 10 = .ok (.invokestatic 34, 3) := by decide +kernel
theorem dX2_alike_13 : decode cX2_alike 13 = .ok (.iload_n 2, 1) := by decide +kernel
theorem dX2_alike_14 : decode cX2_alike 14 = .ok (.invokestatic 34, 3) := by decide +kernel
theorem dX2_alike_17 : decode cX2_alike 17 = .ok (.invokevirtual 19, 3) := by decide +kernel
theorem dX2_alike_20 : decode cX2_alike 20 = .ok (.ifCond .eq 7, 3) := by decide +kernel
theorem dX2_alike_23 : decode cX2_alike 23 = .ok (.iconst 1, 1) := by decide +kernel
theorem dX2_alike_24 : decode cX2_alike 24 = .ok (.goto 4, 3) := by decide +kernel
theorem dX2_alike_27 : decode cX2_alike 27 = .ok (.iconst 0, 1) := by decide +kernel
theorem dX2_alike_28 : decode cX2_alike 28 = .ok (.ireturn, 1) := by decide +kernel
theorem dX2_alikeIf_0 : decode cX2_alikeIf 0 = .ok (.iload_n 3, 1) := by decide +kernel
theorem dX2_alikeIf_1 : decode cX2_alikeIf 1 = .ok (.iload 4, 2) := by decide +kernel
theorem dX2_alikeIf_3 : decode cX2_alikeIf 3 = .ok (.invokestatic 29, 3) := by decide +kernel
theorem dX2_alikeIf_6 : decode cX2_alikeIf 6 = .ok (.ifCond .eq 25, 3) := by decide +kernel
theorem dX2_alikeIf_9 : decode cX2_alikeIf 9 = .ok (.aload_n 0, 1) := by decide +kernel
theorem dX2_alikeIf_10 : decode cX2_alikeIf 10 = .ok (.iload_n 1, 1) := by decide +kernel
theorem dX2_alikeIf_11 : decode cX2_alikeIf 11 = .ok (.iload_n 2, 1) := by decide +kernel
theorem dX2_alikeIf_12 : decode cX2_alikeIf 12 = .ok (.iload_n 3, 1) := by decide +kernel
theorem dX2_alikeIf_13 : decode cX2_alikeIf 13 = .ok (.invokestatic 34, 3) := by decide +kernel
theorem dX2_alikeIf_16 : decode cX2_alikeIf 16 = .ok (.iload 4, 2) := by decide +kernel
theorem dX2_alikeIf_18 : decode cX2_alikeIf 18 = .ok (.invokestatic 34, 3) := by decide +kernel
theorem dX2_alikeIf_21 : decode cX2_alikeIf 21 = .ok (.invokevirtual 37, 3) := by decide +kernel
theorem dX2_alikeIf_24 : decode cX2_alikeIf 24 = .ok (.ifCond .eq 7, 3) := by decide +kernel
theorem dX2_alikeIf_27 : decode cX2_alikeIf 27 = .ok (.iconst 1, 1) := by decide +kernel
theorem dX2_alikeIf_28 : decode cX2_alikeIf 28 = .ok (.goto 4, 3) := by decide +kernel
theorem dX2_alikeIf_31 : decode cX2_alikeIf 31 = .ok (.iconst 0, 1) := by decide +kernel
theorem dX2_alikeIf_32 : decode cX2_alikeIf 32 = .ok (.ireturn, 1) := by decide +kernel
theorem dX2_distance_0 : decode cX2_distance 0 = .ok (.iload_n 1, 1) := by decide +kernel
theorem dX2_distance_1 : decode cX2_distance 1 = .ok (.invokestatic 41, 3) := by decide +kernel
theorem dX2_distance_4 : decode cX2_distance 4 = .ok (.iload_n 2, 1) := by decide +kernel
theorem dX2_distance_5 : decode cX2_distance 5 = .ok (.invokestatic 41, 3) := by decide +kernel
theorem dX2_distance_8 : decode cX2_distance 8 = .ok (.ixor, 1) := by decide +kernel
theorem dX2_distance_9 : decode cX2_distance 9 = .ok (.invokestatic 44, 3) := by decide +kernel
theorem dX2_distance_12 : decode cX2_distance 12 = .ok (.istore_n 3, 1) := by decide +kernel
theorem dX2_distance_13 : decode cX2_distance 13 = .ok (.iload_n 1, 1) := by decide +kernel
theorem dX2_distance_14 : decode cX2_distance 14 = .ok (.invokestatic 49, 3) := by decide +kernel
theorem dX2_distance_17 : decode cX2_distance 17 = .ok (.iload_n 2, 1) := by decide +kernel
theorem dX2_distance_18 : decode cX2_distance 18 = .ok (.invokestatic 49, 3) := by decide +kernel
theorem dX2_distance_21 : decode cX2_distance 21 = .ok (.if_icmp .ne 7, 3) := by decide +kernel
theorem dX2_distance_24 : decode cX2_distance 24 = .ok (.iconst 0, 1) := by decide +kernel
theorem dX2_distance_25 : decode cX2_distance 25 = .ok (.goto 4, 3) := by decide +kernel
theorem dX2_distance_28 : decode cX2_distance 28 = .ok (.iconst 1, 1) := by decide +kernel
theorem dX2_distance_29 : decode cX2_distance 29 = .ok (.istore 4, 2) := by decide +kernel
theorem dX2_distance_31 : decode cX2_distance 31 = .ok (.iload_n 1, 1) := by decide +kernel
theorem dX2_distance_32 : decode cX2_distance 32 = .ok (.invokestatic 52, 3) := by decide +kernel
theorem dX2_distance_35 : decode cX2_distance 35 = .ok (.iload_n 2, 1) := by decide +kernel
theorem dX2_distance_36 : decode cX2_distance 36 = .ok (.invokestatic 52, 3) := by decide +kernel
theorem dX2_distance_39 : decode cX2_distance 39 = .ok (.if_icmp .ne 7, 3) := by decide +kernel
theorem dX2_distance_42 : decode cX2_distance 42 = .ok (.iconst 0, 1) := by decide +kernel
theorem dX2_distance_43 : decode cX2_distance 43 = .ok (.goto 4, 3) := by decide +kernel
theorem dX2_distance_46 : decode cX2_distance 46 = .ok (.iconst 2, 1) := by decide +kernel
theorem dX2_distance_47 : decode cX2_distance 47 = .ok (.istore 5, 2) := by decide +kernel
theorem dX2_distance_49 : decode cX2_distance 49 = .ok (.iload_n 3, 1) := by decide +kernel
theorem dX2_distance_50 : decode cX2_distance 50 = .ok (.iload 4, 2) := by decide +kernel
theorem dX2_distance_52 : decode cX2_distance 52 = .ok (.iadd, 1) := by decide +kernel
theorem dX2_distance_53 : decode cX2_distance 53 = .ok (.iload 5, 2) := by decide +kernel
theorem dX2_distance_55 : decode cX2_distance 55 = .ok (.iadd, 1) := by decide +kernel
theorem dX2_distance_56 : decode cX2_distance 56 = .ok (.aload_n 0, 1) := by decide +kernel
theorem dX2_distance_57 : decode cX2_distance 57 = .ok (.iload_n 1, 1) := by decide +kernel
theorem dX2_distance_58 : decode cX2_distance 58 = .ok (.invokestatic 34, 3) := by decide +kernel
theorem dX2_distance_61 : decode cX2_distance 61 = .ok (.iload_n 2, 1) := by decide +kernel
theorem dX2_distance_62 : decode cX2_distance 62 = .ok (.invokestatic 34, 3) := by decide +kernel
theorem dX2_distance_65 : decode cX2_distance 65 = .ok (.invokevirtual 55, 3) := by decide +kernel
theorem dX2_distance_68 : decode cX2_distance 68 = .ok (.iadd, 1) := by decide +kernel
theorem dX2_distance_69 : decode cX2_distance 69 = .ok (.ireturn, 1) := by decide +kernel
theorem dX3_init_0 : decode cX3_init 0 = .ok (.aload_n 0, 1) := by decide +kernel
theorem dX3_init_1 : decode cX3_init 1 = .ok (.invokespecial 1, 3) := by decide +kernel
theorem dX3_init_4 : decode cX3_init 4 = .ok (.aload_n 0, 1) := by decide +kernel
theorem dX3_init_5 : decode cX3_init 5 = .ok (.new 7, 3) := by decide +kernel
theorem dX3_init_8 : decode cX3_init 8 = .ok (.dup, 1) := by decide +kernel
theorem dX3_init_9 : decode cX3_init 9 = .ok (.invokespecial 9, 3) := by decide +kernel
theorem dX3_init_12 : decode cX3_init 12 = .ok (.putfield 10, 3) := by decide +kernel
theorem dX3_init_15 : decode cX3_init 15 = .ok (.aload_n 0, 1) := by decide +kernel
theorem dX3_init_16 : decode cX3_init 16 = .ok (.iconst 4, 1) := by decide +kernel
theorem dX3_init_17 : decode cX3_init 17 = .ok (.anewarray 16, 3) := by decide +kernel
theorem dX3_init_20 : decode cX3_init 20 = .ok (.putfield 18, 3) := by decide +kernel
theorem dX3_init_23 : decode cX3_init 23 = .ok (.iconst 0, 1) := by decide +kernel
theorem dX3_init_24 : decode cX3_init 24 = .ok (.istore_n 1, 1) := by decide +kernel
theorem dX3_init_25 : decode cX3_init 25 = .ok (.iload_n 1, 1) := by decide +kernel
theorem dX3_init_26 : decode cX3_init 26 = .ok (.iconst 4, 1) := by decide +kernel
theorem dX3_init_27 : decode cX3_init 27 = .ok (.if_icmp .ge 26, 3) := by decide +kernel
theorem dX3_init_30 : decode cX3_init 30 = .ok (.aload_n 0, 1) := by decide +kernel
theorem dX3_init_31 : decode cX3_init 31 = .ok (.getfield 18, 3) := by decide +kernel
theorem dX3_init_34 : decode cX3_init 34 = .ok (.iload_n 1, 1) := by decide +kernel
theorem dX3_init_35 : decode cX3_init 35 = .ok (.new 16, 3) := by decide +kernel
theorem dX3_init_38 : decode cX3_init 38 = .ok (.dup, 1) := by decide +kernel
theorem dX3_init_39 : decode cX3_init 39 = .ok (.aload_n 0, 1) := by decide +kernel
theorem dX3_init_40 : decode cX3_init 40 = .ok (.getfield 10, 3) := by decide +kernel
theorem dX3_init_43 : decode cX3_init 43 = .ok (.invokespecial 22, 3) := by decide +kernel
theorem dX3_init_46 : decode cX3_init 46 = .ok (.aastore, 1) := by decide +kernel
theorem dX3_init_47 : decode cX3_init 47 = .ok (.iinc 1 1, 3) := by decide +kernel
theorem dX3_init_50 : decode cX3_init 50 = .ok (.goto (-25), 3) := by decide +kernel
theorem dX3_init_53 : decode cX3_init 53 = .ok (.aload_n 0, 1) := by decide +kernel
theorem dX3_init_54 : decode cX3_init 54 = .ok (.new 16, 3) := by decide +kernel
theorem dX3_init_57 : decode cX3_init 57 = .ok (.dup, 1) := by decide +kernel
theorem dX3_init_58 : decode cX3_init 58 = .ok (.aload_n 0, 1) := by decide +kernel
theorem dX3_init_59 : decode cX3_init 59 = .ok (.getfield 10, 3) := by decide +kernel
theorem dX3_init_62 : decode cX3_init 62 = .ok (.invokespecial 22, 3) := by decide +kernel
theorem dX3_init_65 : decode cX3_init 65 = .ok (.putfield 25, 3) := by decide +kernel
theorem dX3_init_68 : decode cX3_init 68 = .ok (.aload_n 0, 1) := by decide +kernel
theorem dX3_init_69 : decode cX3_init 69 = .ok (.iconst 0, 1) := by decide +kernel
theorem dX3_init_70 : decode cX3_init 70 = .ok (.putfield 29, 3) := by decide +kernel
theorem dX3_init_73 : decode cX3_init 73 = .ok (.return_, 1) := by decide +kernel
theorem dX3_addLodge_0 : decode cX3_addLodge 0 = .ok (.aload_n 0, 1) := by decide +kernel
theorem dX3_addLodge_1 : decode cX3_addLodge 1 = .ok (.getfield 29, 3) := by decide +kernel
theorem dX3_addLodge_4 : decode cX3_addLodge 4 = .ok (.iconst 4, 1) := by decide +kernel
theorem dX3_addLodge_5 : decode cX3_addLodge 5 = .ok (.if_icmp .lt 13, 3) := by decide +kernel
theorem dX3_addLodge_8 : decode cX3_addLodge 8 = .ok (.new 33, 3) := by decide +kernel
theorem dX3_addLodge_11 : decode cX3_addLodge 11 = .ok (.dup, 1) := by decide +kernel
theorem dX3_addLodge_12 : decode cX3_addLodge 12 = .ok (.ldc 35, 2) := by decide +kernel
theorem dX3_addLodge_14 : decode cX3_addLodge 14 = .ok (.invokespecial 37, 3) := by decide +kernel
theorem dX3_addLodge_17 : decode cX3_addLodge 17 = .ok (.athrow, 1) := by decide +kernel
theorem dX3_addLodge_18 : decode cX3_addLodge 18 = .ok (.aload_n 0, 1) := by decide +kernel
theorem dX3_addLodge_19 : decode cX3_addLodge 19 = .ok (.dup, 1) := by decide +kernel
theorem dX3_addLodge_20 : decode cX3_addLodge 20 = .ok (.getfield 29, 3) := by decide +kernel
theorem dX3_addLodge_23 : decode cX3_addLodge 23 = .ok (.iconst 1, 1) := by decide +kernel
theorem dX3_addLodge_24 : decode cX3_addLodge 24 = .ok (.iadd, 1) := by decide +kernel
theorem dX3_addLodge_25 : decode cX3_addLodge 25 = .ok (.putfield 29, 3) := by decide +kernel
theorem dX3_addLodge_28 : decode cX3_addLodge 28 = .ok (.aload_n 0, 1) := by decide +kernel
theorem dX3_addLodge_29 : decode cX3_addLodge 29 = .ok (.getfield 29, 3) := by decide +kernel
theorem dX3_addLodge_32 : decode cX3_addLodge 32 = .ok (.iconst 1, 1) := by decide +kernel
theorem dX3_addLodge_33 : decode cX3_addLodge 33 = .ok (.isub, 1) := by decide +kernel
theorem dX3_addLodge_34 : decode cX3_addLodge 34 = .ok (.ireturn, 1) := by decide +kernel
theorem dX3_addSign_0 : decode cX3_addSign 0 = .ok (.aload_n 0, 1) := by decide +kernel
theorem dX3_addSign_1 : decode cX3_addSign 1 = .ok (.iload_n 1, 1) := by decide +kernel
theorem dX3_addSign_2 : decode cX3_addSign 2 = .ok (.invokevirtual 40, 3) := by decide +kernel
theorem dX3_addSign_5 : decode cX3_addSign 5 = .ok (.astore 7, 2) := by decide +kernel
theorem dX3_addSign_7 : decode cX3_addSign 7 = .ok (.iload_n 2, 1) := by decide +kernel
theorem dX3_addSign_8 : decode cX3_addSign 8 = .ok (.iload_n 3, 1) := by decide +kernel
theorem dX3_addSign_9 : decode cX3_addSign 9 = .ok (.iload 4, 2) := by decide +kernel
theorem dX3_addSign_11 : decode cX3_addSign 11 = .ok (.iload 5, 2) := by decide +kernel
theorem dX3_addSign_13 : decode cX3_addSign 13 = .ok (.invokestatic 44, 3) := by decide +kernel
theorem dX3_addSign_16 : decode cX3_addSign 16 = .ok (.iload 6, 2) := by decide +kernel
theorem dX3_addSign_18 : decode cX3_addSign 18 = .ok (.bipush 30, 2) := by decide +kernel
theorem dX3_addSign_20 : decode cX3_addSign 20 = .ok (.invokestatic 48, 3) := by decide +kernel
theorem dX3_addSign_23 : decode cX3_addSign 23 = .ok (.ifCond .ne 13, 3) := by decide +kernel
theorem dX3_addSign_26 : decode cX3_addSign 26 = .ok (.new 52, 3) := by decide +kernel
theorem dX3_addSign_29 : decode cX3_addSign 29 = .ok (.dup, 1) := by decide +kernel
theorem dX3_addSign_30 : decode cX3_addSign 30 = .ok (.ldc 54, 2) := by decide +kernel
theorem dX3_addSign_32 : decode cX3_addSign 32 = .ok (.invokespecial 56, 3) := by decide +kernel
theorem dX3_addSign_35 : decode cX3_addSign 35 = .ok (.athrow, 1) := by decide +kernel
theorem dX3_addSign_36 : decode cX3_addSign 36 = .ok (.aload 7, 2) := by decide +kernel
theorem dX3_addSign_38 : decode cX3_addSign 38 = .ok (.iload 6, 2) := by decide +kernel
theorem dX3_addSign_40 : decode cX3_addSign 40 = .ok (.invokevirtual 57, 3) := by decide +kernel
theorem dX3_addSign_43 : decode cX3_addSign 43 = .ok (.ifCond .ne 13, 3) := by decide +kernel
theorem dX3_addSign_46 : decode cX3_addSign 46 = .ok (.new 33, 3) := by decide +kernel
theorem dX3_addSign_49 : decode cX3_addSign 49 = .ok (.dup, 1) := by decide +kernel
theorem dX3_addSign_50 : decode cX3_addSign 50 = .ok (.ldc 61, 2) := by decide +kernel
theorem dX3_addSign_52 : decode cX3_addSign 52 = .ok (.invokespecial 37, 3) := by decide +kernel
theorem dX3_addSign_55 : decode cX3_addSign 55 = .ok (.athrow, 1) := by decide +kernel
theorem dX3_addSign_56 : decode cX3_addSign 56 = .ok (.aload 7, 2) := by decide +kernel
theorem dX3_addSign_58 : decode cX3_addSign 58 = .ok (.iload_n 2, 1) := by decide +kernel
theorem dX3_addSign_59 : decode cX3_addSign 59 = .ok (.iload_n 3, 1) := by decide +kernel
theorem dX3_addSign_60 : decode cX3_addSign 60 = .ok (.iload 4, 2) := by decide +kernel
theorem dX3_addSign_62 : decode cX3_addSign 62 = .ok (.iload 5, 2) := by decide +kernel
theorem dX3_addSign_64 : decode cX3_addSign 64 = .ok (.invokestatic 63, 3) := by decide +kernel
theorem dX3_addSign_67 : decode cX3_addSign 67 = .ok (.iload 6, 2) := by decide +kernel
theorem dX3_addSign_69 : decode cX3_addSign 69 = .ok (.invokevirtual 69, 3) := by decide +kernel
theorem dX3_addSign_72 : decode cX3_addSign 72 = .ok (.ireturn, 1) := by decide +kernel
theorem dX3_forget_0 : decode cX3_forget 0 = .ok (.aload_n 0, 1) := by decide +kernel
theorem dX3_forget_1 : decode cX3_forget 1 = .ok (.iload_n 1, 1) := by decide +kernel
theorem dX3_forget_2 : decode cX3_forget 2 = .ok (.invokevirtual 40, 3) := by decide +kernel
theorem dX3_forget_5 : decode cX3_forget 5 = .ok (.astore_n 3, 1) := by decide +kernel
theorem dX3_forget_6 : decode cX3_forget 6 = .ok (.aload_n 3, 1) := by decide +kernel
theorem dX3_forget_7 : decode cX3_forget 7 = .ok (.iload_n 2, 1) := by decide +kernel
theorem dX3_forget_8 : decode cX3_forget 8 = .ok (.invokestatic 73, 3) := by decide +kernel
theorem dX3_forget_11 : decode cX3_forget 11 = .ok (.aload_n 3, 1) := by decide +kernel
theorem dX3_forget_12 : decode cX3_forget 12 = .ok (.iload_n 2, 1) := by decide +kernel
theorem dX3_forget_13 : decode cX3_forget 13 = .ok (.invokevirtual 77, 3) := by decide +kernel
theorem dX3_forget_16 : decode cX3_forget 16 = .ok (.ireturn, 1) := by decide +kernel
theorem dX3_setThumb_0 : decode cX3_setThumb 0 = .ok (.aload_n 0, 1) := by decide +kernel
theorem dX3_setThumb_1 : decode cX3_setThumb 1 = .ok (.iload_n 1, 1) := by decide +kernel
theorem dX3_setThumb_2 : decode cX3_setThumb 2 = .ok (.invokevirtual 40, 3) := by decide +kernel
theorem dX3_setThumb_5 : decode cX3_setThumb 5 = .ok (.astore 4, 2) := by decide +kernel
theorem dX3_setThumb_7 : decode cX3_setThumb 7 = .ok (.aload 4, 2) := by decide +kernel
theorem dX3_setThumb_9 : decode cX3_setThumb 9 = .ok (.iload_n 2, 1) := by decide +kernel
theorem dX3_setThumb_10 : decode cX3_setThumb 10 = .ok (.invokestatic 73, 3) := by decide +kernel
theorem dX3_setThumb_13 : decode cX3_setThumb 13 = .ok (.iload_n 3, 1) := by decide +kernel
theorem dX3_setThumb_14 : decode cX3_setThumb 14 = .ok (.iconst 4, 1) := by decide +kernel
theorem dX3_setThumb_15 : decode cX3_setThumb 15 = .ok (.invokestatic 48, 3) := by decide +kernel
theorem dX3_setThumb_18 : decode cX3_setThumb 18 = .ok (.ifCond .ne 13, 3) := by decide +kernel
theorem dX3_setThumb_21 : decode cX3_setThumb 21 = .ok (.new 52, 3) := by decide +kernel
theorem dX3_setThumb_24 : decode cX3_setThumb 24 = .ok (.dup, 1) := by decide +kernel
theorem dX3_setThumb_25 : decode cX3_setThumb 25 = .ok (.ldc 81, 2) := by decide +kernel
theorem dX3_setThumb_27 : decode cX3_setThumb 27 = .ok (.invokespecial 56, 3) := by decide +kernel
theorem dX3_setThumb_30 : decode cX3_setThumb 30 = .ok (.athrow, 1) := by decide +kernel
theorem dX3_setThumb_31 : decode cX3_setThumb 31 = .ok (.aload 4, 2) := by decide +kernel
theorem dX3_setThumb_33 : decode cX3_setThumb 33 = .ok (.getfield 83, 3) := by decide +kernel
theorem dX3_setThumb_36 : decode cX3_setThumb 36 = .ok (.iload_n 2, 1) := by decide +kernel
theorem dX3_setThumb_37 : decode cX3_setThumb 37 = .ok (.iaload, 1) := by decide +kernel
theorem dX3_setThumb_38 : decode cX3_setThumb 38 = .ok (.invokestatic 87, 3) := by decide +kernel
theorem dX3_setThumb_41 : decode cX3_setThumb 41 = .ok (.istore 5, 2) := by decide +kernel
theorem dX3_setThumb_43 : decode cX3_setThumb 43 = .ok (.aload 4, 2) := by decide +kernel
theorem dX3_setThumb_45 : decode cX3_setThumb 45 = .ok (.getfield 83, 3) := by decide +kernel
theorem dX3_setThumb_48 : decode cX3_setThumb 48 = .ok (.iload_n 2, 1) := by decide +kernel
theorem dX3_setThumb_49 : decode cX3_setThumb 49 = .ok (.aload 4, 2) := by decide +kernel
theorem dX3_setThumb_51 : decode cX3_setThumb 51 = .ok (.getfield 83, 3) := by decide +kernel
theorem dX3_setThumb_54 : decode cX3_setThumb 54 = .ok (.iload_n 2, 1) := by decide +kernel
theorem dX3_setThumb_55 : decode cX3_setThumb 55 = .ok (.iaload, 1) := by decide +kernel
theorem dX3_setThumb_56 : decode cX3_setThumb 56 = .ok (.iload_n 3, 1) := by decide +kernel
theorem dX3_setThumb_57 : decode cX3_setThumb 57 = .ok (.invokestatic 90, 3) := by decide +kernel
theorem dX3_setThumb_60 : decode cX3_setThumb 60 = .ok (.iastore, 1) := by decide +kernel
theorem dX3_setThumb_61 : decode cX3_setThumb 61 = .ok (.iload 5, 2) := by decide +kernel
theorem dX3_setThumb_63 : decode cX3_setThumb 63 = .ok (.ireturn, 1) := by decide +kernel
theorem dX3_join_0 : decode cX3_join 0 = .ok (.iload_n 1, 1) := by decide +kernel
theorem dX3_join_1 : decode cX3_join 1 = .ok (.invokestatic 93, 3) := by decide +kernel
theorem dX3_join_4 : decode cX3_join 4 = .ok (.iload_n 2, 1) := by decide +kernel
theorem dX3_join_5 : decode cX3_join 5 = .ok (.invokestatic 93, 3) := by decide +kernel
theorem dX3_join_8 : decode cX3_join 8 = .ok (.aload_n 0, 1) := by decide +kernel
theorem dX3_join_9 : decode cX3_join 9 = .ok (.getfield 10, 3) := by decide +kernel
theorem dX3_join_12 : decode cX3_join 12 = .ok (.iload_n 1, 1) := by decide +kernel
theorem dX3_join_13 : decode cX3_join 13 = .ok (.iload_n 2, 1) := by decide +kernel
theorem dX3_join_14 : decode cX3_join 14 = .ok (.invokevirtual 97, 3) := by decide +kernel
theorem dX3_join_17 : decode cX3_join 17 = .ok (.aload_n 0, 1) := by decide +kernel
theorem dX3_join_18 : decode cX3_join 18 = .ok (.getfield 10, 3) := by decide +kernel
theorem dX3_join_21 : decode cX3_join 21 = .ok (.getfield 101, 3) := by decide +kernel
theorem dX3_join_24 : decode cX3_join 24 = .ok (.ireturn, 1) := by decide +kernel
theorem dX3_borrow_0 : decode cX3_borrow 0 = .ok (.aload_n 0, 1) := by decide +kernel
theorem dX3_borrow_1 : decode cX3_borrow 1 = .ok (.iload_n 1, 1) := by decide +kernel
theorem dX3_borrow_2 : decode cX3_borrow 2 = .ok (.invokevirtual 40, 3) := by decide +kernel
theorem dX3_borrow_5 : decode cX3_borrow 5 = .ok (.astore 4, 2) := by decide +kernel
theorem dX3_borrow_7 : decode cX3_borrow 7 = .ok (.aload_n 0, 1) := by decide +kernel
theorem dX3_borrow_8 : decode cX3_borrow 8 = .ok (.iload_n 3, 1) := by decide +kernel
theorem dX3_borrow_9 : decode cX3_borrow 9 = .ok (.invokevirtual 40, 3) := by decide +kernel
theorem dX3_borrow_12 : decode cX3_borrow 12 = .ok (.astore 5, 2) := by decide +kernel
theorem dX3_borrow_14 : decode cX3_borrow 14 = .ok (.aload 4, 2) := by decide +kernel
theorem dX3_borrow_16 : decode cX3_borrow 16 = .ok (.iload_n 2, 1) := by decide +kernel
theorem dX3_borrow_17 : decode cX3_borrow 17 = .ok (.invokestatic 73, 3) := by decide +kernel
theorem dX3_borrow_20 : decode cX3_borrow 20 = .ok (.iload_n 1, 1) := by decide +kernel
theorem dX3_borrow_21 : decode cX3_borrow 21 = .ok (.iload_n 3, 1) := by decide +kernel
theorem dX3_borrow_22 : decode cX3_borrow 22 = .ok (.if_icmp .ne 13, 3) := by decide +kernel
theorem dX3_borrow_25 : decode cX3_borrow 25 = .ok (.new 52, 3) := by decide +kernel
theorem dX3_borrow_28 : decode cX3_borrow 28 = .ok (.dup, 1) := by decide +kernel
theorem dX3_borrow_29 : decode cX3_borrow 29 = .ok (.ldc 104, 2) := by decide +kernel
theorem dX3_borrow_31 : decode cX3_borrow 31 = .ok (.invokespecial 56, 3) := by decide +kernel
theorem dX3_borrow_34 : decode cX3_borrow 34 = .ok (.athrow, 1) := by decide +kernel
theorem dX3_borrow_35 : decode cX3_borrow 35 = .ok (.aload 4, 2) := by decide +kernel
theorem dX3_borrow_37 : decode cX3_borrow 37 = .ok (.getfield 106, 3) := by decide +kernel
theorem dX3_borrow_40 : decode cX3_borrow 40 = .ok (.iload_n 2, 1) := by decide +kernel
theorem dX3_borrow_41 : decode cX3_borrow 41 = .ok (.iaload, 1) := by decide +kernel
theorem dX3_borrow_42 : decode cX3_borrow 42 = .ok (.istore 6, 2) := by decide +kernel
theorem dX3_borrow_44 : decode cX3_borrow 44 = .ok (.aload 5, 2) := by decide +kernel
theorem dX3_borrow_46 : decode cX3_borrow 46 = .ok (.iload 6, 2) := by decide +kernel
theorem dX3_borrow_48 : decode cX3_borrow 48 = .ok (.invokevirtual 57, 3) := by decide +kernel
theorem dX3_borrow_51 : decode cX3_borrow 51 = .ok (.ifCond .ne 13, 3) := by decide +kernel
theorem dX3_borrow_54 : decode cX3_borrow 54 = .ok (.new 33, 3) := by decide +kernel
theorem dX3_borrow_57 : decode cX3_borrow 57 = .ok (.dup, 1) := by decide +kernel
theorem dX3_borrow_58 : decode cX3_borrow 58 = .ok (.ldc 61, 2) := by decide +kernel
theorem dX3_borrow_60 : decode cX3_borrow 60 = .ok (.invokespecial 37, 3) := by decide +kernel
theorem dX3_borrow_63 : decode cX3_borrow 63 = .ok (.athrow, 1) := by decide +kernel
theorem dX3_borrow_64 : decode cX3_borrow 64 = .ok (.aload 5, 2) := by decide +kernel
theorem dX3_borrow_66 : decode cX3_borrow 66 = .ok (.aload 4, 2) := by decide +kernel
theorem dX3_borrow_68 : decode cX3_borrow 68 = .ok (.getfield 83, 3) := by decide +kernel
theorem dX3_borrow_71 : decode cX3_borrow 71 = .ok (.iload_n 2, 1) := by decide +kernel
theorem dX3_borrow_72 : decode cX3_borrow 72 = .ok (.iaload, 1) := by decide +kernel
theorem dX3_borrow_73 : decode cX3_borrow 73 = .ok (.invokevirtual 109, 3) := by decide +kernel
theorem dX3_borrow_76 : decode cX3_borrow 76 = .ok (.istore 7, 2) := by decide +kernel
theorem dX3_borrow_78 : decode cX3_borrow 78 = .ok (.iload 7, 2) := by decide +kernel
theorem dX3_borrow_80 : decode cX3_borrow 80 = .ok (.iconst (-1), 1) := by decide +kernel
theorem dX3_borrow_81 : decode cX3_borrow 81 = .ok (.if_icmp .ne 13, 3) := by decide +kernel
theorem dX3_borrow_84 : decode cX3_borrow 84 = .ok (.new 33, 3) := by decide +kernel
theorem dX3_borrow_87 : decode cX3_borrow 87 = .ok (.dup, 1) := by decide +kernel
theorem dX3_borrow_88 : decode cX3_borrow 88 = .ok (.ldc 112, 2) := by decide +kernel
theorem dX3_borrow_90 : decode cX3_borrow 90 = .ok (.invokespecial 37, 3) := by decide +kernel
theorem dX3_borrow_93 : decode cX3_borrow 93 = .ok (.athrow, 1) := by decide +kernel
theorem dX3_borrow_94 : decode cX3_borrow 94 = .ok (.aload 5, 2) := by decide +kernel
theorem dX3_borrow_96 : decode cX3_borrow 96 = .ok (.iload 7, 2) := by decide +kernel
theorem dX3_borrow_98 : decode cX3_borrow 98 = .ok (.iload 6, 2) := by decide +kernel
theorem dX3_borrow_100 : decode cX3_borrow 100 = .ok (.invokevirtual 69, 3) := by decide +kernel
theorem dX3_borrow_103 : decode cX3_borrow 103 = .ok (.ireturn, 1) := by decide +kernel
theorem dX3_groups_0 : decode cX3_groups 0 = .ok (.aload_n 0, 1) := by decide +kernel
theorem dX3_groups_1 : decode cX3_groups 1 = .ok (.getfield 10, 3) := by decide +kernel
theorem dX3_groups_4 : decode cX3_groups 4 = .ok (.getfield 101, 3) := by decide +kernel
theorem dX3_groups_7 : decode cX3_groups 7 = .ok (.ireturn, 1) := by decide +kernel
theorem dX3_areJoined_0 : decode cX3_areJoined 0 = .ok (.iload_n 1, 1) := by decide +kernel
theorem dX3_areJoined_1 : decode cX3_areJoined 1 = .ok (.invokestatic 93, 3) := by decide +kernel
theorem dX3_areJoined_4 : decode cX3_areJoined 4 = .ok (.iload_n 2, 1) := by decide +kernel
theorem dX3_areJoined_5 : decode cX3_areJoined 5 = .ok (.invokestatic 93, 3) := by decide +kernel
theorem dX3_areJoined_8 : decode cX3_areJoined 8 = .ok (.aload_n 0, 1) := by decide +kernel
theorem dX3_areJoined_9 : decode cX3_areJoined 9 = .ok (.getfield 10, 3) := by decide +kernel
theorem dX3_areJoined_12 : decode cX3_areJoined 12 = .ok (.iload_n 1, 1) := by decide +kernel
theorem dX3_areJoined_13 : decode cX3_areJoined 13 = .ok (.iload_n 2, 1) := by decide +kernel
theorem dX3_areJoined_14 : decode cX3_areJoined 14 = .ok (.invokevirtual 114, 3) := by decide +kernel
theorem dX3_areJoined_17 : decode cX3_areJoined 17 = .ok (.ireturn, 1) := by decide +kernel
theorem dX3_steps_0 : decode cX3_steps 0 = .ok (.iload_n 1, 1) := by decide +kernel
theorem dX3_steps_1 : decode cX3_steps 1 = .ok (.invokestatic 93, 3) := by decide +kernel
theorem dX3_steps_4 : decode cX3_steps 4 = .ok (.iload_n 2, 1) := by decide +kernel
theorem dX3_steps_5 : decode cX3_steps 5 = .ok (.invokestatic 93, 3) := by decide +kernel
theorem dX3_steps_8 : decode cX3_steps 8 = .ok (.aload_n 0, 1) := by decide +kernel
theorem dX3_steps_9 : decode cX3_steps 9 = .ok (.getfield 10, 3) := by decide +kernel
theorem dX3_steps_12 : decode cX3_steps 12 = .ok (.iload_n 1, 1) := by decide +kernel
theorem dX3_steps_13 : decode cX3_steps 13 = .ok (.iload_n 2, 1) := by decide +kernel
theorem dX3_steps_14 : decode cX3_steps 14 = .ok (.invokevirtual 117, 3) := by decide +kernel
theorem dX3_steps_17 : decode cX3_steps 17 = .ok (.ireturn, 1) := by decide +kernel
theorem dX3_lodges_0 : decode cX3_lodges 0 = .ok (.aload_n 0, 1) := by decide +kernel
theorem dX3_lodges_1 : decode cX3_lodges 1 = .ok (.getfield 29, 3) := by decide +kernel
theorem dX3_lodges_4 : decode cX3_lodges 4 = .ok (.ireturn, 1) := by decide +kernel
theorem dX3_signsOf_0 : decode cX3_signsOf 0 = .ok (.aload_n 0, 1) := by decide +kernel
theorem dX3_signsOf_1 : decode cX3_signsOf 1 = .ok (.iload_n 1, 1) := by decide +kernel
theorem dX3_signsOf_2 : decode cX3_signsOf 2 = .ok (.invokevirtual 40, 3) := by decide +kernel
theorem dX3_signsOf_5 : decode cX3_signsOf 5 = .ok (.getfield 120, 3) := by decide +kernel
theorem dX3_signsOf_8 : decode cX3_signsOf 8 = .ok (.ireturn, 1) := by decide +kernel
theorem dX3_shapeOf_0 : decode cX3_shapeOf 0 = .ok (.aload_n 0, 1) := by decide +kernel
theorem dX3_shapeOf_1 : decode cX3_shapeOf 1 = .ok (.iload_n 1, 1) := by decide +kernel
theorem dX3_shapeOf_2 : decode cX3_shapeOf 2 = .ok (.iload_n 2, 1) := by decide +kernel
theorem dX3_shapeOf_3 : decode cX3_shapeOf 3 = .ok (.invokevirtual 123, 3) := by decide +kernel
theorem dX3_shapeOf_6 : decode cX3_shapeOf 6 = .ok (.invokestatic 126, 3) := by decide +kernel
theorem dX3_shapeOf_9 : decode cX3_shapeOf 9 = .ok (.ireturn, 1) := by decide +kernel
theorem dX3_thumbOf_0 : decode cX3_thumbOf 0 = .ok (.aload_n 0, 1) := by decide +kernel
theorem dX3_thumbOf_1 : decode cX3_thumbOf 1 = .ok (.iload_n 1, 1) := by decide +kernel
theorem dX3_thumbOf_2 : decode cX3_thumbOf 2 = .ok (.iload_n 2, 1) := by decide +kernel
theorem dX3_thumbOf_3 : decode cX3_thumbOf 3 = .ok (.invokevirtual 123, 3) := by decide +kernel
theorem dX3_thumbOf_6 : decode cX3_thumbOf 6 = .ok (.invokestatic 87, 3) := by decide +kernel
theorem dX3_thumbOf_9 : decode cX3_thumbOf 9 = .ok (.ireturn, 1) := by decide +kernel
theorem dX3_placeOf_0 : decode cX3_placeOf 0 = .ok (.aload_n 0, 1) := by decide +kernel
theorem dX3_placeOf_1 : decode cX3_placeOf 1 = .ok (.iload_n 1, 1) := by decide +kernel
theorem dX3_placeOf_2 : decode cX3_placeOf 2 = .ok (.iload_n 2, 1) := by decide +kernel
theorem dX3_placeOf_3 : decode cX3_placeOf 3 = .ok (.invokevirtual 123, 3) := by decide +kernel
theorem dX3_placeOf_6 : decode cX3_placeOf 6 = .ok (.invokestatic 129, 3) := by decide +kernel
theorem dX3_placeOf_9 : decode cX3_placeOf 9 = .ok (.ireturn, 1) := by decide +kernel
theorem dX3_meaningOf_0 : decode cX3_meaningOf 0 = .ok (.aload_n 0, 1) := by decide +kernel
theorem dX3_meaningOf_1 : decode cX3_meaningOf 1 = .ok (.iload_n 1, 1) := by decide +kernel
theorem dX3_meaningOf_2 : decode cX3_meaningOf 2 = .ok (.invokevirtual 40, 3) := by decide +kernel
theorem dX3_meaningOf_5 : decode cX3_meaningOf 5 = .ok (.astore_n 3, 1) := by decide +kernel
theorem dX3_meaningOf_6 : decode cX3_meaningOf 6 = .ok (.aload_n 3, 1) := by decide +kernel
theorem dX3_meaningOf_7 : decode cX3_meaningOf 7 = .ok (.iload_n 2, 1) := by decide +kernel
theorem dX3_meaningOf_8 : decode cX3_meaningOf 8 = .ok (.invokestatic 73, 3) := by decide +kernel
theorem dX3_meaningOf_11 : decode cX3_meaningOf 11 = .ok (.aload_n 3, 1) := by decide +kernel
theorem dX3_meaningOf_12 : decode cX3_meaningOf 12 = .ok (.getfield 106, 3) := by decide +kernel
theorem dX3_meaningOf_15 : decode cX3_meaningOf 15 = .ok (.iload_n 2, 1) := by decide +kernel
theorem dX3_meaningOf_16 : decode cX3_meaningOf 16 = .ok (.iaload, 1) := by decide +kernel
theorem dX3_meaningOf_17 : decode cX3_meaningOf 17 = .ok (.ireturn, 1) := by decide +kernel
theorem dX3_signFor_0 : decode cX3_signFor 0 = .ok (.aload_n 0, 1) := by decide +kernel
theorem dX3_signFor_1 : decode cX3_signFor 1 = .ok (.iload_n 1, 1) := by decide +kernel
theorem dX3_signFor_2 : decode cX3_signFor 2 = .ok (.invokevirtual 40, 3) := by decide +kernel
theorem dX3_signFor_5 : decode cX3_signFor 5 = .ok (.astore_n 3, 1) := by decide +kernel
theorem dX3_signFor_6 : decode cX3_signFor 6 = .ok (.iload_n 2, 1) := by decide +kernel
theorem dX3_signFor_7 : decode cX3_signFor 7 = .ok (.bipush 30, 2) := by decide +kernel
theorem dX3_signFor_9 : decode cX3_signFor 9 = .ok (.invokestatic 48, 3) := by decide +kernel
theorem dX3_signFor_12 : decode cX3_signFor 12 = .ok (.ifCond .ne 13, 3) := by decide +kernel
theorem dX3_signFor_15 : decode cX3_signFor 15 = .ok (.new 132, 3) := by decide +kernel
theorem dX3_signFor_18 : decode cX3_signFor 18 = .ok (.dup, 1) := by decide +kernel
theorem dX3_signFor_19 : decode cX3_signFor 19 = .ok (.ldc 54, 2) := by decide +kernel
theorem dX3_signFor_21 : decode cX3_signFor 21 = .ok (.invokespecial 134, 3) := by decide +kernel
theorem dX3_signFor_24 : decode cX3_signFor 24 = .ok (.athrow, 1) := by decide +kernel
theorem dX3_signFor_25 : decode cX3_signFor 25 = .ok (.aload_n 3, 1) := by decide +kernel
theorem dX3_signFor_26 : decode cX3_signFor 26 = .ok (.iload_n 2, 1) := by decide +kernel
theorem dX3_signFor_27 : decode cX3_signFor 27 = .ok (.invokevirtual 135, 3) := by decide +kernel
theorem dX3_signFor_30 : decode cX3_signFor 30 = .ok (.ireturn, 1) := by decide +kernel
theorem dX3_apart_0 : decode cX3_apart 0 = .ok (.aload_n 0, 1) := by decide +kernel
theorem dX3_apart_1 : decode cX3_apart 1 = .ok (.iload_n 1, 1) := by decide +kernel
theorem dX3_apart_2 : decode cX3_apart 2 = .ok (.invokevirtual 40, 3) := by decide +kernel
theorem dX3_apart_5 : decode cX3_apart 5 = .ok (.astore 4, 2) := by decide +kernel
theorem dX3_apart_7 : decode cX3_apart 7 = .ok (.aload 4, 2) := by decide +kernel
theorem dX3_apart_9 : decode cX3_apart 9 = .ok (.iload_n 2, 1) := by decide +kernel
theorem dX3_apart_10 : decode cX3_apart 10 = .ok (.invokestatic 73, 3) := by decide +kernel
theorem dX3_apart_13 : decode cX3_apart 13 = .ok (.aload 4, 2) := by decide +kernel
theorem dX3_apart_15 : decode cX3_apart 15 = .ok (.iload_n 3, 1) := by decide +kernel
theorem dX3_apart_16 : decode cX3_apart 16 = .ok (.invokestatic 73, 3) := by decide +kernel
theorem dX3_apart_19 : decode cX3_apart 19 = .ok (.aload_n 0, 1) := by decide +kernel
theorem dX3_apart_20 : decode cX3_apart 20 = .ok (.getfield 10, 3) := by decide +kernel
theorem dX3_apart_23 : decode cX3_apart 23 = .ok (.aload 4, 2) := by decide +kernel
theorem dX3_apart_25 : decode cX3_apart 25 = .ok (.getfield 83, 3) := by decide +kernel
theorem dX3_apart_28 : decode cX3_apart 28 = .ok (.iload_n 2, 1) := by decide +kernel
theorem dX3_apart_29 : decode cX3_apart 29 = .ok (.iaload, 1) := by decide +kernel
theorem dX3_apart_30 : decode cX3_apart 30 = .ok (.aload 4, 2) := by decide +kernel
theorem dX3_apart_32 : decode cX3_apart 32 = .ok (.getfield 83, 3) := by decide +kernel
theorem dX3_apart_35 : decode cX3_apart 35 = .ok (.iload_n 3, 1) := by decide +kernel
theorem dX3_apart_36 : decode cX3_apart 36 = .ok (.iaload, 1) := by decide +kernel
theorem dX3_apart_37 : decode cX3_apart 37 = .ok (.invokevirtual 138, 3) := by decide +kernel
theorem dX3_apart_40 : decode cX3_apart 40 = .ok (.ireturn, 1) := by decide +kernel
theorem dX3_alikePairs_0 : decode cX3_alikePairs 0 = .ok (.aload_n 0, 1) := by decide +kernel
theorem dX3_alikePairs_1 : decode cX3_alikePairs 1 = .ok (.iload_n 1, 1) := by decide +kernel
theorem dX3_alikePairs_2 : decode cX3_alikePairs 2 = .ok (.invokevirtual 40, 3) := by decide +kernel
theorem dX3_alikePairs_5 : decode cX3_alikePairs 5 = .ok (.invokevirtual 141, 3) := by decide +kernel
theorem dX3_alikePairs_8 : decode cX3_alikePairs 8 = .ok (.ireturn, 1) := by decide +kernel
theorem dX3_thumbPairs_0 : decode cX3_thumbPairs 0 = .ok (.aload_n 0, 1) := by decide +kernel
theorem dX3_thumbPairs_1 : decode cX3_thumbPairs 1 = .ok (.iload_n 1, 1) := by decide +kernel
theorem dX3_thumbPairs_2 : decode cX3_thumbPairs 2 = .ok (.invokevirtual 40, 3) := by decide +kernel
theorem dX3_thumbPairs_5 : decode cX3_thumbPairs 5 = .ok (.invokevirtual 145, 3) := by decide +kernel
theorem dX3_thumbPairs_8 : decode cX3_thumbPairs 8 = .ok (.ireturn, 1) := by decide +kernel
theorem dX3_closest_0 : decode cX3_closest 0 = .ok (.aload_n 0, 1) := by decide +kernel
theorem dX3_closest_1 : decode cX3_closest 1 = .ok (.iload_n 1, 1) := by decide +kernel
theorem dX3_closest_2 : decode cX3_closest 2 = .ok (.invokevirtual 40, 3) := by decide +kernel
theorem dX3_closest_5 : decode cX3_closest 5 = .ok (.invokevirtual 148, 3) := by decide +kernel
theorem dX3_closest_8 : decode cX3_closest 8 = .ok (.ireturn, 1) := by decide +kernel
theorem dX3_mostMistaken_0 : decode cX3_mostMistaken 0 = .ok (.aload_n 0, 1) := by decide +kernel
theorem dX3_mostMistaken_1 : decode cX3_mostMistaken 1 = .ok (.iload_n 1, 1) := by decide +kernel
theorem dX3_mostMistaken_2 : decode cX3_mostMistaken 2 = .ok (.invokevirtual 40, 3) := by decide +kernel
theorem dX3_mostMistaken_5 : decode cX3_mostMistaken 5 = .ok (.invokevirtual 151, 3) := by decide +kernel
theorem dX3_mostMistaken_8 : decode cX3_mostMistaken 8 = .ok (.ireturn, 1) := by decide +kernel
theorem dX3_read_0 : decode cX3_read 0 = .ok (.aload_n 0, 1) := by decide +kernel
theorem dX3_read_1 : decode cX3_read 1 = .ok (.iload_n 3, 1) := by decide +kernel
theorem dX3_read_2 : decode cX3_read 2 = .ok (.invokevirtual 40, 3) := by decide +kernel
theorem dX3_read_5 : decode cX3_read 5 = .ok (.astore 4, 2) := by decide +kernel
theorem dX3_read_7 : decode cX3_read 7 = .ok (.aload 4, 2) := by decide +kernel
theorem dX3_read_9 : decode cX3_read 9 = .ok (.aload_n 0, 1) := by decide +kernel
theorem dX3_read_10 : decode cX3_read 10 = .ok (.iload_n 1, 1) := by decide +kernel
theorem dX3_read_11 : decode cX3_read 11 = .ok (.iload_n 2, 1) := by decide +kernel
theorem dX3_read_12 : decode cX3_read 12 = .ok (.invokevirtual 123, 3) := by decide +kernel
theorem dX3_read_15 : decode cX3_read 15 = .ok (.invokevirtual 154, 3) := by decide +kernel
theorem dX3_read_18 : decode cX3_read 18 = .ok (.ireturn, 1) := by decide +kernel
theorem dX3_readShown_0 : decode cX3_readShown 0 = .ok (.aload_n 0, 1) := by decide +kernel
theorem dX3_readShown_1 : decode cX3_readShown 1 = .ok (.iload 5, 2) := by decide +kernel
theorem dX3_readShown_3 : decode cX3_readShown 3 = .ok (.invokevirtual 40, 3) := by decide +kernel
theorem dX3_readShown_6 : decode cX3_readShown 6 = .ok (.astore 6, 2) := by decide +kernel
theorem dX3_readShown_8 : decode cX3_readShown 8 = .ok (.iload_n 1, 1) := by decide +kernel
theorem dX3_readShown_9 : decode cX3_readShown 9 = .ok (.iload_n 2, 1) := by decide +kernel
theorem dX3_readShown_10 : decode cX3_readShown 10 = .ok (.iload_n 3, 1) := by decide +kernel
theorem dX3_readShown_11 : decode cX3_readShown 11 = .ok (.iload 4, 2) := by decide +kernel
theorem dX3_readShown_13 : decode cX3_readShown 13 = .ok (.invokestatic 44, 3) := by decide +kernel
theorem dX3_readShown_16 : decode cX3_readShown 16 = .ok (.aload 6, 2) := by decide +kernel
theorem dX3_readShown_18 : decode cX3_readShown 18 = .ok (.iload_n 1, 1) := by decide +kernel
theorem dX3_readShown_19 : decode cX3_readShown 19 = .ok (.iload_n 2, 1) := by decide +kernel
theorem dX3_readShown_20 : decode cX3_readShown 20 = .ok (.iload_n 3, 1) := by decide +kernel
theorem dX3_readShown_21 : decode cX3_readShown 21 = .ok (.iload 4, 2) := by decide +kernel
theorem dX3_readShown_23 : decode cX3_readShown 23 = .ok (.invokestatic 63, 3) := by decide +kernel
theorem dX3_readShown_26 : decode cX3_readShown 26 = .ok (.invokevirtual 154, 3) := by decide +kernel
theorem dX3_readShown_29 : decode cX3_readShown 29 = .ok (.ireturn, 1) := by decide +kernel
theorem dX3_understood_0 : decode cX3_understood 0 = .ok (.aload_n 0, 1) := by decide +kernel
theorem dX3_understood_1 : decode cX3_understood 1 = .ok (.iload_n 1, 1) := by decide +kernel
theorem dX3_understood_2 : decode cX3_understood 2 = .ok (.invokevirtual 40, 3) := by decide +kernel
theorem dX3_understood_5 : decode cX3_understood 5 = .ok (.astore_n 3, 1) := by decide +kernel
theorem dX3_understood_6 : decode cX3_understood 6 = .ok (.aload_n 0, 1) := by decide +kernel
theorem dX3_understood_7 : decode cX3_understood 7 = .ok (.iload_n 2, 1) := by decide +kernel
theorem dX3_understood_8 : decode cX3_understood 8 = .ok (.invokevirtual 40, 3) := by decide +kernel
theorem dX3_understood_11 : decode cX3_understood 11 = .ok (.aload_n 3, 1) := by decide +kernel
theorem dX3_understood_12 : decode cX3_understood 12 = .ok (.invokevirtual 157, 3) := by decide +kernel
theorem dX3_understood_15 : decode cX3_understood 15 = .ok (.ireturn, 1) := by decide +kernel
theorem dX3_misread_0 : decode cX3_misread 0 = .ok (.aload_n 0, 1) := by decide +kernel
theorem dX3_misread_1 : decode cX3_misread 1 = .ok (.iload_n 1, 1) := by decide +kernel
theorem dX3_misread_2 : decode cX3_misread 2 = .ok (.invokevirtual 40, 3) := by decide +kernel
theorem dX3_misread_5 : decode cX3_misread 5 = .ok (.astore_n 3, 1) := by decide +kernel
theorem dX3_misread_6 : decode cX3_misread 6 = .ok (.aload_n 0, 1) := by decide +kernel
theorem dX3_misread_7 : decode cX3_misread 7 = .ok (.iload_n 2, 1) := by decide +kernel
theorem dX3_misread_8 : decode cX3_misread 8 = .ok (.invokevirtual 40, 3) := by decide +kernel
theorem dX3_misread_11 : decode cX3_misread 11 = .ok (.aload_n 3, 1) := by decide +kernel
theorem dX3_misread_12 : decode cX3_misread 12 = .ok (.invokevirtual 161, 3) := by decide +kernel
theorem dX3_misread_15 : decode cX3_misread 15 = .ok (.ireturn, 1) := by decide +kernel
theorem dX3_common_0 : decode cX3_common 0 = .ok (.aload_n 0, 1) := by decide +kernel
theorem dX3_common_1 : decode cX3_common 1 = .ok (.iload_n 1, 1) := by decide +kernel
theorem dX3_common_2 : decode cX3_common 2 = .ok (.invokevirtual 40, 3) := by decide +kernel
theorem dX3_common_5 : decode cX3_common 5 = .ok (.astore_n 3, 1) := by decide +kernel
theorem dX3_common_6 : decode cX3_common 6 = .ok (.aload_n 0, 1) := by decide +kernel
theorem dX3_common_7 : decode cX3_common 7 = .ok (.iload_n 2, 1) := by decide +kernel
theorem dX3_common_8 : decode cX3_common 8 = .ok (.invokevirtual 40, 3) := by decide +kernel
theorem dX3_common_11 : decode cX3_common 11 = .ok (.aload_n 3, 1) := by decide +kernel
theorem dX3_common_12 : decode cX3_common 12 = .ok (.invokevirtual 164, 3) := by decide +kernel
theorem dX3_common_15 : decode cX3_common 15 = .ok (.ireturn, 1) := by decide +kernel
theorem dX3_bestThumb_0 : decode cX3_bestThumb 0 = .ok (.aload_n 0, 1) := by decide +kernel
theorem dX3_bestThumb_1 : decode cX3_bestThumb 1 = .ok (.iload_n 1, 1) := by decide +kernel
theorem dX3_bestThumb_2 : decode cX3_bestThumb 2 = .ok (.invokevirtual 40, 3) := by decide +kernel
theorem dX3_bestThumb_5 : decode cX3_bestThumb 5 = .ok (.astore_n 3, 1) := by decide +kernel
theorem dX3_bestThumb_6 : decode cX3_bestThumb 6 = .ok (.aload_n 3, 1) := by decide +kernel
theorem dX3_bestThumb_7 : decode cX3_bestThumb 7 = .ok (.iload_n 2, 1) := by decide +kernel
theorem dX3_bestThumb_8 : decode cX3_bestThumb 8 = .ok (.invokestatic 73, 3) := by decide +kernel
theorem dX3_bestThumb_11 : decode cX3_bestThumb 11 = .ok (.aload_n 3, 1) := by decide +kernel
theorem dX3_bestThumb_12 : decode cX3_bestThumb 12 = .ok (.iload_n 2, 1) := by decide +kernel
theorem dX3_bestThumb_13 : decode cX3_bestThumb 13 = .ok (.invokevirtual 167, 3) := by decide +kernel
theorem dX3_bestThumb_16 : decode cX3_bestThumb 16 = .ok (.ireturn, 1) := by decide +kernel
theorem dX3_bestToBorrow_0 : decode cX3_bestToBorrow 0 = .ok (.aload_n 0, 1) := by decide +kernel
theorem dX3_bestToBorrow_1 : decode cX3_bestToBorrow 1 = .ok (.iload_n 1, 1) := by decide +kernel
theorem dX3_bestToBorrow_2 : decode cX3_bestToBorrow 2 = .ok (.invokevirtual 40, 3) := by decide +kernel
theorem dX3_bestToBorrow_5 : decode cX3_bestToBorrow 5 = .ok (.astore_n 3, 1) := by decide +kernel
theorem dX3_bestToBorrow_6 : decode cX3_bestToBorrow 6 = .ok (.aload_n 0, 1) := by decide +kernel
theorem dX3_bestToBorrow_7 : decode cX3_bestToBorrow 7 = .ok (.iload_n 2, 1) := by decide +kernel
theorem dX3_bestToBorrow_8 : decode cX3_bestToBorrow 8 = .ok (.invokevirtual 40, 3) := by decide +kernel
theorem dX3_bestToBorrow_11 : decode cX3_bestToBorrow 11 = .ok (.astore 4, 2) := by decide +kernel
theorem dX3_bestToBorrow_13 : decode cX3_bestToBorrow 13 = .ok (.iload_n 1, 1) := by decide +kernel
theorem dX3_bestToBorrow_14 : decode cX3_bestToBorrow 14 = .ok (.iload_n 2, 1) := by decide +kernel
theorem dX3_bestToBorrow_15 : decode cX3_bestToBorrow 15 = .ok (.if_icmp .ne 5, 3) := by decide +kernel
theorem dX3_bestToBorrow_18 : decode cX3_bestToBorrow 18 = .ok (.iconst (-1), 1) := by decide +kernel
theorem dX3_bestToBorrow_19 : decode cX3_bestToBorrow 19 = .ok (.ireturn, 1) := by decide +kernel
theorem dX3_bestToBorrow_20 : decode cX3_bestToBorrow 20 = .ok (.iconst (-1), 1) := by decide +kernel
theorem dX3_bestToBorrow_21 : decode cX3_bestToBorrow 21 = .ok (.istore 5, 2) := by decide +kernel
theorem dX3_bestToBorrow_23 : decode cX3_bestToBorrow 23 = .ok (.iconst (-1), 1) := by decide +kernel
theorem dX3_bestToBorrow_24 : decode cX3_bestToBorrow 24 = .ok (.istore 6, 2) := by decide +kernel
theorem dX3_bestToBorrow_26 : decode cX3_bestToBorrow 26 = .ok (.iconst 0, 1) := by decide +kernel
theorem dX3_bestToBorrow_27 : decode cX3_bestToBorrow 27 = .ok (.istore 7, 2) := by decide +kernel
theorem dX3_bestToBorrow_29 : decode cX3_bestToBorrow 29 = .ok (.iload 7, 2) := by decide +kernel
theorem dX3_bestToBorrow_31 : decode cX3_bestToBorrow 31 = .ok (.aload_n 3, 1) := by decide +kernel
theorem dX3_bestToBorrow_32 : decode cX3_bestToBorrow 32 = .ok (.getfield 120, 3) := by decide +kernel
theorem dX3_bestToBorrow_35 : decode cX3_bestToBorrow 35 = .ok (.if_icmp .ge 46, 3) := by decide +kernel
theorem dX3_bestToBorrow_38 : decode cX3_bestToBorrow 38 = .ok (.aload_n 0, 1) := by decide +kernel
theorem dX3_bestToBorrow_39 : decode cX3_bestToBorrow 39 = .ok (.aload_n 3, 1) := by decide +kernel
theorem dX3_bestToBorrow_40 : decode cX3_bestToBorrow 40 = .ok (.iload 7, 2) := by decide +kernel
theorem dX3_bestToBorrow_42 : decode cX3_bestToBorrow 42 = .ok (.aload 4, 2) := by decide +kernel
theorem dX3_bestToBorrow_44 : decode cX3_bestToBorrow 44 = .ok (.invokevirtual 170, 3) := by decide +kernel
theorem dX3_bestToBorrow_47 : decode cX3_bestToBorrow 47 = .ok (.ifCond .eq 28, 3) := by decide +kernel
theorem dX3_bestToBorrow_50 : decode cX3_bestToBorrow 50 = .ok (.aload_n 0, 1) := by decide +kernel
theorem dX3_bestToBorrow_51 : decode cX3_bestToBorrow 51 = .ok (.getfield 25, 3) := by decide +kernel
theorem dX3_bestToBorrow_54 : decode cX3_bestToBorrow 54 = .ok (.aload_n 3, 1) := by decide +kernel
theorem dX3_bestToBorrow_55 : decode cX3_bestToBorrow 55 = .ok (.invokevirtual 157, 3) := by decide +kernel
theorem dX3_bestToBorrow_58 : decode cX3_bestToBorrow 58 = .ok (.istore 8, 2) := by decide +kernel
theorem dX3_bestToBorrow_60 : decode cX3_bestToBorrow 60 = .ok (.iload 8, 2) := by decide +kernel
theorem dX3_bestToBorrow_62 : decode cX3_bestToBorrow 62 = .ok (.iload 6, 2) := by decide +kernel
theorem dX3_bestToBorrow_64 : decode cX3_bestToBorrow 64 = .ok (.if_icmp .le 11, 3) := by decide +kernel
theorem dX3_bestToBorrow_67 : decode cX3_bestToBorrow 67 = .ok (.iload 8, 2) := by decide +kernel
theorem dX3_bestToBorrow_69 : decode cX3_bestToBorrow 69 = .ok (.istore 6, 2) := by decide +kernel
theorem dX3_bestToBorrow_71 : decode cX3_bestToBorrow 71 = .ok (.iload 7, 2) := by decide +kernel
theorem dX3_bestToBorrow_73 : decode cX3_bestToBorrow 73 = .ok (.istore 5, 2) := by decide +kernel
theorem dX3_bestToBorrow_75 : decode cX3_bestToBorrow 75 = .ok (.iinc 7 1, 3) := by decide +kernel
theorem dX3_bestToBorrow_78 : decode cX3_bestToBorrow 78 = .ok (.goto (-49), 3) := by decide +kernel
theorem dX3_bestToBorrow_81 : decode cX3_bestToBorrow 81 = .ok (.iload 5, 2) := by decide +kernel
theorem dX3_bestToBorrow_83 : decode cX3_bestToBorrow 83 = .ok (.ireturn, 1) := by decide +kernel
theorem dX3_alikeIfJoined_0 : decode cX3_alikeIfJoined 0 = .ok (.iload_n 1, 1) := by decide +kernel
theorem dX3_alikeIfJoined_1 : decode cX3_alikeIfJoined 1 = .ok (.invokestatic 93, 3) := by decide +kernel
theorem dX3_alikeIfJoined_4 : decode cX3_alikeIfJoined 4 = .ok (.iload_n 2, 1) := by decide +kernel
theorem dX3_alikeIfJoined_5 : decode cX3_alikeIfJoined 5 = .ok (.invokestatic 93, 3) := by decide +kernel
theorem dX3_alikeIfJoined_8 : decode cX3_alikeIfJoined 8 = .ok (.iconst 0, 1) := by decide +kernel
theorem dX3_alikeIfJoined_9 : decode cX3_alikeIfJoined 9 = .ok (.istore_n 3, 1) := by decide +kernel
theorem dX3_alikeIfJoined_10 : decode cX3_alikeIfJoined 10 = .ok (.iconst 0, 1) := by decide +kernel
theorem dX3_alikeIfJoined_11 : decode cX3_alikeIfJoined 11 = .ok (.istore 4, 2) := by decide +kernel
theorem dX3_alikeIfJoined_13 : decode cX3_alikeIfJoined 13 = .ok (.iload 4, 2) := by decide +kernel
theorem dX3_alikeIfJoined_15 : decode cX3_alikeIfJoined 15 = .ok (.aload_n 0, 1) := by decide +kernel
theorem dX3_alikeIfJoined_16 : decode cX3_alikeIfJoined 16 = .ok (.getfield 29, 3) := by decide +kernel
theorem dX3_alikeIfJoined_19 : decode cX3_alikeIfJoined 19 = .ok (.if_icmp .ge 24, 3) := by decide +kernel
theorem dX3_alikeIfJoined_22 : decode cX3_alikeIfJoined 22 = .ok (.iload_n 3, 1) := by decide +kernel
theorem dX3_alikeIfJoined_23 : decode cX3_alikeIfJoined 23 = .ok (.aload_n 0, 1) := by decide +kernel
theorem dX3_alikeIfJoined_24 : decode cX3_alikeIfJoined 24 = .ok (.getfield 18, 3) := by decide +kernel
theorem dX3_alikeIfJoined_27 : decode cX3_alikeIfJoined 27 = .ok (.iload 4, 2) := by decide +kernel
theorem dX3_alikeIfJoined_29 : decode cX3_alikeIfJoined 29 = .ok (.aaload, 1) := by decide +kernel
theorem dX3_alikeIfJoined_30 : decode cX3_alikeIfJoined 30 = .ok (.iload_n 1, 1) := by decide +kernel
theorem dX3_alikeIfJoined_31 : decode cX3_alikeIfJoined 31 = .ok (.iload_n 2, 1) := by decide +kernel
theorem dX3_alikeIfJoined_32 : decode cX3_alikeIfJoined 32 = .ok (.invokevirtual 174, 3) := by decide +kernel
theorem dX3_alikeIfJoined_35 : decode cX3_alikeIfJoined 35 = .ok (.iadd, 1) := by decide +kernel
theorem dX3_alikeIfJoined_36 : decode cX3_alikeIfJoined 36 = .ok (.istore_n 3, 1) := by decide +kernel
theorem dX3_alikeIfJoined_37 : decode cX3_alikeIfJoined 37 = .ok (.iinc 4 1, 3) := by decide +kernel
theorem dX3_alikeIfJoined_40 : decode cX3_alikeIfJoined 40 = .ok (.goto (-27), 3) := by decide +kernel
theorem dX3_alikeIfJoined_43 : decode cX3_alikeIfJoined 43 = .ok (.iload_n 3, 1) := by decide +kernel
theorem dX3_alikeIfJoined_44 : decode cX3_alikeIfJoined 44 = .ok (.ireturn, 1) := by decide +kernel
theorem dX3_meanSigns_0 : decode cX3_meanSigns 0 = .ok (.aload_n 0, 1) := by decide +kernel
theorem dX3_meanSigns_1 : decode cX3_meanSigns 1 = .ok (.getfield 29, 3) := by decide +kernel
theorem dX3_meanSigns_4 : decode cX3_meanSigns 4 = .ok (.ifCond .ne 5, 3) := by decide +kernel
theorem dX3_meanSigns_7 : decode cX3_meanSigns 7 = .ok (.dconst 0, 1) := by decide +kernel
theorem dX3_meanSigns_8 : decode cX3_meanSigns 8 = .ok (.dreturn, 1) := by decide +kernel
theorem dX3_meanSigns_9 : decode cX3_meanSigns 9 = .ok (.iconst 0, 1) := by decide +kernel
theorem dX3_meanSigns_10 : decode cX3_meanSigns 10 = .ok (.istore_n 1, 1) := by decide +kernel
theorem dX3_meanSigns_11 : decode cX3_meanSigns 11 = .ok (.iconst 0, 1) := by decide +kernel
theorem dX3_meanSigns_12 : decode cX3_meanSigns 12 = .ok (.istore_n 2, 1) := by decide +kernel
theorem dX3_meanSigns_13 : decode cX3_meanSigns 13 = .ok (.iload_n 2, 1) := by decide +kernel
theorem dX3_meanSigns_14 : decode cX3_meanSigns 14 = .ok (.aload_n 0, 1) := by decide +kernel
theorem dX3_meanSigns_15 : decode cX3_meanSigns 15 = .ok (.getfield 29, 3) := by decide +kernel
theorem dX3_meanSigns_18 : decode cX3_meanSigns 18 = .ok (.if_icmp .ge 21, 3) := by decide +kernel
theorem dX3_meanSigns_21 : decode cX3_meanSigns 21 = .ok (.iload_n 1, 1) := by decide +kernel
theorem dX3_meanSigns_22 : decode cX3_meanSigns 22 = .ok (.aload_n 0, 1) := by decide +kernel
theorem dX3_meanSigns_23 : decode cX3_meanSigns 23 = .ok (.getfield 18, 3) := by decide +kernel
theorem dX3_meanSigns_26 : decode cX3_meanSigns 26 = .ok (.iload_n 2, 1) := by decide +kernel
theorem dX3_meanSigns_27 : decode cX3_meanSigns 27 = .ok (.aaload, 1) := by decide +kernel
theorem dX3_meanSigns_28 : decode cX3_meanSigns 28 = .ok (.getfield 120, 3) := by decide +kernel
theorem dX3_meanSigns_31 : decode cX3_meanSigns 31 = .ok (.iadd, 1) := by decide +kernel
theorem dX3_meanSigns_32 : decode cX3_meanSigns 32 = .ok (.istore_n 1, 1) := by decide +kernel
theorem dX3_meanSigns_33 : decode cX3_meanSigns 33 = .ok (.iinc 2 1, 3) := by decide +kernel
theorem dX3_meanSigns_36 : decode cX3_meanSigns 36 = .ok (.goto (-23), 3) := by decide +kernel
theorem dX3_meanSigns_39 : decode cX3_meanSigns 39 = .ok (.iload_n 1, 1) := by decide +kernel
theorem dX3_meanSigns_40 : decode cX3_meanSigns 40 = .ok (.i2d, 1) := by decide +kernel
theorem dX3_meanSigns_41 : decode cX3_meanSigns 41 = .ok (.aload_n 0, 1) := by decide +kernel
theorem dX3_meanSigns_42 : decode cX3_meanSigns 42 = .ok (.getfield 29, 3) := by decide +kernel
theorem dX3_meanSigns_45 : decode cX3_meanSigns 45 = .ok (.i2d, 1) := by decide +kernel
theorem dX3_meanSigns_46 : decode cX3_meanSigns 46 = .ok (.ddiv, 1) := by decide +kernel
theorem dX3_meanSigns_47 : decode cX3_meanSigns 47 = .ok (.dreturn, 1) := by decide +kernel
theorem dX3_digest_0 : decode cX3_digest 0 = .ok (.ldc2_w 177, 3) := by decide +kernel
theorem dX3_digest_3 : decode cX3_digest 3 = .ok (.lstore_n 1, 1) := by decide +kernel
theorem dX3_digest_4 : decode cX3_digest 4 = .ok (.lload_n 1, 1) := by decide +kernel
theorem dX3_digest_5 : decode cX3_digest 5 = .ok (.aload_n 0, 1) := by decide +kernel
theorem dX3_digest_6 : decode cX3_digest 6 = .ok (.getfield 29, 3) := by decide +kernel
theorem dX3_digest_9 : decode cX3_digest 9 = .ok (.i2l, 1) := by decide +kernel
theorem dX3_digest_10 : decode cX3_digest 10 = .ok (.invokestatic 179, 3) := by decide +kernel
theorem dX3_digest_13 : decode cX3_digest 13 = .ok (.lstore_n 1, 1) := by decide +kernel
theorem dX3_digest_14 : decode cX3_digest 14 = .ok (.lload_n 1, 1) := by decide +kernel
theorem dX3_digest_15 : decode cX3_digest 15 = .ok (.aload_n 0, 1) := by decide +kernel
theorem dX3_digest_16 : decode cX3_digest 16 = .ok (.getfield 10, 3) := by decide +kernel
theorem dX3_digest_19 : decode cX3_digest 19 = .ok (.getfield 101, 3) := by decide +kernel
theorem dX3_digest_22 : decode cX3_digest 22 = .ok (.i2l, 1) := by decide +kernel
theorem dX3_digest_23 : decode cX3_digest 23 = .ok (.invokestatic 179, 3) := by decide +kernel
theorem dX3_digest_26 : decode cX3_digest 26 = .ok (.lstore_n 1, 1) := by decide +kernel
theorem dX3_digest_27 : decode cX3_digest 27 = .ok (.iconst 0, 1) := by decide +kernel
theorem dX3_digest_28 : decode cX3_digest 28 = .ok (.istore_n 3, 1) := by decide +kernel
theorem dX3_digest_29 : decode cX3_digest 29 = .ok (.iload_n 3, 1) := by decide +kernel
theorem dX3_digest_30 : decode cX3_digest 30 = .ok (.aload_n 0, 1) := by decide +kernel
theorem dX3_digest_31 : decode cX3_digest 31 = .ok (.getfield 29, 3) := by decide +kernel
theorem dX3_digest_34 : decode cX3_digest 34 = .ok (.if_icmp .ge 106, 3) := by decide +kernel
theorem dX3_digest_37 : decode cX3_digest 37 = .ok (.lload_n 1, 1) := by decide +kernel
theorem dX3_digest_38 : decode cX3_digest 38 = .ok (.aload_n 0, 1) := by decide +kernel
theorem dX3_digest_39 : decode cX3_digest 39 = .ok (.getfield 18, 3) := by decide +kernel
theorem dX3_digest_42 : decode cX3_digest 42 = .ok (.iload_n 3, 1) := by decide +kernel
theorem dX3_digest_43 : decode cX3_digest 43 = .ok (.aaload, 1) := by decide +kernel
theorem dX3_digest_44 : decode cX3_digest 44 = .ok (.invokestatic 183, 3) := by decide +kernel
theorem dX3_digest_47 : decode cX3_digest 47 = .ok (.lstore_n 1, 1) := by decide +kernel
theorem dX3_digest_48 : decode cX3_digest 48 = .ok (.iconst 0, 1) := by decide +kernel
theorem dX3_digest_49 : decode cX3_digest 49 = .ok (.istore 4, 2) := by decide +kernel
theorem dX3_digest_51 : decode cX3_digest 51 = .ok (.iload 4, 2) := by decide +kernel
theorem dX3_digest_53 : decode cX3_digest 53 = .ok (.aload_n 0, 1) := by decide +kernel
theorem dX3_digest_54 : decode cX3_digest 54 = .ok (.getfield 29, 3) := by decide +kernel
theorem dX3_digest_57 : decode cX3_digest 57 = .ok (.if_icmp .ge 66, 3) := by decide +kernel
theorem dX3_digest_60 : decode cX3_digest 60 = .ok (.lload_n 1, 1) := by decide +kernel
theorem dX3_digest_61 : decode cX3_digest 61 = .ok (.aload_n 0, 1) := by decide +kernel
theorem dX3_digest_62 : decode cX3_digest 62 = .ok (.getfield 18, 3) := by decide +kernel
theorem dX3_digest_65 : decode cX3_digest 65 = .ok (.iload 4, 2) := by decide +kernel
theorem dX3_digest_67 : decode cX3_digest 67 = .ok (.aaload, 1) := by decide +kernel
theorem dX3_digest_68 : decode cX3_digest 68 = .ok (.aload_n 0, 1) := by decide +kernel
theorem dX3_digest_69 : decode cX3_digest 69 = .ok (.getfield 18, 3) := by decide +kernel
theorem dX3_digest_72 : decode cX3_digest 72 = .ok (.iload_n 3, 1) := by decide +kernel
theorem dX3_digest_73 : decode cX3_digest 73 = .ok (.aaload, 1) := by decide +kernel
theorem dX3_digest_74 : decode cX3_digest 74 = .ok (.invokevirtual 157, 3) := by decide +kernel
theorem dX3_digest_77 : decode cX3_digest 77 = .ok (.i2l, 1) := by decide +kernel
theorem dX3_digest_78 : decode cX3_digest 78 = .ok (.invokestatic 179, 3) := by decide +kernel
theorem dX3_digest_81 : decode cX3_digest 81 = .ok (.lstore_n 1, 1) := by decide +kernel
theorem dX3_digest_82 : decode cX3_digest 82 = .ok (.lload_n 1, 1) := by decide +kernel
theorem dX3_digest_83 : decode cX3_digest 83 = .ok (.aload_n 0, 1) := by decide +kernel
theorem dX3_digest_84 : decode cX3_digest 84 = .ok (.getfield 18, 3) := by decide +kernel
theorem dX3_digest_87 : decode cX3_digest 87 = .ok (.iload 4, 2) := by decide +kernel
theorem dX3_digest_89 : decode cX3_digest 89 = .ok (.aaload, 1) := by decide +kernel
theorem dX3_digest_90 : decode cX3_digest 90 = .ok (.aload_n 0, 1) := by decide +kernel
theorem dX3_digest_91 : decode cX3_digest 91 = .ok (.getfield 18, 3) := by decide +kernel
theorem dX3_digest_94 : decode cX3_digest 94 = .ok (.iload_n 3, 1) := by decide +kernel
theorem dX3_digest_95 : decode cX3_digest 95 = .ok (.aaload, 1) := by decide +kernel
theorem dX3_digest_96 : decode cX3_digest 96 = .ok (.invokevirtual 161, 3) := by decide +kernel
theorem dX3_digest_99 : decode cX3_digest 99 = .ok (.i2l, 1) := by decide +kernel
theorem dX3_digest_100 : decode cX3_digest 100 = .ok (.invokestatic 179, 3) := by decide +kernel
theorem dX3_digest_103 : decode cX3_digest 103 = .ok (.lstore_n 1, 1) := by decide +kernel
theorem dX3_digest_104 : decode cX3_digest 104 = .ok (.lload_n 1, 1) := by decide +kernel
theorem dX3_digest_105 : decode cX3_digest 105 = .ok (.aload_n 0, 1) := by decide +kernel
theorem dX3_digest_106 : decode cX3_digest 106 = .ok (.iload_n 3, 1) := by decide +kernel
theorem dX3_digest_107 : decode cX3_digest 107 = .ok (.iload 4, 2) := by decide +kernel
theorem dX3_digest_109 : decode cX3_digest 109 = .ok (.invokevirtual 187, 3) := by decide +kernel
theorem dX3_digest_112 : decode cX3_digest 112 = .ok (.i2l, 1) := by decide +kernel
theorem dX3_digest_113 : decode cX3_digest 113 = .ok (.invokestatic 179, 3) := by decide +kernel
theorem dX3_digest_116 : decode cX3_digest 116 = .ok (.lstore_n 1, 1) := by decide +kernel
theorem dX3_digest_117 : decode cX3_digest 117 = .ok (.iinc 4 1, 3) := by decide +kernel
theorem dX3_digest_120 : decode cX3_digest 120 = .ok (.goto (-69), 3) := by decide +kernel
theorem dX3_digest_123 : decode cX3_digest 123 = .ok (.lload_n 1, 1) := by decide +kernel
theorem dX3_digest_124 : decode cX3_digest 124 = .ok (.aload_n 0, 1) := by decide +kernel
theorem dX3_digest_125 : decode cX3_digest 125 = .ok (.getfield 18, 3) := by decide +kernel
theorem dX3_digest_128 : decode cX3_digest 128 = .ok (.iload_n 3, 1) := by decide +kernel
theorem dX3_digest_129 : decode cX3_digest 129 = .ok (.aaload, 1) := by decide +kernel
theorem dX3_digest_130 : decode cX3_digest 130 = .ok (.invokestatic 190, 3) := by decide +kernel
theorem dX3_digest_133 : decode cX3_digest 133 = .ok (.lstore_n 1, 1) := by decide +kernel
theorem dX3_digest_134 : decode cX3_digest 134 = .ok (.iinc 3 1, 3) := by decide +kernel
theorem dX3_digest_137 : decode cX3_digest 137 = .ok (.goto (-108), 3) := by decide +kernel
theorem dX3_digest_140 : decode cX3_digest 140 = .ok (.lload_n 1, 1) := by decide +kernel
theorem dX3_digest_141 : decode cX3_digest 141 = .ok (.lreturn, 1) := by decide +kernel
theorem dX3_mix_0 : decode cX3_mix 0 = .ok (.lload_n 0, 1) := by decide +kernel
theorem dX3_mix_1 : decode cX3_mix 1 = .ok (.ldc2_w 193, 3) := by decide +kernel
theorem dX3_mix_4 : decode cX3_mix 4 = .ok (.lmul, 1) := by decide +kernel
theorem dX3_mix_5 : decode cX3_mix 5 = .ok (.lload_n 2, 1) := by decide +kernel
theorem dX3_mix_6 : decode cX3_mix 6 = .ok (.ladd, 1) := by decide +kernel
theorem dX3_mix_7 : decode cX3_mix 7 = .ok (.lreturn, 1) := by decide +kernel
theorem dX3_mixBook_0 : decode cX3_mixBook 0 = .ok (.lload_n 0, 1) := by decide +kernel
theorem dX3_mixBook_1 : decode cX3_mixBook 1 = .ok (.aload_n 2, 1) := by decide +kernel
theorem dX3_mixBook_2 : decode cX3_mixBook 2 = .ok (.getfield 120, 3) := by decide +kernel
theorem dX3_mixBook_5 : decode cX3_mixBook 5 = .ok (.i2l, 1) := by decide +kernel
theorem dX3_mixBook_6 : decode cX3_mixBook 6 = .ok (.invokestatic 179, 3) := by decide +kernel
theorem dX3_mixBook_9 : decode cX3_mixBook 9 = .ok (.lstore_n 3, 1) := by decide +kernel
theorem dX3_mixBook_10 : decode cX3_mixBook 10 = .ok (.lload_n 3, 1) := by decide +kernel
theorem dX3_mixBook_11 : decode cX3_mixBook 11 = .ok (.aload_n 2, 1) := by decide +kernel
theorem dX3_mixBook_12 : decode cX3_mixBook 12 = .ok (.invokevirtual 141, 3) := by decide +kernel
theorem dX3_mixBook_15 : decode cX3_mixBook 15 = .ok (.i2l, 1) := by decide +kernel
theorem dX3_mixBook_16 : decode cX3_mixBook 16 = .ok (.invokestatic 179, 3) := by decide +kernel
theorem dX3_mixBook_19 : decode cX3_mixBook 19 = .ok (.lstore_n 3, 1) := by decide +kernel
theorem dX3_mixBook_20 : decode cX3_mixBook 20 = .ok (.lload_n 3, 1) := by decide +kernel
theorem dX3_mixBook_21 : decode cX3_mixBook 21 = .ok (.aload_n 2, 1) := by decide +kernel
theorem dX3_mixBook_22 : decode cX3_mixBook 22 = .ok (.invokevirtual 145, 3) := by decide +kernel
theorem dX3_mixBook_25 : decode cX3_mixBook 25 = .ok (.i2l, 1) := by decide +kernel
theorem dX3_mixBook_26 : decode cX3_mixBook 26 = .ok (.invokestatic 179, 3) := by decide +kernel
theorem dX3_mixBook_29 : decode cX3_mixBook 29 = .ok (.lstore_n 3, 1) := by decide +kernel
theorem dX3_mixBook_30 : decode cX3_mixBook 30 = .ok (.lload_n 3, 1) := by decide +kernel
theorem dX3_mixBook_31 : decode cX3_mixBook 31 = .ok (.aload_n 2, 1) := by decide +kernel
theorem dX3_mixBook_32 : decode cX3_mixBook 32 = .ok (.invokevirtual 148, 3) := by decide +kernel
theorem dX3_mixBook_35 : decode cX3_mixBook 35 = .ok (.i2l, 1) := by decide +kernel
theorem dX3_mixBook_36 : decode cX3_mixBook 36 = .ok (.invokestatic 179, 3) := by decide +kernel
theorem dX3_mixBook_39 : decode cX3_mixBook 39 = .ok (.lstore_n 3, 1) := by decide +kernel
theorem dX3_mixBook_40 : decode cX3_mixBook 40 = .ok (.lload_n 3, 1) := by decide +kernel
theorem dX3_mixBook_41 : decode cX3_mixBook 41 = .ok (.aload_n 2, 1) := by decide +kernel
theorem dX3_mixBook_42 : decode cX3_mixBook 42 = .ok (.invokevirtual 151, 3) := by decide +kernel
theorem dX3_mixBook_45 : decode cX3_mixBook 45 = .ok (.i2l, 1) := by decide +kernel
theorem dX3_mixBook_46 : decode cX3_mixBook 46 = .ok (.invokestatic 179, 3) := by decide +kernel
theorem dX3_mixBook_49 : decode cX3_mixBook 49 = .ok (.lreturn, 1) := by decide +kernel
theorem dX3_mixSigns_0 : decode cX3_mixSigns 0 = .ok (.lload_n 0, 1) := by decide +kernel
theorem dX3_mixSigns_1 : decode cX3_mixSigns 1 = .ok (.lstore_n 3, 1) := by decide +kernel
theorem dX3_mixSigns_2 : decode cX3_mixSigns 2 = .ok (.iconst 0, 1) := by decide +kernel
theorem dX3_mixSigns_3 : decode cX3_mixSigns 3 = .ok (.istore 5, 2) := by decide +kernel
theorem dX3_mixSigns_5 : decode cX3_mixSigns 5 = .ok (.iload 5, 2) := by decide +kernel
theorem dX3_mixSigns_7 : decode cX3_mixSigns 7 = .ok (.aload_n 2, 1) := by decide +kernel
theorem dX3_mixSigns_8 : decode cX3_mixSigns 8 = .ok (.getfield 120, 3) := by decide +kernel
theorem dX3_mixSigns_11 : decode cX3_mixSigns 11 = .ok (.if_icmp .ge 76, 3) := by decide +kernel
theorem dX3_mixSigns_14 : decode cX3_mixSigns 14 = .ok (.aload_n 2, 1) := by decide +kernel
theorem dX3_mixSigns_15 : decode cX3_mixSigns 15 = .ok (.getfield 83, 3) := by decide +kernel
theorem dX3_mixSigns_18 : decode cX3_mixSigns 18 = .ok (.iload 5, 2) := by decide +kernel
theorem dX3_mixSigns_20 : decode cX3_mixSigns 20 = .ok (.iaload, 1) := by decide +kernel
theorem dX3_mixSigns_21 : decode cX3_mixSigns 21 = .ok (.istore 6, 2) := by decide +kernel
theorem dX3_mixSigns_23 : decode cX3_mixSigns 23 = .ok (.lload_n 3, 1) := by decide +kernel
theorem dX3_mixSigns_24 : decode cX3_mixSigns 24 = .ok (.iload 6, 2) := by decide +kernel
theorem dX3_mixSigns_26 : decode cX3_mixSigns 26 = .ok (.invokestatic 126, 3) := by decide +kernel
theorem dX3_mixSigns_29 : decode cX3_mixSigns 29 = .ok (.i2l, 1) := by decide +kernel
theorem dX3_mixSigns_30 : decode cX3_mixSigns 30 = .ok (.invokestatic 179, 3) := by decide +kernel
theorem dX3_mixSigns_33 : decode cX3_mixSigns 33 = .ok (.lstore_n 3, 1) := by decide +kernel
theorem dX3_mixSigns_34 : decode cX3_mixSigns 34 = .ok (.lload_n 3, 1) := by decide +kernel
theorem dX3_mixSigns_35 : decode cX3_mixSigns 35 = .ok (.iload 6, 2) := by decide +kernel
theorem dX3_mixSigns_37 : decode cX3_mixSigns 37 = .ok (.invokestatic 87, 3) := by decide +kernel
theorem dX3_mixSigns_40 : decode cX3_mixSigns 40 = .ok (.i2l, 1) := by decide +kernel
theorem dX3_mixSigns_41 : decode cX3_mixSigns 41 = .ok (.invokestatic 179, 3) := by decide +kernel
theorem dX3_mixSigns_44 : decode cX3_mixSigns 44 = .ok (.lstore_n 3, 1) := by decide +kernel
theorem dX3_mixSigns_45 : decode cX3_mixSigns 45 = .ok (.lload_n 3, 1) := by decide +kernel
theorem dX3_mixSigns_46 : decode cX3_mixSigns 46 = .ok (.iload 6, 2) := by decide +kernel
theorem dX3_mixSigns_48 : decode cX3_mixSigns 48 = .ok (.invokestatic 129, 3) := by decide +kernel
theorem dX3_mixSigns_51 : decode cX3_mixSigns 51 = .ok (.i2l, 1) := by decide +kernel
theorem dX3_mixSigns_52 : decode cX3_mixSigns 52 = .ok (.invokestatic 179, 3) := by decide +kernel
theorem dX3_mixSigns_55 : decode cX3_mixSigns 55 = .ok (.lstore_n 3, 1) := by decide +kernel
theorem dX3_mixSigns_56 : decode cX3_mixSigns 56 = .ok (.lload_n 3, 1) := by decide +kernel
theorem dX3_mixSigns_57 : decode cX3_mixSigns 57 = .ok (.aload_n 2, 1) := by decide +kernel
theorem dX3_mixSigns_58 : decode cX3_mixSigns 58 = .ok (.getfield 106, 3) := by decide +kernel
theorem dX3_mixSigns_61 : decode cX3_mixSigns 61 = .ok (.iload 5, 2) := by decide +kernel
theorem dX3_mixSigns_63 : decode cX3_mixSigns 63 = .ok (.iaload, 1) := by decide +kernel
theorem dX3_mixSigns_64 : decode cX3_mixSigns 64 = .ok (.i2l, 1) := by decide +kernel
theorem dX3_mixSigns_65 : decode cX3_mixSigns 65 = .ok (.invokestatic 179, 3) := by decide +kernel
theorem dX3_mixSigns_68 : decode cX3_mixSigns 68 = .ok (.lstore_n 3, 1) := by decide +kernel
theorem dX3_mixSigns_69 : decode cX3_mixSigns 69 = .ok (.lload_n 3, 1) := by decide +kernel
theorem dX3_mixSigns_70 : decode cX3_mixSigns 70 = .ok (.aload_n 2, 1) := by decide +kernel
theorem dX3_mixSigns_71 : decode cX3_mixSigns 71 = .ok (.iload 5, 2) := by decide +kernel
theorem dX3_mixSigns_73 : decode cX3_mixSigns 73 = .ok (.invokevirtual 167, 3) := by decide +kernel
theorem dX3_mixSigns_76 : decode cX3_mixSigns 76 = .ok (.i2l, 1) := by decide +kernel
theorem dX3_mixSigns_77 : decode cX3_mixSigns 77 = .ok (.invokestatic 179, 3) := by decide +kernel
theorem dX3_mixSigns_80 : decode cX3_mixSigns 80 = .ok (.lstore_n 3, 1) := by decide +kernel
theorem dX3_mixSigns_81 : decode cX3_mixSigns 81 = .ok (.iinc 5 1, 3) := by decide +kernel
theorem dX3_mixSigns_84 : decode cX3_mixSigns 84 = .ok (.goto (-79), 3) := by decide +kernel
theorem dX3_mixSigns_87 : decode cX3_mixSigns 87 = .ok (.lload_n 3, 1) := by decide +kernel
theorem dX3_mixSigns_88 : decode cX3_mixSigns 88 = .ok (.lreturn, 1) := by decide +kernel
theorem dX3_tryLoan_0 : decode cX3_tryLoan 0 = .ok (.aload_n 1, 1) := by decide +kernel
theorem dX3_tryLoan_1 : decode cX3_tryLoan 1 = .ok (.getfield 106, 3) := by decide +kernel
theorem dX3_tryLoan_4 : decode cX3_tryLoan 4 = .ok (.iload_n 2, 1) := by decide +kernel
theorem dX3_tryLoan_5 : decode cX3_tryLoan 5 = .ok (.iaload, 1) := by decide +kernel
theorem dX3_tryLoan_6 : decode cX3_tryLoan 6 = .ok (.istore 4, 2) := by decide +kernel
theorem dX3_tryLoan_8 : decode cX3_tryLoan 8 = .ok (.aload_n 3, 1) := by decide +kernel
theorem dX3_tryLoan_9 : decode cX3_tryLoan 9 = .ok (.iload 4, 2) := by decide +kernel
theorem dX3_tryLoan_11 : decode cX3_tryLoan 11 = .ok (.invokevirtual 57, 3) := by decide +kernel
theorem dX3_tryLoan_14 : decode cX3_tryLoan 14 = .ok (.ifCond .ne 5, 3) := by decide +kernel
theorem dX3_tryLoan_17 : decode cX3_tryLoan 17 = .ok (.iconst 0, 1) := by decide +kernel
theorem dX3_tryLoan_18 : decode cX3_tryLoan 18 = .ok (.ireturn, 1) := by decide +kernel
theorem dX3_tryLoan_19 : decode cX3_tryLoan 19 = .ok (.aload_n 3, 1) := by decide +kernel
theorem dX3_tryLoan_20 : decode cX3_tryLoan 20 = .ok (.aload_n 1, 1) := by decide +kernel
theorem dX3_tryLoan_21 : decode cX3_tryLoan 21 = .ok (.getfield 83, 3) := by decide +kernel
theorem dX3_tryLoan_24 : decode cX3_tryLoan 24 = .ok (.iload_n 2, 1) := by decide +kernel
theorem dX3_tryLoan_25 : decode cX3_tryLoan 25 = .ok (.iaload, 1) := by decide +kernel
theorem dX3_tryLoan_26 : decode cX3_tryLoan 26 = .ok (.invokevirtual 109, 3) := by decide +kernel
theorem dX3_tryLoan_29 : decode cX3_tryLoan 29 = .ok (.istore 5, 2) := by decide +kernel
theorem dX3_tryLoan_31 : decode cX3_tryLoan 31 = .ok (.iload 5, 2) := by decide +kernel
theorem dX3_tryLoan_33 : decode cX3_tryLoan 33 = .ok (.iconst (-1), 1) := by decide +kernel
theorem dX3_tryLoan_34 : decode cX3_tryLoan 34 = .ok (.if_icmp .ne 5, 3) := by decide +kernel
theorem dX3_tryLoan_37 : decode cX3_tryLoan 37 = .ok (.iconst 0, 1) := by decide +kernel
theorem dX3_tryLoan_38 : decode cX3_tryLoan 38 = .ok (.ireturn, 1) := by decide +kernel
theorem dX3_tryLoan_39 : decode cX3_tryLoan 39 = .ok (.aload_n 0, 1) := by decide +kernel
theorem dX3_tryLoan_40 : decode cX3_tryLoan 40 = .ok (.getfield 25, 3) := by decide +kernel
theorem dX3_tryLoan_43 : decode cX3_tryLoan 43 = .ok (.aload_n 3, 1) := by decide +kernel
theorem dX3_tryLoan_44 : decode cX3_tryLoan 44 = .ok (.invokevirtual 195, 3) := by decide +kernel
theorem dX3_tryLoan_47 : decode cX3_tryLoan 47 = .ok (.aload_n 0, 1) := by decide +kernel
theorem dX3_tryLoan_48 : decode cX3_tryLoan 48 = .ok (.getfield 25, 3) := by decide +kernel
theorem dX3_tryLoan_51 : decode cX3_tryLoan 51 = .ok (.iload 5, 2) := by decide +kernel
theorem dX3_tryLoan_53 : decode cX3_tryLoan 53 = .ok (.iload 4, 2) := by decide +kernel
theorem dX3_tryLoan_55 : decode cX3_tryLoan 55 = .ok (.invokevirtual 69, 3) := by decide +kernel
theorem dX3_tryLoan_58 : decode cX3_tryLoan 58 = .ok (.pop, 1) := by decide +kernel
theorem dX3_tryLoan_59 : decode cX3_tryLoan 59 = .ok (.iconst 1, 1) := by decide +kernel
theorem dX3_tryLoan_60 : decode cX3_tryLoan 60 = .ok (.ireturn, 1) := by decide +kernel
theorem dX3_isBelow_0 : decode cX3_isBelow 0 = .ok (.iload_n 0, 1) := by decide +kernel
theorem dX3_isBelow_1 : decode cX3_isBelow 1 = .ok (.ifCond .lt 12, 3) := by decide +kernel
theorem dX3_isBelow_4 : decode cX3_isBelow 4 = .ok (.iload_n 0, 1) := by decide +kernel
theorem dX3_isBelow_5 : decode cX3_isBelow 5 = .ok (.iload_n 1, 1) := by decide +kernel
theorem dX3_isBelow_6 : decode cX3_isBelow 6 = .ok (.if_icmp .ge 7, 3) := by decide +kernel
theorem dX3_isBelow_9 : decode cX3_isBelow 9 = .ok (.iconst 1, 1) := by decide +kernel
theorem dX3_isBelow_10 : decode cX3_isBelow 10 = .ok (.goto 4, 3) := by decide +kernel
theorem dX3_isBelow_13 : decode cX3_isBelow 13 = .ok (.iconst 0, 1) := by decide +kernel
theorem dX3_isBelow_14 : decode cX3_isBelow 14 = .ok (.ireturn, 1) := by decide +kernel
theorem dX3_bookOf_0 : decode cX3_bookOf 0 = .ok (.iload_n 1, 1) := by decide +kernel
theorem dX3_bookOf_1 : decode cX3_bookOf 1 = .ok (.aload_n 0, 1) := by decide +kernel
theorem dX3_bookOf_2 : decode cX3_bookOf 2 = .ok (.getfield 29, 3) := by decide +kernel
theorem dX3_bookOf_5 : decode cX3_bookOf 5 = .ok (.invokestatic 48, 3) := by decide +kernel
theorem dX3_bookOf_8 : decode cX3_bookOf 8 = .ok (.ifCond .ne 13, 3) := by decide +kernel
theorem dX3_bookOf_11 : decode cX3_bookOf 11 = .ok (.new 132, 3) := by decide +kernel
theorem dX3_bookOf_14 : decode cX3_bookOf 14 = .ok (.dup, 1) := by decide +kernel
theorem dX3_bookOf_15 : decode cX3_bookOf 15 = .ok (.ldc 199, 2) := by decide +kernel
theorem dX3_bookOf_17 : decode cX3_bookOf 17 = .ok (.invokespecial 134, 3) := by decide +kernel
theorem dX3_bookOf_20 : decode cX3_bookOf 20 = .ok (.athrow, 1) := by decide +kernel
theorem dX3_bookOf_21 : decode cX3_bookOf 21 = .ok (.aload_n 0, 1) := by decide +kernel
theorem dX3_bookOf_22 : decode cX3_bookOf 22 = .ok (.getfield 18, 3) := by decide +kernel
theorem dX3_bookOf_25 : decode cX3_bookOf 25 = .ok (.iload_n 1, 1) := by decide +kernel
theorem dX3_bookOf_26 : decode cX3_bookOf 26 = .ok (.aaload, 1) := by decide +kernel
theorem dX3_bookOf_27 : decode cX3_bookOf 27 = .ok (.areturn, 1) := by decide +kernel
theorem dX3_lookOf_0 : decode cX3_lookOf 0 = .ok (.aload_n 0, 1) := by decide +kernel
theorem dX3_lookOf_1 : decode cX3_lookOf 1 = .ok (.iload_n 1, 1) := by decide +kernel
theorem dX3_lookOf_2 : decode cX3_lookOf 2 = .ok (.invokevirtual 40, 3) := by decide +kernel
theorem dX3_lookOf_5 : decode cX3_lookOf 5 = .ok (.astore_n 3, 1) := by decide +kernel
theorem dX3_lookOf_6 : decode cX3_lookOf 6 = .ok (.aload_n 3, 1) := by decide +kernel
theorem dX3_lookOf_7 : decode cX3_lookOf 7 = .ok (.iload_n 2, 1) := by decide +kernel
theorem dX3_lookOf_8 : decode cX3_lookOf 8 = .ok (.invokestatic 73, 3) := by decide +kernel
theorem dX3_lookOf_11 : decode cX3_lookOf 11 = .ok (.aload_n 3, 1) := by decide +kernel
theorem dX3_lookOf_12 : decode cX3_lookOf 12 = .ok (.getfield 83, 3) := by decide +kernel
theorem dX3_lookOf_15 : decode cX3_lookOf 15 = .ok (.iload_n 2, 1) := by decide +kernel
theorem dX3_lookOf_16 : decode cX3_lookOf 16 = .ok (.iaload, 1) := by decide +kernel
theorem dX3_lookOf_17 : decode cX3_lookOf 17 = .ok (.ireturn, 1) := by decide +kernel
theorem dX3_checkSign_0 : decode cX3_checkSign 0 = .ok (.iload_n 1, 1) := by decide +kernel
theorem dX3_checkSign_1 : decode cX3_checkSign 1 = .ok (.aload_n 0, 1) := by decide +kernel
theorem dX3_checkSign_2 : decode cX3_checkSign 2 = .ok (.getfield 120, 3) := by decide +kernel
theorem dX3_checkSign_5 : decode cX3_checkSign 5 = .ok (.invokestatic 48, 3) := by decide +kernel
theorem dX3_checkSign_8 : decode cX3_checkSign 8 = .ok (.ifCond .ne 13, 3) := by decide +kernel
theorem dX3_checkSign_11 : decode cX3_checkSign 11 = .ok (.new 132, 3) := by decide +kernel
theorem dX3_checkSign_14 : decode cX3_checkSign 14 = .ok (.dup, 1) := by decide +kernel
theorem dX3_checkSign_15 : decode cX3_checkSign 15 = .ok (.ldc 201, 2) := by decide +kernel
theorem dX3_checkSign_17 : decode cX3_checkSign 17 = .ok (.invokespecial 134, 3) := by decide +kernel
theorem dX3_checkSign_20 : decode cX3_checkSign 20 = .ok (.athrow, 1) := by decide +kernel
theorem dX3_checkSign_21 : decode cX3_checkSign 21 = .ok (.return_, 1) := by decide +kernel
theorem dX3_checkPlace_0 : decode cX3_checkPlace 0 = .ok (.iload_n 0, 1) := by decide +kernel
theorem dX3_checkPlace_1 : decode cX3_checkPlace 1 = .ok (.bipush 9, 2) := by decide +kernel
theorem dX3_checkPlace_3 : decode cX3_checkPlace 3 = .ok (.invokestatic 48, 3) := by decide +kernel
theorem dX3_checkPlace_6 : decode cX3_checkPlace 6 = .ok (.ifCond .ne 13, 3) := by decide +kernel
theorem dX3_checkPlace_9 : decode cX3_checkPlace 9 = .ok (.new 132, 3) := by decide +kernel
theorem dX3_checkPlace_12 : decode cX3_checkPlace 12 = .ok (.dup, 1) := by decide +kernel
theorem dX3_checkPlace_13 : decode cX3_checkPlace 13 = .ok (.ldc 203, 2) := by decide +kernel
theorem dX3_checkPlace_15 : decode cX3_checkPlace 15 = .ok (.invokespecial 134, 3) := by decide +kernel
theorem dX3_checkPlace_18 : decode cX3_checkPlace 18 = .ok (.athrow, 1) := by decide +kernel
theorem dX3_checkPlace_19 : decode cX3_checkPlace 19 = .ok (.return_, 1) := by decide +kernel
theorem dX3_checkLook_0 : decode cX3_checkLook 0 = .ok (.iload_n 0, 1) := by decide +kernel
theorem dX3_checkLook_1 : decode cX3_checkLook 1 = .ok (.bipush 16, 2) := by decide +kernel
theorem dX3_checkLook_3 : decode cX3_checkLook 3 = .ok (.invokestatic 48, 3) := by decide +kernel
theorem dX3_checkLook_6 : decode cX3_checkLook 6 = .ok (.ifCond .ne 13, 3) := by decide +kernel
theorem dX3_checkLook_9 : decode cX3_checkLook 9 = .ok (.new 52, 3) := by decide +kernel
theorem dX3_checkLook_12 : decode cX3_checkLook 12 = .ok (.dup, 1) := by decide +kernel
theorem dX3_checkLook_13 : decode cX3_checkLook 13 = .ok (.ldc 205, 2) := by decide +kernel
theorem dX3_checkLook_15 : decode cX3_checkLook 15 = .ok (.invokespecial 56, 3) := by decide +kernel
theorem dX3_checkLook_18 : decode cX3_checkLook 18 = .ok (.athrow, 1) := by decide +kernel
theorem dX3_checkLook_19 : decode cX3_checkLook 19 = .ok (.iload_n 1, 1) := by decide +kernel
theorem dX3_checkLook_20 : decode cX3_checkLook 20 = .ok (.iconst 4, 1) := by decide +kernel
theorem dX3_checkLook_21 : decode cX3_checkLook 21 = .ok (.invokestatic 48, 3) := by decide +kernel
theorem dX3_checkLook_24 : decode cX3_checkLook 24 = .ok (.ifCond .ne 13, 3) := by decide +kernel
theorem dX3_checkLook_27 : decode cX3_checkLook 27 = .ok (.new 52, 3) := by decide +kernel
theorem dX3_checkLook_30 : decode cX3_checkLook 30 = .ok (.dup, 1) := by decide +kernel
theorem dX3_checkLook_31 : decode cX3_checkLook 31 = .ok (.ldc 81, 2) := by decide +kernel
theorem dX3_checkLook_33 : decode cX3_checkLook 33 = .ok (.invokespecial 56, 3) := by decide +kernel
theorem dX3_checkLook_36 : decode cX3_checkLook 36 = .ok (.athrow, 1) := by decide +kernel
theorem dX3_checkLook_37 : decode cX3_checkLook 37 = .ok (.iload_n 2, 1) := by decide +kernel
theorem dX3_checkLook_38 : decode cX3_checkLook 38 = .ok (.bipush 9, 2) := by decide +kernel
theorem dX3_checkLook_40 : decode cX3_checkLook 40 = .ok (.invokestatic 48, 3) := by decide +kernel
theorem dX3_checkLook_43 : decode cX3_checkLook 43 = .ok (.ifCond .ne 13, 3) := by decide +kernel
theorem dX3_checkLook_46 : decode cX3_checkLook 46 = .ok (.new 52, 3) := by decide +kernel
theorem dX3_checkLook_49 : decode cX3_checkLook 49 = .ok (.dup, 1) := by decide +kernel
theorem dX3_checkLook_50 : decode cX3_checkLook 50 = .ok (.ldc 203, 2) := by decide +kernel
theorem dX3_checkLook_52 : decode cX3_checkLook 52 = .ok (.invokespecial 56, 3) := by decide +kernel
theorem dX3_checkLook_55 : decode cX3_checkLook 55 = .ok (.athrow, 1) := by decide +kernel
theorem dX3_checkLook_56 : decode cX3_checkLook 56 = .ok (.iload_n 3, 1) := by decide +kernel
theorem dX3_checkLook_57 : decode cX3_checkLook 57 = .ok (.iconst 4, 1) := by decide +kernel
theorem dX3_checkLook_58 : decode cX3_checkLook 58 = .ok (.invokestatic 48, 3) := by decide +kernel
theorem dX3_checkLook_61 : decode cX3_checkLook 61 = .ok (.ifCond .ne 13, 3) := by decide +kernel
theorem dX3_checkLook_64 : decode cX3_checkLook 64 = .ok (.new 52, 3) := by decide +kernel
theorem dX3_checkLook_67 : decode cX3_checkLook 67 = .ok (.dup, 1) := by decide +kernel
theorem dX3_checkLook_68 : decode cX3_checkLook 68 = .ok (.ldc 207, 2) := by decide +kernel
theorem dX3_checkLook_70 : decode cX3_checkLook 70 = .ok (.invokespecial 56, 3) := by decide +kernel
theorem dX3_checkLook_73 : decode cX3_checkLook 73 = .ok (.athrow, 1) := by decide +kernel
theorem dX3_checkLook_74 : decode cX3_checkLook 74 = .ok (.return_, 1) := by decide +kernel
theorem dJ6_bitCount_0f7a4_0 : decode cJ6_bitCount_0f7a4 0 = .ok (.iload_n 0, 1) := by decide +kernel
theorem dJ6_bitCount_0f7a4_1 : decode cJ6_bitCount_0f7a4 1 = .ok (.iload_n 0, 1) := by decide +kernel
theorem dJ6_bitCount_0f7a4_2 : decode cJ6_bitCount_0f7a4 2 = .ok (.iconst 1, 1) := by decide +kernel
theorem dJ6_bitCount_0f7a4_3 : decode cJ6_bitCount_0f7a4 3 = .ok (.iushr, 1) := by decide +kernel
theorem dJ6_bitCount_0f7a4_4 : decode cJ6_bitCount_0f7a4 4 = .ok (.ldc_w 265, 3) := by decide +kernel
theorem dJ6_bitCount_0f7a4_7 : decode cJ6_bitCount_0f7a4 7 = .ok (.iand, 1) := by decide +kernel
theorem dJ6_bitCount_0f7a4_8 : decode cJ6_bitCount_0f7a4 8 = .ok (.isub, 1) := by decide +kernel
theorem dJ6_bitCount_0f7a4_9 : decode cJ6_bitCount_0f7a4 9 = .ok (.istore_n 0, 1) := by decide +kernel
theorem dJ6_bitCount_0f7a4_10 : decode cJ6_bitCount_0f7a4 10 = .ok (.iload_n 0, 1) := by decide +kernel
theorem dJ6_bitCount_0f7a4_11 : decode cJ6_bitCount_0f7a4 11 = .ok (.ldc_w 266, 3) := by decide +kernel
theorem dJ6_bitCount_0f7a4_14 : decode cJ6_bitCount_0f7a4 14 = .ok (.iand, 1) := by decide +kernel
theorem dJ6_bitCount_0f7a4_15 : decode cJ6_bitCount_0f7a4 15 = .ok (.iload_n 0, 1) := by decide +kernel
theorem dJ6_bitCount_0f7a4_16 : decode cJ6_bitCount_0f7a4 16 = .ok (.iconst 2, 1) := by decide +kernel
theorem dJ6_bitCount_0f7a4_17 : decode cJ6_bitCount_0f7a4 17 = .ok (.iushr, 1) := by decide +kernel
theorem dJ6_bitCount_0f7a4_18 : decode cJ6_bitCount_0f7a4 18 = .ok (.ldc_w 266, 3) := by decide +kernel
theorem dJ6_bitCount_0f7a4_21 : decode cJ6_bitCount_0f7a4 21 = .ok (.iand, 1) := by decide +kernel
theorem dJ6_bitCount_0f7a4_22 : decode cJ6_bitCount_0f7a4 22 = .ok (.iadd, 1) := by decide +kernel
theorem dJ6_bitCount_0f7a4_23 : decode cJ6_bitCount_0f7a4 23 = .ok (.istore_n 0, 1) := by decide +kernel
theorem dJ6_bitCount_0f7a4_24 : decode cJ6_bitCount_0f7a4 24 = .ok (.iload_n 0, 1) := by decide +kernel
theorem dJ6_bitCount_0f7a4_25 : decode cJ6_bitCount_0f7a4 25 = .ok (.iload_n 0, 1) := by decide +kernel
theorem dJ6_bitCount_0f7a4_26 : decode cJ6_bitCount_0f7a4 26 = .ok (.iconst 4, 1) := by decide +kernel
theorem dJ6_bitCount_0f7a4_27 : decode cJ6_bitCount_0f7a4 27 = .ok (.iushr, 1) := by decide +kernel
theorem dJ6_bitCount_0f7a4_28 : decode cJ6_bitCount_0f7a4 28 = .ok (.iadd, 1) := by decide +kernel
theorem dJ6_bitCount_0f7a4_29 : decode cJ6_bitCount_0f7a4 29 = .ok (.ldc_w 267, 3) := by decide +kernel
theorem dJ6_bitCount_0f7a4_32 : decode cJ6_bitCount_0f7a4 32 = .ok (.iand, 1) := by decide +kernel
theorem dJ6_bitCount_0f7a4_33 : decode cJ6_bitCount_0f7a4 33 = .ok (.istore_n 0, 1) := by decide +kernel
theorem dJ6_bitCount_0f7a4_34 : decode cJ6_bitCount_0f7a4 34 = .ok (.iload_n 0, 1) := by decide +kernel
theorem dJ6_bitCount_0f7a4_35 : decode cJ6_bitCount_0f7a4 35 = .ok (.iload_n 0, 1) := by decide +kernel
theorem dJ6_bitCount_0f7a4_36 : decode cJ6_bitCount_0f7a4 36 = .ok (.bipush 8, 2) := by decide +kernel
theorem dJ6_bitCount_0f7a4_38 : decode cJ6_bitCount_0f7a4 38 = .ok (.iushr, 1) := by decide +kernel
theorem dJ6_bitCount_0f7a4_39 : decode cJ6_bitCount_0f7a4 39 = .ok (.iadd, 1) := by decide +kernel
theorem dJ6_bitCount_0f7a4_40 : decode cJ6_bitCount_0f7a4 40 = .ok (.istore_n 0, 1) := by decide +kernel
theorem dJ6_bitCount_0f7a4_41 : decode cJ6_bitCount_0f7a4 41 = .ok (.iload_n 0, 1) := by decide +kernel
theorem dJ6_bitCount_0f7a4_42 : decode cJ6_bitCount_0f7a4 42 = .ok (.iload_n 0, 1) := by decide +kernel
theorem dJ6_bitCount_0f7a4_43 : decode cJ6_bitCount_0f7a4 43 = .ok (.bipush 16, 2) := by decide +kernel
theorem dJ6_bitCount_0f7a4_45 : decode cJ6_bitCount_0f7a4 45 = .ok (.iushr, 1) := by decide +kernel
theorem dJ6_bitCount_0f7a4_46 : decode cJ6_bitCount_0f7a4 46 = .ok (.iadd, 1) := by decide +kernel
theorem dJ6_bitCount_0f7a4_47 : decode cJ6_bitCount_0f7a4 47 = .ok (.istore_n 0, 1) := by decide +kernel
theorem dJ6_bitCount_0f7a4_48 : decode cJ6_bitCount_0f7a4 48 = .ok (.iload_n 0, 1) := by decide +kernel
theorem dJ6_bitCount_0f7a4_49 : decode cJ6_bitCount_0f7a4 49 = .ok (.bipush 63, 2) := by decide +kernel
theorem dJ6_bitCount_0f7a4_51 : decode cJ6_bitCount_0f7a4 51 = .ok (.iand, 1) := by decide +kernel
theorem dJ6_bitCount_0f7a4_52 : decode cJ6_bitCount_0f7a4 52 = .ok (.ireturn, 1) := by decide +kernel
theorem dJ9_abs_0f7a4_0 : decode cJ9_abs_0f7a4 0 = .ok (.iload_n 0, 1) := by decide +kernel
theorem dJ9_abs_0f7a4_1 : decode cJ9_abs_0f7a4 1 = .ok (.ifCond .ge 8, 3) := by decide +kernel
theorem dJ9_abs_0f7a4_4 : decode cJ9_abs_0f7a4 4 = .ok (.iload_n 0, 1) := by decide +kernel
theorem dJ9_abs_0f7a4_5 : decode cJ9_abs_0f7a4 5 = .ok (.ineg, 1) := by decide +kernel
theorem dJ9_abs_0f7a4_6 : decode cJ9_abs_0f7a4 6 = .ok (.goto 4, 3) := by decide +kernel
theorem dJ9_abs_0f7a4_9 : decode cJ9_abs_0f7a4 9 = .ok (.iload_n 0, 1) := by decide +kernel
theorem dJ9_abs_0f7a4_10 : decode cJ9_abs_0f7a4 10 = .ok (.ireturn, 1) := by decide +kernel
theorem dJ9_max_7cf53_0 : decode cJ9_max_7cf53 0 = .ok (.iload_n 0, 1) := by decide +kernel
theorem dJ9_max_7cf53_1 : decode cJ9_max_7cf53 1 = .ok (.iload_n 1, 1) := by decide +kernel
theorem dJ9_max_7cf53_2 : decode cJ9_max_7cf53 2 = .ok (.if_icmp .lt 7, 3) := by decide +kernel
theorem dJ9_max_7cf53_5 : decode cJ9_max_7cf53 5 = .ok (.iload_n 0, 1) := by decide +kernel
theorem dJ9_max_7cf53_6 : decode cJ9_max_7cf53 6 = .ok (.goto 4, 3) := by decide +kernel
theorem dJ9_max_7cf53_9 : decode cJ9_max_7cf53 9 = .ok (.iload_n 1, 1) := by decide +kernel
theorem dJ9_max_7cf53_10 : decode cJ9_max_7cf53 10 = .ok (.ireturn, 1) := by decide +kernel
theorem dJ9_min_7cf53_0 : decode cJ9_min_7cf53 0 = .ok (.iload_n 0, 1) := by decide +kernel
theorem dJ9_min_7cf53_1 : decode cJ9_min_7cf53 1 = .ok (.iload_n 1, 1) := by decide +kernel
theorem dJ9_min_7cf53_2 : decode cJ9_min_7cf53 2 = .ok (.if_icmp .gt 7, 3) := by decide +kernel
theorem dJ9_min_7cf53_5 : decode cJ9_min_7cf53 5 = .ok (.iload_n 0, 1) := by decide +kernel
theorem dJ9_min_7cf53_6 : decode cJ9_min_7cf53 6 = .ok (.goto 4, 3) := by decide +kernel
theorem dJ9_min_7cf53_9 : decode cJ9_min_7cf53 9 = .ok (.iload_n 1, 1) := by decide +kernel
theorem dJ9_min_7cf53_10 : decode cJ9_min_7cf53 10 = .ok (.ireturn, 1) := by decide +kernel
end
section
theorem dX4_init_0 : decode cX4_init 0 = .ok (.aload_n 0, 1) := by decide +kernel
theorem dX4_init_1 : decode cX4_init 1 = .ok (.invokespecial 1, 3) := by decide +kernel
theorem dX4_init_4 : decode cX4_init 4 = .ok (.aload_n 0, 1) := by decide +kernel
theorem dX4_init_5 : decode cX4_init 5 = .ok (.iconst 4, 1) := by decide +kernel
theorem dX4_init_6 : decode cX4_init 6 = .ok (.newarray .int, 2) := by decide +kernel
theorem dX4_init_8 : decode cX4_init 8 = .ok (.putfield 9, 3) := by decide +kernel
theorem dX4_init_11 : decode cX4_init 11 = .ok (.aload_n 0, 1) := by decide +kernel
theorem dX4_init_12 : decode cX4_init 12 = .ok (.bipush 64, 2) := by decide +kernel
theorem dX4_init_14 : decode cX4_init 14 = .ok (.newarray .int, 2) := by decide +kernel
theorem dX4_init_16 : decode cX4_init 16 = .ok (.putfield 13, 3) := by decide +kernel
theorem dX4_init_19 : decode cX4_init 19 = .ok (.aload_n 0, 1) := by decide +kernel
theorem dX4_init_20 : decode cX4_init 20 = .ok (.bipush 64, 2) := by decide +kernel
theorem dX4_init_22 : decode cX4_init 22 = .ok (.newarray .int, 2) := by decide +kernel
theorem dX4_init_24 : decode cX4_init 24 = .ok (.putfield 16, 3) := by decide +kernel
theorem dX4_init_27 : decode cX4_init 27 = .ok (.aload_n 0, 1) := by decide +kernel
theorem dX4_init_28 : decode cX4_init 28 = .ok (.bipush 64, 2) := by decide +kernel
theorem dX4_init_30 : decode cX4_init 30 = .ok (.newarray .int, 2) := by decide +kernel
theorem dX4_init_32 : decode cX4_init 32 = .ok (.putfield 19, 3) := by decide +kernel
theorem dX4_init_35 : decode cX4_init 35 = .ok (.aload_n 0, 1) := by decide +kernel
theorem dX4_init_36 : decode cX4_init 36 = .ok (.bipush 64, 2) := by decide +kernel
theorem dX4_init_38 : decode cX4_init 38 = .ok (.newarray .int, 2) := by decide +kernel
theorem dX4_init_40 : decode cX4_init 40 = .ok (.putfield 22, 3) := by decide +kernel
theorem dX4_init_43 : decode cX4_init 43 = .ok (.aload_n 0, 1) := by decide +kernel
theorem dX4_init_44 : decode cX4_init 44 = .ok (.bipush 64, 2) := by decide +kernel
theorem dX4_init_46 : decode cX4_init 46 = .ok (.newarray .int, 2) := by decide +kernel
theorem dX4_init_48 : decode cX4_init 48 = .ok (.putfield 25, 3) := by decide +kernel
theorem dX4_init_51 : decode cX4_init 51 = .ok (.aload_n 0, 1) := by decide +kernel
theorem dX4_init_52 : decode cX4_init 52 = .ok (.bipush 9, 2) := by decide +kernel
theorem dX4_init_54 : decode cX4_init 54 = .ok (.newarray .int, 2) := by decide +kernel
theorem dX4_init_56 : decode cX4_init 56 = .ok (.putfield 28, 3) := by decide +kernel
theorem dX4_init_59 : decode cX4_init 59 = .ok (.iconst 0, 1) := by decide +kernel
theorem dX4_init_60 : decode cX4_init 60 = .ok (.istore_n 1, 1) := by decide +kernel
theorem dX4_init_61 : decode cX4_init 61 = .ok (.iload_n 1, 1) := by decide +kernel
theorem dX4_init_62 : decode cX4_init 62 = .ok (.bipush 9, 2) := by decide +kernel
theorem dX4_init_64 : decode cX4_init 64 = .ok (.if_icmp .ge 16, 3) := by decide +kernel
theorem dX4_init_67 : decode cX4_init 67 = .ok (.aload_n 0, 1) := by decide +kernel
theorem dX4_init_68 : decode cX4_init 68 = .ok (.getfield 28, 3) := by decide +kernel
theorem dX4_init_71 : decode cX4_init 71 = .ok (.iload_n 1, 1) := by decide +kernel
theorem dX4_init_72 : decode cX4_init 72 = .ok (.iload_n 1, 1) := by decide +kernel
theorem dX4_init_73 : decode cX4_init 73 = .ok (.iastore, 1) := by decide +kernel
theorem dX4_init_74 : decode cX4_init 74 = .ok (.iinc 1 1, 3) := by decide +kernel
theorem dX4_init_77 : decode cX4_init 77 = .ok (.goto (-16), 3) := by decide +kernel
theorem dX4_init_80 : decode cX4_init 80 = .ok (.return_, 1) := by decide +kernel
theorem dX4_thrown_0 : decode cX4_thrown 0 = .ok (.aload_n 0, 1) := by decide +kernel
theorem dX4_thrown_1 : decode cX4_thrown 1 = .ok (.getfield 31, 3) := by decide +kernel
theorem dX4_thrown_4 : decode cX4_thrown 4 = .ok (.ireturn, 1) := by decide +kernel
theorem dX4_fail_0 : decode cX4_fail 0 = .ok (.aload_n 0, 1) := by decide +kernel
theorem dX4_fail_1 : decode cX4_fail 1 = .ok (.iload_n 1, 1) := by decide +kernel
theorem dX4_fail_2 : decode cX4_fail 2 = .ok (.putfield 31, 3) := by decide +kernel
theorem dX4_fail_5 : decode cX4_fail 5 = .ok (.iconst 0, 1) := by decide +kernel
theorem dX4_fail_6 : decode cX4_fail 6 = .ok (.ireturn, 1) := by decide +kernel
theorem dX4_told_0 : decode cX4_told 0 = .ok (.aload_n 0, 1) := by decide +kernel
theorem dX4_told_1 : decode cX4_told 1 = .ok (.iconst 0, 1) := by decide +kernel
theorem dX4_told_2 : decode cX4_told 2 = .ok (.putfield 31, 3) := by decide +kernel
theorem dX4_told_5 : decode cX4_told 5 = .ok (.iload_n 1, 1) := by decide +kernel
theorem dX4_told_6 : decode cX4_told 6 = .ok (.ireturn, 1) := by decide +kernel
theorem dX4_isIn_0 : decode cX4_isIn 0 = .ok (.iload_n 0, 1) := by decide +kernel
theorem dX4_isIn_1 : decode cX4_isIn 1 = .ok (.iload_n 1, 1) := by decide +kernel
theorem dX4_isIn_2 : decode cX4_isIn 2 = .ok (.if_icmp .lt 12, 3) := by decide +kernel
theorem dX4_isIn_5 : decode cX4_isIn 5 = .ok (.iload_n 0, 1) := by decide +kernel
theorem dX4_isIn_6 : decode cX4_isIn 6 = .ok (.iload_n 2, 1) := by decide +kernel
theorem dX4_isIn_7 : decode cX4_isIn 7 = .ok (.if_icmp .gt 7, 3) := by decide +kernel
theorem dX4_isIn_10 : decode cX4_isIn 10 = .ok (.iconst 1, 1) := by decide +kernel
theorem dX4_isIn_11 : decode cX4_isIn 11 = .ok (.goto 4, 3) := by decide +kernel
theorem dX4_isIn_14 : decode cX4_isIn 14 = .ok (.iconst 0, 1) := by decide +kernel
theorem dX4_isIn_15 : decode cX4_isIn 15 = .ok (.ireturn, 1) := by decide +kernel
theorem dX4_isLodge_0 : decode cX4_isLodge 0 = .ok (.iload_n 1, 1) := by decide +kernel
theorem dX4_isLodge_1 : decode cX4_isLodge 1 = .ok (.iconst 0, 1) := by decide +kernel
theorem dX4_isLodge_2 : decode cX4_isLodge 2 = .ok (.aload_n 0, 1) := by decide +kernel
theorem dX4_isLodge_3 : decode cX4_isLodge 3 = .ok (.getfield 35, 3) := by decide +kernel
theorem dX4_isLodge_6 : decode cX4_isLodge 6 = .ok (.iconst 1, 1) := by decide +kernel
theorem dX4_isLodge_7 : decode cX4_isLodge 7 = .ok (.isub, 1) := by decide +kernel
theorem dX4_isLodge_8 : decode cX4_isLodge 8 = .ok (.invokestatic 38, 3) := by decide +kernel
theorem dX4_isLodge_11 : decode cX4_isLodge 11 = .ok (.ireturn, 1) := by decide +kernel
theorem dX4_isSign_0 : decode cX4_isSign 0 = .ok (.aload_n 0, 1) := by decide +kernel
theorem dX4_isSign_1 : decode cX4_isSign 1 = .ok (.iload_n 1, 1) := by decide +kernel
theorem dX4_isSign_2 : decode cX4_isSign 2 = .ok (.invokevirtual 42, 3) := by decide +kernel
theorem dX4_isSign_5 : decode cX4_isSign 5 = .ok (.ifCond .eq 23, 3) := by decide +kernel
theorem dX4_isSign_8 : decode cX4_isSign 8 = .ok (.iload_n 2, 1) := by decide +kernel
theorem dX4_isSign_9 : decode cX4_isSign 9 = .ok (.iconst 0, 1) := by decide +kernel
theorem dX4_isSign_10 : decode cX4_isSign 10 = .ok (.aload_n 0, 1) := by decide +kernel
theorem dX4_isSign_11 : decode cX4_isSign 11 = .ok (.getfield 9, 3) := by decide +kernel
theorem dX4_isSign_14 : decode cX4_isSign 14 = .ok (.iload_n 1, 1) := by decide +kernel
theorem dX4_isSign_15 : decode cX4_isSign 15 = .ok (.iaload, 1) := by decide +kernel
theorem dX4_isSign_16 : decode cX4_isSign 16 = .ok (.iconst 1, 1) := by decide +kernel
theorem dX4_isSign_17 : decode cX4_isSign 17 = .ok (.isub, 1) := by decide +kernel
theorem dX4_isSign_18 : decode cX4_isSign 18 = .ok (.invokestatic 38, 3) := by decide +kernel
theorem dX4_isSign_21 : decode cX4_isSign 21 = .ok (.ifCond .eq 7, 3) := by decide +kernel
theorem dX4_isSign_24 : decode cX4_isSign 24 = .ok (.iconst 1, 1) := by decide +kernel
theorem dX4_isSign_25 : decode cX4_isSign 25 = .ok (.goto 4, 3) := by decide +kernel
theorem dX4_isSign_28 : decode cX4_isSign 28 = .ok (.iconst 0, 1) := by decide +kernel
theorem dX4_isSign_29 : decode cX4_isSign 29 = .ok (.ireturn, 1) := by decide +kernel
theorem dX4_isPlace_0 : decode cX4_isPlace 0 = .ok (.iload_n 0, 1) := by decide +kernel
theorem dX4_isPlace_1 : decode cX4_isPlace 1 = .ok (.iconst 0, 1) := by decide +kernel
theorem dX4_isPlace_2 : decode cX4_isPlace 2 = .ok (.bipush 8, 2) := by decide +kernel
theorem dX4_isPlace_4 : decode cX4_isPlace 4 = .ok (.invokestatic 38, 3) := by decide +kernel
theorem dX4_isPlace_7 : decode cX4_isPlace 7 = .ok (.ireturn, 1) := by decide +kernel
theorem dX4_isShown_0 : decode cX4_isShown 0 = .ok (.iload_n 0, 1) := by decide +kernel
theorem dX4_isShown_1 : decode cX4_isShown 1 = .ok (.iconst 0, 1) := by decide +kernel
theorem dX4_isShown_2 : decode cX4_isShown 2 = .ok (.bipush 15, 2) := by decide +kernel
theorem dX4_isShown_4 : decode cX4_isShown 4 = .ok (.invokestatic 38, 3) := by decide +kernel
theorem dX4_isShown_7 : decode cX4_isShown 7 = .ok (.ifCond .eq 32, 3) := by decide +kernel
theorem dX4_isShown_10 : decode cX4_isShown 10 = .ok (.iload_n 1, 1) := by decide +kernel
theorem dX4_isShown_11 : decode cX4_isShown 11 = .ok (.iconst 0, 1) := by decide +kernel
theorem dX4_isShown_12 : decode cX4_isShown 12 = .ok (.iconst 3, 1) := by decide +kernel
theorem dX4_isShown_13 : decode cX4_isShown 13 = .ok (.invokestatic 38, 3) := by decide +kernel
theorem dX4_isShown_16 : decode cX4_isShown 16 = .ok (.ifCond .eq 23, 3) := by decide +kernel
theorem dX4_isShown_19 : decode cX4_isShown 19 = .ok (.iload_n 2, 1) := by decide +kernel
theorem dX4_isShown_20 : decode cX4_isShown 20 = .ok (.invokestatic 46, 3) := by decide +kernel
theorem dX4_isShown_23 : decode cX4_isShown 23 = .ok (.ifCond .eq 16, 3) := by decide +kernel
theorem dX4_isShown_26 : decode cX4_isShown 26 = .ok (.iload_n 3, 1) := by decide +kernel
theorem dX4_isShown_27 : decode cX4_isShown 27 = .ok (.iconst 0, 1) := by decide +kernel
theorem dX4_isShown_28 : decode cX4_isShown 28 = .ok (.iconst 3, 1) := by decide +kernel
theorem dX4_isShown_29 : decode cX4_isShown 29 = .ok (.invokestatic 38, 3) := by decide +kernel
theorem dX4_isShown_32 : decode cX4_isShown 32 = .ok (.ifCond .eq 7, 3) := by decide +kernel
theorem dX4_isShown_35 : decode cX4_isShown 35 = .ok (.iconst 1, 1) := by decide +kernel
theorem dX4_isShown_36 : decode cX4_isShown 36 = .ok (.goto 4, 3) := by decide +kernel
theorem dX4_isShown_39 : decode cX4_isShown 39 = .ok (.iconst 0, 1) := by decide +kernel
theorem dX4_isShown_40 : decode cX4_isShown 40 = .ok (.ireturn, 1) := by decide +kernel
theorem dX4_at_0 : decode cX4_at 0 = .ok (.bipush 16, 2) := by decide +kernel
theorem dX4_at_2 : decode cX4_at 2 = .ok (.iload_n 0, 1) := by decide +kernel
theorem dX4_at_3 : decode cX4_at 3 = .ok (.imul, 1) := by decide +kernel
theorem dX4_at_4 : decode cX4_at 4 = .ok (.iload_n 1, 1) := by decide +kernel
theorem dX4_at_5 : decode cX4_at 5 = .ok (.iadd, 1) := by decide +kernel
theorem dX4_at_6 : decode cX4_at 6 = .ok (.ireturn, 1) := by decide +kernel
theorem dX4_stepsOf_0 : decode cX4_stepsOf 0 = .ok (.aload_n 0, 1) := by decide +kernel
theorem dX4_stepsOf_1 : decode cX4_stepsOf 1 = .ok (.getfield 28, 3) := by decide +kernel
theorem dX4_stepsOf_4 : decode cX4_stepsOf 4 = .ok (.iload_n 1, 1) := by decide +kernel
theorem dX4_stepsOf_5 : decode cX4_stepsOf 5 = .ok (.iaload, 1) := by decide +kernel
theorem dX4_stepsOf_6 : decode cX4_stepsOf 6 = .ok (.aload_n 0, 1) := by decide +kernel
theorem dX4_stepsOf_7 : decode cX4_stepsOf 7 = .ok (.getfield 28, 3) := by decide +kernel
theorem dX4_stepsOf_10 : decode cX4_stepsOf 10 = .ok (.iload_n 2, 1) := by decide +kernel
theorem dX4_stepsOf_11 : decode cX4_stepsOf 11 = .ok (.iaload, 1) := by decide +kernel
theorem dX4_stepsOf_12 : decode cX4_stepsOf 12 = .ok (.if_icmp .ne 7, 3) := by decide +kernel
theorem dX4_stepsOf_15 : decode cX4_stepsOf 15 = .ok (.iconst 0, 1) := by decide +kernel
theorem dX4_stepsOf_16 : decode cX4_stepsOf 16 = .ok (.goto 24, 3) := by decide +kernel
theorem dX4_stepsOf_19 : decode cX4_stepsOf 19 = .ok (.iload_n 1, 1) := by decide +kernel
theorem dX4_stepsOf_20 : decode cX4_stepsOf 20 = .ok (.iconst 3, 1) := by decide +kernel
theorem dX4_stepsOf_21 : decode cX4_stepsOf 21 = .ok (.idiv, 1) := by decide +kernel
theorem dX4_stepsOf_22 : decode cX4_stepsOf 22 = .ok (.iload_n 2, 1) := by decide +kernel
theorem dX4_stepsOf_23 : decode cX4_stepsOf 23 = .ok (.iconst 3, 1) := by decide +kernel
theorem dX4_stepsOf_24 : decode cX4_stepsOf 24 = .ok (.idiv, 1) := by decide +kernel
theorem dX4_stepsOf_25 : decode cX4_stepsOf 25 = .ok (.isub, 1) := by decide +kernel
theorem dX4_stepsOf_26 : decode cX4_stepsOf 26 = .ok (.invokestatic 49, 3) := by decide +kernel
theorem dX4_stepsOf_29 : decode cX4_stepsOf 29 = .ok (.iload_n 1, 1) := by decide +kernel
theorem dX4_stepsOf_30 : decode cX4_stepsOf 30 = .ok (.iconst 3, 1) := by decide +kernel
theorem dX4_stepsOf_31 : decode cX4_stepsOf 31 = .ok (.irem, 1) := by decide +kernel
theorem dX4_stepsOf_32 : decode cX4_stepsOf 32 = .ok (.iload_n 2, 1) := by decide +kernel
theorem dX4_stepsOf_33 : decode cX4_stepsOf 33 = .ok (.iconst 3, 1) := by decide +kernel
theorem dX4_stepsOf_34 : decode cX4_stepsOf 34 = .ok (.irem, 1) := by decide +kernel
theorem dX4_stepsOf_35 : decode cX4_stepsOf 35 = .ok (.isub, 1) := by decide +kernel
theorem dX4_stepsOf_36 : decode cX4_stepsOf 36 = .ok (.invokestatic 49, 3) := by decide +kernel
theorem dX4_stepsOf_39 : decode cX4_stepsOf 39 = .ok (.iadd, 1) := by decide +kernel
theorem dX4_stepsOf_40 : decode cX4_stepsOf 40 = .ok (.ireturn, 1) := by decide +kernel
theorem dX4_far_0 : decode cX4_far 0 = .ok (.aload_n 0, 1) := by decide +kernel
theorem dX4_far_1 : decode cX4_far 1 = .ok (.iload_n 3, 1) := by decide +kernel
theorem dX4_far_2 : decode cX4_far 2 = .ok (.aload_n 0, 1) := by decide +kernel
theorem dX4_far_3 : decode cX4_far 3 = .ok (.getfield 19, 3) := by decide +kernel
theorem dX4_far_6 : decode cX4_far 6 = .ok (.iload 5, 2) := by decide +kernel
theorem dX4_far_8 : decode cX4_far 8 = .ok (.iaload, 1) := by decide +kernel
theorem dX4_far_9 : decode cX4_far 9 = .ok (.invokevirtual 55, 3) := by decide +kernel
theorem dX4_far_12 : decode cX4_far 12 = .ok (.iload_n 2, 1) := by decide +kernel
theorem dX4_far_13 : decode cX4_far 13 = .ok (.aload_n 0, 1) := by decide +kernel
theorem dX4_far_14 : decode cX4_far 14 = .ok (.getfield 16, 3) := by decide +kernel
theorem dX4_far_17 : decode cX4_far 17 = .ok (.iload 5, 2) := by decide +kernel
theorem dX4_far_19 : decode cX4_far 19 = .ok (.iaload, 1) := by decide +kernel
theorem dX4_far_20 : decode cX4_far 20 = .ok (.if_icmp .ne 7, 3) := by decide +kernel
theorem dX4_far_23 : decode cX4_far 23 = .ok (.iconst 0, 1) := by decide +kernel
theorem dX4_far_24 : decode cX4_far 24 = .ok (.goto 4, 3) := by decide +kernel
theorem dX4_far_27 : decode cX4_far 27 = .ok (.iconst 1, 1) := by decide +kernel
theorem dX4_far_28 : decode cX4_far 28 = .ok (.iadd, 1) := by decide +kernel
theorem dX4_far_29 : decode cX4_far 29 = .ok (.iload 4, 2) := by decide +kernel
theorem dX4_far_31 : decode cX4_far 31 = .ok (.aload_n 0, 1) := by decide +kernel
theorem dX4_far_32 : decode cX4_far 32 = .ok (.getfield 22, 3) := by decide +kernel
theorem dX4_far_35 : decode cX4_far 35 = .ok (.iload 5, 2) := by decide +kernel
theorem dX4_far_37 : decode cX4_far 37 = .ok (.iaload, 1) := by decide +kernel
theorem dX4_far_38 : decode cX4_far 38 = .ok (.if_icmp .ne 7, 3) := by decide +kernel
theorem dX4_far_41 : decode cX4_far 41 = .ok (.iconst 0, 1) := by decide +kernel
theorem dX4_far_42 : decode cX4_far 42 = .ok (.goto 4, 3) := by decide +kernel
theorem dX4_far_45 : decode cX4_far 45 = .ok (.iconst 2, 1) := by decide +kernel
theorem dX4_far_46 : decode cX4_far 46 = .ok (.iadd, 1) := by decide +kernel
theorem dX4_far_47 : decode cX4_far 47 = .ok (.istore 6, 2) := by decide +kernel
theorem dX4_far_49 : decode cX4_far 49 = .ok (.iload_n 1, 1) := by decide +kernel
theorem dX4_far_50 : decode cX4_far 50 = .ok (.aload_n 0, 1) := by decide +kernel
theorem dX4_far_51 : decode cX4_far 51 = .ok (.getfield 13, 3) := by decide +kernel
theorem dX4_far_54 : decode cX4_far 54 = .ok (.iload 5, 2) := by decide +kernel
theorem dX4_far_56 : decode cX4_far 56 = .ok (.iaload, 1) := by decide +kernel
theorem dX4_far_57 : decode cX4_far 57 = .ok (.ixor, 1) := by decide +kernel
theorem dX4_far_58 : decode cX4_far 58 = .ok (.istore 7, 2) := by decide +kernel
theorem dX4_far_60 : decode cX4_far 60 = .ok (.iload 7, 2) := by decide +kernel
theorem dX4_far_62 : decode cX4_far 62 = .ok (.ifCond .le 21, 3) := by decide +kernel
theorem dX4_far_65 : decode cX4_far 65 = .ok (.iload 6, 2) := by decide +kernel
theorem dX4_far_67 : decode cX4_far 67 = .ok (.iload 7, 2) := by decide +kernel
theorem dX4_far_69 : decode cX4_far 69 = .ok (.iconst 2, 1) := by decide +kernel
theorem dX4_far_70 : decode cX4_far 70 = .ok (.irem, 1) := by decide +kernel
theorem dX4_far_71 : decode cX4_far 71 = .ok (.iadd, 1) := by decide +kernel
theorem dX4_far_72 : decode cX4_far 72 = .ok (.istore 6, 2) := by decide +kernel
theorem dX4_far_74 : decode cX4_far 74 = .ok (.iload 7, 2) := by decide +kernel
theorem dX4_far_76 : decode cX4_far 76 = .ok (.iconst 2, 1) := by decide +kernel
theorem dX4_far_77 : decode cX4_far 77 = .ok (.idiv, 1) := by decide +kernel
theorem dX4_far_78 : decode cX4_far 78 = .ok (.istore 7, 2) := by decide +kernel
theorem dX4_far_80 : decode cX4_far 80 = .ok (.goto (-20), 3) := by decide +kernel
theorem dX4_far_83 : decode cX4_far 83 = .ok (.iload 6, 2) := by decide +kernel
theorem dX4_far_85 : decode cX4_far 85 = .ok (.ireturn, 1) := by decide +kernel
theorem dX4_far__0 : decode cX4_far_ 0 = .ok (.aload_n 0, 1) := by decide +kernel
theorem dX4_far__1 : decode cX4_far_ 1 = .ok (.aload_n 0, 1) := by decide +kernel
theorem dX4_far__2 : decode cX4_far_ 2 = .ok (.getfield 13, 3) := by decide +kernel
theorem dX4_far__5 : decode cX4_far_ 5 = .ok (.iload_n 1, 1) := by decide +kernel
theorem dX4_far__6 : decode cX4_far_ 6 = .ok (.iaload, 1) := by decide +kernel
theorem dX4_far__7 : decode cX4_far_ 7 = .ok (.aload_n 0, 1) := by decide +kernel
theorem dX4_far__8 : decode cX4_far_ 8 = .ok (.getfield 16, 3) := by decide +kernel
theorem dX4_far__11 : decode cX4_far_ 11 = .ok (.iload_n 1, 1) := by decide +kernel
theorem dX4_far__12 : decode cX4_far_ 12 = .ok (.iaload, 1) := by decide +kernel
theorem dX4_far__13 : decode cX4_far_ 13 = .ok (.aload_n 0, 1) := by decide +kernel
theorem dX4_far__14 : decode cX4_far_ 14 = .ok (.getfield 19, 3) := by decide +kernel
theorem dX4_far__17 : decode cX4_far_ 17 = .ok (.iload_n 1, 1) := by decide +kernel
theorem dX4_far__18 : decode cX4_far_ 18 = .ok (.iaload, 1) := by decide +kernel
theorem dX4_far__19 : decode cX4_far_ 19 = .ok (.aload_n 0, 1) := by decide +kernel
theorem dX4_far__20 : decode cX4_far_ 20 = .ok (.getfield 22, 3) := by decide +kernel
theorem dX4_far__23 : decode cX4_far_ 23 = .ok (.iload_n 1, 1) := by decide +kernel
theorem dX4_far__24 : decode cX4_far_ 24 = .ok (.iaload, 1) := by decide +kernel
theorem dX4_far__25 : decode cX4_far_ 25 = .ok (.iload_n 2, 1) := by decide +kernel
theorem dX4_far__26 : decode cX4_far_ 26 = .ok (.invokevirtual 59, 3) := by decide +kernel
theorem dX4_far__29 : decode cX4_far_ 29 = .ok (.ireturn, 1) := by decide +kernel
theorem dX4_reads_0 : decode cX4_reads 0 = .ok (.iconst 4, 1) := by decide +kernel
theorem dX4_reads_1 : decode cX4_reads 1 = .ok (.istore 6, 2) := by decide +kernel
theorem dX4_reads_3 : decode cX4_reads 3 = .ok (.iconst (-1), 1) := by decide +kernel
theorem dX4_reads_4 : decode cX4_reads 4 = .ok (.istore 7, 2) := by decide +kernel
theorem dX4_reads_6 : decode cX4_reads 6 = .ok (.iload 5, 2) := by decide +kernel
theorem dX4_reads_8 : decode cX4_reads 8 = .ok (.iconst 0, 1) := by decide +kernel
theorem dX4_reads_9 : decode cX4_reads 9 = .ok (.invokestatic 63, 3) := by decide +kernel
theorem dX4_reads_12 : decode cX4_reads 12 = .ok (.istore 8, 2) := by decide +kernel
theorem dX4_reads_14 : decode cX4_reads 14 = .ok (.iload 8, 2) := by decide +kernel
theorem dX4_reads_16 : decode cX4_reads 16 = .ok (.iload 5, 2) := by decide +kernel
theorem dX4_reads_18 : decode cX4_reads 18 = .ok (.aload_n 0, 1) := by decide +kernel
theorem dX4_reads_19 : decode cX4_reads 19 = .ok (.getfield 9, 3) := by decide +kernel
theorem dX4_reads_22 : decode cX4_reads 22 = .ok (.iload 5, 2) := by decide +kernel
theorem dX4_reads_24 : decode cX4_reads 24 = .ok (.iaload, 1) := by decide +kernel
theorem dX4_reads_25 : decode cX4_reads 25 = .ok (.invokestatic 63, 3) := by decide +kernel
theorem dX4_reads_28 : decode cX4_reads 28 = .ok (.if_icmp .ge 55, 3) := by decide +kernel
theorem dX4_reads_31 : decode cX4_reads 31 = .ok (.aload_n 0, 1) := by decide +kernel
theorem dX4_reads_32 : decode cX4_reads 32 = .ok (.iload_n 1, 1) := by decide +kernel
theorem dX4_reads_33 : decode cX4_reads 33 = .ok (.iload_n 2, 1) := by decide +kernel
theorem dX4_reads_34 : decode cX4_reads 34 = .ok (.iload_n 3, 1) := by decide +kernel
theorem dX4_reads_35 : decode cX4_reads 35 = .ok (.iload 4, 2) := by decide +kernel
theorem dX4_reads_37 : decode cX4_reads 37 = .ok (.iload 8, 2) := by decide +kernel
theorem dX4_reads_39 : decode cX4_reads 39 = .ok (.invokevirtual 59, 3) := by decide +kernel
theorem dX4_reads_42 : decode cX4_reads 42 = .ok (.istore 9, 2) := by decide +kernel
theorem dX4_reads_44 : decode cX4_reads 44 = .ok (.iload 9, 2) := by decide +kernel
theorem dX4_reads_46 : decode cX4_reads 46 = .ok (.iload 6, 2) := by decide +kernel
theorem dX4_reads_48 : decode cX4_reads 48 = .ok (.if_icmp .ne 6, 3) := by decide +kernel
theorem dX4_reads_51 : decode cX4_reads 51 = .ok (.iconst (-1), 1) := by decide +kernel
theorem dX4_reads_52 : decode cX4_reads 52 = .ok (.istore 7, 2) := by decide +kernel
theorem dX4_reads_54 : decode cX4_reads 54 = .ok (.iload 9, 2) := by decide +kernel
theorem dX4_reads_56 : decode cX4_reads 56 = .ok (.iload 6, 2) := by decide +kernel
theorem dX4_reads_58 : decode cX4_reads 58 = .ok (.if_icmp .lt 6, 3) := by decide +kernel
theorem dX4_reads_61 : decode cX4_reads 61 = .ok (.goto 16, 3) := by decide +kernel
theorem dX4_reads_64 : decode cX4_reads 64 = .ok (.iload 9, 2) := by decide +kernel
theorem dX4_reads_66 : decode cX4_reads 66 = .ok (.istore 6, 2) := by decide +kernel
theorem dX4_reads_68 : decode cX4_reads 68 = .ok (.aload_n 0, 1) := by decide +kernel
theorem dX4_reads_69 : decode cX4_reads 69 = .ok (.getfield 25, 3) := by decide +kernel
theorem dX4_reads_72 : decode cX4_reads 72 = .ok (.iload 8, 2) := by decide +kernel
theorem dX4_reads_74 : decode cX4_reads 74 = .ok (.iaload, 1) := by decide +kernel
theorem dX4_reads_75 : decode cX4_reads 75 = .ok (.istore 7, 2) := by decide +kernel
theorem dX4_reads_77 : decode cX4_reads 77 = .ok (.iinc 8 1, 3) := by decide +kernel
theorem dX4_reads_80 : decode cX4_reads 80 = .ok (.goto (-66), 3) := by decide +kernel
theorem dX4_reads_83 : decode cX4_reads 83 = .ok (.iload 7, 2) := by decide +kernel
theorem dX4_reads_85 : decode cX4_reads 85 = .ok (.ireturn, 1) := by decide +kernel
theorem dX4_reads__0 : decode cX4_reads_ 0 = .ok (.aload_n 0, 1) := by decide +kernel
theorem dX4_reads__1 : decode cX4_reads_ 1 = .ok (.aload_n 0, 1) := by decide +kernel
theorem dX4_reads__2 : decode cX4_reads_ 2 = .ok (.getfield 13, 3) := by decide +kernel
theorem dX4_reads__5 : decode cX4_reads_ 5 = .ok (.iload_n 1, 1) := by decide +kernel
theorem dX4_reads__6 : decode cX4_reads_ 6 = .ok (.iaload, 1) := by decide +kernel
theorem dX4_reads__7 : decode cX4_reads_ 7 = .ok (.aload_n 0, 1) := by decide +kernel
theorem dX4_reads__8 : decode cX4_reads_ 8 = .ok (.getfield 16, 3) := by decide +kernel
theorem dX4_reads__11 : decode cX4_reads_ 11 = .ok (.iload_n 1, 1) := by decide +kernel
theorem dX4_reads__12 : decode cX4_reads_ 12 = .ok (.iaload, 1) := by decide +kernel
theorem dX4_reads__13 : decode cX4_reads_ 13 = .ok (.aload_n 0, 1) := by decide +kernel
theorem dX4_reads__14 : decode cX4_reads_ 14 = .ok (.getfield 19, 3) := by decide +kernel
theorem dX4_reads__17 : decode cX4_reads_ 17 = .ok (.iload_n 1, 1) := by decide +kernel
theorem dX4_reads__18 : decode cX4_reads_ 18 = .ok (.iaload, 1) := by decide +kernel
theorem dX4_reads__19 : decode cX4_reads_ 19 = .ok (.aload_n 0, 1) := by decide +kernel
theorem dX4_reads__20 : decode cX4_reads_ 20 = .ok (.getfield 22, 3) := by decide +kernel
theorem dX4_reads__23 : decode cX4_reads_ 23 = .ok (.iload_n 1, 1) := by decide +kernel
theorem dX4_reads__24 : decode cX4_reads_ 24 = .ok (.iaload, 1) := by decide +kernel
theorem dX4_reads__25 : decode cX4_reads_ 25 = .ok (.iload_n 2, 1) := by decide +kernel
theorem dX4_reads__26 : decode cX4_reads_ 26 = .ok (.invokevirtual 66, 3) := by decide +kernel
theorem dX4_reads__29 : decode cX4_reads_ 29 = .ok (.ireturn, 1) := by decide +kernel
theorem dX4_signOf_0 : decode cX4_signOf 0 = .ok (.iconst 0, 1) := by decide +kernel
theorem dX4_signOf_1 : decode cX4_signOf 1 = .ok (.istore_n 3, 1) := by decide +kernel
theorem dX4_signOf_2 : decode cX4_signOf 2 = .ok (.iload_n 3, 1) := by decide +kernel
theorem dX4_signOf_3 : decode cX4_signOf 3 = .ok (.aload_n 0, 1) := by decide +kernel
theorem dX4_signOf_4 : decode cX4_signOf 4 = .ok (.getfield 9, 3) := by decide +kernel
theorem dX4_signOf_7 : decode cX4_signOf 7 = .ok (.iload_n 1, 1) := by decide +kernel
theorem dX4_signOf_8 : decode cX4_signOf 8 = .ok (.iaload, 1) := by decide +kernel
theorem dX4_signOf_9 : decode cX4_signOf 9 = .ok (.if_icmp .ge 25, 3) := by decide +kernel
theorem dX4_signOf_12 : decode cX4_signOf 12 = .ok (.aload_n 0, 1) := by decide +kernel
theorem dX4_signOf_13 : decode cX4_signOf 13 = .ok (.getfield 25, 3) := by decide +kernel
theorem dX4_signOf_16 : decode cX4_signOf 16 = .ok (.iload_n 1, 1) := by decide +kernel
theorem dX4_signOf_17 : decode cX4_signOf 17 = .ok (.iload_n 3, 1) := by decide +kernel
theorem dX4_signOf_18 : decode cX4_signOf 18 = .ok (.invokestatic 63, 3) := by decide +kernel
theorem dX4_signOf_21 : decode cX4_signOf 21 = .ok (.iaload, 1) := by decide +kernel
theorem dX4_signOf_22 : decode cX4_signOf 22 = .ok (.iload_n 2, 1) := by decide +kernel
theorem dX4_signOf_23 : decode cX4_signOf 23 = .ok (.if_icmp .ne 5, 3) := by decide +kernel
theorem dX4_signOf_26 : decode cX4_signOf 26 = .ok (.iload_n 3, 1) := by decide +kernel
theorem dX4_signOf_27 : decode cX4_signOf 27 = .ok (.ireturn, 1) := by decide +kernel
theorem dX4_signOf_28 : decode cX4_signOf 28 = .ok (.iinc 3 1, 3) := by decide +kernel
theorem dX4_signOf_31 : decode cX4_signOf 31 = .ok (.goto (-29), 3) := by decide +kernel
theorem dX4_signOf_34 : decode cX4_signOf 34 = .ok (.iconst (-1), 1) := by decide +kernel
theorem dX4_signOf_35 : decode cX4_signOf 35 = .ok (.ireturn, 1) := by decide +kernel
theorem dX4_write_0 : decode cX4_write 0 = .ok (.iload_n 1, 1) := by decide +kernel
theorem dX4_write_1 : decode cX4_write 1 = .ok (.aload_n 0, 1) := by decide +kernel
theorem dX4_write_2 : decode cX4_write 2 = .ok (.getfield 9, 3) := by decide +kernel
theorem dX4_write_5 : decode cX4_write 5 = .ok (.iload_n 1, 1) := by decide +kernel
theorem dX4_write_6 : decode cX4_write 6 = .ok (.iaload, 1) := by decide +kernel
theorem dX4_write_7 : decode cX4_write 7 = .ok (.invokestatic 63, 3) := by decide +kernel
theorem dX4_write_10 : decode cX4_write 10 = .ok (.istore 7, 2) := by decide +kernel
theorem dX4_write_12 : decode cX4_write 12 = .ok (.aload_n 0, 1) := by decide +kernel
theorem dX4_write_13 : decode cX4_write 13 = .ok (.getfield 13, 3) := by decide +kernel
theorem dX4_write_16 : decode cX4_write 16 = .ok (.iload 7, 2) := by decide +kernel
theorem dX4_write_18 : decode cX4_write 18 = .ok (.iload_n 2, 1) := by decide +kernel
theorem dX4_write_19 : decode cX4_write 19 = .ok (.iastore, 1) := by decide +kernel
theorem dX4_write_20 : decode cX4_write 20 = .ok (.aload_n 0, 1) := by decide +kernel
theorem dX4_write_21 : decode cX4_write 21 = .ok (.getfield 16, 3) := by decide +kernel
theorem dX4_write_24 : decode cX4_write 24 = .ok (.iload 7, 2) := by decide +kernel
theorem dX4_write_26 : decode cX4_write 26 = .ok (.iload_n 3, 1) := by decide +kernel
theorem dX4_write_27 : decode cX4_write 27 = .ok (.iastore, 1) := by decide +kernel
theorem dX4_write_28 : decode cX4_write 28 = .ok (.aload_n 0, 1) := by decide +kernel
theorem dX4_write_29 : decode cX4_write 29 = .ok (.getfield 19, 3) := by decide +kernel
theorem dX4_write_32 : decode cX4_write 32 = .ok (.iload 7, 2) := by decide +kernel
theorem dX4_write_34 : decode cX4_write 34 = .ok (.iload 4, 2) := by decide +kernel
theorem dX4_write_36 : decode cX4_write 36 = .ok (.iastore, 1) := by decide +kernel
theorem dX4_write_37 : decode cX4_write 37 = .ok (.aload_n 0, 1) := by decide +kernel
theorem dX4_write_38 : decode cX4_write 38 = .ok (.getfield 22, 3) := by decide +kernel
theorem dX4_write_41 : decode cX4_write 41 = .ok (.iload 7, 2) := by decide +kernel
theorem dX4_write_43 : decode cX4_write 43 = .ok (.iload 5, 2) := by decide +kernel
theorem dX4_write_45 : decode cX4_write 45 = .ok (.iastore, 1) := by decide +kernel
theorem dX4_write_46 : decode cX4_write 46 = .ok (.aload_n 0, 1) := by decide +kernel
theorem dX4_write_47 : decode cX4_write 47 = .ok (.getfield 25, 3) := by decide +kernel
theorem dX4_write_50 : decode cX4_write 50 = .ok (.iload 7, 2) := by decide +kernel
theorem dX4_write_52 : decode cX4_write 52 = .ok (.iload 6, 2) := by decide +kernel
theorem dX4_write_54 : decode cX4_write 54 = .ok (.iastore, 1) := by decide +kernel
theorem dX4_write_55 : decode cX4_write 55 = .ok (.aload_n 0, 1) := by decide +kernel
theorem dX4_write_56 : decode cX4_write 56 = .ok (.getfield 9, 3) := by decide +kernel
theorem dX4_write_59 : decode cX4_write 59 = .ok (.iload_n 1, 1) := by decide +kernel
theorem dX4_write_60 : decode cX4_write 60 = .ok (.dup2, 1) := by decide +kernel
theorem dX4_write_61 : decode cX4_write 61 = .ok (.iaload, 1) := by decide +kernel
theorem dX4_write_62 : decode cX4_write 62 = .ok (.iconst 1, 1) := by decide +kernel
theorem dX4_write_63 : decode cX4_write 63 = .ok (.iadd, 1) := by decide +kernel
theorem dX4_write_64 : decode cX4_write 64 = .ok (.iastore, 1) := by decide +kernel
theorem dX4_write_65 : decode cX4_write 65 = .ok (.return_, 1) := by decide +kernel
theorem dX4_thumbFor_0 : decode cX4_thumbFor 0 = .ok (.aload_n 0, 1) := by decide +kernel
theorem dX4_thumbFor_1 : decode cX4_thumbFor 1 = .ok (.getfield 9, 3) := by decide +kernel
theorem dX4_thumbFor_4 : decode cX4_thumbFor 4 = .ok (.iload_n 2, 1) := by decide +kernel
theorem dX4_thumbFor_5 : decode cX4_thumbFor 5 = .ok (.iaload, 1) := by decide +kernel
theorem dX4_thumbFor_6 : decode cX4_thumbFor 6 = .ok (.bipush 16, 2) := by decide +kernel
theorem dX4_thumbFor_8 : decode cX4_thumbFor 8 = .ok (.if_icmp .eq 18, 3) := by decide +kernel
theorem dX4_thumbFor_11 : decode cX4_thumbFor 11 = .ok (.aload_n 0, 1) := by decide +kernel
theorem dX4_thumbFor_12 : decode cX4_thumbFor 12 = .ok (.iload_n 2, 1) := by decide +kernel
theorem dX4_thumbFor_13 : decode cX4_thumbFor 13 = .ok (.aload_n 0, 1) := by decide +kernel
theorem dX4_thumbFor_14 : decode cX4_thumbFor 14 = .ok (.getfield 25, 3) := by decide +kernel
theorem dX4_thumbFor_17 : decode cX4_thumbFor 17 = .ok (.iload_n 1, 1) := by decide +kernel
theorem dX4_thumbFor_18 : decode cX4_thumbFor 18 = .ok (.iaload, 1) := by decide +kernel
theorem dX4_thumbFor_19 : decode cX4_thumbFor 19 = .ok (.invokevirtual 69, 3) := by decide +kernel
theorem dX4_thumbFor_22 : decode cX4_thumbFor 22 = .ok (.iconst (-1), 1) := by decide +kernel
theorem dX4_thumbFor_23 : decode cX4_thumbFor 23 = .ok (.if_icmp .eq 5, 3) := by decide +kernel
theorem dX4_thumbFor_26 : decode cX4_thumbFor 26 = .ok (.iconst (-1), 1) := by decide +kernel
theorem dX4_thumbFor_27 : decode cX4_thumbFor 27 = .ok (.ireturn, 1) := by decide +kernel
theorem dX4_thumbFor_28 : decode cX4_thumbFor 28 = .ok (.iconst 0, 1) := by decide +kernel
theorem dX4_thumbFor_29 : decode cX4_thumbFor 29 = .ok (.istore_n 3, 1) := by decide +kernel
theorem dX4_thumbFor_30 : decode cX4_thumbFor 30 = .ok (.iload_n 3, 1) := by decide +kernel
theorem dX4_thumbFor_31 : decode cX4_thumbFor 31 = .ok (.iconst 4, 1) := by decide +kernel
theorem dX4_thumbFor_32 : decode cX4_thumbFor 32 = .ok (.if_icmp .ge 101, 3) := by decide +kernel
theorem dX4_thumbFor_35 : decode cX4_thumbFor 35 = .ok (.aload_n 0, 1) := by decide +kernel
theorem dX4_thumbFor_36 : decode cX4_thumbFor 36 = .ok (.getfield 16, 3) := by decide +kernel
theorem dX4_thumbFor_39 : decode cX4_thumbFor 39 = .ok (.iload_n 1, 1) := by decide +kernel
theorem dX4_thumbFor_40 : decode cX4_thumbFor 40 = .ok (.iaload, 1) := by decide +kernel
theorem dX4_thumbFor_41 : decode cX4_thumbFor 41 = .ok (.iload_n 3, 1) := by decide +kernel
theorem dX4_thumbFor_42 : decode cX4_thumbFor 42 = .ok (.iadd, 1) := by decide +kernel
theorem dX4_thumbFor_43 : decode cX4_thumbFor 43 = .ok (.iconst 4, 1) := by decide +kernel
theorem dX4_thumbFor_44 : decode cX4_thumbFor 44 = .ok (.irem, 1) := by decide +kernel
theorem dX4_thumbFor_45 : decode cX4_thumbFor 45 = .ok (.istore 4, 2) := by decide +kernel
theorem dX4_thumbFor_47 : decode cX4_thumbFor 47 = .ok (.iconst 1, 1) := by decide +kernel
theorem dX4_thumbFor_48 : decode cX4_thumbFor 48 = .ok (.istore 5, 2) := by decide +kernel
theorem dX4_thumbFor_50 : decode cX4_thumbFor 50 = .ok (.iload_n 2, 1) := by decide +kernel
theorem dX4_thumbFor_51 : decode cX4_thumbFor 51 = .ok (.iconst 0, 1) := by decide +kernel
theorem dX4_thumbFor_52 : decode cX4_thumbFor 52 = .ok (.invokestatic 63, 3) := by decide +kernel
theorem dX4_thumbFor_55 : decode cX4_thumbFor 55 = .ok (.istore 6, 2) := by decide +kernel
theorem dX4_thumbFor_57 : decode cX4_thumbFor 57 = .ok (.iload 6, 2) := by decide +kernel
theorem dX4_thumbFor_59 : decode cX4_thumbFor 59 = .ok (.iload_n 2, 1) := by decide +kernel
theorem dX4_thumbFor_60 : decode cX4_thumbFor 60 = .ok (.aload_n 0, 1) := by decide +kernel
theorem dX4_thumbFor_61 : decode cX4_thumbFor 61 = .ok (.getfield 9, 3) := by decide +kernel
theorem dX4_thumbFor_64 : decode cX4_thumbFor 64 = .ok (.iload_n 2, 1) := by decide +kernel
theorem dX4_thumbFor_65 : decode cX4_thumbFor 65 = .ok (.iaload, 1) := by decide +kernel
theorem dX4_thumbFor_66 : decode cX4_thumbFor 66 = .ok (.invokestatic 63, 3) := by decide +kernel
theorem dX4_thumbFor_69 : decode cX4_thumbFor 69 = .ok (.if_icmp .ge 50, 3) := by decide +kernel
theorem dX4_thumbFor_72 : decode cX4_thumbFor 72 = .ok (.iload 5, 2) := by decide +kernel
theorem dX4_thumbFor_74 : decode cX4_thumbFor 74 = .ok (.ifCond .eq 36, 3) := by decide +kernel
theorem dX4_thumbFor_77 : decode cX4_thumbFor 77 = .ok (.aload_n 0, 1) := by decide +kernel
theorem dX4_thumbFor_78 : decode cX4_thumbFor 78 = .ok (.aload_n 0, 1) := by decide +kernel
theorem dX4_thumbFor_79 : decode cX4_thumbFor 79 = .ok (.getfield 13, 3) := by decide +kernel
theorem dX4_thumbFor_82 : decode cX4_thumbFor 82 = .ok (.iload_n 1, 1) := by decide +kernel
theorem dX4_thumbFor_83 : decode cX4_thumbFor 83 = .ok (.iaload, 1) := by decide +kernel
theorem dX4_thumbFor_84 : decode cX4_thumbFor 84 = .ok (.iload 4, 2) := by decide +kernel
theorem dX4_thumbFor_86 : decode cX4_thumbFor 86 = .ok (.aload_n 0, 1) := by decide +kernel
theorem dX4_thumbFor_87 : decode cX4_thumbFor 87 = .ok (.getfield 19, 3) := by decide +kernel
theorem dX4_thumbFor_90 : decode cX4_thumbFor 90 = .ok (.iload_n 1, 1) := by decide +kernel
theorem dX4_thumbFor_91 : decode cX4_thumbFor 91 = .ok (.iaload, 1) := by decide +kernel
theorem dX4_thumbFor_92 : decode cX4_thumbFor 92 = .ok (.aload_n 0, 1) := by decide +kernel
theorem dX4_thumbFor_93 : decode cX4_thumbFor 93 = .ok (.getfield 22, 3) := by decide +kernel
theorem dX4_thumbFor_96 : decode cX4_thumbFor 96 = .ok (.iload_n 1, 1) := by decide +kernel
theorem dX4_thumbFor_97 : decode cX4_thumbFor 97 = .ok (.iaload, 1) := by decide +kernel
theorem dX4_thumbFor_98 : decode cX4_thumbFor 98 = .ok (.iload 6, 2) := by decide +kernel
theorem dX4_thumbFor_100 : decode cX4_thumbFor 100 = .ok (.invokevirtual 59, 3) := by decide +kernel
theorem dX4_thumbFor_103 : decode cX4_thumbFor 103 = .ok (.ifCond .le 7, 3) := by decide +kernel
theorem dX4_thumbFor_106 : decode cX4_thumbFor 106 = .ok (.iconst 1, 1) := by decide +kernel
theorem dX4_thumbFor_107 : decode cX4_thumbFor 107 = .ok (.goto 4, 3) := by decide +kernel
theorem dX4_thumbFor_110 : decode cX4_thumbFor 110 = .ok (.iconst 0, 1) := by decide +kernel
theorem dX4_thumbFor_111 : decode cX4_thumbFor 111 = .ok (.istore 5, 2) := by decide +kernel
theorem dX4_thumbFor_113 : decode cX4_thumbFor 113 = .ok (.iinc 6 1, 3) := by decide +kernel
theorem dX4_thumbFor_116 : decode cX4_thumbFor 116 = .ok (.goto (-59), 3) := by decide +kernel
theorem dX4_thumbFor_119 : decode cX4_thumbFor 119 = .ok (.iload 5, 2) := by decide +kernel
theorem dX4_thumbFor_121 : decode cX4_thumbFor 121 = .ok (.ifCond .eq 6, 3) := by decide +kernel
theorem dX4_thumbFor_124 : decode cX4_thumbFor 124 = .ok (.iload 4, 2) := by decide +kernel
theorem dX4_thumbFor_126 : decode cX4_thumbFor 126 = .ok (.ireturn, 1) := by decide +kernel
theorem dX4_thumbFor_127 : decode cX4_thumbFor 127 = .ok (.iinc 3 1, 3) := by decide +kernel
theorem dX4_thumbFor_130 : decode cX4_thumbFor 130 = .ok (.goto (-100), 3) := by decide +kernel
theorem dX4_thumbFor_133 : decode cX4_thumbFor 133 = .ok (.iconst (-1), 1) := by decide +kernel
theorem dX4_thumbFor_134 : decode cX4_thumbFor 134 = .ok (.ireturn, 1) := by decide +kernel
theorem dX4_alike_0 : decode cX4_alike 0 = .ok (.iconst 0, 1) := by decide +kernel
theorem dX4_alike_1 : decode cX4_alike 1 = .ok (.istore_n 2, 1) := by decide +kernel
theorem dX4_alike_2 : decode cX4_alike 2 = .ok (.iload_n 1, 1) := by decide +kernel
theorem dX4_alike_3 : decode cX4_alike 3 = .ok (.iconst 0, 1) := by decide +kernel
theorem dX4_alike_4 : decode cX4_alike 4 = .ok (.invokestatic 63, 3) := by decide +kernel
theorem dX4_alike_7 : decode cX4_alike 7 = .ok (.istore_n 3, 1) := by decide +kernel
theorem dX4_alike_8 : decode cX4_alike 8 = .ok (.iload_n 3, 1) := by decide +kernel
theorem dX4_alike_9 : decode cX4_alike 9 = .ok (.iload_n 1, 1) := by decide +kernel
theorem dX4_alike_10 : decode cX4_alike 10 = .ok (.aload_n 0, 1) := by decide +kernel
theorem dX4_alike_11 : decode cX4_alike 11 = .ok (.getfield 9, 3) := by decide +kernel
theorem dX4_alike_14 : decode cX4_alike 14 = .ok (.iload_n 1, 1) := by decide +kernel
theorem dX4_alike_15 : decode cX4_alike 15 = .ok (.iaload, 1) := by decide +kernel
theorem dX4_alike_16 : decode cX4_alike 16 = .ok (.invokestatic 63, 3) := by decide +kernel
theorem dX4_alike_19 : decode cX4_alike 19 = .ok (.if_icmp .ge 46, 3) := by decide +kernel
theorem dX4_alike_22 : decode cX4_alike 22 = .ok (.iload_n 1, 1) := by decide +kernel
theorem dX4_alike_23 : decode cX4_alike 23 = .ok (.iconst 0, 1) := by decide +kernel
theorem dX4_alike_24 : decode cX4_alike 24 = .ok (.invokestatic 63, 3) := by decide +kernel
theorem dX4_alike_27 : decode cX4_alike 27 = .ok (.istore 4, 2) := by decide +kernel
theorem dX4_alike_29 : decode cX4_alike 29 = .ok (.iload 4, 2) := by decide +kernel
theorem dX4_alike_31 : decode cX4_alike 31 = .ok (.iload_n 3, 1) := by decide +kernel
theorem dX4_alike_32 : decode cX4_alike 32 = .ok (.if_icmp .ge 27, 3) := by decide +kernel
theorem dX4_alike_35 : decode cX4_alike 35 = .ok (.iload_n 2, 1) := by decide +kernel
theorem dX4_alike_36 : decode cX4_alike 36 = .ok (.aload_n 0, 1) := by decide +kernel
theorem dX4_alike_37 : decode cX4_alike 37 = .ok (.iload_n 3, 1) := by decide +kernel
theorem dX4_alike_38 : decode cX4_alike 38 = .ok (.iload 4, 2) := by decide +kernel
theorem dX4_alike_40 : decode cX4_alike 40 = .ok (.invokevirtual 72, 3) := by decide +kernel
theorem dX4_alike_43 : decode cX4_alike 43 = .ok (.ifCond .ne 7, 3) := by decide +kernel
theorem dX4_alike_46 : decode cX4_alike 46 = .ok (.iconst 1, 1) := by decide +kernel
theorem dX4_alike_47 : decode cX4_alike 47 = .ok (.goto 4, 3) := by decide +kernel
theorem dX4_alike_50 : decode cX4_alike 50 = .ok (.iconst 0, 1) := by decide +kernel
theorem dX4_alike_51 : decode cX4_alike 51 = .ok (.iadd, 1) := by decide +kernel
theorem dX4_alike_52 : decode cX4_alike 52 = .ok (.istore_n 2, 1) := by decide +kernel
theorem dX4_alike_53 : decode cX4_alike 53 = .ok (.iinc 4 1, 3) := by decide +kernel
theorem dX4_alike_56 : decode cX4_alike 56 = .ok (.goto (-27), 3) := by decide +kernel
theorem dX4_alike_59 : decode cX4_alike 59 = .ok (.iinc 3 1, 3) := by decide +kernel
theorem dX4_alike_62 : decode cX4_alike 62 = .ok (.goto (-54), 3) := by decide +kernel
theorem dX4_alike_65 : decode cX4_alike 65 = .ok (.iload_n 2, 1) := by decide +kernel
theorem dX4_alike_66 : decode cX4_alike 66 = .ok (.ireturn, 1) := by decide +kernel
theorem dX4_readAs_0 : decode cX4_readAs 0 = .ok (.iconst 0, 1) := by decide +kernel
theorem dX4_readAs_1 : decode cX4_readAs 1 = .ok (.istore 4, 2) := by decide +kernel
theorem dX4_readAs_3 : decode cX4_readAs 3 = .ok (.iload_n 1, 1) := by decide +kernel
theorem dX4_readAs_4 : decode cX4_readAs 4 = .ok (.iconst 0, 1) := by decide +kernel
theorem dX4_readAs_5 : decode cX4_readAs 5 = .ok (.invokestatic 63, 3) := by decide +kernel
theorem dX4_readAs_8 : decode cX4_readAs 8 = .ok (.istore 5, 2) := by decide +kernel
theorem dX4_readAs_10 : decode cX4_readAs 10 = .ok (.iload 5, 2) := by decide +kernel
theorem dX4_readAs_12 : decode cX4_readAs 12 = .ok (.iload_n 1, 1) := by decide +kernel
theorem dX4_readAs_13 : decode cX4_readAs 13 = .ok (.aload_n 0, 1) := by decide +kernel
theorem dX4_readAs_14 : decode cX4_readAs 14 = .ok (.getfield 9, 3) := by decide +kernel
theorem dX4_readAs_17 : decode cX4_readAs 17 = .ok (.iload_n 1, 1) := by decide +kernel
theorem dX4_readAs_18 : decode cX4_readAs 18 = .ok (.iaload, 1) := by decide +kernel
theorem dX4_readAs_19 : decode cX4_readAs 19 = .ok (.invokestatic 63, 3) := by decide +kernel
theorem dX4_readAs_22 : decode cX4_readAs 22 = .ok (.if_icmp .ge 55, 3) := by decide +kernel
theorem dX4_readAs_25 : decode cX4_readAs 25 = .ok (.aload_n 0, 1) := by decide +kernel
theorem dX4_readAs_26 : decode cX4_readAs 26 = .ok (.iload 5, 2) := by decide +kernel
theorem dX4_readAs_28 : decode cX4_readAs 28 = .ok (.iload_n 2, 1) := by decide +kernel
theorem dX4_readAs_29 : decode cX4_readAs 29 = .ok (.invokevirtual 74, 3) := by decide +kernel
theorem dX4_readAs_32 : decode cX4_readAs 32 = .ok (.istore 6, 2) := by decide +kernel
theorem dX4_readAs_34 : decode cX4_readAs 34 = .ok (.iload 4, 2) := by decide +kernel
theorem dX4_readAs_36 : decode cX4_readAs 36 = .ok (.iload 6, 2) := by decide +kernel
theorem dX4_readAs_38 : decode cX4_readAs 38 = .ok (.iconst (-1), 1) := by decide +kernel
theorem dX4_readAs_39 : decode cX4_readAs 39 = .ok (.if_icmp .eq 28, 3) := by decide +kernel
theorem dX4_readAs_42 : decode cX4_readAs 42 = .ok (.iload 6, 2) := by decide +kernel
theorem dX4_readAs_44 : decode cX4_readAs 44 = .ok (.aload_n 0, 1) := by decide +kernel
theorem dX4_readAs_45 : decode cX4_readAs 45 = .ok (.getfield 25, 3) := by decide +kernel
theorem dX4_readAs_48 : decode cX4_readAs 48 = .ok (.iload 5, 2) := by decide +kernel
theorem dX4_readAs_50 : decode cX4_readAs 50 = .ok (.iaload, 1) := by decide +kernel
theorem dX4_readAs_51 : decode cX4_readAs 51 = .ok (.if_icmp .ne 7, 3) := by decide +kernel
theorem dX4_readAs_54 : decode cX4_readAs 54 = .ok (.iconst 1, 1) := by decide +kernel
theorem dX4_readAs_55 : decode cX4_readAs 55 = .ok (.goto 4, 3) := by decide +kernel
theorem dX4_readAs_58 : decode cX4_readAs 58 = .ok (.iconst 0, 1) := by decide +kernel
theorem dX4_readAs_59 : decode cX4_readAs 59 = .ok (.iload_n 3, 1) := by decide +kernel
theorem dX4_readAs_60 : decode cX4_readAs 60 = .ok (.if_icmp .ne 7, 3) := by decide +kernel
theorem dX4_readAs_63 : decode cX4_readAs 63 = .ok (.iconst 1, 1) := by decide +kernel
theorem dX4_readAs_64 : decode cX4_readAs 64 = .ok (.goto 4, 3) := by decide +kernel
theorem dX4_readAs_67 : decode cX4_readAs 67 = .ok (.iconst 0, 1) := by decide +kernel
theorem dX4_readAs_68 : decode cX4_readAs 68 = .ok (.iadd, 1) := by decide +kernel
theorem dX4_readAs_69 : decode cX4_readAs 69 = .ok (.istore 4, 2) := by decide +kernel
theorem dX4_readAs_71 : decode cX4_readAs 71 = .ok (.iinc 5 1, 3) := by decide +kernel
theorem dX4_readAs_74 : decode cX4_readAs 74 = .ok (.goto (-64), 3) := by decide +kernel
theorem dX4_readAs_77 : decode cX4_readAs 77 = .ok (.iload 4, 2) := by decide +kernel
theorem dX4_readAs_79 : decode cX4_readAs 79 = .ok (.ireturn, 1) := by decide +kernel
theorem dX4_addLodge_0 : decode cX4_addLodge 0 = .ok (.aload_n 0, 1) := by decide +kernel
theorem dX4_addLodge_1 : decode cX4_addLodge 1 = .ok (.iconst 0, 1) := by decide +kernel
theorem dX4_addLodge_2 : decode cX4_addLodge 2 = .ok (.putfield 31, 3) := by decide +kernel
theorem dX4_addLodge_5 : decode cX4_addLodge 5 = .ok (.aload_n 0, 1) := by decide +kernel
theorem dX4_addLodge_6 : decode cX4_addLodge 6 = .ok (.getfield 35, 3) := by decide +kernel
theorem dX4_addLodge_9 : decode cX4_addLodge 9 = .ok (.iconst 4, 1) := by decide +kernel
theorem dX4_addLodge_10 : decode cX4_addLodge 10 = .ok (.if_icmp .ne 9, 3) := by decide +kernel
theorem dX4_addLodge_13 : decode cX4_addLodge 13 = .ok (.aload_n 0, 1) := by decide +kernel
theorem dX4_addLodge_14 : decode cX4_addLodge 14 = .ok (.iconst 1, 1) := by decide +kernel
theorem dX4_addLodge_15 : decode cX4_addLodge 15 = .ok (.invokevirtual 76, 3) := by decide +kernel
theorem dX4_addLodge_18 : decode cX4_addLodge 18 = .ok (.ireturn, 1) := by decide +kernel
theorem dX4_addLodge_19 : decode cX4_addLodge 19 = .ok (.aload_n 0, 1) := by decide +kernel
theorem dX4_addLodge_20 : decode cX4_addLodge 20 = .ok (.dup, 1) := by decide +kernel
theorem dX4_addLodge_21 : decode cX4_addLodge 21 = .ok (.getfield 35, 3) := by decide +kernel
theorem dX4_addLodge_24 : decode cX4_addLodge 24 = .ok (.iconst 1, 1) := by decide +kernel
theorem dX4_addLodge_25 : decode cX4_addLodge 25 = .ok (.iadd, 1) := by decide +kernel
theorem dX4_addLodge_26 : decode cX4_addLodge 26 = .ok (.putfield 35, 3) := by decide +kernel
theorem dX4_addLodge_29 : decode cX4_addLodge 29 = .ok (.aload_n 0, 1) := by decide +kernel
theorem dX4_addLodge_30 : decode cX4_addLodge 30 = .ok (.getfield 35, 3) := by decide +kernel
theorem dX4_addLodge_33 : decode cX4_addLodge 33 = .ok (.iconst 1, 1) := by decide +kernel
theorem dX4_addLodge_34 : decode cX4_addLodge 34 = .ok (.isub, 1) := by decide +kernel
theorem dX4_addLodge_35 : decode cX4_addLodge 35 = .ok (.ireturn, 1) := by decide +kernel
theorem dX4_addSign_0 : decode cX4_addSign 0 = .ok (.aload_n 0, 1) := by decide +kernel
theorem dX4_addSign_1 : decode cX4_addSign 1 = .ok (.iconst 0, 1) := by decide +kernel
theorem dX4_addSign_2 : decode cX4_addSign 2 = .ok (.putfield 31, 3) := by decide +kernel
theorem dX4_addSign_5 : decode cX4_addSign 5 = .ok (.aload_n 0, 1) := by decide +kernel
theorem dX4_addSign_6 : decode cX4_addSign 6 = .ok (.iload_n 1, 1) := by decide +kernel
theorem dX4_addSign_7 : decode cX4_addSign 7 = .ok (.invokevirtual 42, 3) := by decide +kernel
theorem dX4_addSign_10 : decode cX4_addSign 10 = .ok (.ifCond .ne 9, 3) := by decide +kernel
theorem dX4_addSign_13 : decode cX4_addSign 13 = .ok (.aload_n 0, 1) := by decide +kernel
theorem dX4_addSign_14 : decode cX4_addSign 14 = .ok (.iconst 1, 1) := by decide +kernel
theorem dX4_addSign_15 : decode cX4_addSign 15 = .ok (.invokevirtual 76, 3) := by decide +kernel
theorem dX4_addSign_18 : decode cX4_addSign 18 = .ok (.ireturn, 1) := by decide +kernel
theorem dX4_addSign_19 : decode cX4_addSign 19 = .ok (.iload_n 2, 1) := by decide +kernel
theorem dX4_addSign_20 : decode cX4_addSign 20 = .ok (.iload_n 3, 1) := by decide +kernel
theorem dX4_addSign_21 : decode cX4_addSign 21 = .ok (.iload 4, 2) := by decide +kernel
theorem dX4_addSign_23 : decode cX4_addSign 23 = .ok (.iload 5, 2) := by decide +kernel
theorem dX4_addSign_25 : decode cX4_addSign 25 = .ok (.invokestatic 79, 3) := by decide +kernel
theorem dX4_addSign_28 : decode cX4_addSign 28 = .ok (.ifCond .eq 14, 3) := by decide +kernel
theorem dX4_addSign_31 : decode cX4_addSign 31 = .ok (.iload 6, 2) := by decide +kernel
theorem dX4_addSign_33 : decode cX4_addSign 33 = .ok (.iconst 0, 1) := by decide +kernel
theorem dX4_addSign_34 : decode cX4_addSign 34 = .ok (.bipush 29, 2) := by decide +kernel
theorem dX4_addSign_36 : decode cX4_addSign 36 = .ok (.invokestatic 38, 3) := by decide +kernel
theorem dX4_addSign_39 : decode cX4_addSign 39 = .ok (.ifCond .ne 9, 3) := by decide +kernel
theorem dX4_addSign_42 : decode cX4_addSign 42 = .ok (.aload_n 0, 1) := by decide +kernel
theorem dX4_addSign_43 : decode cX4_addSign 43 = .ok (.iconst 2, 1) := by decide +kernel
theorem dX4_addSign_44 : decode cX4_addSign 44 = .ok (.invokevirtual 76, 3) := by decide +kernel
theorem dX4_addSign_47 : decode cX4_addSign 47 = .ok (.ireturn, 1) := by decide +kernel
theorem dX4_addSign_48 : decode cX4_addSign 48 = .ok (.aload_n 0, 1) := by decide +kernel
theorem dX4_addSign_49 : decode cX4_addSign 49 = .ok (.getfield 9, 3) := by decide +kernel
theorem dX4_addSign_52 : decode cX4_addSign 52 = .ok (.iload_n 1, 1) := by decide +kernel
theorem dX4_addSign_53 : decode cX4_addSign 53 = .ok (.iaload, 1) := by decide +kernel
theorem dX4_addSign_54 : decode cX4_addSign 54 = .ok (.bipush 16, 2) := by decide +kernel
theorem dX4_addSign_56 : decode cX4_addSign 56 = .ok (.if_icmp .eq 14, 3) := by decide +kernel
theorem dX4_addSign_59 : decode cX4_addSign 59 = .ok (.aload_n 0, 1) := by decide +kernel
theorem dX4_addSign_60 : decode cX4_addSign 60 = .ok (.iload_n 1, 1) := by decide +kernel
theorem dX4_addSign_61 : decode cX4_addSign 61 = .ok (.iload 6, 2) := by decide +kernel
theorem dX4_addSign_63 : decode cX4_addSign 63 = .ok (.invokevirtual 69, 3) := by decide +kernel
theorem dX4_addSign_66 : decode cX4_addSign 66 = .ok (.iconst (-1), 1) := by decide +kernel
theorem dX4_addSign_67 : decode cX4_addSign 67 = .ok (.if_icmp .eq 9, 3) := by decide +kernel
theorem dX4_addSign_70 : decode cX4_addSign 70 = .ok (.aload_n 0, 1) := by decide +kernel
theorem dX4_addSign_71 : decode cX4_addSign 71 = .ok (.iconst 3, 1) := by decide +kernel
theorem dX4_addSign_72 : decode cX4_addSign 72 = .ok (.invokevirtual 76, 3) := by decide +kernel
theorem dX4_addSign_75 : decode cX4_addSign 75 = .ok (.ireturn, 1) := by decide +kernel
theorem dX4_addSign_76 : decode cX4_addSign 76 = .ok (.aload_n 0, 1) := by decide +kernel
theorem dX4_addSign_77 : decode cX4_addSign 77 = .ok (.iload_n 1, 1) := by decide +kernel
theorem dX4_addSign_78 : decode cX4_addSign 78 = .ok (.iload_n 2, 1) := by decide +kernel
theorem dX4_addSign_79 : decode cX4_addSign 79 = .ok (.iload_n 3, 1) := by decide +kernel
theorem dX4_addSign_80 : decode cX4_addSign 80 = .ok (.iload 4, 2) := by decide +kernel
theorem dX4_addSign_82 : decode cX4_addSign 82 = .ok (.iload 5, 2) := by decide +kernel
theorem dX4_addSign_84 : decode cX4_addSign 84 = .ok (.iload 6, 2) := by decide +kernel
theorem dX4_addSign_86 : decode cX4_addSign 86 = .ok (.invokevirtual 83, 3) := by decide +kernel
theorem dX4_addSign_89 : decode cX4_addSign 89 = .ok (.aload_n 0, 1) := by decide +kernel
theorem dX4_addSign_90 : decode cX4_addSign 90 = .ok (.getfield 9, 3) := by decide +kernel
theorem dX4_addSign_93 : decode cX4_addSign 93 = .ok (.iload_n 1, 1) := by decide +kernel
theorem dX4_addSign_94 : decode cX4_addSign 94 = .ok (.iaload, 1) := by decide +kernel
theorem dX4_addSign_95 : decode cX4_addSign 95 = .ok (.iconst 1, 1) := by decide +kernel
theorem dX4_addSign_96 : decode cX4_addSign 96 = .ok (.isub, 1) := by decide +kernel
theorem dX4_addSign_97 : decode cX4_addSign 97 = .ok (.ireturn, 1) := by decide +kernel
theorem dX4_close_0 : decode cX4_close 0 = .ok (.iload_n 1, 1) := by decide +kernel
theorem dX4_close_1 : decode cX4_close 1 = .ok (.istore_n 3, 1) := by decide +kernel
theorem dX4_close_2 : decode cX4_close 2 = .ok (.iload_n 3, 1) := by decide +kernel
theorem dX4_close_3 : decode cX4_close 3 = .ok (.iload_n 2, 1) := by decide +kernel
theorem dX4_close_4 : decode cX4_close 4 = .ok (.if_icmp .ge 17, 3) := by decide +kernel
theorem dX4_close_7 : decode cX4_close 7 = .ok (.aload_n 0, 1) := by decide +kernel
theorem dX4_close_8 : decode cX4_close 8 = .ok (.iload_n 3, 1) := by decide +kernel
theorem dX4_close_9 : decode cX4_close 9 = .ok (.aload_n 0, 1) := by decide +kernel
theorem dX4_close_10 : decode cX4_close 10 = .ok (.iload_n 3, 1) := by decide +kernel
theorem dX4_close_11 : decode cX4_close 11 = .ok (.iconst 1, 1) := by decide +kernel
theorem dX4_close_12 : decode cX4_close 12 = .ok (.iadd, 1) := by decide +kernel
theorem dX4_close_13 : decode cX4_close 13 = .ok (.iaload, 1) := by decide +kernel
theorem dX4_close_14 : decode cX4_close 14 = .ok (.iastore, 1) := by decide +kernel
theorem dX4_close_15 : decode cX4_close 15 = .ok (.iinc 3 1, 3) := by decide +kernel
theorem dX4_close_18 : decode cX4_close 18 = .ok (.goto (-16), 3) := by decide +kernel
theorem dX4_close_21 : decode cX4_close 21 = .ok (.return_, 1) := by decide +kernel
theorem dX4_forget_0 : decode cX4_forget 0 = .ok (.aload_n 0, 1) := by decide +kernel
theorem dX4_forget_1 : decode cX4_forget 1 = .ok (.iconst 0, 1) := by decide +kernel
theorem dX4_forget_2 : decode cX4_forget 2 = .ok (.putfield 31, 3) := by decide +kernel
theorem dX4_forget_5 : decode cX4_forget 5 = .ok (.aload_n 0, 1) := by decide +kernel
theorem dX4_forget_6 : decode cX4_forget 6 = .ok (.iload_n 1, 1) := by decide +kernel
theorem dX4_forget_7 : decode cX4_forget 7 = .ok (.iload_n 2, 1) := by decide +kernel
theorem dX4_forget_8 : decode cX4_forget 8 = .ok (.invokevirtual 87, 3) := by decide +kernel
theorem dX4_forget_11 : decode cX4_forget 11 = .ok (.ifCond .ne 9, 3) := by decide +kernel
theorem dX4_forget_14 : decode cX4_forget 14 = .ok (.aload_n 0, 1) := by decide +kernel
theorem dX4_forget_15 : decode cX4_forget 15 = .ok (.iconst 1, 1) := by decide +kernel
theorem dX4_forget_16 : decode cX4_forget 16 = .ok (.invokevirtual 76, 3) := by decide +kernel
theorem dX4_forget_19 : decode cX4_forget 19 = .ok (.ireturn, 1) := by decide +kernel
theorem dX4_forget_20 : decode cX4_forget 20 = .ok (.aload_n 0, 1) := by decide +kernel
theorem dX4_forget_21 : decode cX4_forget 21 = .ok (.getfield 25, 3) := by decide +kernel
theorem dX4_forget_24 : decode cX4_forget 24 = .ok (.iload_n 1, 1) := by decide +kernel
theorem dX4_forget_25 : decode cX4_forget 25 = .ok (.iload_n 2, 1) := by decide +kernel
theorem dX4_forget_26 : decode cX4_forget 26 = .ok (.invokestatic 63, 3) := by decide +kernel
theorem dX4_forget_29 : decode cX4_forget 29 = .ok (.iaload, 1) := by decide +kernel
theorem dX4_forget_30 : decode cX4_forget 30 = .ok (.istore_n 3, 1) := by decide +kernel
theorem dX4_forget_31 : decode cX4_forget 31 = .ok (.iload_n 1, 1) := by decide +kernel
theorem dX4_forget_32 : decode cX4_forget 32 = .ok (.aload_n 0, 1) := by decide +kernel
theorem dX4_forget_33 : decode cX4_forget 33 = .ok (.getfield 9, 3) := by decide +kernel
theorem dX4_forget_36 : decode cX4_forget 36 = .ok (.iload_n 1, 1) := by decide +kernel
theorem dX4_forget_37 : decode cX4_forget 37 = .ok (.iaload, 1) := by decide +kernel
theorem dX4_forget_38 : decode cX4_forget 38 = .ok (.iconst 1, 1) := by decide +kernel
theorem dX4_forget_39 : decode cX4_forget 39 = .ok (.isub, 1) := by decide +kernel
theorem dX4_forget_40 : decode cX4_forget 40 = .ok (.invokestatic 63, 3) := by decide +kernel
theorem dX4_forget_43 : decode cX4_forget 43 = .ok (.istore 4, 2) := by decide +kernel
theorem dX4_forget_45 : decode cX4_forget 45 = .ok (.aload_n 0, 1) := by decide +kernel
theorem dX4_forget_46 : decode cX4_forget 46 = .ok (.getfield 13, 3) := by decide +kernel
theorem dX4_forget_49 : decode cX4_forget 49 = .ok (.iload_n 1, 1) := by decide +kernel
theorem dX4_forget_50 : decode cX4_forget 50 = .ok (.iload_n 2, 1) := by decide +kernel
theorem dX4_forget_51 : decode cX4_forget 51 = .ok (.invokestatic 63, 3) := by decide +kernel
theorem dX4_forget_54 : decode cX4_forget 54 = .ok (.iload 4, 2) := by decide +kernel
theorem dX4_forget_56 : decode cX4_forget 56 = .ok (.invokestatic 91, 3) := by decide +kernel
theorem dX4_forget_59 : decode cX4_forget 59 = .ok (.aload_n 0, 1) := by decide +kernel
theorem dX4_forget_60 : decode cX4_forget 60 = .ok (.getfield 16, 3) := by decide +kernel
theorem dX4_forget_63 : decode cX4_forget 63 = .ok (.iload_n 1, 1) := by decide +kernel
theorem dX4_forget_64 : decode cX4_forget 64 = .ok (.iload_n 2, 1) := by decide +kernel
theorem dX4_forget_65 : decode cX4_forget 65 = .ok (.invokestatic 63, 3) := by decide +kernel
theorem dX4_forget_68 : decode cX4_forget 68 = .ok (.iload 4, 2) := by decide +kernel
theorem dX4_forget_70 : decode cX4_forget 70 = .ok (.invokestatic 91, 3) := by decide +kernel
theorem dX4_forget_73 : decode cX4_forget 73 = .ok (.aload_n 0, 1) := by decide +kernel
theorem dX4_forget_74 : decode cX4_forget 74 = .ok (.getfield 19, 3) := by decide +kernel
theorem dX4_forget_77 : decode cX4_forget 77 = .ok (.iload_n 1, 1) := by decide +kernel
theorem dX4_forget_78 : decode cX4_forget 78 = .ok (.iload_n 2, 1) := by decide +kernel
theorem dX4_forget_79 : decode cX4_forget 79 = .ok (.invokestatic 63, 3) := by decide +kernel
theorem dX4_forget_82 : decode cX4_forget 82 = .ok (.iload 4, 2) := by decide +kernel
theorem dX4_forget_84 : decode cX4_forget 84 = .ok (.invokestatic 91, 3) := by decide +kernel
theorem dX4_forget_87 : decode cX4_forget 87 = .ok (.aload_n 0, 1) := by decide +kernel
theorem dX4_forget_88 : decode cX4_forget 88 = .ok (.getfield 22, 3) := by decide +kernel
theorem dX4_forget_91 : decode cX4_forget 91 = .ok (.iload_n 1, 1) := by decide +kernel
theorem dX4_forget_92 : decode cX4_forget 92 = .ok (.iload_n 2, 1) := by decide +kernel
theorem dX4_forget_93 : decode cX4_forget 93 = .ok (.invokestatic 63, 3) := by decide +kernel
theorem dX4_forget_96 : decode cX4_forget 96 = .ok (.iload 4, 2) := by decide +kernel
theorem dX4_forget_98 : decode cX4_forget 98 = .ok (.invokestatic 91, 3) := by decide +kernel
theorem dX4_forget_101 : decode cX4_forget 101 = .ok (.aload_n 0, 1) := by decide +kernel
theorem dX4_forget_102 : decode cX4_forget 102 = .ok (.getfield 25, 3) := by decide +kernel
theorem dX4_forget_105 : decode cX4_forget 105 = .ok (.iload_n 1, 1) := by decide +kernel
theorem dX4_forget_106 : decode cX4_forget 106 = .ok (.iload_n 2, 1) := by decide +kernel
theorem dX4_forget_107 : decode cX4_forget 107 = .ok (.invokestatic 63, 3) := by decide +kernel
theorem dX4_forget_110 : decode cX4_forget 110 = .ok (.iload 4, 2) := by decide +kernel
theorem dX4_forget_112 : decode cX4_forget 112 = .ok (.invokestatic 91, 3) := by decide +kernel
theorem dX4_forget_115 : decode cX4_forget 115 = .ok (.aload_n 0, 1) := by decide +kernel
theorem dX4_forget_116 : decode cX4_forget 116 = .ok (.getfield 9, 3) := by decide +kernel
theorem dX4_forget_119 : decode cX4_forget 119 = .ok (.iload_n 1, 1) := by decide +kernel
theorem dX4_forget_120 : decode cX4_forget 120 = .ok (.dup2, 1) := by decide +kernel
theorem dX4_forget_121 : decode cX4_forget 121 = .ok (.iaload, 1) := by decide +kernel
theorem dX4_forget_122 : decode cX4_forget 122 = .ok (.iconst 1, 1) := by decide +kernel
theorem dX4_forget_123 : decode cX4_forget 123 = .ok (.isub, 1) := by decide +kernel
theorem dX4_forget_124 : decode cX4_forget 124 = .ok (.iastore, 1) := by decide +kernel
theorem dX4_forget_125 : decode cX4_forget 125 = .ok (.iload_n 3, 1) := by decide +kernel
theorem dX4_forget_126 : decode cX4_forget 126 = .ok (.ireturn, 1) := by decide +kernel
theorem dX4_setThumb_0 : decode cX4_setThumb 0 = .ok (.aload_n 0, 1) := by decide +kernel
theorem dX4_setThumb_1 : decode cX4_setThumb 1 = .ok (.iconst 0, 1) := by decide +kernel
theorem dX4_setThumb_2 : decode cX4_setThumb 2 = .ok (.putfield 31, 3) := by decide +kernel
theorem dX4_setThumb_5 : decode cX4_setThumb 5 = .ok (.aload_n 0, 1) := by decide +kernel
theorem dX4_setThumb_6 : decode cX4_setThumb 6 = .ok (.iload_n 1, 1) := by decide +kernel
theorem dX4_setThumb_7 : decode cX4_setThumb 7 = .ok (.iload_n 2, 1) := by decide +kernel
theorem dX4_setThumb_8 : decode cX4_setThumb 8 = .ok (.invokevirtual 87, 3) := by decide +kernel
theorem dX4_setThumb_11 : decode cX4_setThumb 11 = .ok (.ifCond .ne 9, 3) := by decide +kernel
theorem dX4_setThumb_14 : decode cX4_setThumb 14 = .ok (.aload_n 0, 1) := by decide +kernel
theorem dX4_setThumb_15 : decode cX4_setThumb 15 = .ok (.iconst 1, 1) := by decide +kernel
theorem dX4_setThumb_16 : decode cX4_setThumb 16 = .ok (.invokevirtual 76, 3) := by decide +kernel
theorem dX4_setThumb_19 : decode cX4_setThumb 19 = .ok (.ireturn, 1) := by decide +kernel
theorem dX4_setThumb_20 : decode cX4_setThumb 20 = .ok (.iload_n 3, 1) := by decide +kernel
theorem dX4_setThumb_21 : decode cX4_setThumb 21 = .ok (.iconst 0, 1) := by decide +kernel
theorem dX4_setThumb_22 : decode cX4_setThumb 22 = .ok (.iconst 3, 1) := by decide +kernel
theorem dX4_setThumb_23 : decode cX4_setThumb 23 = .ok (.invokestatic 38, 3) := by decide +kernel
theorem dX4_setThumb_26 : decode cX4_setThumb 26 = .ok (.ifCond .ne 9, 3) := by decide +kernel
theorem dX4_setThumb_29 : decode cX4_setThumb 29 = .ok (.aload_n 0, 1) := by decide +kernel
theorem dX4_setThumb_30 : decode cX4_setThumb 30 = .ok (.iconst 2, 1) := by decide +kernel
theorem dX4_setThumb_31 : decode cX4_setThumb 31 = .ok (.invokevirtual 76, 3) := by decide +kernel
theorem dX4_setThumb_34 : decode cX4_setThumb 34 = .ok (.ireturn, 1) := by decide +kernel
theorem dX4_setThumb_35 : decode cX4_setThumb 35 = .ok (.aload_n 0, 1) := by decide +kernel
theorem dX4_setThumb_36 : decode cX4_setThumb 36 = .ok (.getfield 16, 3) := by decide +kernel
theorem dX4_setThumb_39 : decode cX4_setThumb 39 = .ok (.iload_n 1, 1) := by decide +kernel
theorem dX4_setThumb_40 : decode cX4_setThumb 40 = .ok (.iload_n 2, 1) := by decide +kernel
theorem dX4_setThumb_41 : decode cX4_setThumb 41 = .ok (.invokestatic 63, 3) := by decide +kernel
theorem dX4_setThumb_44 : decode cX4_setThumb 44 = .ok (.iaload, 1) := by decide +kernel
theorem dX4_setThumb_45 : decode cX4_setThumb 45 = .ok (.istore 4, 2) := by decide +kernel
theorem dX4_setThumb_47 : decode cX4_setThumb 47 = .ok (.aload_n 0, 1) := by decide +kernel
theorem dX4_setThumb_48 : decode cX4_setThumb 48 = .ok (.getfield 16, 3) := by decide +kernel
theorem dX4_setThumb_51 : decode cX4_setThumb 51 = .ok (.iload_n 1, 1) := by decide +kernel
theorem dX4_setThumb_52 : decode cX4_setThumb 52 = .ok (.iload_n 2, 1) := by decide +kernel
theorem dX4_setThumb_53 : decode cX4_setThumb 53 = .ok (.invokestatic 63, 3) := by decide +kernel
theorem dX4_setThumb_56 : decode cX4_setThumb 56 = .ok (.iload_n 3, 1) := by decide +kernel
theorem dX4_setThumb_57 : decode cX4_setThumb 57 = .ok (.iastore, 1) := by decide +kernel
theorem dX4_setThumb_58 : decode cX4_setThumb 58 = .ok (.iload 4, 2) := by decide +kernel
theorem dX4_setThumb_60 : decode cX4_setThumb 60 = .ok (.ireturn, 1) := by decide +kernel
theorem dX4_allGroups_0 : decode cX4_allGroups 0 = .ok (.iconst 0, 1) := by decide +kernel
theorem dX4_allGroups_1 : decode cX4_allGroups 1 = .ok (.istore_n 1, 1) := by decide +kernel
theorem dX4_allGroups_2 : decode cX4_allGroups 2 = .ok (.iconst 0, 1) := by decide +kernel
theorem dX4_allGroups_3 : decode cX4_allGroups 3 = .ok (.istore_n 2, 1) := by decide +kernel
theorem dX4_allGroups_4 : decode cX4_allGroups 4 = .ok (.iload_n 2, 1) := by decide +kernel
theorem dX4_allGroups_5 : decode cX4_allGroups 5 = .ok (.bipush 9, 2) := by decide +kernel
theorem dX4_allGroups_7 : decode cX4_allGroups 7 = .ok (.if_icmp .ge 27, 3) := by decide +kernel
theorem dX4_allGroups_10 : decode cX4_allGroups 10 = .ok (.iload_n 1, 1) := by decide +kernel
theorem dX4_allGroups_11 : decode cX4_allGroups 11 = .ok (.aload_n 0, 1) := by decide +kernel
theorem dX4_allGroups_12 : decode cX4_allGroups 12 = .ok (.getfield 28, 3) := by decide +kernel
theorem dX4_allGroups_15 : decode cX4_allGroups 15 = .ok (.iload_n 2, 1) := by decide +kernel
theorem dX4_allGroups_16 : decode cX4_allGroups 16 = .ok (.iaload, 1) := by decide +kernel
theorem dX4_allGroups_17 : decode cX4_allGroups 17 = .ok (.iload_n 2, 1) := by decide +kernel
theorem dX4_allGroups_18 : decode cX4_allGroups 18 = .ok (.if_icmp .ne 7, 3) := by decide +kernel
theorem dX4_allGroups_21 : decode cX4_allGroups 21 = .ok (.iconst 1, 1) := by decide +kernel
theorem dX4_allGroups_22 : decode cX4_allGroups 22 = .ok (.goto 4, 3) := by decide +kernel
theorem dX4_allGroups_25 : decode cX4_allGroups 25 = .ok (.iconst 0, 1) := by decide +kernel
theorem dX4_allGroups_26 : decode cX4_allGroups 26 = .ok (.iadd, 1) := by decide +kernel
theorem dX4_allGroups_27 : decode cX4_allGroups 27 = .ok (.istore_n 1, 1) := by decide +kernel
theorem dX4_allGroups_28 : decode cX4_allGroups 28 = .ok (.iinc 2 1, 3) := by decide +kernel
theorem dX4_allGroups_31 : decode cX4_allGroups 31 = .ok (.goto (-27), 3) := by decide +kernel
theorem dX4_allGroups_34 : decode cX4_allGroups 34 = .ok (.iload_n 1, 1) := by decide +kernel
theorem dX4_allGroups_35 : decode cX4_allGroups 35 = .ok (.ireturn, 1) := by decide +kernel
theorem dX4_joinNow_0 : decode cX4_joinNow 0 = .ok (.aload_n 0, 1) := by decide +kernel
theorem dX4_joinNow_1 : decode cX4_joinNow 1 = .ok (.getfield 28, 3) := by decide +kernel
theorem dX4_joinNow_4 : decode cX4_joinNow 4 = .ok (.iload_n 1, 1) := by decide +kernel
theorem dX4_joinNow_5 : decode cX4_joinNow 5 = .ok (.iaload, 1) := by decide +kernel
theorem dX4_joinNow_6 : decode cX4_joinNow 6 = .ok (.aload_n 0, 1) := by decide +kernel
theorem dX4_joinNow_7 : decode cX4_joinNow 7 = .ok (.getfield 28, 3) := by decide +kernel
theorem dX4_joinNow_10 : decode cX4_joinNow 10 = .ok (.iload_n 2, 1) := by decide +kernel
theorem dX4_joinNow_11 : decode cX4_joinNow 11 = .ok (.iaload, 1) := by decide +kernel
theorem dX4_joinNow_12 : decode cX4_joinNow 12 = .ok (.invokestatic 95, 3) := by decide +kernel
theorem dX4_joinNow_15 : decode cX4_joinNow 15 = .ok (.istore_n 3, 1) := by decide +kernel
theorem dX4_joinNow_16 : decode cX4_joinNow 16 = .ok (.aload_n 0, 1) := by decide +kernel
theorem dX4_joinNow_17 : decode cX4_joinNow 17 = .ok (.getfield 28, 3) := by decide +kernel
theorem dX4_joinNow_20 : decode cX4_joinNow 20 = .ok (.iload_n 1, 1) := by decide +kernel
theorem dX4_joinNow_21 : decode cX4_joinNow 21 = .ok (.iaload, 1) := by decide +kernel
theorem dX4_joinNow_22 : decode cX4_joinNow 22 = .ok (.aload_n 0, 1) := by decide +kernel
theorem dX4_joinNow_23 : decode cX4_joinNow 23 = .ok (.getfield 28, 3) := by decide +kernel
theorem dX4_joinNow_26 : decode cX4_joinNow 26 = .ok (.iload_n 2, 1) := by decide +kernel
theorem dX4_joinNow_27 : decode cX4_joinNow 27 = .ok (.iaload, 1) := by decide +kernel
theorem dX4_joinNow_28 : decode cX4_joinNow 28 = .ok (.invokestatic 98, 3) := by decide +kernel
theorem dX4_joinNow_31 : decode cX4_joinNow 31 = .ok (.istore 4, 2) := by decide +kernel
theorem dX4_joinNow_33 : decode cX4_joinNow 33 = .ok (.iconst 0, 1) := by decide +kernel
theorem dX4_joinNow_34 : decode cX4_joinNow 34 = .ok (.istore 5, 2) := by decide +kernel
theorem dX4_joinNow_36 : decode cX4_joinNow 36 = .ok (.iload 5, 2) := by decide +kernel
theorem dX4_joinNow_38 : decode cX4_joinNow 38 = .ok (.bipush 9, 2) := by decide +kernel
theorem dX4_joinNow_40 : decode cX4_joinNow 40 = .ok (.if_icmp .ge 29, 3) := by decide +kernel
theorem dX4_joinNow_43 : decode cX4_joinNow 43 = .ok (.aload_n 0, 1) := by decide +kernel
theorem dX4_joinNow_44 : decode cX4_joinNow 44 = .ok (.getfield 28, 3) := by decide +kernel
theorem dX4_joinNow_47 : decode cX4_joinNow 47 = .ok (.iload 5, 2) := by decide +kernel
theorem dX4_joinNow_49 : decode cX4_joinNow 49 = .ok (.iaload, 1) := by decide +kernel
theorem dX4_joinNow_50 : decode cX4_joinNow 50 = .ok (.iload 4, 2) := by decide +kernel
theorem dX4_joinNow_52 : decode cX4_joinNow 52 = .ok (.if_icmp .ne 11, 3) := by decide +kernel
theorem dX4_joinNow_55 : decode cX4_joinNow 55 = .ok (.aload_n 0, 1) := by decide +kernel
theorem dX4_joinNow_56 : decode cX4_joinNow 56 = .ok (.getfield 28, 3) := by decide +kernel
theorem dX4_joinNow_59 : decode cX4_joinNow 59 = .ok (.iload 5, 2) := by decide +kernel
theorem dX4_joinNow_61 : decode cX4_joinNow 61 = .ok (.iload_n 3, 1) := by decide +kernel
theorem dX4_joinNow_62 : decode cX4_joinNow 62 = .ok (.iastore, 1) := by decide +kernel
theorem dX4_joinNow_63 : decode cX4_joinNow 63 = .ok (.iinc 5 1, 3) := by decide +kernel
theorem dX4_joinNow_66 : decode cX4_joinNow 66 = .ok (.goto (-30), 3) := by decide +kernel
theorem dX4_joinNow_69 : decode cX4_joinNow 69 = .ok (.return_, 1) := by decide +kernel
theorem dX4_join_0 : decode cX4_join 0 = .ok (.aload_n 0, 1) := by decide +kernel
theorem dX4_join_1 : decode cX4_join 1 = .ok (.iconst 0, 1) := by decide +kernel
theorem dX4_join_2 : decode cX4_join 2 = .ok (.putfield 31, 3) := by decide +kernel
theorem dX4_join_5 : decode cX4_join 5 = .ok (.iload_n 1, 1) := by decide +kernel
theorem dX4_join_6 : decode cX4_join 6 = .ok (.invokestatic 46, 3) := by decide +kernel
theorem dX4_join_9 : decode cX4_join 9 = .ok (.ifCond .eq 10, 3) := by decide +kernel
theorem dX4_join_12 : decode cX4_join 12 = .ok (.iload_n 2, 1) := by decide +kernel
theorem dX4_join_13 : decode cX4_join 13 = .ok (.invokestatic 46, 3) := by decide +kernel
theorem dX4_join_16 : decode cX4_join 16 = .ok (.ifCond .ne 9, 3) := by decide +kernel
theorem dX4_join_19 : decode cX4_join 19 = .ok (.aload_n 0, 1) := by decide +kernel
theorem dX4_join_20 : decode cX4_join 20 = .ok (.iconst 1, 1) := by decide +kernel
theorem dX4_join_21 : decode cX4_join 21 = .ok (.invokevirtual 76, 3) := by decide +kernel
theorem dX4_join_24 : decode cX4_join 24 = .ok (.ireturn, 1) := by decide +kernel
theorem dX4_join_25 : decode cX4_join 25 = .ok (.aload_n 0, 1) := by decide +kernel
theorem dX4_join_26 : decode cX4_join 26 = .ok (.iload_n 1, 1) := by decide +kernel
theorem dX4_join_27 : decode cX4_join 27 = .ok (.iload_n 2, 1) := by decide +kernel
theorem dX4_join_28 : decode cX4_join 28 = .ok (.invokevirtual 101, 3) := by decide +kernel
theorem dX4_join_31 : decode cX4_join 31 = .ok (.aload_n 0, 1) := by decide +kernel
theorem dX4_join_32 : decode cX4_join 32 = .ok (.invokevirtual 105, 3) := by decide +kernel
theorem dX4_join_35 : decode cX4_join 35 = .ok (.ireturn, 1) := by decide +kernel
theorem dX4_borrow_0 : decode cX4_borrow 0 = .ok (.aload_n 0, 1) := by decide +kernel
theorem dX4_borrow_1 : decode cX4_borrow 1 = .ok (.iconst 0, 1) := by decide +kernel
theorem dX4_borrow_2 : decode cX4_borrow 2 = .ok (.putfield 31, 3) := by decide +kernel
theorem dX4_borrow_5 : decode cX4_borrow 5 = .ok (.aload_n 0, 1) := by decide +kernel
theorem dX4_borrow_6 : decode cX4_borrow 6 = .ok (.iload_n 3, 1) := by decide +kernel
theorem dX4_borrow_7 : decode cX4_borrow 7 = .ok (.invokevirtual 42, 3) := by decide +kernel
theorem dX4_borrow_10 : decode cX4_borrow 10 = .ok (.ifCond .eq 12, 3) := by decide +kernel
theorem dX4_borrow_13 : decode cX4_borrow 13 = .ok (.aload_n 0, 1) := by decide +kernel
theorem dX4_borrow_14 : decode cX4_borrow 14 = .ok (.iload_n 1, 1) := by decide +kernel
theorem dX4_borrow_15 : decode cX4_borrow 15 = .ok (.iload_n 2, 1) := by decide +kernel
theorem dX4_borrow_16 : decode cX4_borrow 16 = .ok (.invokevirtual 87, 3) := by decide +kernel
theorem dX4_borrow_19 : decode cX4_borrow 19 = .ok (.ifCond .ne 9, 3) := by decide +kernel
theorem dX4_borrow_22 : decode cX4_borrow 22 = .ok (.aload_n 0, 1) := by decide +kernel
theorem dX4_borrow_23 : decode cX4_borrow 23 = .ok (.iconst 1, 1) := by decide +kernel
theorem dX4_borrow_24 : decode cX4_borrow 24 = .ok (.invokevirtual 76, 3) := by decide +kernel
theorem dX4_borrow_27 : decode cX4_borrow 27 = .ok (.ireturn, 1) := by decide +kernel
theorem dX4_borrow_28 : decode cX4_borrow 28 = .ok (.iload_n 1, 1) := by decide +kernel
theorem dX4_borrow_29 : decode cX4_borrow 29 = .ok (.iload_n 3, 1) := by decide +kernel
theorem dX4_borrow_30 : decode cX4_borrow 30 = .ok (.if_icmp .ne 9, 3) := by decide +kernel
theorem dX4_borrow_33 : decode cX4_borrow 33 = .ok (.aload_n 0, 1) := by decide +kernel
theorem dX4_borrow_34 : decode cX4_borrow 34 = .ok (.iconst 2, 1) := by decide +kernel
theorem dX4_borrow_35 : decode cX4_borrow 35 = .ok (.invokevirtual 76, 3) := by decide +kernel
theorem dX4_borrow_38 : decode cX4_borrow 38 = .ok (.ireturn, 1) := by decide +kernel
theorem dX4_borrow_39 : decode cX4_borrow 39 = .ok (.iload_n 1, 1) := by decide +kernel
theorem dX4_borrow_40 : decode cX4_borrow 40 = .ok (.iload_n 2, 1) := by decide +kernel
theorem dX4_borrow_41 : decode cX4_borrow 41 = .ok (.invokestatic 63, 3) := by decide +kernel
theorem dX4_borrow_44 : decode cX4_borrow 44 = .ok (.istore 4, 2) := by decide +kernel
theorem dX4_borrow_46 : decode cX4_borrow 46 = .ok (.aload_n 0, 1) := by decide +kernel
theorem dX4_borrow_47 : decode cX4_borrow 47 = .ok (.iload 4, 2) := by decide +kernel
theorem dX4_borrow_49 : decode cX4_borrow 49 = .ok (.iload_n 3, 1) := by decide +kernel
theorem dX4_borrow_50 : decode cX4_borrow 50 = .ok (.invokevirtual 109, 3) := by decide +kernel
theorem dX4_borrow_53 : decode cX4_borrow 53 = .ok (.istore 5, 2) := by decide +kernel
theorem dX4_borrow_55 : decode cX4_borrow 55 = .ok (.iload 5, 2) := by decide +kernel
theorem dX4_borrow_57 : decode cX4_borrow 57 = .ok (.iconst (-1), 1) := by decide +kernel
theorem dX4_borrow_58 : decode cX4_borrow 58 = .ok (.if_icmp .ne 9, 3) := by decide +kernel
theorem dX4_borrow_61 : decode cX4_borrow 61 = .ok (.aload_n 0, 1) := by decide +kernel
theorem dX4_borrow_62 : decode cX4_borrow 62 = .ok (.iconst 3, 1) := by decide +kernel
theorem dX4_borrow_63 : decode cX4_borrow 63 = .ok (.invokevirtual 76, 3) := by decide +kernel
theorem dX4_borrow_66 : decode cX4_borrow 66 = .ok (.ireturn, 1) := by decide +kernel
theorem dX4_borrow_67 : decode cX4_borrow 67 = .ok (.aload_n 0, 1) := by decide +kernel
theorem dX4_borrow_68 : decode cX4_borrow 68 = .ok (.iload_n 3, 1) := by decide +kernel
theorem dX4_borrow_69 : decode cX4_borrow 69 = .ok (.aload_n 0, 1) := by decide +kernel
theorem dX4_borrow_70 : decode cX4_borrow 70 = .ok (.getfield 13, 3) := by decide +kernel
theorem dX4_borrow_73 : decode cX4_borrow 73 = .ok (.iload 4, 2) := by decide +kernel
theorem dX4_borrow_75 : decode cX4_borrow 75 = .ok (.iaload, 1) := by decide +kernel
theorem dX4_borrow_76 : decode cX4_borrow 76 = .ok (.iload 5, 2) := by decide +kernel
theorem dX4_borrow_78 : decode cX4_borrow 78 = .ok (.aload_n 0, 1) := by decide +kernel
theorem dX4_borrow_79 : decode cX4_borrow 79 = .ok (.getfield 19, 3) := by decide +kernel
theorem dX4_borrow_82 : decode cX4_borrow 82 = .ok (.iload 4, 2) := by decide +kernel
theorem dX4_borrow_84 : decode cX4_borrow 84 = .ok (.iaload, 1) := by decide +kernel
theorem dX4_borrow_85 : decode cX4_borrow 85 = .ok (.aload_n 0, 1) := by decide +kernel
theorem dX4_borrow_86 : decode cX4_borrow 86 = .ok (.getfield 22, 3) := by decide +kernel
theorem dX4_borrow_89 : decode cX4_borrow 89 = .ok (.iload 4, 2) := by decide +kernel
theorem dX4_borrow_91 : decode cX4_borrow 91 = .ok (.iaload, 1) := by decide +kernel
theorem dX4_borrow_92 : decode cX4_borrow 92 = .ok (.aload_n 0, 1) := by decide +kernel
theorem dX4_borrow_93 : decode cX4_borrow 93 = .ok (.getfield 25, 3) := by decide +kernel
theorem dX4_borrow_96 : decode cX4_borrow 96 = .ok (.iload 4, 2) := by decide +kernel
theorem dX4_borrow_98 : decode cX4_borrow 98 = .ok (.iaload, 1) := by decide +kernel
theorem dX4_borrow_99 : decode cX4_borrow 99 = .ok (.invokevirtual 83, 3) := by decide +kernel
theorem dX4_borrow_102 : decode cX4_borrow 102 = .ok (.aload_n 0, 1) := by decide +kernel
theorem dX4_borrow_103 : decode cX4_borrow 103 = .ok (.getfield 9, 3) := by decide +kernel
theorem dX4_borrow_106 : decode cX4_borrow 106 = .ok (.iload_n 3, 1) := by decide +kernel
theorem dX4_borrow_107 : decode cX4_borrow 107 = .ok (.iaload, 1) := by decide +kernel
theorem dX4_borrow_108 : decode cX4_borrow 108 = .ok (.iconst 1, 1) := by decide +kernel
theorem dX4_borrow_109 : decode cX4_borrow 109 = .ok (.isub, 1) := by decide +kernel
theorem dX4_borrow_110 : decode cX4_borrow 110 = .ok (.ireturn, 1) := by decide +kernel
theorem dX4_groups_0 : decode cX4_groups 0 = .ok (.aload_n 0, 1) := by decide +kernel
theorem dX4_groups_1 : decode cX4_groups 1 = .ok (.aload_n 0, 1) := by decide +kernel
theorem dX4_groups_2 : decode cX4_groups 2 = .ok (.invokevirtual 105, 3) := by decide +kernel
theorem dX4_groups_5 : decode cX4_groups 5 = .ok (.invokevirtual 112, 3) := by decide +kernel
theorem dX4_groups_8 : decode cX4_groups 8 = .ok (.ireturn, 1) := by decide +kernel
theorem dX4_areJoined_0 : decode cX4_areJoined 0 = .ok (.aload_n 0, 1) := by decide +kernel
theorem dX4_areJoined_1 : decode cX4_areJoined 1 = .ok (.iload_n 1, 1) := by decide +kernel
theorem dX4_areJoined_2 : decode cX4_areJoined 2 = .ok (.invokestatic 46, 3) := by decide +kernel
theorem dX4_areJoined_5 : decode cX4_areJoined 5 = .ok (.ifCond .eq 14, 3) := by decide +kernel
theorem dX4_areJoined_8 : decode cX4_areJoined 8 = .ok (.iload_n 2, 1) := by decide +kernel
theorem dX4_areJoined_9 : decode cX4_areJoined 9 = .ok (.invokestatic 46, 3) := by decide +kernel
theorem dX4_areJoined_12 : decode cX4_areJoined 12 = .ok (.ifCond .eq 7, 3) := by decide +kernel
theorem dX4_areJoined_15 : decode cX4_areJoined 15 = .ok (.iconst 0, 1) := by decide +kernel
theorem dX4_areJoined_16 : decode cX4_areJoined 16 = .ok (.goto 4, 3) := by decide +kernel
theorem dX4_areJoined_19 : decode cX4_areJoined 19 = .ok (.iconst 1, 1) := by decide +kernel
theorem dX4_areJoined_20 : decode cX4_areJoined 20 = .ok (.putfield 31, 3) := by decide +kernel
theorem dX4_areJoined_23 : decode cX4_areJoined 23 = .ok (.aload_n 0, 1) := by decide +kernel
theorem dX4_areJoined_24 : decode cX4_areJoined 24 = .ok (.getfield 31, 3) := by decide +kernel
theorem dX4_areJoined_27 : decode cX4_areJoined 27 = .ok (.ifCond .ne 22, 3) := by decide +kernel
theorem dX4_areJoined_30 : decode cX4_areJoined 30 = .ok (.aload_n 0, 1) := by decide +kernel
theorem dX4_areJoined_31 : decode cX4_areJoined 31 = .ok (.getfield 28, 3) := by decide +kernel
theorem dX4_areJoined_34 : decode cX4_areJoined 34 = .ok (.iload_n 1, 1) := by decide +kernel
theorem dX4_areJoined_35 : decode cX4_areJoined 35 = .ok (.iaload, 1) := by decide +kernel
theorem dX4_areJoined_36 : decode cX4_areJoined 36 = .ok (.aload_n 0, 1) := by decide +kernel
theorem dX4_areJoined_37 : decode cX4_areJoined 37 = .ok (.getfield 28, 3) := by decide +kernel
theorem dX4_areJoined_40 : decode cX4_areJoined 40 = .ok (.iload_n 2, 1) := by decide +kernel
theorem dX4_areJoined_41 : decode cX4_areJoined 41 = .ok (.iaload, 1) := by decide +kernel
theorem dX4_areJoined_42 : decode cX4_areJoined 42 = .ok (.if_icmp .ne 7, 3) := by decide +kernel
theorem dX4_areJoined_45 : decode cX4_areJoined 45 = .ok (.iconst 1, 1) := by decide +kernel
theorem dX4_areJoined_46 : decode cX4_areJoined 46 = .ok (.goto 4, 3) := by decide +kernel
theorem dX4_areJoined_49 : decode cX4_areJoined 49 = .ok (.iconst 0, 1) := by decide +kernel
theorem dX4_areJoined_50 : decode cX4_areJoined 50 = .ok (.ireturn, 1) := by decide +kernel
theorem dX4_steps_0 : decode cX4_steps 0 = .ok (.aload_n 0, 1) := by decide +kernel
theorem dX4_steps_1 : decode cX4_steps 1 = .ok (.iconst 0, 1) := by decide +kernel
theorem dX4_steps_2 : decode cX4_steps 2 = .ok (.putfield 31, 3) := by decide +kernel
theorem dX4_steps_5 : decode cX4_steps 5 = .ok (.iload_n 1, 1) := by decide +kernel
theorem dX4_steps_6 : decode cX4_steps 6 = .ok (.invokestatic 46, 3) := by decide +kernel
theorem dX4_steps_9 : decode cX4_steps 9 = .ok (.ifCond .eq 19, 3) := by decide +kernel
theorem dX4_steps_12 : decode cX4_steps 12 = .ok (.iload_n 2, 1) := by decide +kernel
theorem dX4_steps_13 : decode cX4_steps 13 = .ok (.invokestatic 46, 3) := by decide +kernel
theorem dX4_steps_16 : decode cX4_steps 16 = .ok (.ifCond .eq 12, 3) := by decide +kernel
theorem dX4_steps_19 : decode cX4_steps 19 = .ok (.aload_n 0, 1) := by decide +kernel
theorem dX4_steps_20 : decode cX4_steps 20 = .ok (.iload_n 1, 1) := by decide +kernel
theorem dX4_steps_21 : decode cX4_steps 21 = .ok (.iload_n 2, 1) := by decide +kernel
theorem dX4_steps_22 : decode cX4_steps 22 = .ok (.invokevirtual 55, 3) := by decide +kernel
theorem dX4_steps_25 : decode cX4_steps 25 = .ok (.goto 8, 3) := by decide +kernel
theorem dX4_steps_28 : decode cX4_steps 28 = .ok (.aload_n 0, 1) := by decide +kernel
theorem dX4_steps_29 : decode cX4_steps 29 = .ok (.iconst 1, 1) := by decide +kernel
theorem dX4_steps_30 : decode cX4_steps 30 = .ok (.invokevirtual 76, 3) := by decide +kernel
theorem dX4_steps_33 : decode cX4_steps 33 = .ok (.ireturn, 1) := by decide +kernel
theorem dX4_lodges_0 : decode cX4_lodges 0 = .ok (.aload_n 0, 1) := by decide +kernel
theorem dX4_lodges_1 : decode cX4_lodges 1 = .ok (.aload_n 0, 1) := by decide +kernel
theorem dX4_lodges_2 : decode cX4_lodges 2 = .ok (.getfield 35, 3) := by decide +kernel
theorem dX4_lodges_5 : decode cX4_lodges 5 = .ok (.invokevirtual 112, 3) := by decide +kernel
theorem dX4_lodges_8 : decode cX4_lodges 8 = .ok (.ireturn, 1) := by decide +kernel
theorem dX4_signsOf_0 : decode cX4_signsOf 0 = .ok (.aload_n 0, 1) := by decide +kernel
theorem dX4_signsOf_1 : decode cX4_signsOf 1 = .ok (.iconst 0, 1) := by decide +kernel
theorem dX4_signsOf_2 : decode cX4_signsOf 2 = .ok (.putfield 31, 3) := by decide +kernel
theorem dX4_signsOf_5 : decode cX4_signsOf 5 = .ok (.aload_n 0, 1) := by decide +kernel
theorem dX4_signsOf_6 : decode cX4_signsOf 6 = .ok (.iload_n 1, 1) := by decide +kernel
theorem dX4_signsOf_7 : decode cX4_signsOf 7 = .ok (.invokevirtual 42, 3) := by decide +kernel
theorem dX4_signsOf_10 : decode cX4_signsOf 10 = .ok (.ifCond .eq 12, 3) := by decide +kernel
theorem dX4_signsOf_13 : decode cX4_signsOf 13 = .ok (.aload_n 0, 1) := by decide +kernel
theorem dX4_signsOf_14 : decode cX4_signsOf 14 = .ok (.getfield 9, 3) := by decide +kernel
theorem dX4_signsOf_17 : decode cX4_signsOf 17 = .ok (.iload_n 1, 1) := by decide +kernel
theorem dX4_signsOf_18 : decode cX4_signsOf 18 = .ok (.iaload, 1) := by decide +kernel
theorem dX4_signsOf_19 : decode cX4_signsOf 19 = .ok (.goto 8, 3) := by decide +kernel
theorem dX4_signsOf_22 : decode cX4_signsOf 22 = .ok (.aload_n 0, 1) := by decide +kernel
theorem dX4_signsOf_23 : decode cX4_signsOf 23 = .ok (.iconst 1, 1) := by decide +kernel
theorem dX4_signsOf_24 : decode cX4_signsOf 24 = .ok (.invokevirtual 76, 3) := by decide +kernel
theorem dX4_signsOf_27 : decode cX4_signsOf 27 = .ok (.ireturn, 1) := by decide +kernel
theorem dX4_of_0 : decode cX4_of 0 = .ok (.aload_n 0, 1) := by decide +kernel
theorem dX4_of_1 : decode cX4_of 1 = .ok (.iconst 0, 1) := by decide +kernel
theorem dX4_of_2 : decode cX4_of 2 = .ok (.putfield 31, 3) := by decide +kernel
theorem dX4_of_5 : decode cX4_of 5 = .ok (.aload_n 0, 1) := by decide +kernel
theorem dX4_of_6 : decode cX4_of 6 = .ok (.iload_n 1, 1) := by decide +kernel
theorem dX4_of_7 : decode cX4_of 7 = .ok (.iload_n 2, 1) := by decide +kernel
theorem dX4_of_8 : decode cX4_of 8 = .ok (.invokevirtual 87, 3) := by decide +kernel
theorem dX4_of_11 : decode cX4_of 11 = .ok (.ifCond .eq 13, 3) := by decide +kernel
theorem dX4_of_14 : decode cX4_of 14 = .ok (.aload_n 3, 1) := by decide +kernel
theorem dX4_of_15 : decode cX4_of 15 = .ok (.iload_n 1, 1) := by decide +kernel
theorem dX4_of_16 : decode cX4_of 16 = .ok (.iload_n 2, 1) := by decide +kernel
theorem dX4_of_17 : decode cX4_of 17 = .ok (.invokestatic 63, 3) := by decide +kernel
theorem dX4_of_20 : decode cX4_of 20 = .ok (.iaload, 1) := by decide +kernel
theorem dX4_of_21 : decode cX4_of 21 = .ok (.goto 8, 3) := by decide +kernel
theorem dX4_of_24 : decode cX4_of 24 = .ok (.aload_n 0, 1) := by decide +kernel
theorem dX4_of_25 : decode cX4_of 25 = .ok (.iconst 1, 1) := by decide +kernel
theorem dX4_of_26 : decode cX4_of 26 = .ok (.invokevirtual 76, 3) := by decide +kernel
theorem dX4_of_29 : decode cX4_of 29 = .ok (.ireturn, 1) := by decide +kernel
theorem dX4_shapeOf_0 : decode cX4_shapeOf 0 = .ok (.aload_n 0, 1) := by decide +kernel
theorem dX4_shapeOf_1 : decode cX4_shapeOf 1 = .ok (.iload_n 1, 1) := by decide +kernel
theorem dX4_shapeOf_2 : decode cX4_shapeOf 2 = .ok (.iload_n 2, 1) := by decide +kernel
theorem dX4_shapeOf_3 : decode cX4_shapeOf 3 = .ok (.aload_n 0, 1) := by decide +kernel
theorem dX4_shapeOf_4 : decode cX4_shapeOf 4 = .ok (.getfield 13, 3) := by decide +kernel
theorem dX4_shapeOf_7 : decode cX4_shapeOf 7 = .ok (.invokevirtual 115, 3) := by decide +kernel
theorem dX4_shapeOf_10 : decode cX4_shapeOf 10 = .ok (.ireturn, 1) := by decide +kernel
theorem dX4_thumbOf_0 : decode cX4_thumbOf 0 = .ok (.aload_n 0, 1) := by decide +kernel
theorem dX4_thumbOf_1 : decode cX4_thumbOf 1 = .ok (.iload_n 1, 1) := by decide +kernel
theorem dX4_thumbOf_2 : decode cX4_thumbOf 2 = .ok (.iload_n 2, 1) := by decide +kernel
theorem dX4_thumbOf_3 : decode cX4_thumbOf 3 = .ok (.aload_n 0, 1) := by decide +kernel
theorem dX4_thumbOf_4 : decode cX4_thumbOf 4 = .ok (.getfield 16, 3) := by decide +kernel
theorem dX4_thumbOf_7 : decode cX4_thumbOf 7 = .ok (.invokevirtual 115, 3) := by decide +kernel
theorem dX4_thumbOf_10 : decode cX4_thumbOf 10 = .ok (.ireturn, 1) := by decide +kernel
theorem dX4_placeOf_0 : decode cX4_placeOf 0 = .ok (.aload_n 0, 1) := by decide +kernel
theorem dX4_placeOf_1 : decode cX4_placeOf 1 = .ok (.iload_n 1, 1) := by decide +kernel
theorem dX4_placeOf_2 : decode cX4_placeOf 2 = .ok (.iload_n 2, 1) := by decide +kernel
theorem dX4_placeOf_3 : decode cX4_placeOf 3 = .ok (.aload_n 0, 1) := by decide +kernel
theorem dX4_placeOf_4 : decode cX4_placeOf 4 = .ok (.getfield 19, 3) := by decide +kernel
theorem dX4_placeOf_7 : decode cX4_placeOf 7 = .ok (.invokevirtual 115, 3) := by decide +kernel
theorem dX4_placeOf_10 : decode cX4_placeOf 10 = .ok (.ireturn, 1) := by decide +kernel
theorem dX4_meaningOf_0 : decode cX4_meaningOf 0 = .ok (.aload_n 0, 1) := by decide +kernel
theorem dX4_meaningOf_1 : decode cX4_meaningOf 1 = .ok (.iload_n 1, 1) := by decide +kernel
theorem dX4_meaningOf_2 : decode cX4_meaningOf 2 = .ok (.iload_n 2, 1) := by decide +kernel
theorem dX4_meaningOf_3 : decode cX4_meaningOf 3 = .ok (.aload_n 0, 1) := by decide +kernel
theorem dX4_meaningOf_4 : decode cX4_meaningOf 4 = .ok (.getfield 25, 3) := by decide +kernel
theorem dX4_meaningOf_7 : decode cX4_meaningOf 7 = .ok (.invokevirtual 115, 3) := by decide +kernel
theorem dX4_meaningOf_10 : decode cX4_meaningOf 10 = .ok (.ireturn, 1) := by decide +kernel
theorem dX4_signFor_0 : decode cX4_signFor 0 = .ok (.aload_n 0, 1) := by decide +kernel
theorem dX4_signFor_1 : decode cX4_signFor 1 = .ok (.iconst 0, 1) := by decide +kernel
theorem dX4_signFor_2 : decode cX4_signFor 2 = .ok (.putfield 31, 3) := by decide +kernel
theorem dX4_signFor_5 : decode cX4_signFor 5 = .ok (.aload_n 0, 1) := by decide +kernel
theorem dX4_signFor_6 : decode cX4_signFor 6 = .ok (.iload_n 1, 1) := by decide +kernel
theorem dX4_signFor_7 : decode cX4_signFor 7 = .ok (.invokevirtual 42, 3) := by decide +kernel
theorem dX4_signFor_10 : decode cX4_signFor 10 = .ok (.ifCond .eq 22, 3) := by decide +kernel
theorem dX4_signFor_13 : decode cX4_signFor 13 = .ok (.iload_n 2, 1) := by decide +kernel
theorem dX4_signFor_14 : decode cX4_signFor 14 = .ok (.iconst 0, 1) := by decide +kernel
theorem dX4_signFor_15 : decode cX4_signFor 15 = .ok (.bipush 29, 2) := by decide +kernel
theorem dX4_signFor_17 : decode cX4_signFor 17 = .ok (.invokestatic 38, 3) := by decide +kernel
theorem dX4_signFor_20 : decode cX4_signFor 20 = .ok (.ifCond .eq 12, 3) := by decide +kernel
theorem dX4_signFor_23 : decode cX4_signFor 23 = .ok (.aload_n 0, 1) := by decide +kernel
theorem dX4_signFor_24 : decode cX4_signFor 24 = .ok (.iload_n 1, 1) := by decide +kernel
theorem dX4_signFor_25 : decode cX4_signFor 25 = .ok (.iload_n 2, 1) := by decide +kernel
theorem dX4_signFor_26 : decode cX4_signFor 26 = .ok (.invokevirtual 69, 3) := by decide +kernel
theorem dX4_signFor_29 : decode cX4_signFor 29 = .ok (.goto 8, 3) := by decide +kernel
theorem dX4_signFor_32 : decode cX4_signFor 32 = .ok (.aload_n 0, 1) := by decide +kernel
theorem dX4_signFor_33 : decode cX4_signFor 33 = .ok (.iconst 1, 1) := by decide +kernel
theorem dX4_signFor_34 : decode cX4_signFor 34 = .ok (.invokevirtual 76, 3) := by decide +kernel
theorem dX4_signFor_37 : decode cX4_signFor 37 = .ok (.ireturn, 1) := by decide +kernel
theorem dX4_apart_0 : decode cX4_apart 0 = .ok (.aload_n 0, 1) := by decide +kernel
theorem dX4_apart_1 : decode cX4_apart 1 = .ok (.iconst 0, 1) := by decide +kernel
theorem dX4_apart_2 : decode cX4_apart 2 = .ok (.putfield 31, 3) := by decide +kernel
theorem dX4_apart_5 : decode cX4_apart 5 = .ok (.aload_n 0, 1) := by decide +kernel
theorem dX4_apart_6 : decode cX4_apart 6 = .ok (.iload_n 1, 1) := by decide +kernel
theorem dX4_apart_7 : decode cX4_apart 7 = .ok (.iload_n 2, 1) := by decide +kernel
theorem dX4_apart_8 : decode cX4_apart 8 = .ok (.invokevirtual 87, 3) := by decide +kernel
theorem dX4_apart_11 : decode cX4_apart 11 = .ok (.ifCond .eq 29, 3) := by decide +kernel
theorem dX4_apart_14 : decode cX4_apart 14 = .ok (.aload_n 0, 1) := by decide +kernel
theorem dX4_apart_15 : decode cX4_apart 15 = .ok (.iload_n 1, 1) := by decide +kernel
theorem dX4_apart_16 : decode cX4_apart 16 = .ok (.iload_n 3, 1) := by decide +kernel
theorem dX4_apart_17 : decode cX4_apart 17 = .ok (.invokevirtual 87, 3) := by decide +kernel
theorem dX4_apart_20 : decode cX4_apart 20 = .ok (.ifCond .eq 20, 3) := by decide +kernel
theorem dX4_apart_23 : decode cX4_apart 23 = .ok (.aload_n 0, 1) := by decide +kernel
theorem dX4_apart_24 : decode cX4_apart 24 = .ok (.iload_n 1, 1) := by decide +kernel
theorem dX4_apart_25 : decode cX4_apart 25 = .ok (.iload_n 2, 1) := by decide +kernel
theorem dX4_apart_26 : decode cX4_apart 26 = .ok (.invokestatic 63, 3) := by decide +kernel
theorem dX4_apart_29 : decode cX4_apart 29 = .ok (.iload_n 1, 1) := by decide +kernel
theorem dX4_apart_30 : decode cX4_apart 30 = .ok (.iload_n 3, 1) := by decide +kernel
theorem dX4_apart_31 : decode cX4_apart 31 = .ok (.invokestatic 63, 3) := by decide +kernel
theorem dX4_apart_34 : decode cX4_apart 34 = .ok (.invokevirtual 72, 3) := by decide +kernel
theorem dX4_apart_37 : decode cX4_apart 37 = .ok (.goto 8, 3) := by decide +kernel
theorem dX4_apart_40 : decode cX4_apart 40 = .ok (.aload_n 0, 1) := by decide +kernel
theorem dX4_apart_41 : decode cX4_apart 41 = .ok (.iconst 1, 1) := by decide +kernel
theorem dX4_apart_42 : decode cX4_apart 42 = .ok (.invokevirtual 76, 3) := by decide +kernel
theorem dX4_apart_45 : decode cX4_apart 45 = .ok (.ireturn, 1) := by decide +kernel
theorem dX4_alikePairs_0 : decode cX4_alikePairs 0 = .ok (.aload_n 0, 1) := by decide +kernel
theorem dX4_alikePairs_1 : decode cX4_alikePairs 1 = .ok (.iconst 0, 1) := by decide +kernel
theorem dX4_alikePairs_2 : decode cX4_alikePairs 2 = .ok (.putfield 31, 3) := by decide +kernel
theorem dX4_alikePairs_5 : decode cX4_alikePairs 5 = .ok (.aload_n 0, 1) := by decide +kernel
theorem dX4_alikePairs_6 : decode cX4_alikePairs 6 = .ok (.iload_n 1, 1) := by decide +kernel
theorem dX4_alikePairs_7 : decode cX4_alikePairs 7 = .ok (.invokevirtual 42, 3) := by decide +kernel
theorem dX4_alikePairs_10 : decode cX4_alikePairs 10 = .ok (.ifCond .eq 11, 3) := by decide +kernel
theorem dX4_alikePairs_13 : decode cX4_alikePairs 13 = .ok (.aload_n 0, 1) := by decide +kernel
theorem dX4_alikePairs_14 : decode cX4_alikePairs 14 = .ok (.iload_n 1, 1) := by decide +kernel
theorem dX4_alikePairs_15 : decode cX4_alikePairs 15 = .ok (.invokevirtual 119, 3) := by decide +kernel
theorem dX4_alikePairs_18 : decode cX4_alikePairs 18 = .ok (.goto 8, 3) := by decide +kernel
theorem dX4_alikePairs_21 : decode cX4_alikePairs 21 = .ok (.aload_n 0, 1) := by decide +kernel
theorem dX4_alikePairs_22 : decode cX4_alikePairs 22 = .ok (.iconst 1, 1) := by decide +kernel
theorem dX4_alikePairs_23 : decode cX4_alikePairs 23 = .ok (.invokevirtual 76, 3) := by decide +kernel
theorem dX4_alikePairs_26 : decode cX4_alikePairs 26 = .ok (.ireturn, 1) := by decide +kernel
theorem dX4_thumbs_0 : decode cX4_thumbs 0 = .ok (.iconst 0, 1) := by decide +kernel
theorem dX4_thumbs_1 : decode cX4_thumbs 1 = .ok (.istore_n 2, 1) := by decide +kernel
theorem dX4_thumbs_2 : decode cX4_thumbs 2 = .ok (.iload_n 1, 1) := by decide +kernel
theorem dX4_thumbs_3 : decode cX4_thumbs 3 = .ok (.iconst 0, 1) := by decide +kernel
theorem dX4_thumbs_4 : decode cX4_thumbs 4 = .ok (.invokestatic 63, 3) := by decide +kernel
theorem dX4_thumbs_7 : decode cX4_thumbs 7 = .ok (.istore_n 3, 1) := by decide +kernel
theorem dX4_thumbs_8 : decode cX4_thumbs 8 = .ok (.iload_n 3, 1) := by decide +kernel
theorem dX4_thumbs_9 : decode cX4_thumbs 9 = .ok (.iload_n 1, 1) := by decide +kernel
theorem dX4_thumbs_10 : decode cX4_thumbs 10 = .ok (.aload_n 0, 1) := by decide +kernel
theorem dX4_thumbs_11 : decode cX4_thumbs 11 = .ok (.getfield 9, 3) := by decide +kernel
theorem dX4_thumbs_14 : decode cX4_thumbs 14 = .ok (.iload_n 1, 1) := by decide +kernel
theorem dX4_thumbs_15 : decode cX4_thumbs 15 = .ok (.iaload, 1) := by decide +kernel
theorem dX4_thumbs_16 : decode cX4_thumbs 16 = .ok (.invokestatic 63, 3) := by decide +kernel
theorem dX4_thumbs_19 : decode cX4_thumbs 19 = .ok (.if_icmp .ge 63, 3) := by decide +kernel
theorem dX4_thumbs_22 : decode cX4_thumbs 22 = .ok (.iload_n 1, 1) := by decide +kernel
theorem dX4_thumbs_23 : decode cX4_thumbs 23 = .ok (.iconst 0, 1) := by decide +kernel
theorem dX4_thumbs_24 : decode cX4_thumbs 24 = .ok (.invokestatic 63, 3) := by decide +kernel
theorem dX4_thumbs_27 : decode cX4_thumbs 27 = .ok (.istore 4, 2) := by decide +kernel
theorem dX4_thumbs_29 : decode cX4_thumbs 29 = .ok (.iload 4, 2) := by decide +kernel
theorem dX4_thumbs_31 : decode cX4_thumbs 31 = .ok (.iload_n 3, 1) := by decide +kernel
theorem dX4_thumbs_32 : decode cX4_thumbs 32 = .ok (.if_icmp .ge 44, 3) := by decide +kernel
theorem dX4_thumbs_35 : decode cX4_thumbs 35 = .ok (.iload_n 2, 1) := by decide +kernel
theorem dX4_thumbs_36 : decode cX4_thumbs 36 = .ok (.aload_n 0, 1) := by decide +kernel
theorem dX4_thumbs_37 : decode cX4_thumbs 37 = .ok (.getfield 16, 3) := by decide +kernel
theorem dX4_thumbs_40 : decode cX4_thumbs 40 = .ok (.iload_n 3, 1) := by decide +kernel
theorem dX4_thumbs_41 : decode cX4_thumbs 41 = .ok (.iaload, 1) := by decide +kernel
theorem dX4_thumbs_42 : decode cX4_thumbs 42 = .ok (.aload_n 0, 1) := by decide +kernel
theorem dX4_thumbs_43 : decode cX4_thumbs 43 = .ok (.getfield 16, 3) := by decide +kernel
theorem dX4_thumbs_46 : decode cX4_thumbs 46 = .ok (.iload 4, 2) := by decide +kernel
theorem dX4_thumbs_48 : decode cX4_thumbs 48 = .ok (.iaload, 1) := by decide +kernel
theorem dX4_thumbs_49 : decode cX4_thumbs 49 = .ok (.if_icmp .eq 18, 3) := by decide +kernel
theorem dX4_thumbs_52 : decode cX4_thumbs 52 = .ok (.aload_n 0, 1) := by decide +kernel
theorem dX4_thumbs_53 : decode cX4_thumbs 53 = .ok (.iload_n 3, 1) := by decide +kernel
theorem dX4_thumbs_54 : decode cX4_thumbs 54 = .ok (.iload 4, 2) := by decide +kernel
theorem dX4_thumbs_56 : decode cX4_thumbs 56 = .ok (.invokevirtual 72, 3) := by decide +kernel
theorem dX4_thumbs_59 : decode cX4_thumbs 59 = .ok (.iconst 1, 1) := by decide +kernel
theorem dX4_thumbs_60 : decode cX4_thumbs 60 = .ok (.if_icmp .ne 7, 3) := by decide +kernel
theorem dX4_thumbs_63 : decode cX4_thumbs 63 = .ok (.iconst 1, 1) := by decide +kernel
theorem dX4_thumbs_64 : decode cX4_thumbs 64 = .ok (.goto 4, 3) := by decide +kernel
theorem dX4_thumbs_67 : decode cX4_thumbs 67 = .ok (.iconst 0, 1) := by decide +kernel
theorem dX4_thumbs_68 : decode cX4_thumbs 68 = .ok (.iadd, 1) := by decide +kernel
theorem dX4_thumbs_69 : decode cX4_thumbs 69 = .ok (.istore_n 2, 1) := by decide +kernel
theorem dX4_thumbs_70 : decode cX4_thumbs 70 = .ok (.iinc 4 1, 3) := by decide +kernel
theorem dX4_thumbs_73 : decode cX4_thumbs 73 = .ok (.goto (-44), 3) := by decide +kernel
theorem dX4_thumbs_76 : decode cX4_thumbs 76 = .ok (.iinc 3 1, 3) := by decide +kernel
theorem dX4_thumbs_79 : decode cX4_thumbs 79 = .ok (.goto (-71), 3) := by decide +kernel
theorem dX4_thumbs_82 : decode cX4_thumbs 82 = .ok (.iload_n 2, 1) := by decide +kernel
theorem dX4_thumbs_83 : decode cX4_thumbs 83 = .ok (.ireturn, 1) := by decide +kernel
theorem dX4_thumbPairs_0 : decode cX4_thumbPairs 0 = .ok (.aload_n 0, 1) := by decide +kernel
theorem dX4_thumbPairs_1 : decode cX4_thumbPairs 1 = .ok (.iconst 0, 1) := by decide +kernel
theorem dX4_thumbPairs_2 : decode cX4_thumbPairs 2 = .ok (.putfield 31, 3) := by decide +kernel
theorem dX4_thumbPairs_5 : decode cX4_thumbPairs 5 = .ok (.aload_n 0, 1) := by decide +kernel
theorem dX4_thumbPairs_6 : decode cX4_thumbPairs 6 = .ok (.iload_n 1, 1) := by decide +kernel
theorem dX4_thumbPairs_7 : decode cX4_thumbPairs 7 = .ok (.invokevirtual 42, 3) := by decide +kernel
theorem dX4_thumbPairs_10 : decode cX4_thumbPairs 10 = .ok (.ifCond .eq 11, 3) := by decide +kernel
theorem dX4_thumbPairs_13 : decode cX4_thumbPairs 13 = .ok (.aload_n 0, 1) := by decide +kernel
theorem dX4_thumbPairs_14 : decode cX4_thumbPairs 14 = .ok (.iload_n 1, 1) := by decide +kernel
theorem dX4_thumbPairs_15 : decode cX4_thumbPairs 15 = .ok (.invokevirtual 122, 3) := by decide +kernel
theorem dX4_thumbPairs_18 : decode cX4_thumbPairs 18 = .ok (.goto 8, 3) := by decide +kernel
theorem dX4_thumbPairs_21 : decode cX4_thumbPairs 21 = .ok (.aload_n 0, 1) := by decide +kernel
theorem dX4_thumbPairs_22 : decode cX4_thumbPairs 22 = .ok (.iconst 1, 1) := by decide +kernel
theorem dX4_thumbPairs_23 : decode cX4_thumbPairs 23 = .ok (.invokevirtual 76, 3) := by decide +kernel
theorem dX4_thumbPairs_26 : decode cX4_thumbPairs 26 = .ok (.ireturn, 1) := by decide +kernel
theorem dX4_nearest_0 : decode cX4_nearest 0 = .ok (.iconst (-1), 1) := by decide +kernel
theorem dX4_nearest_1 : decode cX4_nearest 1 = .ok (.istore_n 2, 1) := by decide +kernel
theorem dX4_nearest_2 : decode cX4_nearest 2 = .ok (.iload_n 1, 1) := by decide +kernel
theorem dX4_nearest_3 : decode cX4_nearest 3 = .ok (.iconst 0, 1) := by decide +kernel
theorem dX4_nearest_4 : decode cX4_nearest 4 = .ok (.invokestatic 63, 3) := by decide +kernel
theorem dX4_nearest_7 : decode cX4_nearest 7 = .ok (.istore_n 3, 1) := by decide +kernel
theorem dX4_nearest_8 : decode cX4_nearest 8 = .ok (.iload_n 3, 1) := by decide +kernel
theorem dX4_nearest_9 : decode cX4_nearest 9 = .ok (.iload_n 1, 1) := by decide +kernel
theorem dX4_nearest_10 : decode cX4_nearest 10 = .ok (.aload_n 0, 1) := by decide +kernel
theorem dX4_nearest_11 : decode cX4_nearest 11 = .ok (.getfield 9, 3) := by decide +kernel
theorem dX4_nearest_14 : decode cX4_nearest 14 = .ok (.iload_n 1, 1) := by decide +kernel
theorem dX4_nearest_15 : decode cX4_nearest 15 = .ok (.iaload, 1) := by decide +kernel
theorem dX4_nearest_16 : decode cX4_nearest 16 = .ok (.invokestatic 63, 3) := by decide +kernel
theorem dX4_nearest_19 : decode cX4_nearest 19 = .ok (.if_icmp .ge 52, 3) := by decide +kernel
theorem dX4_nearest_22 : decode cX4_nearest 22 = .ok (.iload_n 1, 1) := by decide +kernel
theorem dX4_nearest_23 : decode cX4_nearest 23 = .ok (.iconst 0, 1) := by decide +kernel
theorem dX4_nearest_24 : decode cX4_nearest 24 = .ok (.invokestatic 63, 3) := by decide +kernel
theorem dX4_nearest_27 : decode cX4_nearest 27 = .ok (.istore 4, 2) := by decide +kernel
theorem dX4_nearest_29 : decode cX4_nearest 29 = .ok (.iload 4, 2) := by decide +kernel
theorem dX4_nearest_31 : decode cX4_nearest 31 = .ok (.iload_n 3, 1) := by decide +kernel
theorem dX4_nearest_32 : decode cX4_nearest 32 = .ok (.if_icmp .ge 33, 3) := by decide +kernel
theorem dX4_nearest_35 : decode cX4_nearest 35 = .ok (.iload_n 2, 1) := by decide +kernel
theorem dX4_nearest_36 : decode cX4_nearest 36 = .ok (.iconst (-1), 1) := by decide +kernel
theorem dX4_nearest_37 : decode cX4_nearest 37 = .ok (.if_icmp .eq 14, 3) := by decide +kernel
theorem dX4_nearest_40 : decode cX4_nearest 40 = .ok (.aload_n 0, 1) := by decide +kernel
theorem dX4_nearest_41 : decode cX4_nearest 41 = .ok (.iload_n 3, 1) := by decide +kernel
theorem dX4_nearest_42 : decode cX4_nearest 42 = .ok (.iload 4, 2) := by decide +kernel
theorem dX4_nearest_44 : decode cX4_nearest 44 = .ok (.invokevirtual 72, 3) := by decide +kernel
theorem dX4_nearest_47 : decode cX4_nearest 47 = .ok (.iload_n 2, 1) := by decide +kernel
theorem dX4_nearest_48 : decode cX4_nearest 48 = .ok (.if_icmp .ge 11, 3) := by decide +kernel
theorem dX4_nearest_51 : decode cX4_nearest 51 = .ok (.aload_n 0, 1) := by decide +kernel
theorem dX4_nearest_52 : decode cX4_nearest 52 = .ok (.iload_n 3, 1) := by decide +kernel
theorem dX4_nearest_53 : decode cX4_nearest 53 = .ok (.iload 4, 2) := by decide +kernel
theorem dX4_nearest_55 : decode cX4_nearest 55 = .ok (.invokevirtual 72, 3) := by decide +kernel
theorem dX4_nearest_58 : decode cX4_nearest 58 = .ok (.istore_n 2, 1) := by decide +kernel
theorem dX4_nearest_59 : decode cX4_nearest 59 = .ok (.iinc 4 1, 3) := by decide +kernel
theorem dX4_nearest_62 : decode cX4_nearest 62 = .ok (.goto (-33), 3) := by decide +kernel
theorem dX4_nearest_65 : decode cX4_nearest 65 = .ok (.iinc 3 1, 3) := by decide +kernel
theorem dX4_nearest_68 : decode cX4_nearest 68 = .ok (.goto (-60), 3) := by decide +kernel
theorem dX4_nearest_71 : decode cX4_nearest 71 = .ok (.iconst 0, 1) := by decide +kernel
theorem dX4_nearest_72 : decode cX4_nearest 72 = .ok (.iload_n 2, 1) := by decide +kernel
theorem dX4_nearest_73 : decode cX4_nearest 73 = .ok (.invokestatic 98, 3) := by decide +kernel
theorem dX4_nearest_76 : decode cX4_nearest 76 = .ok (.ireturn, 1) := by decide +kernel
theorem dX4_closest_0 : decode cX4_closest 0 = .ok (.aload_n 0, 1) := by decide +kernel
theorem dX4_closest_1 : decode cX4_closest 1 = .ok (.iconst 0, 1) := by decide +kernel
theorem dX4_closest_2 : decode cX4_closest 2 = .ok (.putfield 31, 3) := by decide +kernel
theorem dX4_closest_5 : decode cX4_closest 5 = .ok (.aload_n 0, 1) := by decide +kernel
theorem dX4_closest_6 : decode cX4_closest 6 = .ok (.iload_n 1, 1) := by decide +kernel
theorem dX4_closest_7 : decode cX4_closest 7 = .ok (.invokevirtual 42, 3) := by decide +kernel
theorem dX4_closest_10 : decode cX4_closest 10 = .ok (.ifCond .eq 11, 3) := by decide +kernel
theorem dX4_closest_13 : decode cX4_closest 13 = .ok (.aload_n 0, 1) := by decide +kernel
theorem dX4_closest_14 : decode cX4_closest 14 = .ok (.iload_n 1, 1) := by decide +kernel
theorem dX4_closest_15 : decode cX4_closest 15 = .ok (.invokevirtual 125, 3) := by decide +kernel
theorem dX4_closest_18 : decode cX4_closest 18 = .ok (.goto 8, 3) := by decide +kernel
theorem dX4_closest_21 : decode cX4_closest 21 = .ok (.aload_n 0, 1) := by decide +kernel
theorem dX4_closest_22 : decode cX4_closest 22 = .ok (.iconst 1, 1) := by decide +kernel
theorem dX4_closest_23 : decode cX4_closest 23 = .ok (.invokevirtual 76, 3) := by decide +kernel
theorem dX4_closest_26 : decode cX4_closest 26 = .ok (.ireturn, 1) := by decide +kernel
theorem dX4_mistaken_0 : decode cX4_mistaken 0 = .ok (.iconst (-1), 1) := by decide +kernel
theorem dX4_mistaken_1 : decode cX4_mistaken 1 = .ok (.istore_n 2, 1) := by decide +kernel
theorem dX4_mistaken_2 : decode cX4_mistaken 2 = .ok (.iconst (-1), 1) := by decide +kernel
theorem dX4_mistaken_3 : decode cX4_mistaken 3 = .ok (.istore_n 3, 1) := by decide +kernel
theorem dX4_mistaken_4 : decode cX4_mistaken 4 = .ok (.iload_n 1, 1) := by decide +kernel
theorem dX4_mistaken_5 : decode cX4_mistaken 5 = .ok (.iconst 0, 1) := by decide +kernel
theorem dX4_mistaken_6 : decode cX4_mistaken 6 = .ok (.invokestatic 63, 3) := by decide +kernel
theorem dX4_mistaken_9 : decode cX4_mistaken 9 = .ok (.istore 4, 2) := by decide +kernel
theorem dX4_mistaken_11 : decode cX4_mistaken 11 = .ok (.iload 4, 2) := by decide +kernel
theorem dX4_mistaken_13 : decode cX4_mistaken 13 = .ok (.iload_n 1, 1) := by decide +kernel
theorem dX4_mistaken_14 : decode cX4_mistaken 14 = .ok (.aload_n 0, 1) := by decide +kernel
theorem dX4_mistaken_15 : decode cX4_mistaken 15 = .ok (.getfield 9, 3) := by decide +kernel
theorem dX4_mistaken_18 : decode cX4_mistaken 18 = .ok (.iload_n 1, 1) := by decide +kernel
theorem dX4_mistaken_19 : decode cX4_mistaken 19 = .ok (.iaload, 1) := by decide +kernel
theorem dX4_mistaken_20 : decode cX4_mistaken 20 = .ok (.invokestatic 63, 3) := by decide +kernel
theorem dX4_mistaken_23 : decode cX4_mistaken 23 = .ok (.if_icmp .ge 90, 3) := by decide +kernel
theorem dX4_mistaken_26 : decode cX4_mistaken 26 = .ok (.iconst 0, 1) := by decide +kernel
theorem dX4_mistaken_27 : decode cX4_mistaken 27 = .ok (.istore 5, 2) := by decide +kernel
theorem dX4_mistaken_29 : decode cX4_mistaken 29 = .ok (.iload_n 1, 1) := by decide +kernel
theorem dX4_mistaken_30 : decode cX4_mistaken 30 = .ok (.iconst 0, 1) := by decide +kernel
theorem dX4_mistaken_31 : decode cX4_mistaken 31 = .ok (.invokestatic 63, 3) := by decide +kernel
theorem dX4_mistaken_34 : decode cX4_mistaken 34 = .ok (.istore 6, 2) := by decide +kernel
theorem dX4_mistaken_36 : decode cX4_mistaken 36 = .ok (.iload 6, 2) := by decide +kernel
theorem dX4_mistaken_38 : decode cX4_mistaken 38 = .ok (.iload_n 1, 1) := by decide +kernel
theorem dX4_mistaken_39 : decode cX4_mistaken 39 = .ok (.aload_n 0, 1) := by decide +kernel
theorem dX4_mistaken_40 : decode cX4_mistaken 40 = .ok (.getfield 9, 3) := by decide +kernel
theorem dX4_mistaken_43 : decode cX4_mistaken 43 = .ok (.iload_n 1, 1) := by decide +kernel
theorem dX4_mistaken_44 : decode cX4_mistaken 44 = .ok (.iaload, 1) := by decide +kernel
theorem dX4_mistaken_45 : decode cX4_mistaken 45 = .ok (.invokestatic 63, 3) := by decide +kernel
theorem dX4_mistaken_48 : decode cX4_mistaken 48 = .ok (.if_icmp .ge 38, 3) := by decide +kernel
theorem dX4_mistaken_51 : decode cX4_mistaken 51 = .ok (.iload 5, 2) := by decide +kernel
theorem dX4_mistaken_53 : decode cX4_mistaken 53 = .ok (.iload 6, 2) := by decide +kernel
theorem dX4_mistaken_55 : decode cX4_mistaken 55 = .ok (.iload 4, 2) := by decide +kernel
theorem dX4_mistaken_57 : decode cX4_mistaken 57 = .ok (.if_icmp .eq 19, 3) := by decide +kernel
theorem dX4_mistaken_60 : decode cX4_mistaken 60 = .ok (.aload_n 0, 1) := by decide +kernel
theorem dX4_mistaken_61 : decode cX4_mistaken 61 = .ok (.iload 4, 2) := by decide +kernel
theorem dX4_mistaken_63 : decode cX4_mistaken 63 = .ok (.iload 6, 2) := by decide +kernel
theorem dX4_mistaken_65 : decode cX4_mistaken 65 = .ok (.invokevirtual 72, 3) := by decide +kernel
theorem dX4_mistaken_68 : decode cX4_mistaken 68 = .ok (.iconst 3, 1) := by decide +kernel
theorem dX4_mistaken_69 : decode cX4_mistaken 69 = .ok (.if_icmp .gt 7, 3) := by decide +kernel
theorem dX4_mistaken_72 : decode cX4_mistaken 72 = .ok (.iconst 1, 1) := by decide +kernel
theorem dX4_mistaken_73 : decode cX4_mistaken 73 = .ok (.goto 4, 3) := by decide +kernel
theorem dX4_mistaken_76 : decode cX4_mistaken 76 = .ok (.iconst 0, 1) := by decide +kernel
theorem dX4_mistaken_77 : decode cX4_mistaken 77 = .ok (.iadd, 1) := by decide +kernel
theorem dX4_mistaken_78 : decode cX4_mistaken 78 = .ok (.istore 5, 2) := by decide +kernel
theorem dX4_mistaken_80 : decode cX4_mistaken 80 = .ok (.iinc 6 1, 3) := by decide +kernel
theorem dX4_mistaken_83 : decode cX4_mistaken 83 = .ok (.goto (-47), 3) := by decide +kernel
theorem dX4_mistaken_86 : decode cX4_mistaken 86 = .ok (.iload 5, 2) := by decide +kernel
theorem dX4_mistaken_88 : decode cX4_mistaken 88 = .ok (.iload_n 3, 1) := by decide +kernel
theorem dX4_mistaken_89 : decode cX4_mistaken 89 = .ok (.if_icmp .gt 6, 3) := by decide +kernel
theorem dX4_mistaken_92 : decode cX4_mistaken 92 = .ok (.goto 15, 3) := by decide +kernel
theorem dX4_mistaken_95 : decode cX4_mistaken 95 = .ok (.iload 4, 2) := by decide +kernel
theorem dX4_mistaken_97 : decode cX4_mistaken 97 = .ok (.iload_n 1, 1) := by decide +kernel
theorem dX4_mistaken_98 : decode cX4_mistaken 98 = .ok (.iconst 0, 1) := by decide +kernel
theorem dX4_mistaken_99 : decode cX4_mistaken 99 = .ok (.invokestatic 63, 3) := by decide +kernel
theorem dX4_mistaken_102 : decode cX4_mistaken 102 = .ok (.isub, 1) := by decide +kernel
theorem dX4_mistaken_103 : decode cX4_mistaken 103 = .ok (.istore_n 2, 1) := by decide +kernel
theorem dX4_mistaken_104 : decode cX4_mistaken 104 = .ok (.iload 5, 2) := by decide +kernel
theorem dX4_mistaken_106 : decode cX4_mistaken 106 = .ok (.istore_n 3, 1) := by decide +kernel
theorem dX4_mistaken_107 : decode cX4_mistaken 107 = .ok (.iinc 4 1, 3) := by decide +kernel
theorem dX4_mistaken_110 : decode cX4_mistaken 110 = .ok (.goto (-99), 3) := by decide +kernel
theorem dX4_mistaken_113 : decode cX4_mistaken 113 = .ok (.iload_n 2, 1) := by decide +kernel
theorem dX4_mistaken_114 : decode cX4_mistaken 114 = .ok (.ireturn, 1) := by decide +kernel
theorem dX4_mostMistaken_0 : decode cX4_mostMistaken 0 = .ok (.aload_n 0, 1) := by decide +kernel
theorem dX4_mostMistaken_1 : decode cX4_mostMistaken 1 = .ok (.iconst 0, 1) := by decide +kernel
theorem dX4_mostMistaken_2 : decode cX4_mostMistaken 2 = .ok (.putfield 31, 3) := by decide +kernel
theorem dX4_mostMistaken_5 : decode cX4_mostMistaken 5 = .ok (.aload_n 0, 1) := by decide +kernel
theorem dX4_mostMistaken_6 : decode cX4_mostMistaken 6 = .ok (.iload_n 1, 1) := by decide +kernel
theorem dX4_mostMistaken_7 : decode cX4_mostMistaken 7 = .ok (.invokevirtual 42, 3) := by decide +kernel
theorem dX4_mostMistaken_10 : decode cX4_mostMistaken 10 = .ok (.ifCond .eq 11, 3) := by decide +kernel
theorem dX4_mostMistaken_13 : decode cX4_mostMistaken 13 = .ok (.aload_n 0, 1) := by decide +kernel
theorem dX4_mostMistaken_14 : decode cX4_mostMistaken 14 = .ok (.iload_n 1, 1) := by decide +kernel
theorem dX4_mostMistaken_15 : decode cX4_mostMistaken 15 = .ok (.invokevirtual 128, 3) := by decide +kernel
theorem dX4_mostMistaken_18 : decode cX4_mostMistaken 18 = .ok (.goto 8, 3) := by decide +kernel
theorem dX4_mostMistaken_21 : decode cX4_mostMistaken 21 = .ok (.aload_n 0, 1) := by decide +kernel
theorem dX4_mostMistaken_22 : decode cX4_mostMistaken 22 = .ok (.iconst 1, 1) := by decide +kernel
theorem dX4_mostMistaken_23 : decode cX4_mostMistaken 23 = .ok (.invokevirtual 76, 3) := by decide +kernel
theorem dX4_mostMistaken_26 : decode cX4_mostMistaken 26 = .ok (.ireturn, 1) := by decide +kernel
theorem dX4_read_0 : decode cX4_read 0 = .ok (.aload_n 0, 1) := by decide +kernel
theorem dX4_read_1 : decode cX4_read 1 = .ok (.iconst 0, 1) := by decide +kernel
theorem dX4_read_2 : decode cX4_read 2 = .ok (.putfield 31, 3) := by decide +kernel
theorem dX4_read_5 : decode cX4_read 5 = .ok (.aload_n 0, 1) := by decide +kernel
theorem dX4_read_6 : decode cX4_read 6 = .ok (.iload_n 1, 1) := by decide +kernel
theorem dX4_read_7 : decode cX4_read 7 = .ok (.iload_n 2, 1) := by decide +kernel
theorem dX4_read_8 : decode cX4_read 8 = .ok (.invokevirtual 87, 3) := by decide +kernel
theorem dX4_read_11 : decode cX4_read 11 = .ok (.ifCond .eq 24, 3) := by decide +kernel
theorem dX4_read_14 : decode cX4_read 14 = .ok (.aload_n 0, 1) := by decide +kernel
theorem dX4_read_15 : decode cX4_read 15 = .ok (.iload_n 3, 1) := by decide +kernel
theorem dX4_read_16 : decode cX4_read 16 = .ok (.invokevirtual 42, 3) := by decide +kernel
theorem dX4_read_19 : decode cX4_read 19 = .ok (.ifCond .eq 16, 3) := by decide +kernel
theorem dX4_read_22 : decode cX4_read 22 = .ok (.aload_n 0, 1) := by decide +kernel
theorem dX4_read_23 : decode cX4_read 23 = .ok (.iload_n 1, 1) := by decide +kernel
theorem dX4_read_24 : decode cX4_read 24 = .ok (.iload_n 2, 1) := by decide +kernel
theorem dX4_read_25 : decode cX4_read 25 = .ok (.invokestatic 63, 3) := by decide +kernel
theorem dX4_read_28 : decode cX4_read 28 = .ok (.iload_n 3, 1) := by decide +kernel
theorem dX4_read_29 : decode cX4_read 29 = .ok (.invokevirtual 74, 3) := by decide +kernel
theorem dX4_read_32 : decode cX4_read 32 = .ok (.goto 8, 3) := by decide +kernel
theorem dX4_read_35 : decode cX4_read 35 = .ok (.aload_n 0, 1) := by decide +kernel
theorem dX4_read_36 : decode cX4_read 36 = .ok (.iconst 1, 1) := by decide +kernel
theorem dX4_read_37 : decode cX4_read 37 = .ok (.invokevirtual 76, 3) := by decide +kernel
theorem dX4_read_40 : decode cX4_read 40 = .ok (.ireturn, 1) := by decide +kernel
theorem dX4_readShown_0 : decode cX4_readShown 0 = .ok (.aload_n 0, 1) := by decide +kernel
theorem dX4_readShown_1 : decode cX4_readShown 1 = .ok (.iconst 0, 1) := by decide +kernel
theorem dX4_readShown_2 : decode cX4_readShown 2 = .ok (.putfield 31, 3) := by decide +kernel
theorem dX4_readShown_5 : decode cX4_readShown 5 = .ok (.aload_n 0, 1) := by decide +kernel
theorem dX4_readShown_6 : decode cX4_readShown 6 = .ok (.iload 5, 2) := by decide +kernel
theorem dX4_readShown_8 : decode cX4_readShown 8 = .ok (.invokevirtual 42, 3) := by decide +kernel
theorem dX4_readShown_11 : decode cX4_readShown 11 = .ok (.ifCond .ne 9, 3) := by decide +kernel
theorem dX4_readShown_14 : decode cX4_readShown 14 = .ok (.aload_n 0, 1) := by decide +kernel
theorem dX4_readShown_15 : decode cX4_readShown 15 = .ok (.iconst 1, 1) := by decide +kernel
theorem dX4_readShown_16 : decode cX4_readShown 16 = .ok (.invokevirtual 76, 3) := by decide +kernel
theorem dX4_readShown_19 : decode cX4_readShown 19 = .ok (.ireturn, 1) := by decide +kernel
theorem dX4_readShown_20 : decode cX4_readShown 20 = .ok (.iload_n 1, 1) := by decide +kernel
theorem dX4_readShown_21 : decode cX4_readShown 21 = .ok (.iload_n 2, 1) := by decide +kernel
theorem dX4_readShown_22 : decode cX4_readShown 22 = .ok (.iload_n 3, 1) := by decide +kernel
theorem dX4_readShown_23 : decode cX4_readShown 23 = .ok (.iload 4, 2) := by decide +kernel
theorem dX4_readShown_25 : decode cX4_readShown 25 = .ok (.invokestatic 79, 3) := by decide +kernel
theorem dX4_readShown_28 : decode cX4_readShown 28 = .ok (.ifCond .eq 17, 3) := by decide +kernel
theorem dX4_readShown_31 : decode cX4_readShown 31 = .ok (.aload_n 0, 1) := by decide +kernel
theorem dX4_readShown_32 : decode cX4_readShown 32 = .ok (.iload_n 1, 1) := by decide +kernel
theorem dX4_readShown_33 : decode cX4_readShown 33 = .ok (.iload_n 2, 1) := by decide +kernel
theorem dX4_readShown_34 : decode cX4_readShown 34 = .ok (.iload_n 3, 1) := by decide +kernel
theorem dX4_readShown_35 : decode cX4_readShown 35 = .ok (.iload 4, 2) := by decide +kernel
theorem dX4_readShown_37 : decode cX4_readShown 37 = .ok (.iload 5, 2) := by decide +kernel
theorem dX4_readShown_39 : decode cX4_readShown 39 = .ok (.invokevirtual 66, 3) := by decide +kernel
theorem dX4_readShown_42 : decode cX4_readShown 42 = .ok (.goto 8, 3) := by decide +kernel
theorem dX4_readShown_45 : decode cX4_readShown 45 = .ok (.aload_n 0, 1) := by decide +kernel
theorem dX4_readShown_46 : decode cX4_readShown 46 = .ok (.iconst 2, 1) := by decide +kernel
theorem dX4_readShown_47 : decode cX4_readShown 47 = .ok (.invokevirtual 76, 3) := by decide +kernel
theorem dX4_readShown_50 : decode cX4_readShown 50 = .ok (.ireturn, 1) := by decide +kernel
theorem dX4_understood_0 : decode cX4_understood 0 = .ok (.aload_n 0, 1) := by decide +kernel
theorem dX4_understood_1 : decode cX4_understood 1 = .ok (.iconst 0, 1) := by decide +kernel
theorem dX4_understood_2 : decode cX4_understood 2 = .ok (.putfield 31, 3) := by decide +kernel
theorem dX4_understood_5 : decode cX4_understood 5 = .ok (.aload_n 0, 1) := by decide +kernel
theorem dX4_understood_6 : decode cX4_understood 6 = .ok (.iload_n 1, 1) := by decide +kernel
theorem dX4_understood_7 : decode cX4_understood 7 = .ok (.invokevirtual 42, 3) := by decide +kernel
theorem dX4_understood_10 : decode cX4_understood 10 = .ok (.ifCond .eq 21, 3) := by decide +kernel
theorem dX4_understood_13 : decode cX4_understood 13 = .ok (.aload_n 0, 1) := by decide +kernel
theorem dX4_understood_14 : decode cX4_understood 14 = .ok (.iload_n 2, 1) := by decide +kernel
theorem dX4_understood_15 : decode cX4_understood 15 = .ok (.invokevirtual 42, 3) := by decide +kernel
theorem dX4_understood_18 : decode cX4_understood 18 = .ok (.ifCond .eq 13, 3) := by decide +kernel
theorem dX4_understood_21 : decode cX4_understood 21 = .ok (.aload_n 0, 1) := by decide +kernel
theorem dX4_understood_22 : decode cX4_understood 22 = .ok (.iload_n 1, 1) := by decide +kernel
theorem dX4_understood_23 : decode cX4_understood 23 = .ok (.iload_n 2, 1) := by decide +kernel
theorem dX4_understood_24 : decode cX4_understood 24 = .ok (.iconst 1, 1) := by decide +kernel
theorem dX4_understood_25 : decode cX4_understood 25 = .ok (.invokevirtual 131, 3) := by decide +kernel
theorem dX4_understood_28 : decode cX4_understood 28 = .ok (.goto 8, 3) := by decide +kernel
theorem dX4_understood_31 : decode cX4_understood 31 = .ok (.aload_n 0, 1) := by decide +kernel
theorem dX4_understood_32 : decode cX4_understood 32 = .ok (.iconst 1, 1) := by decide +kernel
theorem dX4_understood_33 : decode cX4_understood 33 = .ok (.invokevirtual 76, 3) := by decide +kernel
theorem dX4_understood_36 : decode cX4_understood 36 = .ok (.ireturn, 1) := by decide +kernel
theorem dX4_misread_0 : decode cX4_misread 0 = .ok (.aload_n 0, 1) := by decide +kernel
theorem dX4_misread_1 : decode cX4_misread 1 = .ok (.iconst 0, 1) := by decide +kernel
theorem dX4_misread_2 : decode cX4_misread 2 = .ok (.putfield 31, 3) := by decide +kernel
theorem dX4_misread_5 : decode cX4_misread 5 = .ok (.aload_n 0, 1) := by decide +kernel
theorem dX4_misread_6 : decode cX4_misread 6 = .ok (.iload_n 1, 1) := by decide +kernel
theorem dX4_misread_7 : decode cX4_misread 7 = .ok (.invokevirtual 42, 3) := by decide +kernel
theorem dX4_misread_10 : decode cX4_misread 10 = .ok (.ifCond .eq 21, 3) := by decide +kernel
theorem dX4_misread_13 : decode cX4_misread 13 = .ok (.aload_n 0, 1) := by decide +kernel
theorem dX4_misread_14 : decode cX4_misread 14 = .ok (.iload_n 2, 1) := by decide +kernel
theorem dX4_misread_15 : decode cX4_misread 15 = .ok (.invokevirtual 42, 3) := by decide +kernel
theorem dX4_misread_18 : decode cX4_misread 18 = .ok (.ifCond .eq 13, 3) := by decide +kernel
theorem dX4_misread_21 : decode cX4_misread 21 = .ok (.aload_n 0, 1) := by decide +kernel
theorem dX4_misread_22 : decode cX4_misread 22 = .ok (.iload_n 1, 1) := by decide +kernel
theorem dX4_misread_23 : decode cX4_misread 23 = .ok (.iload_n 2, 1) := by decide +kernel
theorem dX4_misread_24 : decode cX4_misread 24 = .ok (.iconst 0, 1) := by decide +kernel
theorem dX4_misread_25 : decode cX4_misread 25 = .ok (.invokevirtual 131, 3) := by decide +kernel
theorem dX4_misread_28 : decode cX4_misread 28 = .ok (.goto 8, 3) := by decide +kernel
theorem dX4_misread_31 : decode cX4_misread 31 = .ok (.aload_n 0, 1) := by decide +kernel
theorem dX4_misread_32 : decode cX4_misread 32 = .ok (.iconst 1, 1) := by decide +kernel
theorem dX4_misread_33 : decode cX4_misread 33 = .ok (.invokevirtual 76, 3) := by decide +kernel
theorem dX4_misread_36 : decode cX4_misread 36 = .ok (.ireturn, 1) := by decide +kernel
theorem dX4_common_0 : decode cX4_common 0 = .ok (.aload_n 0, 1) := by decide +kernel
theorem dX4_common_1 : decode cX4_common 1 = .ok (.iconst 0, 1) := by decide +kernel
theorem dX4_common_2 : decode cX4_common 2 = .ok (.putfield 31, 3) := by decide +kernel
theorem dX4_common_5 : decode cX4_common 5 = .ok (.aload_n 0, 1) := by decide +kernel
theorem dX4_common_6 : decode cX4_common 6 = .ok (.iload_n 1, 1) := by decide +kernel
theorem dX4_common_7 : decode cX4_common 7 = .ok (.invokevirtual 42, 3) := by decide +kernel
theorem dX4_common_10 : decode cX4_common 10 = .ok (.ifCond .eq 11, 3) := by decide +kernel
theorem dX4_common_13 : decode cX4_common 13 = .ok (.aload_n 0, 1) := by decide +kernel
theorem dX4_common_14 : decode cX4_common 14 = .ok (.iload_n 2, 1) := by decide +kernel
theorem dX4_common_15 : decode cX4_common 15 = .ok (.invokevirtual 42, 3) := by decide +kernel
theorem dX4_common_18 : decode cX4_common 18 = .ok (.ifCond .ne 9, 3) := by decide +kernel
theorem dX4_common_21 : decode cX4_common 21 = .ok (.aload_n 0, 1) := by decide +kernel
theorem dX4_common_22 : decode cX4_common 22 = .ok (.iconst 1, 1) := by decide +kernel
theorem dX4_common_23 : decode cX4_common 23 = .ok (.invokevirtual 76, 3) := by decide +kernel
theorem dX4_common_26 : decode cX4_common 26 = .ok (.ireturn, 1) := by decide +kernel
theorem dX4_common_27 : decode cX4_common 27 = .ok (.iconst 0, 1) := by decide +kernel
theorem dX4_common_28 : decode cX4_common 28 = .ok (.istore_n 3, 1) := by decide +kernel
theorem dX4_common_29 : decode cX4_common 29 = .ok (.iload_n 1, 1) := by decide +kernel
theorem dX4_common_30 : decode cX4_common 30 = .ok (.iconst 0, 1) := by decide +kernel
theorem dX4_common_31 : decode cX4_common 31 = .ok (.invokestatic 63, 3) := by decide +kernel
theorem dX4_common_34 : decode cX4_common 34 = .ok (.istore 4, 2) := by decide +kernel
theorem dX4_common_36 : decode cX4_common 36 = .ok (.iload 4, 2) := by decide +kernel
theorem dX4_common_38 : decode cX4_common 38 = .ok (.iload_n 1, 1) := by decide +kernel
theorem dX4_common_39 : decode cX4_common 39 = .ok (.aload_n 0, 1) := by decide +kernel
theorem dX4_common_40 : decode cX4_common 40 = .ok (.getfield 9, 3) := by decide +kernel
theorem dX4_common_43 : decode cX4_common 43 = .ok (.iload_n 1, 1) := by decide +kernel
theorem dX4_common_44 : decode cX4_common 44 = .ok (.iaload, 1) := by decide +kernel
theorem dX4_common_45 : decode cX4_common 45 = .ok (.invokestatic 63, 3) := by decide +kernel
theorem dX4_common_48 : decode cX4_common 48 = .ok (.if_icmp .ge 75, 3) := by decide +kernel
theorem dX4_common_51 : decode cX4_common 51 = .ok (.aload_n 0, 1) := by decide +kernel
theorem dX4_common_52 : decode cX4_common 52 = .ok (.iload_n 2, 1) := by decide +kernel
theorem dX4_common_53 : decode cX4_common 53 = .ok (.aload_n 0, 1) := by decide +kernel
theorem dX4_common_54 : decode cX4_common 54 = .ok (.getfield 25, 3) := by decide +kernel
theorem dX4_common_57 : decode cX4_common 57 = .ok (.iload 4, 2) := by decide +kernel
theorem dX4_common_59 : decode cX4_common 59 = .ok (.iaload, 1) := by decide +kernel
theorem dX4_common_60 : decode cX4_common 60 = .ok (.invokevirtual 69, 3) := by decide +kernel
theorem dX4_common_63 : decode cX4_common 63 = .ok (.istore 5, 2) := by decide +kernel
theorem dX4_common_65 : decode cX4_common 65 = .ok (.iload_n 3, 1) := by decide +kernel
theorem dX4_common_66 : decode cX4_common 66 = .ok (.iload 5, 2) := by decide +kernel
theorem dX4_common_68 : decode cX4_common 68 = .ok (.iconst (-1), 1) := by decide +kernel
theorem dX4_common_69 : decode cX4_common 69 = .ok (.if_icmp .eq 45, 3) := by decide +kernel
theorem dX4_common_72 : decode cX4_common 72 = .ok (.aload_n 0, 1) := by decide +kernel
theorem dX4_common_73 : decode cX4_common 73 = .ok (.iload 4, 2) := by decide +kernel
theorem dX4_common_75 : decode cX4_common 75 = .ok (.iload_n 2, 1) := by decide +kernel
theorem dX4_common_76 : decode cX4_common 76 = .ok (.invokevirtual 74, 3) := by decide +kernel
theorem dX4_common_79 : decode cX4_common 79 = .ok (.aload_n 0, 1) := by decide +kernel
theorem dX4_common_80 : decode cX4_common 80 = .ok (.getfield 25, 3) := by decide +kernel
theorem dX4_common_83 : decode cX4_common 83 = .ok (.iload 4, 2) := by decide +kernel
theorem dX4_common_85 : decode cX4_common 85 = .ok (.iaload, 1) := by decide +kernel
theorem dX4_common_86 : decode cX4_common 86 = .ok (.if_icmp .ne 28, 3) := by decide +kernel
theorem dX4_common_89 : decode cX4_common 89 = .ok (.aload_n 0, 1) := by decide +kernel
theorem dX4_common_90 : decode cX4_common 90 = .ok (.iload_n 2, 1) := by decide +kernel
theorem dX4_common_91 : decode cX4_common 91 = .ok (.iload 5, 2) := by decide +kernel
theorem dX4_common_93 : decode cX4_common 93 = .ok (.invokestatic 63, 3) := by decide +kernel
theorem dX4_common_96 : decode cX4_common 96 = .ok (.iload_n 1, 1) := by decide +kernel
theorem dX4_common_97 : decode cX4_common 97 = .ok (.invokevirtual 74, 3) := by decide +kernel
theorem dX4_common_100 : decode cX4_common 100 = .ok (.aload_n 0, 1) := by decide +kernel
theorem dX4_common_101 : decode cX4_common 101 = .ok (.getfield 25, 3) := by decide +kernel
theorem dX4_common_104 : decode cX4_common 104 = .ok (.iload 4, 2) := by decide +kernel
theorem dX4_common_106 : decode cX4_common 106 = .ok (.iaload, 1) := by decide +kernel
theorem dX4_common_107 : decode cX4_common 107 = .ok (.if_icmp .ne 7, 3) := by decide +kernel
theorem dX4_common_110 : decode cX4_common 110 = .ok (.iconst 1, 1) := by decide +kernel
theorem dX4_common_111 : decode cX4_common 111 = .ok (.goto 4, 3) := by decide +kernel
theorem dX4_common_114 : decode cX4_common 114 = .ok (.iconst 0, 1) := by decide +kernel
theorem dX4_common_115 : decode cX4_common 115 = .ok (.iadd, 1) := by decide +kernel
theorem dX4_common_116 : decode cX4_common 116 = .ok (.istore_n 3, 1) := by decide +kernel
theorem dX4_common_117 : decode cX4_common 117 = .ok (.iinc 4 1, 3) := by decide +kernel
theorem dX4_common_120 : decode cX4_common 120 = .ok (.goto (-84), 3) := by decide +kernel
theorem dX4_common_123 : decode cX4_common 123 = .ok (.iload_n 3, 1) := by decide +kernel
theorem dX4_common_124 : decode cX4_common 124 = .ok (.ireturn, 1) := by decide +kernel
theorem dX4_bestThumbOf_0 : decode cX4_bestThumbOf 0 = .ok (.iload_n 1, 1) := by decide +kernel
theorem dX4_bestThumbOf_1 : decode cX4_bestThumbOf 1 = .ok (.iload_n 2, 1) := by decide +kernel
theorem dX4_bestThumbOf_2 : decode cX4_bestThumbOf 2 = .ok (.invokestatic 63, 3) := by decide +kernel
theorem dX4_bestThumbOf_5 : decode cX4_bestThumbOf 5 = .ok (.istore_n 3, 1) := by decide +kernel
theorem dX4_bestThumbOf_6 : decode cX4_bestThumbOf 6 = .ok (.aload_n 0, 1) := by decide +kernel
theorem dX4_bestThumbOf_7 : decode cX4_bestThumbOf 7 = .ok (.getfield 9, 3) := by decide +kernel
theorem dX4_bestThumbOf_10 : decode cX4_bestThumbOf 10 = .ok (.iload_n 1, 1) := by decide +kernel
theorem dX4_bestThumbOf_11 : decode cX4_bestThumbOf 11 = .ok (.iaload, 1) := by decide +kernel
theorem dX4_bestThumbOf_12 : decode cX4_bestThumbOf 12 = .ok (.iconst 1, 1) := by decide +kernel
theorem dX4_bestThumbOf_13 : decode cX4_bestThumbOf 13 = .ok (.if_icmp .ne 10, 3) := by decide +kernel
theorem dX4_bestThumbOf_16 : decode cX4_bestThumbOf 16 = .ok (.aload_n 0, 1) := by decide +kernel
theorem dX4_bestThumbOf_17 : decode cX4_bestThumbOf 17 = .ok (.getfield 16, 3) := by decide +kernel
theorem dX4_bestThumbOf_20 : decode cX4_bestThumbOf 20 = .ok (.iload_n 3, 1) := by decide +kernel
theorem dX4_bestThumbOf_21 : decode cX4_bestThumbOf 21 = .ok (.iaload, 1) := by decide +kernel
theorem dX4_bestThumbOf_22 : decode cX4_bestThumbOf 22 = .ok (.ireturn, 1) := by decide +kernel
theorem dX4_bestThumbOf_23 : decode cX4_bestThumbOf 23 = .ok (.iconst (-1), 1) := by decide +kernel
theorem dX4_bestThumbOf_24 : decode cX4_bestThumbOf 24 = .ok (.istore 4, 2) := by decide +kernel
theorem dX4_bestThumbOf_26 : decode cX4_bestThumbOf 26 = .ok (.iconst (-1), 1) := by decide +kernel
theorem dX4_bestThumbOf_27 : decode cX4_bestThumbOf 27 = .ok (.istore 5, 2) := by decide +kernel
theorem dX4_bestThumbOf_29 : decode cX4_bestThumbOf 29 = .ok (.iconst 0, 1) := by decide +kernel
theorem dX4_bestThumbOf_30 : decode cX4_bestThumbOf 30 = .ok (.istore 6, 2) := by decide +kernel
theorem dX4_bestThumbOf_32 : decode cX4_bestThumbOf 32 = .ok (.iload 6, 2) := by decide +kernel
theorem dX4_bestThumbOf_34 : decode cX4_bestThumbOf 34 = .ok (.iconst 4, 1) := by decide +kernel
theorem dX4_bestThumbOf_35 : decode cX4_bestThumbOf 35 = .ok (.if_icmp .ge 98, 3) := by decide +kernel
theorem dX4_bestThumbOf_38 : decode cX4_bestThumbOf 38 = .ok (.bipush 99, 2) := by decide +kernel
theorem dX4_bestThumbOf_40 : decode cX4_bestThumbOf 40 = .ok (.istore 7, 2) := by decide +kernel
theorem dX4_bestThumbOf_42 : decode cX4_bestThumbOf 42 = .ok (.iload_n 1, 1) := by decide +kernel
theorem dX4_bestThumbOf_43 : decode cX4_bestThumbOf 43 = .ok (.iconst 0, 1) := by decide +kernel
theorem dX4_bestThumbOf_44 : decode cX4_bestThumbOf 44 = .ok (.invokestatic 63, 3) := by decide +kernel
theorem dX4_bestThumbOf_47 : decode cX4_bestThumbOf 47 = .ok (.istore 8, 2) := by decide +kernel
theorem dX4_bestThumbOf_49 : decode cX4_bestThumbOf 49 = .ok (.iload 8, 2) := by decide +kernel
theorem dX4_bestThumbOf_51 : decode cX4_bestThumbOf 51 = .ok (.iload_n 1, 1) := by decide +kernel
theorem dX4_bestThumbOf_52 : decode cX4_bestThumbOf 52 = .ok (.aload_n 0, 1) := by decide +kernel
theorem dX4_bestThumbOf_53 : decode cX4_bestThumbOf 53 = .ok (.getfield 9, 3) := by decide +kernel
theorem dX4_bestThumbOf_56 : decode cX4_bestThumbOf 56 = .ok (.iload_n 1, 1) := by decide +kernel
theorem dX4_bestThumbOf_57 : decode cX4_bestThumbOf 57 = .ok (.iaload, 1) := by decide +kernel
theorem dX4_bestThumbOf_58 : decode cX4_bestThumbOf 58 = .ok (.invokestatic 63, 3) := by decide +kernel
theorem dX4_bestThumbOf_61 : decode cX4_bestThumbOf 61 = .ok (.if_icmp .ge 48, 3) := by decide +kernel
theorem dX4_bestThumbOf_64 : decode cX4_bestThumbOf 64 = .ok (.iload 8, 2) := by decide +kernel
theorem dX4_bestThumbOf_66 : decode cX4_bestThumbOf 66 = .ok (.iload_n 3, 1) := by decide +kernel
theorem dX4_bestThumbOf_67 : decode cX4_bestThumbOf 67 = .ok (.if_icmp .eq 36, 3) := by decide +kernel
theorem dX4_bestThumbOf_70 : decode cX4_bestThumbOf 70 = .ok (.iload 7, 2) := by decide +kernel
theorem dX4_bestThumbOf_72 : decode cX4_bestThumbOf 72 = .ok (.aload_n 0, 1) := by decide +kernel
theorem dX4_bestThumbOf_73 : decode cX4_bestThumbOf 73 = .ok (.aload_n 0, 1) := by decide +kernel
theorem dX4_bestThumbOf_74 : decode cX4_bestThumbOf 74 = .ok (.getfield 13, 3) := by decide +kernel
theorem dX4_bestThumbOf_77 : decode cX4_bestThumbOf 77 = .ok (.iload_n 3, 1) := by decide +kernel
theorem dX4_bestThumbOf_78 : decode cX4_bestThumbOf 78 = .ok (.iaload, 1) := by decide +kernel
theorem dX4_bestThumbOf_79 : decode cX4_bestThumbOf 79 = .ok (.iload 6, 2) := by decide +kernel
theorem dX4_bestThumbOf_81 : decode cX4_bestThumbOf 81 = .ok (.aload_n 0, 1) := by decide +kernel
theorem dX4_bestThumbOf_82 : decode cX4_bestThumbOf 82 = .ok (.getfield 19, 3) := by decide +kernel
theorem dX4_bestThumbOf_85 : decode cX4_bestThumbOf 85 = .ok (.iload_n 3, 1) := by decide +kernel
theorem dX4_bestThumbOf_86 : decode cX4_bestThumbOf 86 = .ok (.iaload, 1) := by decide +kernel
theorem dX4_bestThumbOf_87 : decode cX4_bestThumbOf 87 = .ok (.aload_n 0, 1) := by decide +kernel
theorem dX4_bestThumbOf_88 : decode cX4_bestThumbOf 88 = .ok (.getfield 22, 3) := by decide +kernel
theorem dX4_bestThumbOf_91 : decode cX4_bestThumbOf 91 = .ok (.iload_n 3, 1) := by decide +kernel
theorem dX4_bestThumbOf_92 : decode cX4_bestThumbOf 92 = .ok (.iaload, 1) := by decide +kernel
theorem dX4_bestThumbOf_93 : decode cX4_bestThumbOf 93 = .ok (.iload 8, 2) := by decide +kernel
theorem dX4_bestThumbOf_95 : decode cX4_bestThumbOf 95 = .ok (.invokevirtual 59, 3) := by decide +kernel
theorem dX4_bestThumbOf_98 : decode cX4_bestThumbOf 98 = .ok (.invokestatic 95, 3) := by decide +kernel
theorem dX4_bestThumbOf_101 : decode cX4_bestThumbOf 101 = .ok (.istore 7, 2) := by decide +kernel
theorem dX4_bestThumbOf_103 : decode cX4_bestThumbOf 103 = .ok (.iinc 8 1, 3) := by decide +kernel
theorem dX4_bestThumbOf_106 : decode cX4_bestThumbOf 106 = .ok (.goto (-57), 3) := by decide +kernel
theorem dX4_bestThumbOf_109 : decode cX4_bestThumbOf 109 = .ok (.iload 7, 2) := by decide +kernel
theorem dX4_bestThumbOf_111 : decode cX4_bestThumbOf 111 = .ok (.iload 5, 2) := by decide +kernel
theorem dX4_bestThumbOf_113 : decode cX4_bestThumbOf 113 = .ok (.if_icmp .gt 6, 3) := by decide +kernel
theorem dX4_bestThumbOf_116 : decode cX4_bestThumbOf 116 = .ok (.goto 11, 3) := by decide +kernel
theorem dX4_bestThumbOf_119 : decode cX4_bestThumbOf 119 = .ok (.iload 6, 2) := by decide +kernel
theorem dX4_bestThumbOf_121 : decode cX4_bestThumbOf 121 = .ok (.istore 4, 2) := by decide +kernel
theorem dX4_bestThumbOf_123 : decode cX4_bestThumbOf 123 = .ok (.iload 7, 2) := by decide +kernel
theorem dX4_bestThumbOf_125 : decode cX4_bestThumbOf 125 = .ok (.istore 5, 2) := by decide +kernel
theorem dX4_bestThumbOf_127 : decode cX4_bestThumbOf 127 = .ok (.iinc 6 1, 3) := by decide +kernel
theorem dX4_bestThumbOf_130 : decode cX4_bestThumbOf 130 = .ok (.goto (-98), 3) := by decide +kernel
theorem dX4_bestThumbOf_133 : decode cX4_bestThumbOf 133 = .ok (.iload 4, 2) := by decide +kernel
theorem dX4_bestThumbOf_135 : decode cX4_bestThumbOf 135 = .ok (.ireturn, 1) := by decide +kernel
theorem dX4_bestThumb_0 : decode cX4_bestThumb 0 = .ok (.aload_n 0, 1) := by decide +kernel
theorem dX4_bestThumb_1 : decode cX4_bestThumb 1 = .ok (.iconst 0, 1) := by decide +kernel
theorem dX4_bestThumb_2 : decode cX4_bestThumb 2 = .ok (.putfield 31, 3) := by decide +kernel
theorem dX4_bestThumb_5 : decode cX4_bestThumb 5 = .ok (.aload_n 0, 1) := by decide +kernel
theorem dX4_bestThumb_6 : decode cX4_bestThumb 6 = .ok (.iload_n 1, 1) := by decide +kernel
theorem dX4_bestThumb_7 : decode cX4_bestThumb 7 = .ok (.iload_n 2, 1) := by decide +kernel
theorem dX4_bestThumb_8 : decode cX4_bestThumb 8 = .ok (.invokevirtual 87, 3) := by decide +kernel
theorem dX4_bestThumb_11 : decode cX4_bestThumb 11 = .ok (.ifCond .eq 12, 3) := by decide +kernel
theorem dX4_bestThumb_14 : decode cX4_bestThumb 14 = .ok (.aload_n 0, 1) := by decide +kernel
theorem dX4_bestThumb_15 : decode cX4_bestThumb 15 = .ok (.iload_n 1, 1) := by decide +kernel
theorem dX4_bestThumb_16 : decode cX4_bestThumb 16 = .ok (.iload_n 2, 1) := by decide +kernel
theorem dX4_bestThumb_17 : decode cX4_bestThumb 17 = .ok (.invokevirtual 135, 3) := by decide +kernel
theorem dX4_bestThumb_20 : decode cX4_bestThumb 20 = .ok (.goto 8, 3) := by decide +kernel
theorem dX4_bestThumb_23 : decode cX4_bestThumb 23 = .ok (.aload_n 0, 1) := by decide +kernel
theorem dX4_bestThumb_24 : decode cX4_bestThumb 24 = .ok (.iconst 1, 1) := by decide +kernel
theorem dX4_bestThumb_25 : decode cX4_bestThumb 25 = .ok (.invokevirtual 76, 3) := by decide +kernel
theorem dX4_bestThumb_28 : decode cX4_bestThumb 28 = .ok (.ireturn, 1) := by decide +kernel
theorem dX4_toBorrow_0 : decode cX4_toBorrow 0 = .ok (.iload_n 1, 1) := by decide +kernel
theorem dX4_toBorrow_1 : decode cX4_toBorrow 1 = .ok (.iload_n 2, 1) := by decide +kernel
theorem dX4_toBorrow_2 : decode cX4_toBorrow 2 = .ok (.if_icmp .ne 5, 3) := by decide +kernel
theorem dX4_toBorrow_5 : decode cX4_toBorrow 5 = .ok (.iconst (-1), 1) := by decide +kernel
theorem dX4_toBorrow_6 : decode cX4_toBorrow 6 = .ok (.ireturn, 1) := by decide +kernel
theorem dX4_toBorrow_7 : decode cX4_toBorrow 7 = .ok (.iconst (-1), 1) := by decide +kernel
theorem dX4_toBorrow_8 : decode cX4_toBorrow 8 = .ok (.istore_n 3, 1) := by decide +kernel
theorem dX4_toBorrow_9 : decode cX4_toBorrow 9 = .ok (.iconst (-1), 1) := by decide +kernel
theorem dX4_toBorrow_10 : decode cX4_toBorrow 10 = .ok (.istore 4, 2) := by decide +kernel
theorem dX4_toBorrow_12 : decode cX4_toBorrow 12 = .ok (.iconst 0, 1) := by decide +kernel
theorem dX4_toBorrow_13 : decode cX4_toBorrow 13 = .ok (.istore 5, 2) := by decide +kernel
theorem dX4_toBorrow_15 : decode cX4_toBorrow 15 = .ok (.iload 5, 2) := by decide +kernel
theorem dX4_toBorrow_17 : decode cX4_toBorrow 17 = .ok (.aload_n 0, 1) := by decide +kernel
theorem dX4_toBorrow_18 : decode cX4_toBorrow 18 = .ok (.getfield 9, 3) := by decide +kernel
theorem dX4_toBorrow_21 : decode cX4_toBorrow 21 = .ok (.iload_n 1, 1) := by decide +kernel
theorem dX4_toBorrow_22 : decode cX4_toBorrow 22 = .ok (.iaload, 1) := by decide +kernel
theorem dX4_toBorrow_23 : decode cX4_toBorrow 23 = .ok (.if_icmp .ge 106, 3) := by decide +kernel
theorem dX4_toBorrow_26 : decode cX4_toBorrow 26 = .ok (.iload_n 1, 1) := by decide +kernel
theorem dX4_toBorrow_27 : decode cX4_toBorrow 27 = .ok (.iload 5, 2) := by decide +kernel
theorem dX4_toBorrow_29 : decode cX4_toBorrow 29 = .ok (.invokestatic 63, 3) := by decide +kernel
theorem dX4_toBorrow_32 : decode cX4_toBorrow 32 = .ok (.istore 6, 2) := by decide +kernel
theorem dX4_toBorrow_34 : decode cX4_toBorrow 34 = .ok (.aload_n 0, 1) := by decide +kernel
theorem dX4_toBorrow_35 : decode cX4_toBorrow 35 = .ok (.iload 6, 2) := by decide +kernel
theorem dX4_toBorrow_37 : decode cX4_toBorrow 37 = .ok (.iload_n 2, 1) := by decide +kernel
theorem dX4_toBorrow_38 : decode cX4_toBorrow 38 = .ok (.invokevirtual 109, 3) := by decide +kernel
theorem dX4_toBorrow_41 : decode cX4_toBorrow 41 = .ok (.istore 7, 2) := by decide +kernel
theorem dX4_toBorrow_43 : decode cX4_toBorrow 43 = .ok (.iload 7, 2) := by decide +kernel
theorem dX4_toBorrow_45 : decode cX4_toBorrow 45 = .ok (.iconst (-1), 1) := by decide +kernel
theorem dX4_toBorrow_46 : decode cX4_toBorrow 46 = .ok (.if_icmp .ne 6, 3) := by decide +kernel
theorem dX4_toBorrow_49 : decode cX4_toBorrow 49 = .ok (.goto 74, 3) := by decide +kernel
theorem dX4_toBorrow_52 : decode cX4_toBorrow 52 = .ok (.aload_n 0, 1) := by decide +kernel
theorem dX4_toBorrow_53 : decode cX4_toBorrow 53 = .ok (.iload_n 2, 1) := by decide +kernel
theorem dX4_toBorrow_54 : decode cX4_toBorrow 54 = .ok (.aload_n 0, 1) := by decide +kernel
theorem dX4_toBorrow_55 : decode cX4_toBorrow 55 = .ok (.getfield 13, 3) := by decide +kernel
theorem dX4_toBorrow_58 : decode cX4_toBorrow 58 = .ok (.iload 6, 2) := by decide +kernel
theorem dX4_toBorrow_60 : decode cX4_toBorrow 60 = .ok (.iaload, 1) := by decide +kernel
theorem dX4_toBorrow_61 : decode cX4_toBorrow 61 = .ok (.iload 7, 2) := by decide +kernel
theorem dX4_toBorrow_63 : decode cX4_toBorrow 63 = .ok (.aload_n 0, 1) := by decide +kernel
theorem dX4_toBorrow_64 : decode cX4_toBorrow 64 = .ok (.getfield 19, 3) := by decide +kernel
theorem dX4_toBorrow_67 : decode cX4_toBorrow 67 = .ok (.iload 6, 2) := by decide +kernel
theorem dX4_toBorrow_69 : decode cX4_toBorrow 69 = .ok (.iaload, 1) := by decide +kernel
theorem dX4_toBorrow_70 : decode cX4_toBorrow 70 = .ok (.aload_n 0, 1) := by decide +kernel
theorem dX4_toBorrow_71 : decode cX4_toBorrow 71 = .ok (.getfield 22, 3) := by decide +kernel
theorem dX4_toBorrow_74 : decode cX4_toBorrow 74 = .ok (.iload 6, 2) := by decide +kernel
theorem dX4_toBorrow_76 : decode cX4_toBorrow 76 = .ok (.iaload, 1) := by decide +kernel
theorem dX4_toBorrow_77 : decode cX4_toBorrow 77 = .ok (.aload_n 0, 1) := by decide +kernel
theorem dX4_toBorrow_78 : decode cX4_toBorrow 78 = .ok (.getfield 25, 3) := by decide +kernel
theorem dX4_toBorrow_81 : decode cX4_toBorrow 81 = .ok (.iload 6, 2) := by decide +kernel
theorem dX4_toBorrow_83 : decode cX4_toBorrow 83 = .ok (.iaload, 1) := by decide +kernel
theorem dX4_toBorrow_84 : decode cX4_toBorrow 84 = .ok (.invokevirtual 83, 3) := by decide +kernel
theorem dX4_toBorrow_87 : decode cX4_toBorrow 87 = .ok (.aload_n 0, 1) := by decide +kernel
theorem dX4_toBorrow_88 : decode cX4_toBorrow 88 = .ok (.iload_n 1, 1) := by decide +kernel
theorem dX4_toBorrow_89 : decode cX4_toBorrow 89 = .ok (.iload_n 2, 1) := by decide +kernel
theorem dX4_toBorrow_90 : decode cX4_toBorrow 90 = .ok (.iconst 1, 1) := by decide +kernel
theorem dX4_toBorrow_91 : decode cX4_toBorrow 91 = .ok (.invokevirtual 131, 3) := by decide +kernel
theorem dX4_toBorrow_94 : decode cX4_toBorrow 94 = .ok (.istore 8, 2) := by decide +kernel
theorem dX4_toBorrow_96 : decode cX4_toBorrow 96 = .ok (.aload_n 0, 1) := by decide +kernel
theorem dX4_toBorrow_97 : decode cX4_toBorrow 97 = .ok (.getfield 9, 3) := by decide +kernel
theorem dX4_toBorrow_100 : decode cX4_toBorrow 100 = .ok (.iload_n 2, 1) := by decide +kernel
theorem dX4_toBorrow_101 : decode cX4_toBorrow 101 = .ok (.dup2, 1) := by decide +kernel
theorem dX4_toBorrow_102 : decode cX4_toBorrow 102 = .ok (.iaload, 1) := by decide +kernel
theorem dX4_toBorrow_103 : decode cX4_toBorrow 103 = .ok (.iconst 1, 1) := by decide +kernel
theorem dX4_toBorrow_104 : decode cX4_toBorrow 104 = .ok (.isub, 1) := by decide +kernel
theorem dX4_toBorrow_105 : decode cX4_toBorrow 105 = .ok (.iastore, 1) := by decide +kernel
theorem dX4_toBorrow_106 : decode cX4_toBorrow 106 = .ok (.iload 8, 2) := by decide +kernel
theorem dX4_toBorrow_108 : decode cX4_toBorrow 108 = .ok (.iload 4, 2) := by decide +kernel
theorem dX4_toBorrow_110 : decode cX4_toBorrow 110 = .ok (.if_icmp .gt 6, 3) := by decide +kernel
theorem dX4_toBorrow_113 : decode cX4_toBorrow 113 = .ok (.goto 10, 3) := by decide +kernel
theorem dX4_toBorrow_116 : decode cX4_toBorrow 116 = .ok (.iload 5, 2) := by decide +kernel
theorem dX4_toBorrow_118 : decode cX4_toBorrow 118 = .ok (.istore_n 3, 1) := by decide +kernel
theorem dX4_toBorrow_119 : decode cX4_toBorrow 119 = .ok (.iload 8, 2) := by decide +kernel
theorem dX4_toBorrow_121 : decode cX4_toBorrow 121 = .ok (.istore 4, 2) := by decide +kernel
theorem dX4_toBorrow_123 : decode cX4_toBorrow 123 = .ok (.iinc 5 1, 3) := by decide +kernel
theorem dX4_toBorrow_126 : decode cX4_toBorrow 126 = .ok (.goto (-111), 3) := by decide +kernel
theorem dX4_toBorrow_129 : decode cX4_toBorrow 129 = .ok (.iload_n 3, 1) := by decide +kernel
theorem dX4_toBorrow_130 : decode cX4_toBorrow 130 = .ok (.ireturn, 1) := by decide +kernel
theorem dX4_bestToBorrow_0 : decode cX4_bestToBorrow 0 = .ok (.aload_n 0, 1) := by decide +kernel
theorem dX4_bestToBorrow_1 : decode cX4_bestToBorrow 1 = .ok (.iconst 0, 1) := by decide +kernel
theorem dX4_bestToBorrow_2 : decode cX4_bestToBorrow 2 = .ok (.putfield 31, 3) := by decide +kernel
theorem dX4_bestToBorrow_5 : decode cX4_bestToBorrow 5 = .ok (.aload_n 0, 1) := by decide +kernel
theorem dX4_bestToBorrow_6 : decode cX4_bestToBorrow 6 = .ok (.iload_n 1, 1) := by decide +kernel
theorem dX4_bestToBorrow_7 : decode cX4_bestToBorrow 7 = .ok (.invokevirtual 42, 3) := by decide +kernel
theorem dX4_bestToBorrow_10 : decode cX4_bestToBorrow 10 = .ok (.ifCond .eq 20, 3) := by decide +kernel
theorem dX4_bestToBorrow_13 : decode cX4_bestToBorrow 13 = .ok (.aload_n 0, 1) := by decide +kernel
theorem dX4_bestToBorrow_14 : decode cX4_bestToBorrow 14 = .ok (.iload_n 2, 1) := by decide +kernel
theorem dX4_bestToBorrow_15 : decode cX4_bestToBorrow 15 = .ok (.invokevirtual 42, 3) := by decide +kernel
theorem dX4_bestToBorrow_18 : decode cX4_bestToBorrow 18 = .ok (.ifCond .eq 12, 3) := by decide +kernel
theorem dX4_bestToBorrow_21 : decode cX4_bestToBorrow 21 = .ok (.aload_n 0, 1) := by decide +kernel
theorem dX4_bestToBorrow_22 : decode cX4_bestToBorrow 22 = .ok (.iload_n 1, 1) := by decide +kernel
theorem dX4_bestToBorrow_23 : decode cX4_bestToBorrow 23 = .ok (.iload_n 2, 1) := by decide +kernel
theorem dX4_bestToBorrow_24 : decode cX4_bestToBorrow 24 = .ok (.invokevirtual 138, 3) := by decide +kernel
theorem dX4_bestToBorrow_27 : decode cX4_bestToBorrow 27 = .ok (.goto 8, 3) := by decide +kernel
theorem dX4_bestToBorrow_30 : decode cX4_bestToBorrow 30 = .ok (.aload_n 0, 1) := by decide +kernel
theorem dX4_bestToBorrow_31 : decode cX4_bestToBorrow 31 = .ok (.iconst 1, 1) := by decide +kernel
theorem dX4_bestToBorrow_32 : decode cX4_bestToBorrow 32 = .ok (.invokevirtual 76, 3) := by decide +kernel
theorem dX4_bestToBorrow_35 : decode cX4_bestToBorrow 35 = .ok (.ireturn, 1) := by decide +kernel
theorem dX4_alikeIfJoined_0 : decode cX4_alikeIfJoined 0 = .ok (.aload_n 0, 1) := by decide +kernel
theorem dX4_alikeIfJoined_1 : decode cX4_alikeIfJoined 1 = .ok (.iconst 0, 1) := by decide +kernel
theorem dX4_alikeIfJoined_2 : decode cX4_alikeIfJoined 2 = .ok (.putfield 31, 3) := by decide +kernel
theorem dX4_alikeIfJoined_5 : decode cX4_alikeIfJoined 5 = .ok (.iload_n 1, 1) := by decide +kernel
theorem dX4_alikeIfJoined_6 : decode cX4_alikeIfJoined 6 = .ok (.invokestatic 46, 3) := by decide +kernel
theorem dX4_alikeIfJoined_9 : decode cX4_alikeIfJoined 9 = .ok (.ifCond .eq 10, 3) := by decide +kernel
theorem dX4_alikeIfJoined_12 : decode cX4_alikeIfJoined 12 = .ok (.iload_n 2, 1) := by decide +kernel
theorem dX4_alikeIfJoined_13 : decode cX4_alikeIfJoined 13 = .ok (.invokestatic 46, 3) := by decide +kernel
theorem dX4_alikeIfJoined_16 : decode cX4_alikeIfJoined 16 = .ok (.ifCond .ne 9, 3) := by decide +kernel
theorem dX4_alikeIfJoined_19 : decode cX4_alikeIfJoined 19 = .ok (.aload_n 0, 1) := by decide +kernel
theorem dX4_alikeIfJoined_20 : decode cX4_alikeIfJoined 20 = .ok (.iconst 1, 1) := by decide +kernel
theorem dX4_alikeIfJoined_21 : decode cX4_alikeIfJoined 21 = .ok (.invokevirtual 76, 3) := by decide +kernel
theorem dX4_alikeIfJoined_24 : decode cX4_alikeIfJoined 24 = .ok (.ireturn, 1) := by decide +kernel
theorem dX4_alikeIfJoined_25 : decode cX4_alikeIfJoined 25 = .ok (.bipush 9, 2) := by decide +kernel
theorem dX4_alikeIfJoined_27 : decode cX4_alikeIfJoined 27 = .ok (.newarray .int, 2) := by decide +kernel
theorem dX4_alikeIfJoined_29 : decode cX4_alikeIfJoined 29 = .ok (.astore_n 3, 1) := by decide +kernel
theorem dX4_alikeIfJoined_30 : decode cX4_alikeIfJoined 30 = .ok (.aload_n 0, 1) := by decide +kernel
theorem dX4_alikeIfJoined_31 : decode cX4_alikeIfJoined 31 = .ok (.getfield 28, 3) := by decide +kernel
theorem dX4_alikeIfJoined_34 : decode cX4_alikeIfJoined 34 = .ok (.iconst 0, 1) := by decide +kernel
theorem dX4_alikeIfJoined_35 : decode cX4_alikeIfJoined 35 = .ok (.aload_n 3, 1) := by decide +kernel
theorem dX4_alikeIfJoined_36 : decode cX4_alikeIfJoined 36 = .ok (.iconst 0, 1) := by decide +kernel
theorem dX4_alikeIfJoined_37 : decode cX4_alikeIfJoined 37 = .ok (.bipush 9, 2) := by decide +kernel
theorem dX4_alikeIfJoined_39 : decode cX4_alikeIfJoined 39 = .ok (.invokestatic 141, 3) := by decide +kernel
theorem dX4_alikeIfJoined_42 : decode cX4_alikeIfJoined 42 = .ok (.aload_n 0, 1) := by decide +kernel
theorem dX4_alikeIfJoined_43 : decode cX4_alikeIfJoined 43 = .ok (.iload_n 1, 1) := by decide +kernel
theorem dX4_alikeIfJoined_44 : decode cX4_alikeIfJoined 44 = .ok (.iload_n 2, 1) := by decide +kernel
theorem dX4_alikeIfJoined_45 : decode cX4_alikeIfJoined 45 = .ok (.invokevirtual 101, 3) := by decide +kernel
theorem dX4_alikeIfJoined_48 : decode cX4_alikeIfJoined 48 = .ok (.iconst 0, 1) := by decide +kernel
theorem dX4_alikeIfJoined_49 : decode cX4_alikeIfJoined 49 = .ok (.istore 4, 2) := by decide +kernel
theorem dX4_alikeIfJoined_51 : decode cX4_alikeIfJoined 51 = .ok (.iconst 0, 1) := by decide +kernel
theorem dX4_alikeIfJoined_52 : decode cX4_alikeIfJoined 52 = .ok (.istore 5, 2) := by decide +kernel
theorem dX4_alikeIfJoined_54 : decode cX4_alikeIfJoined 54 = .ok (.iload 5, 2) := by decide +kernel
theorem dX4_alikeIfJoined_56 : decode cX4_alikeIfJoined 56 = .ok (.aload_n 0, 1) := by decide +kernel
theorem dX4_alikeIfJoined_57 : decode cX4_alikeIfJoined 57 = .ok (.getfield 35, 3) := by decide +kernel
theorem dX4_alikeIfJoined_60 : decode cX4_alikeIfJoined 60 = .ok (.if_icmp .ge 20, 3) := by decide +kernel
theorem dX4_alikeIfJoined_63 : decode cX4_alikeIfJoined 63 = .ok (.iload 4, 2) := by decide +kernel
theorem dX4_alikeIfJoined_65 : decode cX4_alikeIfJoined 65 = .ok (.aload_n 0, 1) := by decide +kernel
theorem dX4_alikeIfJoined_66 : decode cX4_alikeIfJoined 66 = .ok (.iload 5, 2) := by decide +kernel
theorem dX4_alikeIfJoined_68 : decode cX4_alikeIfJoined 68 = .ok (.invokevirtual 119, 3) := by decide +kernel
theorem dX4_alikeIfJoined_71 : decode cX4_alikeIfJoined 71 = .ok (.iadd, 1) := by decide +kernel
theorem dX4_alikeIfJoined_72 : decode cX4_alikeIfJoined 72 = .ok (.istore 4, 2) := by decide +kernel
theorem dX4_alikeIfJoined_74 : decode cX4_alikeIfJoined 74 = .ok (.iinc 5 1, 3) := by decide +kernel
theorem dX4_alikeIfJoined_77 : decode cX4_alikeIfJoined 77 = .ok (.goto (-23), 3) := by decide +kernel
theorem dX4_alikeIfJoined_80 : decode cX4_alikeIfJoined 80 = .ok (.aload_n 3, 1) := by decide +kernel
theorem dX4_alikeIfJoined_81 : decode cX4_alikeIfJoined 81 = .ok (.iconst 0, 1) := by decide +kernel
theorem dX4_alikeIfJoined_82 : decode cX4_alikeIfJoined 82 = .ok (.aload_n 0, 1) := by decide +kernel
theorem dX4_alikeIfJoined_83 : decode cX4_alikeIfJoined 83 = .ok (.getfield 28, 3) := by decide +kernel
theorem dX4_alikeIfJoined_86 : decode cX4_alikeIfJoined 86 = .ok (.iconst 0, 1) := by decide +kernel
theorem dX4_alikeIfJoined_87 : decode cX4_alikeIfJoined 87 = .ok (.bipush 9, 2) := by decide +kernel
theorem dX4_alikeIfJoined_89 : decode cX4_alikeIfJoined 89 = .ok (.invokestatic 141, 3) := by decide +kernel
theorem dX4_alikeIfJoined_92 : decode cX4_alikeIfJoined 92 = .ok (.iload 4, 2) := by decide +kernel
theorem dX4_alikeIfJoined_94 : decode cX4_alikeIfJoined 94 = .ok (.ireturn, 1) := by decide +kernel
theorem dX4_meanSigns_0 : decode cX4_meanSigns 0 = .ok (.aload_n 0, 1) := by decide +kernel
theorem dX4_meanSigns_1 : decode cX4_meanSigns 1 = .ok (.iconst 0, 1) := by decide +kernel
theorem dX4_meanSigns_2 : decode cX4_meanSigns 2 = .ok (.putfield 31, 3) := by decide +kernel
theorem dX4_meanSigns_5 : decode cX4_meanSigns 5 = .ok (.iconst 0, 1) := by decide +kernel
theorem dX4_meanSigns_6 : decode cX4_meanSigns 6 = .ok (.istore_n 1, 1) := by decide +kernel
theorem dX4_meanSigns_7 : decode cX4_meanSigns 7 = .ok (.iconst 0, 1) := by decide +kernel
theorem dX4_meanSigns_8 : decode cX4_meanSigns 8 = .ok (.istore_n 2, 1) := by decide +kernel
theorem dX4_meanSigns_9 : decode cX4_meanSigns 9 = .ok (.iload_n 2, 1) := by decide +kernel
theorem dX4_meanSigns_10 : decode cX4_meanSigns 10 = .ok (.aload_n 0, 1) := by decide +kernel
theorem dX4_meanSigns_11 : decode cX4_meanSigns 11 = .ok (.getfield 35, 3) := by decide +kernel
theorem dX4_meanSigns_14 : decode cX4_meanSigns 14 = .ok (.if_icmp .ge 18, 3) := by decide +kernel
theorem dX4_meanSigns_17 : decode cX4_meanSigns 17 = .ok (.iload_n 1, 1) := by decide +kernel
theorem dX4_meanSigns_18 : decode cX4_meanSigns 18 = .ok (.aload_n 0, 1) := by decide +kernel
theorem dX4_meanSigns_19 : decode cX4_meanSigns 19 = .ok (.getfield 9, 3) := by decide +kernel
theorem dX4_meanSigns_22 : decode cX4_meanSigns 22 = .ok (.iload_n 2, 1) := by decide +kernel
theorem dX4_meanSigns_23 : decode cX4_meanSigns 23 = .ok (.iaload, 1) := by decide +kernel
theorem dX4_meanSigns_24 : decode cX4_meanSigns 24 = .ok (.iadd, 1) := by decide +kernel
theorem dX4_meanSigns_25 : decode cX4_meanSigns 25 = .ok (.istore_n 1, 1) := by decide +kernel
theorem dX4_meanSigns_26 : decode cX4_meanSigns 26 = .ok (.iinc 2 1, 3) := by decide +kernel
theorem dX4_meanSigns_29 : decode cX4_meanSigns 29 = .ok (.goto (-20), 3) := by decide +kernel
theorem dX4_meanSigns_32 : decode cX4_meanSigns 32 = .ok (.aload_n 0, 1) := by decide +kernel
theorem dX4_meanSigns_33 : decode cX4_meanSigns 33 = .ok (.getfield 35, 3) := by decide +kernel
theorem dX4_meanSigns_36 : decode cX4_meanSigns 36 = .ok (.ifCond .ne 7, 3) := by decide +kernel
theorem dX4_meanSigns_39 : decode cX4_meanSigns 39 = .ok (.dconst 0, 1) := by decide +kernel
theorem dX4_meanSigns_40 : decode cX4_meanSigns 40 = .ok (.goto 11, 3) := by decide +kernel
theorem dX4_meanSigns_43 : decode cX4_meanSigns 43 = .ok (.iload_n 1, 1) := by decide +kernel
theorem dX4_meanSigns_44 : decode cX4_meanSigns 44 = .ok (.i2d, 1) := by decide +kernel
theorem dX4_meanSigns_45 : decode cX4_meanSigns 45 = .ok (.aload_n 0, 1) := by decide +kernel
theorem dX4_meanSigns_46 : decode cX4_meanSigns 46 = .ok (.getfield 35, 3) := by decide +kernel
theorem dX4_meanSigns_49 : decode cX4_meanSigns 49 = .ok (.i2d, 1) := by decide +kernel
theorem dX4_meanSigns_50 : decode cX4_meanSigns 50 = .ok (.ddiv, 1) := by decide +kernel
theorem dX4_meanSigns_51 : decode cX4_meanSigns 51 = .ok (.dreturn, 1) := by decide +kernel
theorem dX4_digest_0 : decode cX4_digest 0 = .ok (.aload_n 0, 1) := by decide +kernel
theorem dX4_digest_1 : decode cX4_digest 1 = .ok (.iconst 0, 1) := by decide +kernel
theorem dX4_digest_2 : decode cX4_digest 2 = .ok (.putfield 31, 3) := by decide +kernel
theorem dX4_digest_5 : decode cX4_digest 5 = .ok (.ldc2_w 147, 3) := by decide +kernel
theorem dX4_digest_8 : decode cX4_digest 8 = .ok (.lstore_n 1, 1) := by decide +kernel
theorem dX4_digest_9 : decode cX4_digest 9 = .ok (.lload_n 1, 1) := by decide +kernel
theorem dX4_digest_10 : decode cX4_digest 10 = .ok (.ldc2_w 149, 3) := by decide +kernel
theorem dX4_digest_13 : decode cX4_digest 13 = .ok (.lmul, 1) := by decide +kernel
theorem dX4_digest_14 : decode cX4_digest 14 = .ok (.aload_n 0, 1) := by decide +kernel
theorem dX4_digest_15 : decode cX4_digest 15 = .ok (.getfield 35, 3) := by decide +kernel
theorem dX4_digest_18 : decode cX4_digest 18 = .ok (.i2l, 1) := by decide +kernel
theorem dX4_digest_19 : decode cX4_digest 19 = .ok (.ladd, 1) := by decide +kernel
theorem dX4_digest_20 : decode cX4_digest 20 = .ok (.lstore_n 1, 1) := by decide +kernel
theorem dX4_digest_21 : decode cX4_digest 21 = .ok (.lload_n 1, 1) := by decide +kernel
theorem dX4_digest_22 : decode cX4_digest 22 = .ok (.ldc2_w 149, 3) := by decide +kernel
theorem dX4_digest_25 : decode cX4_digest 25 = .ok (.lmul, 1) := by decide +kernel
theorem dX4_digest_26 : decode cX4_digest 26 = .ok (.aload_n 0, 1) := by decide +kernel
theorem dX4_digest_27 : decode cX4_digest 27 = .ok (.invokevirtual 105, 3) := by decide +kernel
theorem dX4_digest_30 : decode cX4_digest 30 = .ok (.i2l, 1) := by decide +kernel
theorem dX4_digest_31 : decode cX4_digest 31 = .ok (.ladd, 1) := by decide +kernel
theorem dX4_digest_32 : decode cX4_digest 32 = .ok (.lstore_n 1, 1) := by decide +kernel
theorem dX4_digest_33 : decode cX4_digest 33 = .ok (.iconst 0, 1) := by decide +kernel
theorem dX4_digest_34 : decode cX4_digest 34 = .ok (.istore_n 3, 1) := by decide +kernel
theorem dX4_digest_35 : decode cX4_digest 35 = .ok (.iload_n 3, 1) := by decide +kernel
theorem dX4_digest_36 : decode cX4_digest 36 = .ok (.aload_n 0, 1) := by decide +kernel
theorem dX4_digest_37 : decode cX4_digest 37 = .ok (.getfield 35, 3) := by decide +kernel
theorem dX4_digest_40 : decode cX4_digest 40 = .ok (.if_icmp .ge 287, 3) := by decide +kernel
theorem dX4_digest_43 : decode cX4_digest 43 = .ok (.iconst 5, 1) := by decide +kernel
theorem dX4_digest_44 : decode cX4_digest 44 = .ok (.newarray .int, 2) := by decide +kernel
theorem dX4_digest_46 : decode cX4_digest 46 = .ok (.dup, 1) := by decide +kernel
theorem dX4_digest_47 : decode cX4_digest 47 = .ok (.iconst 0, 1) := by decide +kernel
theorem dX4_digest_48 : decode cX4_digest 48 = .ok (.aload_n 0, 1) := by decide +kernel
theorem dX4_digest_49 : decode cX4_digest 49 = .ok (.getfield 9, 3) := by decide +kernel
theorem dX4_digest_52 : decode cX4_digest 52 = .ok (.iload_n 3, 1) := by decide +kernel
theorem dX4_digest_53 : decode cX4_digest 53 = .ok (.iaload, 1) := by decide +kernel
theorem dX4_digest_54 : decode cX4_digest 54 = .ok (.iastore, 1) := by decide +kernel
theorem dX4_digest_55 : decode cX4_digest 55 = .ok (.dup, 1) := by decide +kernel
theorem dX4_digest_56 : decode cX4_digest 56 = .ok (.iconst 1, 1) := by decide +kernel
theorem dX4_digest_57 : decode cX4_digest 57 = .ok (.aload_n 0, 1) := by decide +kernel
theorem dX4_digest_58 : decode cX4_digest 58 = .ok (.iload_n 3, 1) := by decide +kernel
theorem dX4_digest_59 : decode cX4_digest 59 = .ok (.invokevirtual 119, 3) := by decide +kernel
theorem dX4_digest_62 : decode cX4_digest 62 = .ok (.iastore, 1) := by decide +kernel
theorem dX4_digest_63 : decode cX4_digest 63 = .ok (.dup, 1) := by decide +kernel
theorem dX4_digest_64 : decode cX4_digest 64 = .ok (.iconst 2, 1) := by decide +kernel
theorem dX4_digest_65 : decode cX4_digest 65 = .ok (.aload_n 0, 1) := by decide +kernel
theorem dX4_digest_66 : decode cX4_digest 66 = .ok (.iload_n 3, 1) := by decide +kernel
theorem dX4_digest_67 : decode cX4_digest 67 = .ok (.invokevirtual 122, 3) := by decide +kernel
theorem dX4_digest_70 : decode cX4_digest 70 = .ok (.iastore, 1) := by decide +kernel
theorem dX4_digest_71 : decode cX4_digest 71 = .ok (.dup, 1) := by decide +kernel
theorem dX4_digest_72 : decode cX4_digest 72 = .ok (.iconst 3, 1) := by decide +kernel
theorem dX4_digest_73 : decode cX4_digest 73 = .ok (.aload_n 0, 1) := by decide +kernel
theorem dX4_digest_74 : decode cX4_digest 74 = .ok (.iload_n 3, 1) := by decide +kernel
theorem dX4_digest_75 : decode cX4_digest 75 = .ok (.invokevirtual 125, 3) := by decide +kernel
theorem dX4_digest_78 : decode cX4_digest 78 = .ok (.iastore, 1) := by decide +kernel
theorem dX4_digest_79 : decode cX4_digest 79 = .ok (.dup, 1) := by decide +kernel
theorem dX4_digest_80 : decode cX4_digest 80 = .ok (.iconst 4, 1) := by decide +kernel
theorem dX4_digest_81 : decode cX4_digest 81 = .ok (.aload_n 0, 1) := by decide +kernel
theorem dX4_digest_82 : decode cX4_digest 82 = .ok (.iload_n 3, 1) := by decide +kernel
theorem dX4_digest_83 : decode cX4_digest 83 = .ok (.invokevirtual 128, 3) := by decide +kernel
theorem dX4_digest_86 : decode cX4_digest 86 = .ok (.iastore, 1) := by decide +kernel
theorem dX4_digest_87 : decode cX4_digest 87 = .ok (.astore 4, 2) := by decide +kernel
theorem dX4_digest_89 : decode cX4_digest 89 = .ok (.aload 4, 2) := by decide +kernel
theorem dX4_digest_91 : decode cX4_digest 91 = .ok (.astore 5, 2) := by decide +kernel
theorem dX4_digest_93 : decode cX4_digest 93 = .ok (.aload 5, 2) := by decide +kernel
theorem dX4_digest_95 : decode cX4_digest 95 = .ok (.arraylength, 1) := by decide +kernel
theorem dX4_digest_96 : decode cX4_digest 96 = .ok (.istore 6, 2) := by decide +kernel
theorem dX4_digest_98 : decode cX4_digest 98 = .ok (.iconst 0, 1) := by decide +kernel
theorem dX4_digest_99 : decode cX4_digest 99 = .ok (.istore 7, 2) := by decide +kernel
theorem dX4_digest_101 : decode cX4_digest 101 = .ok (.iload 7, 2) := by decide +kernel
theorem dX4_digest_103 : decode cX4_digest 103 = .ok (.iload 6, 2) := by decide +kernel
theorem dX4_digest_105 : decode cX4_digest 105 = .ok (.if_icmp .ge 26, 3) := by decide +kernel
theorem dX4_digest_108 : decode cX4_digest 108 = .ok (.aload 5, 2) := by decide +kernel
theorem dX4_digest_110 : decode cX4_digest 110 = .ok (.iload 7, 2) := by decide +kernel
theorem dX4_digest_112 : decode cX4_digest 112 = .ok (.iaload, 1) := by decide +kernel
theorem dX4_digest_113 : decode cX4_digest 113 = .ok (.istore 8, 2) := by decide +kernel
theorem dX4_digest_115 : decode cX4_digest 115 = .ok (.lload_n 1, 1) := by decide +kernel
theorem dX4_digest_116 : decode cX4_digest 116 = .ok (.ldc2_w 149, 3) := by decide +kernel
theorem dX4_digest_119 : decode cX4_digest 119 = .ok (.lmul, 1) := by decide +kernel
theorem dX4_digest_120 : decode cX4_digest 120 = .ok (.iload 8, 2) := by decide +kernel
theorem dX4_digest_122 : decode cX4_digest 122 = .ok (.i2l, 1) := by decide +kernel
theorem dX4_digest_123 : decode cX4_digest 123 = .ok (.ladd, 1) := by decide +kernel
theorem dX4_digest_124 : decode cX4_digest 124 = .ok (.lstore_n 1, 1) := by decide +kernel
theorem dX4_digest_125 : decode cX4_digest 125 = .ok (.iinc 7 1, 3) := by decide +kernel
theorem dX4_digest_128 : decode cX4_digest 128 = .ok (.goto (-27), 3) := by decide +kernel
theorem dX4_digest_131 : decode cX4_digest 131 = .ok (.iconst 0, 1) := by decide +kernel
theorem dX4_digest_132 : decode cX4_digest 132 = .ok (.istore 5, 2) := by decide +kernel
theorem dX4_digest_134 : decode cX4_digest 134 = .ok (.iload 5, 2) := by decide +kernel
theorem dX4_digest_136 : decode cX4_digest 136 = .ok (.aload_n 0, 1) := by decide +kernel
theorem dX4_digest_137 : decode cX4_digest 137 = .ok (.getfield 35, 3) := by decide +kernel
theorem dX4_digest_140 : decode cX4_digest 140 = .ok (.if_icmp .ge 56, 3) := by decide +kernel
theorem dX4_digest_143 : decode cX4_digest 143 = .ok (.lload_n 1, 1) := by decide +kernel
theorem dX4_digest_144 : decode cX4_digest 144 = .ok (.ldc2_w 149, 3) := by decide +kernel
theorem dX4_digest_147 : decode cX4_digest 147 = .ok (.lmul, 1) := by decide +kernel
theorem dX4_digest_148 : decode cX4_digest 148 = .ok (.aload_n 0, 1) := by decide +kernel
theorem dX4_digest_149 : decode cX4_digest 149 = .ok (.iload_n 3, 1) := by decide +kernel
theorem dX4_digest_150 : decode cX4_digest 150 = .ok (.iload 5, 2) := by decide +kernel
theorem dX4_digest_152 : decode cX4_digest 152 = .ok (.iconst 1, 1) := by decide +kernel
theorem dX4_digest_153 : decode cX4_digest 153 = .ok (.invokevirtual 131, 3) := by decide +kernel
theorem dX4_digest_156 : decode cX4_digest 156 = .ok (.i2l, 1) := by decide +kernel
theorem dX4_digest_157 : decode cX4_digest 157 = .ok (.ladd, 1) := by decide +kernel
theorem dX4_digest_158 : decode cX4_digest 158 = .ok (.lstore_n 1, 1) := by decide +kernel
theorem dX4_digest_159 : decode cX4_digest 159 = .ok (.lload_n 1, 1) := by decide +kernel
theorem dX4_digest_160 : decode cX4_digest 160 = .ok (.ldc2_w 149, 3) := by decide +kernel
theorem dX4_digest_163 : decode cX4_digest 163 = .ok (.lmul, 1) := by decide +kernel
theorem dX4_digest_164 : decode cX4_digest 164 = .ok (.aload_n 0, 1) := by decide +kernel
theorem dX4_digest_165 : decode cX4_digest 165 = .ok (.iload_n 3, 1) := by decide +kernel
theorem dX4_digest_166 : decode cX4_digest 166 = .ok (.iload 5, 2) := by decide +kernel
theorem dX4_digest_168 : decode cX4_digest 168 = .ok (.iconst 0, 1) := by decide +kernel
theorem dX4_digest_169 : decode cX4_digest 169 = .ok (.invokevirtual 131, 3) := by decide +kernel
theorem dX4_digest_172 : decode cX4_digest 172 = .ok (.i2l, 1) := by decide +kernel
theorem dX4_digest_173 : decode cX4_digest 173 = .ok (.ladd, 1) := by decide +kernel
theorem dX4_digest_174 : decode cX4_digest 174 = .ok (.lstore_n 1, 1) := by decide +kernel
theorem dX4_digest_175 : decode cX4_digest 175 = .ok (.lload_n 1, 1) := by decide +kernel
theorem dX4_digest_176 : decode cX4_digest 176 = .ok (.ldc2_w 149, 3) := by decide +kernel
theorem dX4_digest_179 : decode cX4_digest 179 = .ok (.lmul, 1) := by decide +kernel
theorem dX4_digest_180 : decode cX4_digest 180 = .ok (.aload_n 0, 1) := by decide +kernel
theorem dX4_digest_181 : decode cX4_digest 181 = .ok (.iload_n 3, 1) := by decide +kernel
theorem dX4_digest_182 : decode cX4_digest 182 = .ok (.iload 5, 2) := by decide +kernel
theorem dX4_digest_184 : decode cX4_digest 184 = .ok (.invokevirtual 138, 3) := by decide +kernel
theorem dX4_digest_187 : decode cX4_digest 187 = .ok (.i2l, 1) := by decide +kernel
theorem dX4_digest_188 : decode cX4_digest 188 = .ok (.ladd, 1) := by decide +kernel
theorem dX4_digest_189 : decode cX4_digest 189 = .ok (.lstore_n 1, 1) := by decide +kernel
theorem dX4_digest_190 : decode cX4_digest 190 = .ok (.iinc 5 1, 3) := by decide +kernel
theorem dX4_digest_193 : decode cX4_digest 193 = .ok (.goto (-59), 3) := by decide +kernel
theorem dX4_digest_196 : decode cX4_digest 196 = .ok (.iconst 0, 1) := by decide +kernel
theorem dX4_digest_197 : decode cX4_digest 197 = .ok (.istore 5, 2) := by decide +kernel
theorem dX4_digest_199 : decode cX4_digest 199 = .ok (.iload 5, 2) := by decide +kernel
theorem dX4_digest_201 : decode cX4_digest 201 = .ok (.aload_n 0, 1) := by decide +kernel
theorem dX4_digest_202 : decode cX4_digest 202 = .ok (.getfield 9, 3) := by decide +kernel
theorem dX4_digest_205 : decode cX4_digest 205 = .ok (.iload_n 3, 1) := by decide +kernel
theorem dX4_digest_206 : decode cX4_digest 206 = .ok (.iaload, 1) := by decide +kernel
theorem dX4_digest_207 : decode cX4_digest 207 = .ok (.if_icmp .ge 114, 3) := by decide +kernel
theorem dX4_digest_210 : decode cX4_digest 210 = .ok (.iload_n 3, 1) := by decide +kernel
theorem dX4_digest_211 : decode cX4_digest 211 = .ok (.iload 5, 2) := by decide +kernel
theorem dX4_digest_213 : decode cX4_digest 213 = .ok (.invokestatic 63, 3) := by decide +kernel
theorem dX4_digest_216 : decode cX4_digest 216 = .ok (.istore 6, 2) := by decide +kernel
theorem dX4_digest_218 : decode cX4_digest 218 = .ok (.iconst 5, 1) := by decide +kernel
theorem dX4_digest_219 : decode cX4_digest 219 = .ok (.newarray .int, 2) := by decide +kernel
theorem dX4_digest_221 : decode cX4_digest 221 = .ok (.dup, 1) := by decide +kernel
theorem dX4_digest_222 : decode cX4_digest 222 = .ok (.iconst 0, 1) := by decide +kernel
theorem dX4_digest_223 : decode cX4_digest 223 = .ok (.aload_n 0, 1) := by decide +kernel
theorem dX4_digest_224 : decode cX4_digest 224 = .ok (.getfield 13, 3) := by decide +kernel
theorem dX4_digest_227 : decode cX4_digest 227 = .ok (.iload 6, 2) := by decide +kernel
theorem dX4_digest_229 : decode cX4_digest 229 = .ok (.iaload, 1) := by decide +kernel
theorem dX4_digest_230 : decode cX4_digest 230 = .ok (.iastore, 1) := by decide +kernel
theorem dX4_digest_231 : decode cX4_digest 231 = .ok (.dup, 1) := by decide +kernel
theorem dX4_digest_232 : decode cX4_digest 232 = .ok (.iconst 1, 1) := by decide +kernel
theorem dX4_digest_233 : decode cX4_digest 233 = .ok (.aload_n 0, 1) := by decide +kernel
theorem dX4_digest_234 : decode cX4_digest 234 = .ok (.getfield 16, 3) := by decide +kernel
theorem dX4_digest_237 : decode cX4_digest 237 = .ok (.iload 6, 2) := by decide +kernel
theorem dX4_digest_239 : decode cX4_digest 239 = .ok (.iaload, 1) := by decide +kernel
theorem dX4_digest_240 : decode cX4_digest 240 = .ok (.iastore, 1) := by decide +kernel
theorem dX4_digest_241 : decode cX4_digest 241 = .ok (.dup, 1) := by decide +kernel
theorem dX4_digest_242 : decode cX4_digest 242 = .ok (.iconst 2, 1) := by decide +kernel
theorem dX4_digest_243 : decode cX4_digest 243 = .ok (.aload_n 0, 1) := by decide +kernel
theorem dX4_digest_244 : decode cX4_digest 244 = .ok (.getfield 19, 3) := by decide +kernel
theorem dX4_digest_247 : decode cX4_digest 247 = .ok (.iload 6, 2) := by decide +kernel
theorem dX4_digest_249 : decode cX4_digest 249 = .ok (.iaload, 1) := by decide +kernel
theorem dX4_digest_250 : decode cX4_digest 250 = .ok (.iastore, 1) := by decide +kernel
theorem dX4_digest_251 : decode cX4_digest 251 = .ok (.dup, 1) := by decide +kernel
theorem dX4_digest_252 : decode cX4_digest 252 = .ok (.iconst 3, 1) := by decide +kernel
theorem dX4_digest_253 : decode cX4_digest 253 = .ok (.aload_n 0, 1) := by decide +kernel
theorem dX4_digest_254 : decode cX4_digest 254 = .ok (.getfield 25, 3) := by decide +kernel
theorem dX4_digest_257 : decode cX4_digest 257 = .ok (.iload 6, 2) := by decide +kernel
theorem dX4_digest_259 : decode cX4_digest 259 = .ok (.iaload, 1) := by decide +kernel
theorem dX4_digest_260 : decode cX4_digest 260 = .ok (.iastore, 1) := by decide +kernel
theorem dX4_digest_261 : decode cX4_digest 261 = .ok (.dup, 1) := by decide +kernel
theorem dX4_digest_262 : decode cX4_digest 262 = .ok (.iconst 4, 1) := by decide +kernel
theorem dX4_digest_263 : decode cX4_digest 263 = .ok (.aload_n 0, 1) := by decide +kernel
theorem dX4_digest_264 : decode cX4_digest 264 = .ok (.iload_n 3, 1) := by decide +kernel
theorem dX4_digest_265 : decode cX4_digest 265 = .ok (.iload 5, 2) := by decide +kernel
theorem dX4_digest_267 : decode cX4_digest 267 = .ok (.invokevirtual 135, 3) := by decide +kernel
theorem dX4_digest_270 : decode cX4_digest 270 = .ok (.iastore, 1) := by decide +kernel
theorem dX4_digest_271 : decode cX4_digest 271 = .ok (.astore 7, 2) := by decide +kernel
theorem dX4_digest_273 : decode cX4_digest 273 = .ok (.aload 7, 2) := by decide +kernel
theorem dX4_digest_275 : decode cX4_digest 275 = .ok (.astore 8, 2) := by decide +kernel
theorem dX4_digest_277 : decode cX4_digest 277 = .ok (.aload 8, 2) := by decide +kernel
theorem dX4_digest_279 : decode cX4_digest 279 = .ok (.arraylength, 1) := by decide +kernel
theorem dX4_digest_280 : decode cX4_digest 280 = .ok (.istore 9, 2) := by decide +kernel
theorem dX4_digest_282 : decode cX4_digest 282 = .ok (.iconst 0, 1) := by decide +kernel
theorem dX4_digest_283 : decode cX4_digest 283 = .ok (.istore 10, 2) := by decide +kernel
theorem dX4_digest_285 : decode cX4_digest 285 = .ok (.iload 10, 2) := by decide +kernel
theorem dX4_digest_287 : decode cX4_digest 287 = .ok (.iload 9, 2) := by decide +kernel
theorem dX4_digest_289 : decode cX4_digest 289 = .ok (.if_icmp .ge 26, 3) := by decide +kernel
theorem dX4_digest_292 : decode cX4_digest 292 = .ok (.aload 8, 2) := by decide +kernel
theorem dX4_digest_294 : decode cX4_digest 294 = .ok (.iload 10, 2) := by decide +kernel
theorem dX4_digest_296 : decode cX4_digest 296 = .ok (.iaload, 1) := by decide +kernel
theorem dX4_digest_297 : decode cX4_digest 297 = .ok (.istore 11, 2) := by decide +kernel
theorem dX4_digest_299 : decode cX4_digest 299 = .ok (.lload_n 1, 1) := by decide +kernel
theorem dX4_digest_300 : decode cX4_digest 300 = .ok (.ldc2_w 149, 3) := by decide +kernel
theorem dX4_digest_303 : decode cX4_digest 303 = .ok (.lmul, 1) := by decide +kernel
theorem dX4_digest_304 : decode cX4_digest 304 = .ok (.iload 11, 2) := by decide +kernel
theorem dX4_digest_306 : decode cX4_digest 306 = .ok (.i2l, 1) := by decide +kernel
theorem dX4_digest_307 : decode cX4_digest 307 = .ok (.ladd, 1) := by decide +kernel
theorem dX4_digest_308 : decode cX4_digest 308 = .ok (.lstore_n 1, 1) := by decide +kernel
theorem dX4_digest_309 : decode cX4_digest 309 = .ok (.iinc 10 1, 3) := by decide +kernel
theorem dX4_digest_312 : decode cX4_digest 312 = .ok (.goto (-27), 3) := by decide +kernel
theorem dX4_digest_315 : decode cX4_digest 315 = .ok (.iinc 5 1, 3) := by decide +kernel
theorem dX4_digest_318 : decode cX4_digest 318 = .ok (.goto (-119), 3) := by decide +kernel
theorem dX4_digest_321 : decode cX4_digest 321 = .ok (.iinc 3 1, 3) := by decide +kernel
theorem dX4_digest_324 : decode cX4_digest 324 = .ok (.goto (-289), 3) := by decide +kernel
theorem dX4_digest_327 : decode cX4_digest 327 = .ok (.lload_n 1, 1) := by decide +kernel
theorem dX4_digest_328 : decode cX4_digest 328 = .ok (.lreturn, 1) := by decide +kernel
theorem dL_addLodge_0 : decode cL_addLodge 0 = .ok (.aload_n 1, 1) := by decide +kernel
theorem dL_addLodge_1 : decode cL_addLodge 1 = .ok (.iconst 0, 1) := by decide +kernel
theorem dL_addLodge_2 : decode cL_addLodge 2 = .ok (.aload_n 0, 1) := by decide +kernel
theorem dL_addLodge_3 : decode cL_addLodge 3 = .ok (.invokevirtual 7, 3) := by decide +kernel
theorem dL_addLodge_6 : decode cL_addLodge 6 = .ok (.i2l, 1) := by decide +kernel
theorem dL_addLodge_7 : decode cL_addLodge 7 = .ok (.lastore, 1) := by decide +kernel
theorem dL_addLodge_8 : decode cL_addLodge 8 = .ok (.goto 6, 3) := by decide +kernel
theorem dL_addLodge_11 : decode cL_addLodge 11 = .ok (.astore_n 2, 1) := by decide +kernel
theorem dL_addLodge_12 : decode cL_addLodge 12 = .ok (.iconst 1, 1) := by decide +kernel
theorem dL_addLodge_13 : decode cL_addLodge 13 = .ok (.ireturn, 1) := by decide +kernel
theorem dL_addLodge_14 : decode cL_addLodge 14 = .ok (.iconst 0, 1) := by decide +kernel
theorem dL_addLodge_15 : decode cL_addLodge 15 = .ok (.ireturn, 1) := by decide +kernel
theorem dL_addSign_0 : decode cL_addSign 0 = .ok (.aload 7, 2) := by decide +kernel
theorem dL_addSign_2 : decode cL_addSign 2 = .ok (.iconst 0, 1) := by decide +kernel
theorem dL_addSign_3 : decode cL_addSign 3 = .ok (.aload_n 0, 1) := by decide +kernel
theorem dL_addSign_4 : decode cL_addSign 4 = .ok (.iload_n 1, 1) := by decide +kernel
theorem dL_addSign_5 : decode cL_addSign 5 = .ok (.iload_n 2, 1) := by decide +kernel
theorem dL_addSign_6 : decode cL_addSign 6 = .ok (.iload_n 3, 1) := by decide +kernel
theorem dL_addSign_7 : decode cL_addSign 7 = .ok (.iload 4, 2) := by decide +kernel
theorem dL_addSign_9 : decode cL_addSign 9 = .ok (.iload 5, 2) := by decide +kernel
theorem dL_addSign_11 : decode cL_addSign 11 = .ok (.iload 6, 2) := by decide +kernel
theorem dL_addSign_13 : decode cL_addSign 13 = .ok (.invokevirtual 15, 3) := by decide +kernel
theorem dL_addSign_16 : decode cL_addSign 16 = .ok (.i2l, 1) := by decide +kernel
theorem dL_addSign_17 : decode cL_addSign 17 = .ok (.lastore, 1) := by decide +kernel
theorem dL_addSign_18 : decode cL_addSign 18 = .ok (.goto 15, 3) := by decide +kernel
theorem dL_addSign_21 : decode cL_addSign 21 = .ok (.astore 8, 2) := by decide +kernel
theorem dL_addSign_23 : decode cL_addSign 23 = .ok (.iconst 1, 1) := by decide +kernel
theorem dL_addSign_24 : decode cL_addSign 24 = .ok (.ireturn, 1) := by decide +kernel
theorem dL_addSign_25 : decode cL_addSign 25 = .ok (.astore 8, 2) := by decide +kernel
theorem dL_addSign_27 : decode cL_addSign 27 = .ok (.iconst 2, 1) := by decide +kernel
theorem dL_addSign_28 : decode cL_addSign 28 = .ok (.ireturn, 1) := by decide +kernel
theorem dL_addSign_29 : decode cL_addSign 29 = .ok (.astore 8, 2) := by decide +kernel
theorem dL_addSign_31 : decode cL_addSign 31 = .ok (.iconst 3, 1) := by decide +kernel
theorem dL_addSign_32 : decode cL_addSign 32 = .ok (.ireturn, 1) := by decide +kernel
theorem dL_addSign_33 : decode cL_addSign 33 = .ok (.iconst 0, 1) := by decide +kernel
theorem dL_addSign_34 : decode cL_addSign 34 = .ok (.ireturn, 1) := by decide +kernel
theorem dL_forget_0 : decode cL_forget 0 = .ok (.aload_n 3, 1) := by decide +kernel
theorem dL_forget_1 : decode cL_forget 1 = .ok (.iconst 0, 1) := by decide +kernel
theorem dL_forget_2 : decode cL_forget 2 = .ok (.aload_n 0, 1) := by decide +kernel
theorem dL_forget_3 : decode cL_forget 3 = .ok (.iload_n 1, 1) := by decide +kernel
theorem dL_forget_4 : decode cL_forget 4 = .ok (.iload_n 2, 1) := by decide +kernel
theorem dL_forget_5 : decode cL_forget 5 = .ok (.invokevirtual 23, 3) := by decide +kernel
theorem dL_forget_8 : decode cL_forget 8 = .ok (.i2l, 1) := by decide +kernel
theorem dL_forget_9 : decode cL_forget 9 = .ok (.lastore, 1) := by decide +kernel
theorem dL_forget_10 : decode cL_forget 10 = .ok (.goto 7, 3) := by decide +kernel
theorem dL_forget_13 : decode cL_forget 13 = .ok (.astore 4, 2) := by decide +kernel
theorem dL_forget_15 : decode cL_forget 15 = .ok (.iconst 1, 1) := by decide +kernel
theorem dL_forget_16 : decode cL_forget 16 = .ok (.ireturn, 1) := by decide +kernel
theorem dL_forget_17 : decode cL_forget 17 = .ok (.iconst 0, 1) := by decide +kernel
theorem dL_forget_18 : decode cL_forget 18 = .ok (.ireturn, 1) := by decide +kernel
theorem dL_setThumb_0 : decode cL_setThumb 0 = .ok (.aload 4, 2) := by decide +kernel
theorem dL_setThumb_2 : decode cL_setThumb 2 = .ok (.iconst 0, 1) := by decide +kernel
theorem dL_setThumb_3 : decode cL_setThumb 3 = .ok (.aload_n 0, 1) := by decide +kernel
theorem dL_setThumb_4 : decode cL_setThumb 4 = .ok (.iload_n 1, 1) := by decide +kernel
theorem dL_setThumb_5 : decode cL_setThumb 5 = .ok (.iload_n 2, 1) := by decide +kernel
theorem dL_setThumb_6 : decode cL_setThumb 6 = .ok (.iload_n 3, 1) := by decide +kernel
theorem dL_setThumb_7 : decode cL_setThumb 7 = .ok (.invokevirtual 27, 3) := by decide +kernel
theorem dL_setThumb_10 : decode cL_setThumb 10 = .ok (.i2l, 1) := by decide +kernel
theorem dL_setThumb_11 : decode cL_setThumb 11 = .ok (.lastore, 1) := by decide +kernel
theorem dL_setThumb_12 : decode cL_setThumb 12 = .ok (.goto 11, 3) := by decide +kernel
theorem dL_setThumb_15 : decode cL_setThumb 15 = .ok (.astore 5, 2) := by decide +kernel
theorem dL_setThumb_17 : decode cL_setThumb 17 = .ok (.iconst 1, 1) := by decide +kernel
theorem dL_setThumb_18 : decode cL_setThumb 18 = .ok (.ireturn, 1) := by decide +kernel
theorem dL_setThumb_19 : decode cL_setThumb 19 = .ok (.astore 5, 2) := by decide +kernel
theorem dL_setThumb_21 : decode cL_setThumb 21 = .ok (.iconst 2, 1) := by decide +kernel
theorem dL_setThumb_22 : decode cL_setThumb 22 = .ok (.ireturn, 1) := by decide +kernel
theorem dL_setThumb_23 : decode cL_setThumb 23 = .ok (.iconst 0, 1) := by decide +kernel
theorem dL_setThumb_24 : decode cL_setThumb 24 = .ok (.ireturn, 1) := by decide +kernel
theorem dL_join_0 : decode cL_join 0 = .ok (.aload_n 3, 1) := by decide +kernel
theorem dL_join_1 : decode cL_join 1 = .ok (.iconst 0, 1) := by decide +kernel
theorem dL_join_2 : decode cL_join 2 = .ok (.aload_n 0, 1) := by decide +kernel
theorem dL_join_3 : decode cL_join 3 = .ok (.iload_n 1, 1) := by decide +kernel
theorem dL_join_4 : decode cL_join 4 = .ok (.iload_n 2, 1) := by decide +kernel
theorem dL_join_5 : decode cL_join 5 = .ok (.invokevirtual 31, 3) := by decide +kernel
theorem dL_join_8 : decode cL_join 8 = .ok (.i2l, 1) := by decide +kernel
theorem dL_join_9 : decode cL_join 9 = .ok (.lastore, 1) := by decide +kernel
theorem dL_join_10 : decode cL_join 10 = .ok (.goto 7, 3) := by decide +kernel
theorem dL_join_13 : decode cL_join 13 = .ok (.astore 4, 2) := by decide +kernel
theorem dL_join_15 : decode cL_join 15 = .ok (.iconst 1, 1) := by decide +kernel
theorem dL_join_16 : decode cL_join 16 = .ok (.ireturn, 1) := by decide +kernel
theorem dL_join_17 : decode cL_join 17 = .ok (.iconst 0, 1) := by decide +kernel
theorem dL_join_18 : decode cL_join 18 = .ok (.ireturn, 1) := by decide +kernel
theorem dL_borrow_0 : decode cL_borrow 0 = .ok (.aload 4, 2) := by decide +kernel
theorem dL_borrow_2 : decode cL_borrow 2 = .ok (.iconst 0, 1) := by decide +kernel
theorem dL_borrow_3 : decode cL_borrow 3 = .ok (.aload_n 0, 1) := by decide +kernel
theorem dL_borrow_4 : decode cL_borrow 4 = .ok (.iload_n 1, 1) := by decide +kernel
theorem dL_borrow_5 : decode cL_borrow 5 = .ok (.iload_n 2, 1) := by decide +kernel
theorem dL_borrow_6 : decode cL_borrow 6 = .ok (.iload_n 3, 1) := by decide +kernel
theorem dL_borrow_7 : decode cL_borrow 7 = .ok (.invokevirtual 34, 3) := by decide +kernel
theorem dL_borrow_10 : decode cL_borrow 10 = .ok (.i2l, 1) := by decide +kernel
theorem dL_borrow_11 : decode cL_borrow 11 = .ok (.lastore, 1) := by decide +kernel
theorem dL_borrow_12 : decode cL_borrow 12 = .ok (.goto 15, 3) := by decide +kernel
theorem dL_borrow_15 : decode cL_borrow 15 = .ok (.astore 5, 2) := by decide +kernel
theorem dL_borrow_17 : decode cL_borrow 17 = .ok (.iconst 1, 1) := by decide +kernel
theorem dL_borrow_18 : decode cL_borrow 18 = .ok (.ireturn, 1) := by decide +kernel
theorem dL_borrow_19 : decode cL_borrow 19 = .ok (.astore 5, 2) := by decide +kernel
theorem dL_borrow_21 : decode cL_borrow 21 = .ok (.iconst 2, 1) := by decide +kernel
theorem dL_borrow_22 : decode cL_borrow 22 = .ok (.ireturn, 1) := by decide +kernel
theorem dL_borrow_23 : decode cL_borrow 23 = .ok (.astore 5, 2) := by decide +kernel
theorem dL_borrow_25 : decode cL_borrow 25 = .ok (.iconst 3, 1) := by decide +kernel
theorem dL_borrow_26 : decode cL_borrow 26 = .ok (.ireturn, 1) := by decide +kernel
theorem dL_borrow_27 : decode cL_borrow 27 = .ok (.iconst 0, 1) := by decide +kernel
theorem dL_borrow_28 : decode cL_borrow 28 = .ok (.ireturn, 1) := by decide +kernel
theorem dL_areJoined_0 : decode cL_areJoined 0 = .ok (.aload_n 3, 1) := by decide +kernel
theorem dL_areJoined_1 : decode cL_areJoined 1 = .ok (.iconst 0, 1) := by decide +kernel
theorem dL_areJoined_2 : decode cL_areJoined 2 = .ok (.aload_n 0, 1) := by decide +kernel
theorem dL_areJoined_3 : decode cL_areJoined 3 = .ok (.iload_n 1, 1) := by decide +kernel
theorem dL_areJoined_4 : decode cL_areJoined 4 = .ok (.iload_n 2, 1) := by decide +kernel
theorem dL_areJoined_5 : decode cL_areJoined 5 = .ok (.invokevirtual 37, 3) := by decide +kernel
theorem dL_areJoined_8 : decode cL_areJoined 8 = .ok (.ifCond .eq 7, 3) := by decide +kernel
theorem dL_areJoined_11 : decode cL_areJoined 11 = .ok (.lconst 1, 1) := by decide +kernel
theorem dL_areJoined_12 : decode cL_areJoined 12 = .ok (.goto 4, 3) := by decide +kernel
theorem dL_areJoined_15 : decode cL_areJoined 15 = .ok (.lconst 0, 1) := by decide +kernel
theorem dL_areJoined_16 : decode cL_areJoined 16 = .ok (.lastore, 1) := by decide +kernel
theorem dL_areJoined_17 : decode cL_areJoined 17 = .ok (.goto 7, 3) := by decide +kernel
theorem dL_areJoined_20 : decode cL_areJoined 20 = .ok (.astore 4, 2) := by decide +kernel
theorem dL_areJoined_22 : decode cL_areJoined 22 = .ok (.iconst 1, 1) := by decide +kernel
theorem dL_areJoined_23 : decode cL_areJoined 23 = .ok (.ireturn, 1) := by decide +kernel
theorem dL_areJoined_24 : decode cL_areJoined 24 = .ok (.iconst 0, 1) := by decide +kernel
theorem dL_areJoined_25 : decode cL_areJoined 25 = .ok (.ireturn, 1) := by decide +kernel
theorem dL_steps_0 : decode cL_steps 0 = .ok (.aload_n 3, 1) := by decide +kernel
theorem dL_steps_1 : decode cL_steps 1 = .ok (.iconst 0, 1) := by decide +kernel
theorem dL_steps_2 : decode cL_steps 2 = .ok (.aload_n 0, 1) := by decide +kernel
theorem dL_steps_3 : decode cL_steps 3 = .ok (.iload_n 1, 1) := by decide +kernel
theorem dL_steps_4 : decode cL_steps 4 = .ok (.iload_n 2, 1) := by decide +kernel
theorem dL_steps_5 : decode cL_steps 5 = .ok (.invokevirtual 41, 3) := by decide +kernel
theorem dL_steps_8 : decode cL_steps 8 = .ok (.i2l, 1) := by decide +kernel
theorem dL_steps_9 : decode cL_steps 9 = .ok (.lastore, 1) := by decide +kernel
theorem dL_steps_10 : decode cL_steps 10 = .ok (.goto 7, 3) := by decide +kernel
theorem dL_steps_13 : decode cL_steps 13 = .ok (.astore 4, 2) := by decide +kernel
theorem dL_steps_15 : decode cL_steps 15 = .ok (.iconst 1, 1) := by decide +kernel
theorem dL_steps_16 : decode cL_steps 16 = .ok (.ireturn, 1) := by decide +kernel
theorem dL_steps_17 : decode cL_steps 17 = .ok (.iconst 0, 1) := by decide +kernel
theorem dL_steps_18 : decode cL_steps 18 = .ok (.ireturn, 1) := by decide +kernel
theorem dL_signsOf_0 : decode cL_signsOf 0 = .ok (.aload_n 2, 1) := by decide +kernel
theorem dL_signsOf_1 : decode cL_signsOf 1 = .ok (.iconst 0, 1) := by decide +kernel
theorem dL_signsOf_2 : decode cL_signsOf 2 = .ok (.aload_n 0, 1) := by decide +kernel
theorem dL_signsOf_3 : decode cL_signsOf 3 = .ok (.iload_n 1, 1) := by decide +kernel
theorem dL_signsOf_4 : decode cL_signsOf 4 = .ok (.invokevirtual 44, 3) := by decide +kernel
theorem dL_signsOf_7 : decode cL_signsOf 7 = .ok (.i2l, 1) := by decide +kernel
theorem dL_signsOf_8 : decode cL_signsOf 8 = .ok (.lastore, 1) := by decide +kernel
theorem dL_signsOf_9 : decode cL_signsOf 9 = .ok (.goto 6, 3) := by decide +kernel
theorem dL_signsOf_12 : decode cL_signsOf 12 = .ok (.astore_n 3, 1) := by decide +kernel
theorem dL_signsOf_13 : decode cL_signsOf 13 = .ok (.iconst 1, 1) := by decide +kernel
theorem dL_signsOf_14 : decode cL_signsOf 14 = .ok (.ireturn, 1) := by decide +kernel
theorem dL_signsOf_15 : decode cL_signsOf 15 = .ok (.iconst 0, 1) := by decide +kernel
theorem dL_signsOf_16 : decode cL_signsOf 16 = .ok (.ireturn, 1) := by decide +kernel
theorem dL_shapeOf_0 : decode cL_shapeOf 0 = .ok (.aload_n 3, 1) := by decide +kernel
theorem dL_shapeOf_1 : decode cL_shapeOf 1 = .ok (.iconst 0, 1) := by decide +kernel
theorem dL_shapeOf_2 : decode cL_shapeOf 2 = .ok (.aload_n 0, 1) := by decide +kernel
theorem dL_shapeOf_3 : decode cL_shapeOf 3 = .ok (.iload_n 1, 1) := by decide +kernel
theorem dL_shapeOf_4 : decode cL_shapeOf 4 = .ok (.iload_n 2, 1) := by decide +kernel
theorem dL_shapeOf_5 : decode cL_shapeOf 5 = .ok (.invokevirtual 48, 3) := by decide +kernel
theorem dL_shapeOf_8 : decode cL_shapeOf 8 = .ok (.i2l, 1) := by decide +kernel
theorem dL_shapeOf_9 : decode cL_shapeOf 9 = .ok (.lastore, 1) := by decide +kernel
theorem dL_shapeOf_10 : decode cL_shapeOf 10 = .ok (.goto 7, 3) := by decide +kernel
theorem dL_shapeOf_13 : decode cL_shapeOf 13 = .ok (.astore 4, 2) := by decide +kernel
theorem dL_shapeOf_15 : decode cL_shapeOf 15 = .ok (.iconst 1, 1) := by decide +kernel
theorem dL_shapeOf_16 : decode cL_shapeOf 16 = .ok (.ireturn, 1) := by decide +kernel
theorem dL_shapeOf_17 : decode cL_shapeOf 17 = .ok (.iconst 0, 1) := by decide +kernel
theorem dL_shapeOf_18 : decode cL_shapeOf 18 = .ok (.ireturn, 1) := by decide +kernel
theorem dL_thumbOf_0 : decode cL_thumbOf 0 = .ok (.aload_n 3, 1) := by decide +kernel
theorem dL_thumbOf_1 : decode cL_thumbOf 1 = .ok (.iconst 0, 1) := by decide +kernel
theorem dL_thumbOf_2 : decode cL_thumbOf 2 = .ok (.aload_n 0, 1) := by decide +kernel
theorem dL_thumbOf_3 : decode cL_thumbOf 3 = .ok (.iload_n 1, 1) := by decide +kernel
theorem dL_thumbOf_4 : decode cL_thumbOf 4 = .ok (.iload_n 2, 1) := by decide +kernel
theorem dL_thumbOf_5 : decode cL_thumbOf 5 = .ok (.invokevirtual 51, 3) := by decide +kernel
theorem dL_thumbOf_8 : decode cL_thumbOf 8 = .ok (.i2l, 1) := by decide +kernel
theorem dL_thumbOf_9 : decode cL_thumbOf 9 = .ok (.lastore, 1) := by decide +kernel
theorem dL_thumbOf_10 : decode cL_thumbOf 10 = .ok (.goto 7, 3) := by decide +kernel
theorem dL_thumbOf_13 : decode cL_thumbOf 13 = .ok (.astore 4, 2) := by decide +kernel
theorem dL_thumbOf_15 : decode cL_thumbOf 15 = .ok (.iconst 1, 1) := by decide +kernel
theorem dL_thumbOf_16 : decode cL_thumbOf 16 = .ok (.ireturn, 1) := by decide +kernel
theorem dL_thumbOf_17 : decode cL_thumbOf 17 = .ok (.iconst 0, 1) := by decide +kernel
theorem dL_thumbOf_18 : decode cL_thumbOf 18 = .ok (.ireturn, 1) := by decide +kernel
theorem dL_placeOf_0 : decode cL_placeOf 0 = .ok (.aload_n 3, 1) := by decide +kernel
theorem dL_placeOf_1 : decode cL_placeOf 1 = .ok (.iconst 0, 1) := by decide +kernel
theorem dL_placeOf_2 : decode cL_placeOf 2 = .ok (.aload_n 0, 1) := by decide +kernel
theorem dL_placeOf_3 : decode cL_placeOf 3 = .ok (.iload_n 1, 1) := by decide +kernel
theorem dL_placeOf_4 : decode cL_placeOf 4 = .ok (.iload_n 2, 1) := by decide +kernel
theorem dL_placeOf_5 : decode cL_placeOf 5 = .ok (.invokevirtual 54, 3) := by decide +kernel
theorem dL_placeOf_8 : decode cL_placeOf 8 = .ok (.i2l, 1) := by decide +kernel
theorem dL_placeOf_9 : decode cL_placeOf 9 = .ok (.lastore, 1) := by decide +kernel
theorem dL_placeOf_10 : decode cL_placeOf 10 = .ok (.goto 7, 3) := by decide +kernel
theorem dL_placeOf_13 : decode cL_placeOf 13 = .ok (.astore 4, 2) := by decide +kernel
theorem dL_placeOf_15 : decode cL_placeOf 15 = .ok (.iconst 1, 1) := by decide +kernel
theorem dL_placeOf_16 : decode cL_placeOf 16 = .ok (.ireturn, 1) := by decide +kernel
theorem dL_placeOf_17 : decode cL_placeOf 17 = .ok (.iconst 0, 1) := by decide +kernel
theorem dL_placeOf_18 : decode cL_placeOf 18 = .ok (.ireturn, 1) := by decide +kernel
theorem dL_meaningOf_0 : decode cL_meaningOf 0 = .ok (.aload_n 3, 1) := by decide +kernel
theorem dL_meaningOf_1 : decode cL_meaningOf 1 = .ok (.iconst 0, 1) := by decide +kernel
theorem dL_meaningOf_2 : decode cL_meaningOf 2 = .ok (.aload_n 0, 1) := by decide +kernel
theorem dL_meaningOf_3 : decode cL_meaningOf 3 = .ok (.iload_n 1, 1) := by decide +kernel
theorem dL_meaningOf_4 : decode cL_meaningOf 4 = .ok (.iload_n 2, 1) := by decide +kernel
theorem dL_meaningOf_5 : decode cL_meaningOf 5 = .ok (.invokevirtual 57, 3) := by decide +kernel
theorem dL_meaningOf_8 : decode cL_meaningOf 8 = .ok (.i2l, 1) := by decide +kernel
theorem dL_meaningOf_9 : decode cL_meaningOf 9 = .ok (.lastore, 1) := by decide +kernel
theorem dL_meaningOf_10 : decode cL_meaningOf 10 = .ok (.goto 7, 3) := by decide +kernel
theorem dL_meaningOf_13 : decode cL_meaningOf 13 = .ok (.astore 4, 2) := by decide +kernel
theorem dL_meaningOf_15 : decode cL_meaningOf 15 = .ok (.iconst 1, 1) := by decide +kernel
theorem dL_meaningOf_16 : decode cL_meaningOf 16 = .ok (.ireturn, 1) := by decide +kernel
theorem dL_meaningOf_17 : decode cL_meaningOf 17 = .ok (.iconst 0, 1) := by decide +kernel
theorem dL_meaningOf_18 : decode cL_meaningOf 18 = .ok (.ireturn, 1) := by decide +kernel
theorem dL_signFor_0 : decode cL_signFor 0 = .ok (.aload_n 3, 1) := by decide +kernel
theorem dL_signFor_1 : decode cL_signFor 1 = .ok (.iconst 0, 1) := by decide +kernel
theorem dL_signFor_2 : decode cL_signFor 2 = .ok (.aload_n 0, 1) := by decide +kernel
theorem dL_signFor_3 : decode cL_signFor 3 = .ok (.iload_n 1, 1) := by decide +kernel
theorem dL_signFor_4 : decode cL_signFor 4 = .ok (.iload_n 2, 1) := by decide +kernel
theorem dL_signFor_5 : decode cL_signFor 5 = .ok (.invokevirtual 60, 3) := by decide +kernel
theorem dL_signFor_8 : decode cL_signFor 8 = .ok (.i2l, 1) := by decide +kernel
theorem dL_signFor_9 : decode cL_signFor 9 = .ok (.lastore, 1) := by decide +kernel
theorem dL_signFor_10 : decode cL_signFor 10 = .ok (.goto 7, 3) := by decide +kernel
theorem dL_signFor_13 : decode cL_signFor 13 = .ok (.astore 4, 2) := by decide +kernel
theorem dL_signFor_15 : decode cL_signFor 15 = .ok (.iconst 1, 1) := by decide +kernel
theorem dL_signFor_16 : decode cL_signFor 16 = .ok (.ireturn, 1) := by decide +kernel
theorem dL_signFor_17 : decode cL_signFor 17 = .ok (.iconst 0, 1) := by decide +kernel
theorem dL_signFor_18 : decode cL_signFor 18 = .ok (.ireturn, 1) := by decide +kernel
theorem dL_apart_0 : decode cL_apart 0 = .ok (.aload 4, 2) := by decide +kernel
theorem dL_apart_2 : decode cL_apart 2 = .ok (.iconst 0, 1) := by decide +kernel
theorem dL_apart_3 : decode cL_apart 3 = .ok (.aload_n 0, 1) := by decide +kernel
theorem dL_apart_4 : decode cL_apart 4 = .ok (.iload_n 1, 1) := by decide +kernel
theorem dL_apart_5 : decode cL_apart 5 = .ok (.iload_n 2, 1) := by decide +kernel
theorem dL_apart_6 : decode cL_apart 6 = .ok (.iload_n 3, 1) := by decide +kernel
theorem dL_apart_7 : decode cL_apart 7 = .ok (.invokevirtual 63, 3) := by decide +kernel
theorem dL_apart_10 : decode cL_apart 10 = .ok (.i2l, 1) := by decide +kernel
theorem dL_apart_11 : decode cL_apart 11 = .ok (.lastore, 1) := by decide +kernel
theorem dL_apart_12 : decode cL_apart 12 = .ok (.goto 7, 3) := by decide +kernel
theorem dL_apart_15 : decode cL_apart 15 = .ok (.astore 5, 2) := by decide +kernel
theorem dL_apart_17 : decode cL_apart 17 = .ok (.iconst 1, 1) := by decide +kernel
theorem dL_apart_18 : decode cL_apart 18 = .ok (.ireturn, 1) := by decide +kernel
theorem dL_apart_19 : decode cL_apart 19 = .ok (.iconst 0, 1) := by decide +kernel
theorem dL_apart_20 : decode cL_apart 20 = .ok (.ireturn, 1) := by decide +kernel
theorem dL_alikePairs_0 : decode cL_alikePairs 0 = .ok (.aload_n 2, 1) := by decide +kernel
theorem dL_alikePairs_1 : decode cL_alikePairs 1 = .ok (.iconst 0, 1) := by decide +kernel
theorem dL_alikePairs_2 : decode cL_alikePairs 2 = .ok (.aload_n 0, 1) := by decide +kernel
theorem dL_alikePairs_3 : decode cL_alikePairs 3 = .ok (.iload_n 1, 1) := by decide +kernel
theorem dL_alikePairs_4 : decode cL_alikePairs 4 = .ok (.invokevirtual 66, 3) := by decide +kernel
theorem dL_alikePairs_7 : decode cL_alikePairs 7 = .ok (.i2l, 1) := by decide +kernel
theorem dL_alikePairs_8 : decode cL_alikePairs 8 = .ok (.lastore, 1) := by decide +kernel
theorem dL_alikePairs_9 : decode cL_alikePairs 9 = .ok (.goto 6, 3) := by decide +kernel
theorem dL_alikePairs_12 : decode cL_alikePairs 12 = .ok (.astore_n 3, 1) := by decide +kernel
theorem dL_alikePairs_13 : decode cL_alikePairs 13 = .ok (.iconst 1, 1) := by decide +kernel
theorem dL_alikePairs_14 : decode cL_alikePairs 14 = .ok (.ireturn, 1) := by decide +kernel
theorem dL_alikePairs_15 : decode cL_alikePairs 15 = .ok (.iconst 0, 1) := by decide +kernel
theorem dL_alikePairs_16 : decode cL_alikePairs 16 = .ok (.ireturn, 1) := by decide +kernel
theorem dL_thumbPairs_0 : decode cL_thumbPairs 0 = .ok (.aload_n 2, 1) := by decide +kernel
theorem dL_thumbPairs_1 : decode cL_thumbPairs 1 = .ok (.iconst 0, 1) := by decide +kernel
theorem dL_thumbPairs_2 : decode cL_thumbPairs 2 = .ok (.aload_n 0, 1) := by decide +kernel
theorem dL_thumbPairs_3 : decode cL_thumbPairs 3 = .ok (.iload_n 1, 1) := by decide +kernel
theorem dL_thumbPairs_4 : decode cL_thumbPairs 4 = .ok (.invokevirtual 69, 3) := by decide +kernel
theorem dL_thumbPairs_7 : decode cL_thumbPairs 7 = .ok (.i2l, 1) := by decide +kernel
theorem dL_thumbPairs_8 : decode cL_thumbPairs 8 = .ok (.lastore, 1) := by decide +kernel
theorem dL_thumbPairs_9 : decode cL_thumbPairs 9 = .ok (.goto 6, 3) := by decide +kernel
theorem dL_thumbPairs_12 : decode cL_thumbPairs 12 = .ok (.astore_n 3, 1) := by decide +kernel
theorem dL_thumbPairs_13 : decode cL_thumbPairs 13 = .ok (.iconst 1, 1) := by decide +kernel
theorem dL_thumbPairs_14 : decode cL_thumbPairs 14 = .ok (.ireturn, 1) := by decide +kernel
theorem dL_thumbPairs_15 : decode cL_thumbPairs 15 = .ok (.iconst 0, 1) := by decide +kernel
theorem dL_thumbPairs_16 : decode cL_thumbPairs 16 = .ok (.ireturn, 1) := by decide +kernel
theorem dL_closest_0 : decode cL_closest 0 = .ok (.aload_n 2, 1) := by decide +kernel
theorem dL_closest_1 : decode cL_closest 1 = .ok (.iconst 0, 1) := by decide +kernel
theorem dL_closest_2 : decode cL_closest 2 = .ok (.aload_n 0, 1) := by decide +kernel
theorem dL_closest_3 : decode cL_closest 3 = .ok (.iload_n 1, 1) := by decide +kernel
theorem dL_closest_4 : decode cL_closest 4 = .ok (.invokevirtual 72, 3) := by decide +kernel
theorem dL_closest_7 : decode cL_closest 7 = .ok (.i2l, 1) := by decide +kernel
theorem dL_closest_8 : decode cL_closest 8 = .ok (.lastore, 1) := by decide +kernel
theorem dL_closest_9 : decode cL_closest 9 = .ok (.goto 6, 3) := by decide +kernel
theorem dL_closest_12 : decode cL_closest 12 = .ok (.astore_n 3, 1) := by decide +kernel
theorem dL_closest_13 : decode cL_closest 13 = .ok (.iconst 1, 1) := by decide +kernel
theorem dL_closest_14 : decode cL_closest 14 = .ok (.ireturn, 1) := by decide +kernel
theorem dL_closest_15 : decode cL_closest 15 = .ok (.iconst 0, 1) := by decide +kernel
theorem dL_closest_16 : decode cL_closest 16 = .ok (.ireturn, 1) := by decide +kernel
theorem dL_mostMistaken_0 : decode cL_mostMistaken 0 = .ok (.aload_n 2, 1) := by decide +kernel
theorem dL_mostMistaken_1 : decode cL_mostMistaken 1 = .ok (.iconst 0, 1) := by decide +kernel
theorem dL_mostMistaken_2 : decode cL_mostMistaken 2 = .ok (.aload_n 0, 1) := by decide +kernel
theorem dL_mostMistaken_3 : decode cL_mostMistaken 3 = .ok (.iload_n 1, 1) := by decide +kernel
theorem dL_mostMistaken_4 : decode cL_mostMistaken 4 = .ok (.invokevirtual 75, 3) := by decide +kernel
theorem dL_mostMistaken_7 : decode cL_mostMistaken 7 = .ok (.i2l, 1) := by decide +kernel
theorem dL_mostMistaken_8 : decode cL_mostMistaken 8 = .ok (.lastore, 1) := by decide +kernel
theorem dL_mostMistaken_9 : decode cL_mostMistaken 9 = .ok (.goto 6, 3) := by decide +kernel
theorem dL_mostMistaken_12 : decode cL_mostMistaken 12 = .ok (.astore_n 3, 1) := by decide +kernel
theorem dL_mostMistaken_13 : decode cL_mostMistaken 13 = .ok (.iconst 1, 1) := by decide +kernel
theorem dL_mostMistaken_14 : decode cL_mostMistaken 14 = .ok (.ireturn, 1) := by decide +kernel
theorem dL_mostMistaken_15 : decode cL_mostMistaken 15 = .ok (.iconst 0, 1) := by decide +kernel
theorem dL_mostMistaken_16 : decode cL_mostMistaken 16 = .ok (.ireturn, 1) := by decide +kernel
theorem dL_read_0 : decode cL_read 0 = .ok (.aload 4, 2) := by decide +kernel
theorem dL_read_2 : decode cL_read 2 = .ok (.iconst 0, 1) := by decide +kernel
theorem dL_read_3 : decode cL_read 3 = .ok (.aload_n 0, 1) := by decide +kernel
theorem dL_read_4 : decode cL_read 4 = .ok (.iload_n 1, 1) := by decide +kernel
theorem dL_read_5 : decode cL_read 5 = .ok (.iload_n 2, 1) := by decide +kernel
theorem dL_read_6 : decode cL_read 6 = .ok (.iload_n 3, 1) := by decide +kernel
theorem dL_read_7 : decode cL_read 7 = .ok (.invokevirtual 78, 3) := by decide +kernel
theorem dL_read_10 : decode cL_read 10 = .ok (.i2l, 1) := by decide +kernel
theorem dL_read_11 : decode cL_read 11 = .ok (.lastore, 1) := by decide +kernel
theorem dL_read_12 : decode cL_read 12 = .ok (.goto 7, 3) := by decide +kernel
theorem dL_read_15 : decode cL_read 15 = .ok (.astore 5, 2) := by decide +kernel
theorem dL_read_17 : decode cL_read 17 = .ok (.iconst 1, 1) := by decide +kernel
theorem dL_read_18 : decode cL_read 18 = .ok (.ireturn, 1) := by decide +kernel
theorem dL_read_19 : decode cL_read 19 = .ok (.iconst 0, 1) := by decide +kernel
theorem dL_read_20 : decode cL_read 20 = .ok (.ireturn, 1) := by decide +kernel
theorem dL_readShown_0 : decode cL_readShown 0 = .ok (.aload 6, 2) := by decide +kernel
theorem dL_readShown_2 : decode cL_readShown 2 = .ok (.iconst 0, 1) := by decide +kernel
theorem dL_readShown_3 : decode cL_readShown 3 = .ok (.aload_n 0, 1) := by decide +kernel
theorem dL_readShown_4 : decode cL_readShown 4 = .ok (.iload_n 1, 1) := by decide +kernel
theorem dL_readShown_5 : decode cL_readShown 5 = .ok (.iload_n 2, 1) := by decide +kernel
theorem dL_readShown_6 : decode cL_readShown 6 = .ok (.iload_n 3, 1) := by decide +kernel
theorem dL_readShown_7 : decode cL_readShown 7 = .ok (.iload 4, 2) := by decide +kernel
theorem dL_readShown_9 : decode cL_readShown 9 = .ok (.iload 5, 2) := by decide +kernel
theorem dL_readShown_11 : decode cL_readShown 11 = .ok (.invokevirtual 81, 3) := by decide +kernel
theorem dL_readShown_14 : decode cL_readShown 14 = .ok (.i2l, 1) := by decide +kernel
theorem dL_readShown_15 : decode cL_readShown 15 = .ok (.lastore, 1) := by decide +kernel
theorem dL_readShown_16 : decode cL_readShown 16 = .ok (.goto 11, 3) := by decide +kernel
theorem dL_readShown_19 : decode cL_readShown 19 = .ok (.astore 7, 2) := by decide +kernel
theorem dL_readShown_21 : decode cL_readShown 21 = .ok (.iconst 1, 1) := by decide +kernel
theorem dL_readShown_22 : decode cL_readShown 22 = .ok (.ireturn, 1) := by decide +kernel
theorem dL_readShown_23 : decode cL_readShown 23 = .ok (.astore 7, 2) := by decide +kernel
theorem dL_readShown_25 : decode cL_readShown 25 = .ok (.iconst 2, 1) := by decide +kernel
theorem dL_readShown_26 : decode cL_readShown 26 = .ok (.ireturn, 1) := by decide +kernel
theorem dL_readShown_27 : decode cL_readShown 27 = .ok (.iconst 0, 1) := by decide +kernel
theorem dL_readShown_28 : decode cL_readShown 28 = .ok (.ireturn, 1) := by decide +kernel
theorem dL_understood_0 : decode cL_understood 0 = .ok (.aload_n 3, 1) := by decide +kernel
theorem dL_understood_1 : decode cL_understood 1 = .ok (.iconst 0, 1) := by decide +kernel
theorem dL_understood_2 : decode cL_understood 2 = .ok (.aload_n 0, 1) := by decide +kernel
theorem dL_understood_3 : decode cL_understood 3 = .ok (.iload_n 1, 1) := by decide +kernel
theorem dL_understood_4 : decode cL_understood 4 = .ok (.iload_n 2, 1) := by decide +kernel
theorem dL_understood_5 : decode cL_understood 5 = .ok (.invokevirtual 85, 3) := by decide +kernel
theorem dL_understood_8 : decode cL_understood 8 = .ok (.i2l, 1) := by decide +kernel
theorem dL_understood_9 : decode cL_understood 9 = .ok (.lastore, 1) := by decide +kernel
theorem dL_understood_10 : decode cL_understood 10 = .ok (.goto 7, 3) := by decide +kernel
theorem dL_understood_13 : decode cL_understood 13 = .ok (.astore 4, 2) := by decide +kernel
theorem dL_understood_15 : decode cL_understood 15 = .ok (.iconst 1, 1) := by decide +kernel
theorem dL_understood_16 : decode cL_understood 16 = .ok (.ireturn, 1) := by decide +kernel
theorem dL_understood_17 : decode cL_understood 17 = .ok (.iconst 0, 1) := by decide +kernel
theorem dL_understood_18 : decode cL_understood 18 = .ok (.ireturn, 1) := by decide +kernel
theorem dL_misread_0 : decode cL_misread 0 = .ok (.aload_n 3, 1) := by decide +kernel
theorem dL_misread_1 : decode cL_misread 1 = .ok (.iconst 0, 1) := by decide +kernel
theorem dL_misread_2 : decode cL_misread 2 = .ok (.aload_n 0, 1) := by decide +kernel
theorem dL_misread_3 : decode cL_misread 3 = .ok (.iload_n 1, 1) := by decide +kernel
theorem dL_misread_4 : decode cL_misread 4 = .ok (.iload_n 2, 1) := by decide +kernel
theorem dL_misread_5 : decode cL_misread 5 = .ok (.invokevirtual 88, 3) := by decide +kernel
theorem dL_misread_8 : decode cL_misread 8 = .ok (.i2l, 1) := by decide +kernel
theorem dL_misread_9 : decode cL_misread 9 = .ok (.lastore, 1) := by decide +kernel
theorem dL_misread_10 : decode cL_misread 10 = .ok (.goto 7, 3) := by decide +kernel
theorem dL_misread_13 : decode cL_misread 13 = .ok (.astore 4, 2) := by decide +kernel
theorem dL_misread_15 : decode cL_misread 15 = .ok (.iconst 1, 1) := by decide +kernel
theorem dL_misread_16 : decode cL_misread 16 = .ok (.ireturn, 1) := by decide +kernel
theorem dL_misread_17 : decode cL_misread 17 = .ok (.iconst 0, 1) := by decide +kernel
theorem dL_misread_18 : decode cL_misread 18 = .ok (.ireturn, 1) := by decide +kernel
theorem dL_common_0 : decode cL_common 0 = .ok (.aload_n 3, 1) := by decide +kernel
theorem dL_common_1 : decode cL_common 1 = .ok (.iconst 0, 1) := by decide +kernel
theorem dL_common_2 : decode cL_common 2 = .ok (.aload_n 0, 1) := by decide +kernel
theorem dL_common_3 : decode cL_common 3 = .ok (.iload_n 1, 1) := by decide +kernel
theorem dL_common_4 : decode cL_common 4 = .ok (.iload_n 2, 1) := by decide +kernel
theorem dL_common_5 : decode cL_common 5 = .ok (.invokevirtual 91, 3) := by decide +kernel
theorem dL_common_8 : decode cL_common 8 = .ok (.i2l, 1) := by decide +kernel
theorem dL_common_9 : decode cL_common 9 = .ok (.lastore, 1) := by decide +kernel
theorem dL_common_10 : decode cL_common 10 = .ok (.goto 7, 3) := by decide +kernel
theorem dL_common_13 : decode cL_common 13 = .ok (.astore 4, 2) := by decide +kernel
theorem dL_common_15 : decode cL_common 15 = .ok (.iconst 1, 1) := by decide +kernel
theorem dL_common_16 : decode cL_common 16 = .ok (.ireturn, 1) := by decide +kernel
theorem dL_common_17 : decode cL_common 17 = .ok (.iconst 0, 1) := by decide +kernel
theorem dL_common_18 : decode cL_common 18 = .ok (.ireturn, 1) := by decide +kernel
theorem dL_bestThumb_0 : decode cL_bestThumb 0 = .ok (.aload_n 3, 1) := by decide +kernel
theorem dL_bestThumb_1 : decode cL_bestThumb 1 = .ok (.iconst 0, 1) := by decide +kernel
theorem dL_bestThumb_2 : decode cL_bestThumb 2 = .ok (.aload_n 0, 1) := by decide +kernel
theorem dL_bestThumb_3 : decode cL_bestThumb 3 = .ok (.iload_n 1, 1) := by decide +kernel
theorem dL_bestThumb_4 : decode cL_bestThumb 4 = .ok (.iload_n 2, 1) := by decide +kernel
theorem dL_bestThumb_5 : decode cL_bestThumb 5 = .ok (.invokevirtual 94, 3) := by decide +kernel
theorem dL_bestThumb_8 : decode cL_bestThumb 8 = .ok (.i2l, 1) := by decide +kernel
theorem dL_bestThumb_9 : decode cL_bestThumb 9 = .ok (.lastore, 1) := by decide +kernel
theorem dL_bestThumb_10 : decode cL_bestThumb 10 = .ok (.goto 7, 3) := by decide +kernel
theorem dL_bestThumb_13 : decode cL_bestThumb 13 = .ok (.astore 4, 2) := by decide +kernel
theorem dL_bestThumb_15 : decode cL_bestThumb 15 = .ok (.iconst 1, 1) := by decide +kernel
theorem dL_bestThumb_16 : decode cL_bestThumb 16 = .ok (.ireturn, 1) := by decide +kernel
theorem dL_bestThumb_17 : decode cL_bestThumb 17 = .ok (.iconst 0, 1) := by decide +kernel
theorem dL_bestThumb_18 : decode cL_bestThumb 18 = .ok (.ireturn, 1) := by decide +kernel
theorem dL_bestToBorrow_0 : decode cL_bestToBorrow 0 = .ok (.aload_n 3, 1) := by decide +kernel
theorem dL_bestToBorrow_1 : decode cL_bestToBorrow 1 = .ok (.iconst 0, 1) := by decide +kernel
theorem dL_bestToBorrow_2 : decode cL_bestToBorrow 2 = .ok (.aload_n 0, 1) := by decide +kernel
theorem dL_bestToBorrow_3 : decode cL_bestToBorrow 3 = .ok (.iload_n 1, 1) := by decide +kernel
theorem dL_bestToBorrow_4 : decode cL_bestToBorrow 4 = .ok (.iload_n 2, 1) := by decide +kernel
theorem dL_bestToBorrow_5 : decode cL_bestToBorrow 5 = .ok (.invokevirtual 97, 3) := by decide +kernel
theorem dL_bestToBorrow_8 : decode cL_bestToBorrow 8 = .ok (.i2l, 1) := by decide +kernel
theorem dL_bestToBorrow_9 : decode cL_bestToBorrow 9 = .ok (.lastore, 1) := by decide +kernel
theorem dL_bestToBorrow_10 : decode cL_bestToBorrow 10 = .ok (.goto 7, 3) := by decide +kernel
theorem dL_bestToBorrow_13 : decode cL_bestToBorrow 13 = .ok (.astore 4, 2) := by decide +kernel
theorem dL_bestToBorrow_15 : decode cL_bestToBorrow 15 = .ok (.iconst 1, 1) := by decide +kernel
theorem dL_bestToBorrow_16 : decode cL_bestToBorrow 16 = .ok (.ireturn, 1) := by decide +kernel
theorem dL_bestToBorrow_17 : decode cL_bestToBorrow 17 = .ok (.iconst 0, 1) := by decide +kernel
theorem dL_bestToBorrow_18 : decode cL_bestToBorrow 18 = .ok (.ireturn, 1) := by decide +kernel
theorem dL_alikeIfJoined_0 : decode cL_alikeIfJoined 0 = .ok (.aload_n 3, 1) := by decide +kernel
theorem dL_alikeIfJoined_1 : decode cL_alikeIfJoined 1 = .ok (.iconst 0, 1) := by decide +kernel
theorem dL_alikeIfJoined_2 : decode cL_alikeIfJoined 2 = .ok (.aload_n 0, 1) := by decide +kernel
theorem dL_alikeIfJoined_3 : decode cL_alikeIfJoined 3 = .ok (.iload_n 1, 1) := by decide +kernel
theorem dL_alikeIfJoined_4 : decode cL_alikeIfJoined 4 = .ok (.iload_n 2, 1) := by decide +kernel
theorem dL_alikeIfJoined_5 : decode cL_alikeIfJoined 5 = .ok (.invokevirtual 100, 3) := by decide +kernel
theorem dL_alikeIfJoined_8 : decode cL_alikeIfJoined 8 = .ok (.i2l, 1) := by decide +kernel
theorem dL_alikeIfJoined_9 : decode cL_alikeIfJoined 9 = .ok (.lastore, 1) := by decide +kernel
theorem dL_alikeIfJoined_10 : decode cL_alikeIfJoined 10 = .ok (.goto 7, 3) := by decide +kernel
theorem dL_alikeIfJoined_13 : decode cL_alikeIfJoined 13 = .ok (.astore 4, 2) := by decide +kernel
theorem dL_alikeIfJoined_15 : decode cL_alikeIfJoined 15 = .ok (.iconst 1, 1) := by decide +kernel
theorem dL_alikeIfJoined_16 : decode cL_alikeIfJoined 16 = .ok (.ireturn, 1) := by decide +kernel
theorem dL_alikeIfJoined_17 : decode cL_alikeIfJoined 17 = .ok (.iconst 0, 1) := by decide +kernel
theorem dL_alikeIfJoined_18 : decode cL_alikeIfJoined 18 = .ok (.ireturn, 1) := by decide +kernel
theorem dL_law_0 : decode cL_law 0 = .ok (.new 8, 3) := by decide +kernel
theorem dL_law_3 : decode cL_law 3 = .ok (.dup, 1) := by decide +kernel
theorem dL_law_4 : decode cL_law 4 = .ok (.invokespecial 103, 3) := by decide +kernel
theorem dL_law_7 : decode cL_law 7 = .ok (.astore_n 1, 1) := by decide +kernel
theorem dL_law_8 : decode cL_law 8 = .ok (.new 104, 3) := by decide +kernel
theorem dL_law_11 : decode cL_law 11 = .ok (.dup, 1) := by decide +kernel
theorem dL_law_12 : decode cL_law 12 = .ok (.invokespecial 106, 3) := by decide +kernel
theorem dL_law_15 : decode cL_law 15 = .ok (.astore_n 2, 1) := by decide +kernel
theorem dL_law_16 : decode cL_law 16 = .ok (.iconst 1, 1) := by decide +kernel
theorem dL_law_17 : decode cL_law 17 = .ok (.newarray .long, 2) := by decide +kernel
theorem dL_law_19 : decode cL_law 19 = .ok (.astore_n 3, 1) := by decide +kernel
theorem dL_law_20 : decode cL_law 20 = .ok (.iconst 0, 1) := by decide +kernel
theorem dL_law_21 : decode cL_law 21 = .ok (.istore 4, 2) := by decide +kernel
theorem dL_law_23 : decode cL_law 23 = .ok (.iload 4, 2) := by decide +kernel
theorem dL_law_25 : decode cL_law 25 = .ok (.aload_n 0, 1) := by decide +kernel
theorem dL_law_26 : decode cL_law 26 = .ok (.arraylength, 1) := by decide +kernel
theorem dL_law_27 : decode cL_law 27 = .ok (.bipush 7, 2) := by decide +kernel
theorem dL_law_29 : decode cL_law 29 = .ok (.isub, 1) := by decide +kernel
theorem dL_law_30 : decode cL_law 30 = .ok (.if_icmp .gt 2130, 3) := by decide +kernel
theorem dL_law_33 : decode cL_law 33 = .ok (.aload_n 0, 1) := by decide +kernel
theorem dL_law_34 : decode cL_law 34 = .ok (.iload 4, 2) := by decide +kernel
theorem dL_law_36 : decode cL_law 36 = .ok (.iaload, 1) := by decide +kernel
theorem dL_law_37 : decode cL_law 37 = .ok (.bipush 31, 2) := by decide +kernel
theorem dL_law_39 : decode cL_law 39 = .ok (.iand, 1) := by decide +kernel
theorem dL_law_40 : decode cL_law 40 = .ok (.tableswitch 2114 0 30 #[140, 184, 302, 370, 450, 518, 598, 611, 686, 754, 767, 823, 891, 959, 1027, 1095, 1163, 1243, 1299, 1355, 1411, 1467, 1547, 1651, 1719, 1787, 1855, 1923, 1991, 2059, 2100], 140) := by decide +kernel
theorem dL_law_180 : decode cL_law 180 = .ok (.aload_n 1, 1) := by decide +kernel
theorem dL_law_181 : decode cL_law 181 = .ok (.aload_n 3, 1) := by decide +kernel
theorem dL_law_182 : decode cL_law 182 = .ok (.invokestatic 107, 3) := by decide +kernel
theorem dL_law_185 : decode cL_law 185 = .ok (.istore 5, 2) := by decide +kernel
theorem dL_law_187 : decode cL_law 187 = .ok (.aload_n 2, 1) := by decide +kernel
theorem dL_law_188 : decode cL_law 188 = .ok (.invokevirtual 112, 3) := by decide +kernel
theorem dL_law_191 : decode cL_law 191 = .ok (.istore 6, 2) := by decide +kernel
theorem dL_law_193 : decode cL_law 193 = .ok (.aload_n 2, 1) := by decide +kernel
theorem dL_law_194 : decode cL_law 194 = .ok (.invokevirtual 113, 3) := by decide +kernel
theorem dL_law_197 : decode cL_law 197 = .ok (.iload 5, 2) := by decide +kernel
theorem dL_law_199 : decode cL_law 199 = .ok (.if_icmp .eq 5, 3) := by decide +kernel
theorem dL_law_202 : decode cL_law 202 = .ok (.iconst 0, 1) := by decide +kernel
theorem dL_law_203 : decode cL_law 203 = .ok (.ireturn, 1) := by decide +kernel
theorem dL_law_204 : decode cL_law 204 = .ok (.iload 5, 2) := by decide +kernel
theorem dL_law_206 : decode cL_law 206 = .ok (.ifCond .ne 15, 3) := by decide +kernel
theorem dL_law_209 : decode cL_law 209 = .ok (.aload_n 3, 1) := by decide +kernel
theorem dL_law_210 : decode cL_law 210 = .ok (.iconst 0, 1) := by decide +kernel
theorem dL_law_211 : decode cL_law 211 = .ok (.laload, 1) := by decide +kernel
theorem dL_law_212 : decode cL_law 212 = .ok (.iload 6, 2) := by decide +kernel
theorem dL_law_214 : decode cL_law 214 = .ok (.i2l, 1) := by decide +kernel
theorem dL_law_215 : decode cL_law 215 = .ok (.lcmp, 1) := by decide +kernel
theorem dL_law_216 : decode cL_law 216 = .ok (.ifCond .eq 5, 3) := by decide +kernel
theorem dL_law_219 : decode cL_law 219 = .ok (.iconst 0, 1) := by decide +kernel
theorem dL_law_220 : decode cL_law 220 = .ok (.ireturn, 1) := by decide +kernel
theorem dL_law_221 : decode cL_law 221 = .ok (.goto 1933, 3) := by decide +kernel
theorem dL_law_224 : decode cL_law 224 = .ok (.aload_n 1, 1) := by decide +kernel
theorem dL_law_225 : decode cL_law 225 = .ok (.aload_n 0, 1) := by decide +kernel
theorem dL_law_226 : decode cL_law 226 = .ok (.iload 4, 2) := by decide +kernel
theorem dL_law_228 : decode cL_law 228 = .ok (.iconst 1, 1) := by decide +kernel
theorem dL_law_229 : decode cL_law 229 = .ok (.iadd, 1) := by decide +kernel
theorem dL_law_230 : decode cL_law 230 = .ok (.iaload, 1) := by decide +kernel
theorem dL_law_231 : decode cL_law 231 = .ok (.aload_n 0, 1) := by decide +kernel
theorem dL_law_232 : decode cL_law 232 = .ok (.iload 4, 2) := by decide +kernel
theorem dL_law_234 : decode cL_law 234 = .ok (.iconst 2, 1) := by decide +kernel
theorem dL_law_235 : decode cL_law 235 = .ok (.iadd, 1) := by decide +kernel
theorem dL_law_236 : decode cL_law 236 = .ok (.iaload, 1) := by decide +kernel
theorem dL_law_237 : decode cL_law 237 = .ok (.aload_n 0, 1) := by decide +kernel
theorem dL_law_238 : decode cL_law 238 = .ok (.iload 4, 2) := by decide +kernel
theorem dL_law_240 : decode cL_law 240 = .ok (.iconst 3, 1) := by decide +kernel
theorem dL_law_241 : decode cL_law 241 = .ok (.iadd, 1) := by decide +kernel
theorem dL_law_242 : decode cL_law 242 = .ok (.iaload, 1) := by decide +kernel
theorem dL_law_243 : decode cL_law 243 = .ok (.aload_n 0, 1) := by decide +kernel
theorem dL_law_244 : decode cL_law 244 = .ok (.iload 4, 2) := by decide +kernel
theorem dL_law_246 : decode cL_law 246 = .ok (.iconst 4, 1) := by decide +kernel
theorem dL_law_247 : decode cL_law 247 = .ok (.iadd, 1) := by decide +kernel
theorem dL_law_248 : decode cL_law 248 = .ok (.iaload, 1) := by decide +kernel
theorem dL_law_249 : decode cL_law 249 = .ok (.aload_n 0, 1) := by decide +kernel
theorem dL_law_250 : decode cL_law 250 = .ok (.iload 4, 2) := by decide +kernel
theorem dL_law_252 : decode cL_law 252 = .ok (.iconst 5, 1) := by decide +kernel
theorem dL_law_253 : decode cL_law 253 = .ok (.iadd, 1) := by decide +kernel
theorem dL_law_254 : decode cL_law 254 = .ok (.iaload, 1) := by decide +kernel
theorem dL_law_255 : decode cL_law 255 = .ok (.aload_n 0, 1) := by decide +kernel
theorem dL_law_256 : decode cL_law 256 = .ok (.iload 4, 2) := by decide +kernel
theorem dL_law_258 : decode cL_law 258 = .ok (.bipush 6, 2) := by decide +kernel
theorem dL_law_260 : decode cL_law 260 = .ok (.iadd, 1) := by decide +kernel
theorem dL_law_261 : decode cL_law 261 = .ok (.iaload, 1) := by decide +kernel
theorem dL_law_262 : decode cL_law 262 = .ok (.aload_n 3, 1) := by decide +kernel
theorem dL_law_263 : decode cL_law 263 = .ok (.invokestatic 116, 3) := by decide +kernel
theorem dL_law_266 : decode cL_law 266 = .ok (.istore 5, 2) := by decide +kernel
theorem dL_law_268 : decode cL_law 268 = .ok (.aload_n 2, 1) := by decide +kernel
theorem dL_law_269 : decode cL_law 269 = .ok (.aload_n 0, 1) := by decide +kernel
theorem dL_law_270 : decode cL_law 270 = .ok (.iload 4, 2) := by decide +kernel
theorem dL_law_272 : decode cL_law 272 = .ok (.iconst 1, 1) := by decide +kernel
theorem dL_law_273 : decode cL_law 273 = .ok (.iadd, 1) := by decide +kernel
theorem dL_law_274 : decode cL_law 274 = .ok (.iaload, 1) := by decide +kernel
theorem dL_law_275 : decode cL_law 275 = .ok (.aload_n 0, 1) := by decide +kernel
theorem dL_law_276 : decode cL_law 276 = .ok (.iload 4, 2) := by decide +kernel
theorem dL_law_278 : decode cL_law 278 = .ok (.iconst 2, 1) := by decide +kernel
theorem dL_law_279 : decode cL_law 279 = .ok (.iadd, 1) := by decide +kernel
theorem dL_law_280 : decode cL_law 280 = .ok (.iaload, 1) := by decide +kernel
theorem dL_law_281 : decode cL_law 281 = .ok (.aload_n 0, 1) := by decide +kernel
theorem dL_law_282 : decode cL_law 282 = .ok (.iload 4, 2) := by decide +kernel
theorem dL_law_284 : decode cL_law 284 = .ok (.iconst 3, 1) := by decide +kernel
theorem dL_law_285 : decode cL_law 285 = .ok (.iadd, 1) := by decide +kernel
theorem dL_law_286 : decode cL_law 286 = .ok (.iaload, 1) := by decide +kernel
theorem dL_law_287 : decode cL_law 287 = .ok (.aload_n 0, 1) := by decide +kernel
theorem dL_law_288 : decode cL_law 288 = .ok (.iload 4, 2) := by decide +kernel
theorem dL_law_290 : decode cL_law 290 = .ok (.iconst 4, 1) := by decide +kernel
theorem dL_law_291 : decode cL_law 291 = .ok (.iadd, 1) := by decide +kernel
theorem dL_law_292 : decode cL_law 292 = .ok (.iaload, 1) := by decide +kernel
theorem dL_law_293 : decode cL_law 293 = .ok (.aload_n 0, 1) := by decide +kernel
theorem dL_law_294 : decode cL_law 294 = .ok (.iload 4, 2) := by decide +kernel
theorem dL_law_296 : decode cL_law 296 = .ok (.iconst 5, 1) := by decide +kernel
theorem dL_law_297 : decode cL_law 297 = .ok (.iadd, 1) := by decide +kernel
theorem dL_law_298 : decode cL_law 298 = .ok (.iaload, 1) := by decide +kernel
theorem dL_law_299 : decode cL_law 299 = .ok (.aload_n 0, 1) := by decide +kernel
theorem dL_law_300 : decode cL_law 300 = .ok (.iload 4, 2) := by decide +kernel
theorem dL_law_302 : decode cL_law 302 = .ok (.bipush 6, 2) := by decide +kernel
theorem dL_law_304 : decode cL_law 304 = .ok (.iadd, 1) := by decide +kernel
theorem dL_law_305 : decode cL_law 305 = .ok (.iaload, 1) := by decide +kernel
theorem dL_law_306 : decode cL_law 306 = .ok (.invokevirtual 119, 3) := by decide +kernel
theorem dL_law_309 : decode cL_law 309 = .ok (.istore 6, 2) := by decide +kernel
theorem dL_law_311 : decode cL_law 311 = .ok (.aload_n 2, 1) := by decide +kernel
theorem dL_law_312 : decode cL_law 312 = .ok (.invokevirtual 113, 3) := by decide +kernel
theorem dL_law_315 : decode cL_law 315 = .ok (.iload 5, 2) := by decide +kernel
theorem dL_law_317 : decode cL_law 317 = .ok (.if_icmp .eq 5, 3) := by decide +kernel
theorem dL_law_320 : decode cL_law 320 = .ok (.iconst 0, 1) := by decide +kernel
theorem dL_law_321 : decode cL_law 321 = .ok (.ireturn, 1) := by decide +kernel
theorem dL_law_322 : decode cL_law 322 = .ok (.iload 5, 2) := by decide +kernel
theorem dL_law_324 : decode cL_law 324 = .ok (.ifCond .ne 15, 3) := by decide +kernel
theorem dL_law_327 : decode cL_law 327 = .ok (.aload_n 3, 1) := by decide +kernel
theorem dL_law_328 : decode cL_law 328 = .ok (.iconst 0, 1) := by decide +kernel
theorem dL_law_329 : decode cL_law 329 = .ok (.laload, 1) := by decide +kernel
theorem dL_law_330 : decode cL_law 330 = .ok (.iload 6, 2) := by decide +kernel
theorem dL_law_332 : decode cL_law 332 = .ok (.i2l, 1) := by decide +kernel
theorem dL_law_333 : decode cL_law 333 = .ok (.lcmp, 1) := by decide +kernel
theorem dL_law_334 : decode cL_law 334 = .ok (.ifCond .eq 5, 3) := by decide +kernel
theorem dL_law_337 : decode cL_law 337 = .ok (.iconst 0, 1) := by decide +kernel
theorem dL_law_338 : decode cL_law 338 = .ok (.ireturn, 1) := by decide +kernel
theorem dL_law_339 : decode cL_law 339 = .ok (.goto 1815, 3) := by decide +kernel
theorem dL_law_342 : decode cL_law 342 = .ok (.aload_n 1, 1) := by decide +kernel
theorem dL_law_343 : decode cL_law 343 = .ok (.aload_n 0, 1) := by decide +kernel
theorem dL_law_344 : decode cL_law 344 = .ok (.iload 4, 2) := by decide +kernel
theorem dL_law_346 : decode cL_law 346 = .ok (.iconst 1, 1) := by decide +kernel
theorem dL_law_347 : decode cL_law 347 = .ok (.iadd, 1) := by decide +kernel
theorem dL_law_348 : decode cL_law 348 = .ok (.iaload, 1) := by decide +kernel
theorem dL_law_349 : decode cL_law 349 = .ok (.aload_n 0, 1) := by decide +kernel
theorem dL_law_350 : decode cL_law 350 = .ok (.iload 4, 2) := by decide +kernel
theorem dL_law_352 : decode cL_law 352 = .ok (.iconst 2, 1) := by decide +kernel
theorem dL_law_353 : decode cL_law 353 = .ok (.iadd, 1) := by decide +kernel
theorem dL_law_354 : decode cL_law 354 = .ok (.iaload, 1) := by decide +kernel
theorem dL_law_355 : decode cL_law 355 = .ok (.aload_n 3, 1) := by decide +kernel
theorem dL_law_356 : decode cL_law 356 = .ok (.invokestatic 120, 3) := by decide +kernel
theorem dL_law_359 : decode cL_law 359 = .ok (.istore 5, 2) := by decide +kernel
theorem dL_law_361 : decode cL_law 361 = .ok (.aload_n 2, 1) := by decide +kernel
theorem dL_law_362 : decode cL_law 362 = .ok (.aload_n 0, 1) := by decide +kernel
theorem dL_law_363 : decode cL_law 363 = .ok (.iload 4, 2) := by decide +kernel
theorem dL_law_365 : decode cL_law 365 = .ok (.iconst 1, 1) := by decide +kernel
theorem dL_law_366 : decode cL_law 366 = .ok (.iadd, 1) := by decide +kernel
theorem dL_law_367 : decode cL_law 367 = .ok (.iaload, 1) := by decide +kernel
theorem dL_law_368 : decode cL_law 368 = .ok (.aload_n 0, 1) := by decide +kernel
theorem dL_law_369 : decode cL_law 369 = .ok (.iload 4, 2) := by decide +kernel
theorem dL_law_371 : decode cL_law 371 = .ok (.iconst 2, 1) := by decide +kernel
theorem dL_law_372 : decode cL_law 372 = .ok (.iadd, 1) := by decide +kernel
theorem dL_law_373 : decode cL_law 373 = .ok (.iaload, 1) := by decide +kernel
theorem dL_law_374 : decode cL_law 374 = .ok (.invokevirtual 123, 3) := by decide +kernel
theorem dL_law_377 : decode cL_law 377 = .ok (.istore 6, 2) := by decide +kernel
theorem dL_law_379 : decode cL_law 379 = .ok (.aload_n 2, 1) := by decide +kernel
theorem dL_law_380 : decode cL_law 380 = .ok (.invokevirtual 113, 3) := by decide +kernel
theorem dL_law_383 : decode cL_law 383 = .ok (.iload 5, 2) := by decide +kernel
theorem dL_law_385 : decode cL_law 385 = .ok (.if_icmp .eq 5, 3) := by decide +kernel
theorem dL_law_388 : decode cL_law 388 = .ok (.iconst 0, 1) := by decide +kernel
theorem dL_law_389 : decode cL_law 389 = .ok (.ireturn, 1) := by decide +kernel
theorem dL_law_390 : decode cL_law 390 = .ok (.iload 5, 2) := by decide +kernel
theorem dL_law_392 : decode cL_law 392 = .ok (.ifCond .ne 15, 3) := by decide +kernel
theorem dL_law_395 : decode cL_law 395 = .ok (.aload_n 3, 1) := by decide +kernel
theorem dL_law_396 : decode cL_law 396 = .ok (.iconst 0, 1) := by decide +kernel
theorem dL_law_397 : decode cL_law 397 = .ok (.laload, 1) := by decide +kernel
theorem dL_law_398 : decode cL_law 398 = .ok (.iload 6, 2) := by decide +kernel
theorem dL_law_400 : decode cL_law 400 = .ok (.i2l, 1) := by decide +kernel
theorem dL_law_401 : decode cL_law 401 = .ok (.lcmp, 1) := by decide +kernel
theorem dL_law_402 : decode cL_law 402 = .ok (.ifCond .eq 5, 3) := by decide +kernel
theorem dL_law_405 : decode cL_law 405 = .ok (.iconst 0, 1) := by decide +kernel
theorem dL_law_406 : decode cL_law 406 = .ok (.ireturn, 1) := by decide +kernel
theorem dL_law_407 : decode cL_law 407 = .ok (.goto 1747, 3) := by decide +kernel
theorem dL_law_410 : decode cL_law 410 = .ok (.aload_n 1, 1) := by decide +kernel
theorem dL_law_411 : decode cL_law 411 = .ok (.aload_n 0, 1) := by decide +kernel
theorem dL_law_412 : decode cL_law 412 = .ok (.iload 4, 2) := by decide +kernel
theorem dL_law_414 : decode cL_law 414 = .ok (.iconst 1, 1) := by decide +kernel
theorem dL_law_415 : decode cL_law 415 = .ok (.iadd, 1) := by decide +kernel
theorem dL_law_416 : decode cL_law 416 = .ok (.iaload, 1) := by decide +kernel
theorem dL_law_417 : decode cL_law 417 = .ok (.aload_n 0, 1) := by decide +kernel
theorem dL_law_418 : decode cL_law 418 = .ok (.iload 4, 2) := by decide +kernel
theorem dL_law_420 : decode cL_law 420 = .ok (.iconst 2, 1) := by decide +kernel
theorem dL_law_421 : decode cL_law 421 = .ok (.iadd, 1) := by decide +kernel
theorem dL_law_422 : decode cL_law 422 = .ok (.iaload, 1) := by decide +kernel
theorem dL_law_423 : decode cL_law 423 = .ok (.aload_n 0, 1) := by decide +kernel
theorem dL_law_424 : decode cL_law 424 = .ok (.iload 4, 2) := by decide +kernel
theorem dL_law_426 : decode cL_law 426 = .ok (.iconst 3, 1) := by decide +kernel
theorem dL_law_427 : decode cL_law 427 = .ok (.iadd, 1) := by decide +kernel
theorem dL_law_428 : decode cL_law 428 = .ok (.iaload, 1) := by decide +kernel
theorem dL_law_429 : decode cL_law 429 = .ok (.aload_n 3, 1) := by decide +kernel
theorem dL_law_430 : decode cL_law 430 = .ok (.invokestatic 124, 3) := by decide +kernel
theorem dL_law_433 : decode cL_law 433 = .ok (.istore 5, 2) := by decide +kernel
theorem dL_law_435 : decode cL_law 435 = .ok (.aload_n 2, 1) := by decide +kernel
theorem dL_law_436 : decode cL_law 436 = .ok (.aload_n 0, 1) := by decide +kernel
theorem dL_law_437 : decode cL_law 437 = .ok (.iload 4, 2) := by decide +kernel
theorem dL_law_439 : decode cL_law 439 = .ok (.iconst 1, 1) := by decide +kernel
theorem dL_law_440 : decode cL_law 440 = .ok (.iadd, 1) := by decide +kernel
theorem dL_law_441 : decode cL_law 441 = .ok (.iaload, 1) := by decide +kernel
theorem dL_law_442 : decode cL_law 442 = .ok (.aload_n 0, 1) := by decide +kernel
theorem dL_law_443 : decode cL_law 443 = .ok (.iload 4, 2) := by decide +kernel
theorem dL_law_445 : decode cL_law 445 = .ok (.iconst 2, 1) := by decide +kernel
theorem dL_law_446 : decode cL_law 446 = .ok (.iadd, 1) := by decide +kernel
theorem dL_law_447 : decode cL_law 447 = .ok (.iaload, 1) := by decide +kernel
theorem dL_law_448 : decode cL_law 448 = .ok (.aload_n 0, 1) := by decide +kernel
theorem dL_law_449 : decode cL_law 449 = .ok (.iload 4, 2) := by decide +kernel
theorem dL_law_451 : decode cL_law 451 = .ok (.iconst 3, 1) := by decide +kernel
theorem dL_law_452 : decode cL_law 452 = .ok (.iadd, 1) := by decide +kernel
theorem dL_law_453 : decode cL_law 453 = .ok (.iaload, 1) := by decide +kernel
theorem dL_law_454 : decode cL_law 454 = .ok (.invokevirtual 127, 3) := by decide +kernel
theorem dL_law_457 : decode cL_law 457 = .ok (.istore 6, 2) := by decide +kernel
theorem dL_law_459 : decode cL_law 459 = .ok (.aload_n 2, 1) := by decide +kernel
theorem dL_law_460 : decode cL_law 460 = .ok (.invokevirtual 113, 3) := by decide +kernel
theorem dL_law_463 : decode cL_law 463 = .ok (.iload 5, 2) := by decide +kernel
theorem dL_law_465 : decode cL_law 465 = .ok (.if_icmp .eq 5, 3) := by decide +kernel
theorem dL_law_468 : decode cL_law 468 = .ok (.iconst 0, 1) := by decide +kernel
theorem dL_law_469 : decode cL_law 469 = .ok (.ireturn, 1) := by decide +kernel
theorem dL_law_470 : decode cL_law 470 = .ok (.iload 5, 2) := by decide +kernel
theorem dL_law_472 : decode cL_law 472 = .ok (.ifCond .ne 15, 3) := by decide +kernel
theorem dL_law_475 : decode cL_law 475 = .ok (.aload_n 3, 1) := by decide +kernel
theorem dL_law_476 : decode cL_law 476 = .ok (.iconst 0, 1) := by decide +kernel
theorem dL_law_477 : decode cL_law 477 = .ok (.laload, 1) := by decide +kernel
theorem dL_law_478 : decode cL_law 478 = .ok (.iload 6, 2) := by decide +kernel
theorem dL_law_480 : decode cL_law 480 = .ok (.i2l, 1) := by decide +kernel
theorem dL_law_481 : decode cL_law 481 = .ok (.lcmp, 1) := by decide +kernel
theorem dL_law_482 : decode cL_law 482 = .ok (.ifCond .eq 5, 3) := by decide +kernel
theorem dL_law_485 : decode cL_law 485 = .ok (.iconst 0, 1) := by decide +kernel
theorem dL_law_486 : decode cL_law 486 = .ok (.ireturn, 1) := by decide +kernel
theorem dL_law_487 : decode cL_law 487 = .ok (.goto 1667, 3) := by decide +kernel
theorem dL_law_490 : decode cL_law 490 = .ok (.aload_n 1, 1) := by decide +kernel
theorem dL_law_491 : decode cL_law 491 = .ok (.aload_n 0, 1) := by decide +kernel
theorem dL_law_492 : decode cL_law 492 = .ok (.iload 4, 2) := by decide +kernel
theorem dL_law_494 : decode cL_law 494 = .ok (.iconst 1, 1) := by decide +kernel
theorem dL_law_495 : decode cL_law 495 = .ok (.iadd, 1) := by decide +kernel
theorem dL_law_496 : decode cL_law 496 = .ok (.iaload, 1) := by decide +kernel
theorem dL_law_497 : decode cL_law 497 = .ok (.aload_n 0, 1) := by decide +kernel
theorem dL_law_498 : decode cL_law 498 = .ok (.iload 4, 2) := by decide +kernel
theorem dL_law_500 : decode cL_law 500 = .ok (.iconst 2, 1) := by decide +kernel
theorem dL_law_501 : decode cL_law 501 = .ok (.iadd, 1) := by decide +kernel
theorem dL_law_502 : decode cL_law 502 = .ok (.iaload, 1) := by decide +kernel
theorem dL_law_503 : decode cL_law 503 = .ok (.aload_n 3, 1) := by decide +kernel
theorem dL_law_504 : decode cL_law 504 = .ok (.invokestatic 128, 3) := by decide +kernel
theorem dL_law_507 : decode cL_law 507 = .ok (.istore 5, 2) := by decide +kernel
theorem dL_law_509 : decode cL_law 509 = .ok (.aload_n 2, 1) := by decide +kernel
theorem dL_law_510 : decode cL_law 510 = .ok (.aload_n 0, 1) := by decide +kernel
theorem dL_law_511 : decode cL_law 511 = .ok (.iload 4, 2) := by decide +kernel
theorem dL_law_513 : decode cL_law 513 = .ok (.iconst 1, 1) := by decide +kernel
theorem dL_law_514 : decode cL_law 514 = .ok (.iadd, 1) := by decide +kernel
theorem dL_law_515 : decode cL_law 515 = .ok (.iaload, 1) := by decide +kernel
theorem dL_law_516 : decode cL_law 516 = .ok (.aload_n 0, 1) := by decide +kernel
theorem dL_law_517 : decode cL_law 517 = .ok (.iload 4, 2) := by decide +kernel
theorem dL_law_519 : decode cL_law 519 = .ok (.iconst 2, 1) := by decide +kernel
theorem dL_law_520 : decode cL_law 520 = .ok (.iadd, 1) := by decide +kernel
theorem dL_law_521 : decode cL_law 521 = .ok (.iaload, 1) := by decide +kernel
theorem dL_law_522 : decode cL_law 522 = .ok (.invokevirtual 130, 3) := by decide +kernel
theorem dL_law_525 : decode cL_law 525 = .ok (.istore 6, 2) := by decide +kernel
theorem dL_law_527 : decode cL_law 527 = .ok (.aload_n 2, 1) := by decide +kernel
theorem dL_law_528 : decode cL_law 528 = .ok (.invokevirtual 113, 3) := by decide +kernel
theorem dL_law_531 : decode cL_law 531 = .ok (.iload 5, 2) := by decide +kernel
theorem dL_law_533 : decode cL_law 533 = .ok (.if_icmp .eq 5, 3) := by decide +kernel
theorem dL_law_536 : decode cL_law 536 = .ok (.iconst 0, 1) := by decide +kernel
theorem dL_law_537 : decode cL_law 537 = .ok (.ireturn, 1) := by decide +kernel
theorem dL_law_538 : decode cL_law 538 = .ok (.iload 5, 2) := by decide +kernel
theorem dL_law_540 : decode cL_law 540 = .ok (.ifCond .ne 15, 3) := by decide +kernel
theorem dL_law_543 : decode cL_law 543 = .ok (.aload_n 3, 1) := by decide +kernel
theorem dL_law_544 : decode cL_law 544 = .ok (.iconst 0, 1) := by decide +kernel
theorem dL_law_545 : decode cL_law 545 = .ok (.laload, 1) := by decide +kernel
theorem dL_law_546 : decode cL_law 546 = .ok (.iload 6, 2) := by decide +kernel
theorem dL_law_548 : decode cL_law 548 = .ok (.i2l, 1) := by decide +kernel
theorem dL_law_549 : decode cL_law 549 = .ok (.lcmp, 1) := by decide +kernel
theorem dL_law_550 : decode cL_law 550 = .ok (.ifCond .eq 5, 3) := by decide +kernel
theorem dL_law_553 : decode cL_law 553 = .ok (.iconst 0, 1) := by decide +kernel
theorem dL_law_554 : decode cL_law 554 = .ok (.ireturn, 1) := by decide +kernel
theorem dL_law_555 : decode cL_law 555 = .ok (.goto 1599, 3) := by decide +kernel
theorem dL_law_558 : decode cL_law 558 = .ok (.aload_n 1, 1) := by decide +kernel
theorem dL_law_559 : decode cL_law 559 = .ok (.aload_n 0, 1) := by decide +kernel
theorem dL_law_560 : decode cL_law 560 = .ok (.iload 4, 2) := by decide +kernel
theorem dL_law_562 : decode cL_law 562 = .ok (.iconst 1, 1) := by decide +kernel
theorem dL_law_563 : decode cL_law 563 = .ok (.iadd, 1) := by decide +kernel
theorem dL_law_564 : decode cL_law 564 = .ok (.iaload, 1) := by decide +kernel
theorem dL_law_565 : decode cL_law 565 = .ok (.aload_n 0, 1) := by decide +kernel
theorem dL_law_566 : decode cL_law 566 = .ok (.iload 4, 2) := by decide +kernel
theorem dL_law_568 : decode cL_law 568 = .ok (.iconst 2, 1) := by decide +kernel
theorem dL_law_569 : decode cL_law 569 = .ok (.iadd, 1) := by decide +kernel
theorem dL_law_570 : decode cL_law 570 = .ok (.iaload, 1) := by decide +kernel
theorem dL_law_571 : decode cL_law 571 = .ok (.aload_n 0, 1) := by decide +kernel
theorem dL_law_572 : decode cL_law 572 = .ok (.iload 4, 2) := by decide +kernel
theorem dL_law_574 : decode cL_law 574 = .ok (.iconst 3, 1) := by decide +kernel
theorem dL_law_575 : decode cL_law 575 = .ok (.iadd, 1) := by decide +kernel
theorem dL_law_576 : decode cL_law 576 = .ok (.iaload, 1) := by decide +kernel
theorem dL_law_577 : decode cL_law 577 = .ok (.aload_n 3, 1) := by decide +kernel
theorem dL_law_578 : decode cL_law 578 = .ok (.invokestatic 131, 3) := by decide +kernel
theorem dL_law_581 : decode cL_law 581 = .ok (.istore 5, 2) := by decide +kernel
theorem dL_law_583 : decode cL_law 583 = .ok (.aload_n 2, 1) := by decide +kernel
theorem dL_law_584 : decode cL_law 584 = .ok (.aload_n 0, 1) := by decide +kernel
theorem dL_law_585 : decode cL_law 585 = .ok (.iload 4, 2) := by decide +kernel
theorem dL_law_587 : decode cL_law 587 = .ok (.iconst 1, 1) := by decide +kernel
theorem dL_law_588 : decode cL_law 588 = .ok (.iadd, 1) := by decide +kernel
theorem dL_law_589 : decode cL_law 589 = .ok (.iaload, 1) := by decide +kernel
theorem dL_law_590 : decode cL_law 590 = .ok (.aload_n 0, 1) := by decide +kernel
theorem dL_law_591 : decode cL_law 591 = .ok (.iload 4, 2) := by decide +kernel
theorem dL_law_593 : decode cL_law 593 = .ok (.iconst 2, 1) := by decide +kernel
theorem dL_law_594 : decode cL_law 594 = .ok (.iadd, 1) := by decide +kernel
theorem dL_law_595 : decode cL_law 595 = .ok (.iaload, 1) := by decide +kernel
theorem dL_law_596 : decode cL_law 596 = .ok (.aload_n 0, 1) := by decide +kernel
theorem dL_law_597 : decode cL_law 597 = .ok (.iload 4, 2) := by decide +kernel
theorem dL_law_599 : decode cL_law 599 = .ok (.iconst 3, 1) := by decide +kernel
theorem dL_law_600 : decode cL_law 600 = .ok (.iadd, 1) := by decide +kernel
theorem dL_law_601 : decode cL_law 601 = .ok (.iaload, 1) := by decide +kernel
theorem dL_law_602 : decode cL_law 602 = .ok (.invokevirtual 133, 3) := by decide +kernel
theorem dL_law_605 : decode cL_law 605 = .ok (.istore 6, 2) := by decide +kernel
theorem dL_law_607 : decode cL_law 607 = .ok (.aload_n 2, 1) := by decide +kernel
theorem dL_law_608 : decode cL_law 608 = .ok (.invokevirtual 113, 3) := by decide +kernel
theorem dL_law_611 : decode cL_law 611 = .ok (.iload 5, 2) := by decide +kernel
theorem dL_law_613 : decode cL_law 613 = .ok (.if_icmp .eq 5, 3) := by decide +kernel
theorem dL_law_616 : decode cL_law 616 = .ok (.iconst 0, 1) := by decide +kernel
theorem dL_law_617 : decode cL_law 617 = .ok (.ireturn, 1) := by decide +kernel
theorem dL_law_618 : decode cL_law 618 = .ok (.iload 5, 2) := by decide +kernel
theorem dL_law_620 : decode cL_law 620 = .ok (.ifCond .ne 15, 3) := by decide +kernel
theorem dL_law_623 : decode cL_law 623 = .ok (.aload_n 3, 1) := by decide +kernel
theorem dL_law_624 : decode cL_law 624 = .ok (.iconst 0, 1) := by decide +kernel
theorem dL_law_625 : decode cL_law 625 = .ok (.laload, 1) := by decide +kernel
theorem dL_law_626 : decode cL_law 626 = .ok (.iload 6, 2) := by decide +kernel
theorem dL_law_628 : decode cL_law 628 = .ok (.i2l, 1) := by decide +kernel
theorem dL_law_629 : decode cL_law 629 = .ok (.lcmp, 1) := by decide +kernel
theorem dL_law_630 : decode cL_law 630 = .ok (.ifCond .eq 5, 3) := by decide +kernel
theorem dL_law_633 : decode cL_law 633 = .ok (.iconst 0, 1) := by decide +kernel
theorem dL_law_634 : decode cL_law 634 = .ok (.ireturn, 1) := by decide +kernel
theorem dL_law_635 : decode cL_law 635 = .ok (.goto 1519, 3) := by decide +kernel
theorem dL_law_638 : decode cL_law 638 = .ok (.aload_n 1, 1) := by decide +kernel
theorem dL_law_639 : decode cL_law 639 = .ok (.invokevirtual 134, 3) := by decide +kernel
theorem dL_law_642 : decode cL_law 642 = .ok (.aload_n 2, 1) := by decide +kernel
theorem dL_law_643 : decode cL_law 643 = .ok (.invokevirtual 137, 3) := by decide +kernel
theorem dL_law_646 : decode cL_law 646 = .ok (.if_icmp .eq 1508, 3) := by decide +kernel
theorem dL_law_649 : decode cL_law 649 = .ok (.iconst 0, 1) := by decide +kernel
theorem dL_law_650 : decode cL_law 650 = .ok (.ireturn, 1) := by decide +kernel
theorem dL_law_651 : decode cL_law 651 = .ok (.aload_n 1, 1) := by decide +kernel
theorem dL_law_652 : decode cL_law 652 = .ok (.aload_n 0, 1) := by decide +kernel
theorem dL_law_653 : decode cL_law 653 = .ok (.iload 4, 2) := by decide +kernel
theorem dL_law_655 : decode cL_law 655 = .ok (.iconst 1, 1) := by decide +kernel
theorem dL_law_656 : decode cL_law 656 = .ok (.iadd, 1) := by decide +kernel
theorem dL_law_657 : decode cL_law 657 = .ok (.iaload, 1) := by decide +kernel
theorem dL_law_658 : decode cL_law 658 = .ok (.aload_n 0, 1) := by decide +kernel
theorem dL_law_659 : decode cL_law 659 = .ok (.iload 4, 2) := by decide +kernel
theorem dL_law_661 : decode cL_law 661 = .ok (.iconst 2, 1) := by decide +kernel
theorem dL_law_662 : decode cL_law 662 = .ok (.iadd, 1) := by decide +kernel
theorem dL_law_663 : decode cL_law 663 = .ok (.iaload, 1) := by decide +kernel
theorem dL_law_664 : decode cL_law 664 = .ok (.aload_n 3, 1) := by decide +kernel
theorem dL_law_665 : decode cL_law 665 = .ok (.invokestatic 138, 3) := by decide +kernel
theorem dL_law_668 : decode cL_law 668 = .ok (.istore 5, 2) := by decide +kernel
theorem dL_law_670 : decode cL_law 670 = .ok (.aload_n 2, 1) := by decide +kernel
theorem dL_law_671 : decode cL_law 671 = .ok (.aload_n 0, 1) := by decide +kernel
theorem dL_law_672 : decode cL_law 672 = .ok (.iload 4, 2) := by decide +kernel
theorem dL_law_674 : decode cL_law 674 = .ok (.iconst 1, 1) := by decide +kernel
theorem dL_law_675 : decode cL_law 675 = .ok (.iadd, 1) := by decide +kernel
theorem dL_law_676 : decode cL_law 676 = .ok (.iaload, 1) := by decide +kernel
theorem dL_law_677 : decode cL_law 677 = .ok (.aload_n 0, 1) := by decide +kernel
theorem dL_law_678 : decode cL_law 678 = .ok (.iload 4, 2) := by decide +kernel
theorem dL_law_680 : decode cL_law 680 = .ok (.iconst 2, 1) := by decide +kernel
theorem dL_law_681 : decode cL_law 681 = .ok (.iadd, 1) := by decide +kernel
theorem dL_law_682 : decode cL_law 682 = .ok (.iaload, 1) := by decide +kernel
theorem dL_law_683 : decode cL_law 683 = .ok (.invokevirtual 140, 3) := by decide +kernel
theorem dL_law_686 : decode cL_law 686 = .ok (.istore 6, 2) := by decide +kernel
theorem dL_law_688 : decode cL_law 688 = .ok (.aload_n 2, 1) := by decide +kernel
theorem dL_law_689 : decode cL_law 689 = .ok (.invokevirtual 113, 3) := by decide +kernel
theorem dL_law_692 : decode cL_law 692 = .ok (.iload 5, 2) := by decide +kernel
theorem dL_law_694 : decode cL_law 694 = .ok (.if_icmp .eq 5, 3) := by decide +kernel
theorem dL_law_697 : decode cL_law 697 = .ok (.iconst 0, 1) := by decide +kernel
theorem dL_law_698 : decode cL_law 698 = .ok (.ireturn, 1) := by decide +kernel
theorem dL_law_699 : decode cL_law 699 = .ok (.iload 5, 2) := by decide +kernel
theorem dL_law_701 : decode cL_law 701 = .ok (.ifCond .ne 22, 3) := by decide +kernel
theorem dL_law_704 : decode cL_law 704 = .ok (.aload_n 3, 1) := by decide +kernel
theorem dL_law_705 : decode cL_law 705 = .ok (.iconst 0, 1) := by decide +kernel
theorem dL_law_706 : decode cL_law 706 = .ok (.laload, 1) := by decide +kernel
theorem dL_law_707 : decode cL_law 707 = .ok (.iload 6, 2) := by decide +kernel
theorem dL_law_709 : decode cL_law 709 = .ok (.ifCond .eq 7, 3) := by decide +kernel
theorem dL_law_712 : decode cL_law 712 = .ok (.lconst 1, 1) := by decide +kernel
theorem dL_law_713 : decode cL_law 713 = .ok (.goto 4, 3) := by decide +kernel
theorem dL_law_716 : decode cL_law 716 = .ok (.lconst 0, 1) := by decide +kernel
theorem dL_law_717 : decode cL_law 717 = .ok (.lcmp, 1) := by decide +kernel
theorem dL_law_718 : decode cL_law 718 = .ok (.ifCond .eq 5, 3) := by decide +kernel
theorem dL_law_721 : decode cL_law 721 = .ok (.iconst 0, 1) := by decide +kernel
theorem dL_law_722 : decode cL_law 722 = .ok (.ireturn, 1) := by decide +kernel
theorem dL_law_723 : decode cL_law 723 = .ok (.goto 1431, 3) := by decide +kernel
theorem dL_law_726 : decode cL_law 726 = .ok (.aload_n 1, 1) := by decide +kernel
theorem dL_law_727 : decode cL_law 727 = .ok (.aload_n 0, 1) := by decide +kernel
theorem dL_law_728 : decode cL_law 728 = .ok (.iload 4, 2) := by decide +kernel
theorem dL_law_730 : decode cL_law 730 = .ok (.iconst 1, 1) := by decide +kernel
theorem dL_law_731 : decode cL_law 731 = .ok (.iadd, 1) := by decide +kernel
theorem dL_law_732 : decode cL_law 732 = .ok (.iaload, 1) := by decide +kernel
theorem dL_law_733 : decode cL_law 733 = .ok (.aload_n 0, 1) := by decide +kernel
theorem dL_law_734 : decode cL_law 734 = .ok (.iload 4, 2) := by decide +kernel
theorem dL_law_736 : decode cL_law 736 = .ok (.iconst 2, 1) := by decide +kernel
theorem dL_law_737 : decode cL_law 737 = .ok (.iadd, 1) := by decide +kernel
theorem dL_law_738 : decode cL_law 738 = .ok (.iaload, 1) := by decide +kernel
theorem dL_law_739 : decode cL_law 739 = .ok (.aload_n 3, 1) := by decide +kernel
theorem dL_law_740 : decode cL_law 740 = .ok (.invokestatic 141, 3) := by decide +kernel
theorem dL_law_743 : decode cL_law 743 = .ok (.istore 5, 2) := by decide +kernel
theorem dL_law_745 : decode cL_law 745 = .ok (.aload_n 2, 1) := by decide +kernel
theorem dL_law_746 : decode cL_law 746 = .ok (.aload_n 0, 1) := by decide +kernel
theorem dL_law_747 : decode cL_law 747 = .ok (.iload 4, 2) := by decide +kernel
theorem dL_law_749 : decode cL_law 749 = .ok (.iconst 1, 1) := by decide +kernel
theorem dL_law_750 : decode cL_law 750 = .ok (.iadd, 1) := by decide +kernel
theorem dL_law_751 : decode cL_law 751 = .ok (.iaload, 1) := by decide +kernel
theorem dL_law_752 : decode cL_law 752 = .ok (.aload_n 0, 1) := by decide +kernel
theorem dL_law_753 : decode cL_law 753 = .ok (.iload 4, 2) := by decide +kernel
theorem dL_law_755 : decode cL_law 755 = .ok (.iconst 2, 1) := by decide +kernel
theorem dL_law_756 : decode cL_law 756 = .ok (.iadd, 1) := by decide +kernel
theorem dL_law_757 : decode cL_law 757 = .ok (.iaload, 1) := by decide +kernel
theorem dL_law_758 : decode cL_law 758 = .ok (.invokevirtual 143, 3) := by decide +kernel
theorem dL_law_761 : decode cL_law 761 = .ok (.istore 6, 2) := by decide +kernel
theorem dL_law_763 : decode cL_law 763 = .ok (.aload_n 2, 1) := by decide +kernel
theorem dL_law_764 : decode cL_law 764 = .ok (.invokevirtual 113, 3) := by decide +kernel
theorem dL_law_767 : decode cL_law 767 = .ok (.iload 5, 2) := by decide +kernel
theorem dL_law_769 : decode cL_law 769 = .ok (.if_icmp .eq 5, 3) := by decide +kernel
theorem dL_law_772 : decode cL_law 772 = .ok (.iconst 0, 1) := by decide +kernel
theorem dL_law_773 : decode cL_law 773 = .ok (.ireturn, 1) := by decide +kernel
theorem dL_law_774 : decode cL_law 774 = .ok (.iload 5, 2) := by decide +kernel
theorem dL_law_776 : decode cL_law 776 = .ok (.ifCond .ne 15, 3) := by decide +kernel
theorem dL_law_779 : decode cL_law 779 = .ok (.aload_n 3, 1) := by decide +kernel
theorem dL_law_780 : decode cL_law 780 = .ok (.iconst 0, 1) := by decide +kernel
theorem dL_law_781 : decode cL_law 781 = .ok (.laload, 1) := by decide +kernel
theorem dL_law_782 : decode cL_law 782 = .ok (.iload 6, 2) := by decide +kernel
theorem dL_law_784 : decode cL_law 784 = .ok (.i2l, 1) := by decide +kernel
theorem dL_law_785 : decode cL_law 785 = .ok (.lcmp, 1) := by decide +kernel
theorem dL_law_786 : decode cL_law 786 = .ok (.ifCond .eq 5, 3) := by decide +kernel
theorem dL_law_789 : decode cL_law 789 = .ok (.iconst 0, 1) := by decide +kernel
theorem dL_law_790 : decode cL_law 790 = .ok (.ireturn, 1) := by decide +kernel
theorem dL_law_791 : decode cL_law 791 = .ok (.goto 1363, 3) := by decide +kernel
theorem dL_law_794 : decode cL_law 794 = .ok (.aload_n 1, 1) := by decide +kernel
theorem dL_law_795 : decode cL_law 795 = .ok (.invokevirtual 144, 3) := by decide +kernel
theorem dL_law_798 : decode cL_law 798 = .ok (.aload_n 2, 1) := by decide +kernel
theorem dL_law_799 : decode cL_law 799 = .ok (.invokevirtual 147, 3) := by decide +kernel
theorem dL_law_802 : decode cL_law 802 = .ok (.if_icmp .eq 1352, 3) := by decide +kernel
theorem dL_law_805 : decode cL_law 805 = .ok (.iconst 0, 1) := by decide +kernel
theorem dL_law_806 : decode cL_law 806 = .ok (.ireturn, 1) := by decide +kernel
theorem dL_law_807 : decode cL_law 807 = .ok (.aload_n 1, 1) := by decide +kernel
theorem dL_law_808 : decode cL_law 808 = .ok (.aload_n 0, 1) := by decide +kernel
theorem dL_law_809 : decode cL_law 809 = .ok (.iload 4, 2) := by decide +kernel
theorem dL_law_811 : decode cL_law 811 = .ok (.iconst 1, 1) := by decide +kernel
theorem dL_law_812 : decode cL_law 812 = .ok (.iadd, 1) := by decide +kernel
theorem dL_law_813 : decode cL_law 813 = .ok (.iaload, 1) := by decide +kernel
theorem dL_law_814 : decode cL_law 814 = .ok (.aload_n 3, 1) := by decide +kernel
theorem dL_law_815 : decode cL_law 815 = .ok (.invokestatic 148, 3) := by decide +kernel
theorem dL_law_818 : decode cL_law 818 = .ok (.istore 5, 2) := by decide +kernel
theorem dL_law_820 : decode cL_law 820 = .ok (.aload_n 2, 1) := by decide +kernel
theorem dL_law_821 : decode cL_law 821 = .ok (.aload_n 0, 1) := by decide +kernel
theorem dL_law_822 : decode cL_law 822 = .ok (.iload 4, 2) := by decide +kernel
theorem dL_law_824 : decode cL_law 824 = .ok (.iconst 1, 1) := by decide +kernel
theorem dL_law_825 : decode cL_law 825 = .ok (.iadd, 1) := by decide +kernel
theorem dL_law_826 : decode cL_law 826 = .ok (.iaload, 1) := by decide +kernel
theorem dL_law_827 : decode cL_law 827 = .ok (.invokevirtual 151, 3) := by decide +kernel
theorem dL_law_830 : decode cL_law 830 = .ok (.istore 6, 2) := by decide +kernel
theorem dL_law_832 : decode cL_law 832 = .ok (.aload_n 2, 1) := by decide +kernel
theorem dL_law_833 : decode cL_law 833 = .ok (.invokevirtual 113, 3) := by decide +kernel
theorem dL_law_836 : decode cL_law 836 = .ok (.iload 5, 2) := by decide +kernel
theorem dL_law_838 : decode cL_law 838 = .ok (.if_icmp .eq 5, 3) := by decide +kernel
theorem dL_law_841 : decode cL_law 841 = .ok (.iconst 0, 1) := by decide +kernel
theorem dL_law_842 : decode cL_law 842 = .ok (.ireturn, 1) := by decide +kernel
theorem dL_law_843 : decode cL_law 843 = .ok (.iload 5, 2) := by decide +kernel
theorem dL_law_845 : decode cL_law 845 = .ok (.ifCond .ne 15, 3) := by decide +kernel
theorem dL_law_848 : decode cL_law 848 = .ok (.aload_n 3, 1) := by decide +kernel
theorem dL_law_849 : decode cL_law 849 = .ok (.iconst 0, 1) := by decide +kernel
theorem dL_law_850 : decode cL_law 850 = .ok (.laload, 1) := by decide +kernel
theorem dL_law_851 : decode cL_law 851 = .ok (.iload 6, 2) := by decide +kernel
theorem dL_law_853 : decode cL_law 853 = .ok (.i2l, 1) := by decide +kernel
theorem dL_law_854 : decode cL_law 854 = .ok (.lcmp, 1) := by decide +kernel
theorem dL_law_855 : decode cL_law 855 = .ok (.ifCond .eq 5, 3) := by decide +kernel
theorem dL_law_858 : decode cL_law 858 = .ok (.iconst 0, 1) := by decide +kernel
theorem dL_law_859 : decode cL_law 859 = .ok (.ireturn, 1) := by decide +kernel
theorem dL_law_860 : decode cL_law 860 = .ok (.goto 1294, 3) := by decide +kernel
theorem dL_law_863 : decode cL_law 863 = .ok (.aload_n 1, 1) := by decide +kernel
theorem dL_law_864 : decode cL_law 864 = .ok (.aload_n 0, 1) := by decide +kernel
theorem dL_law_865 : decode cL_law 865 = .ok (.iload 4, 2) := by decide +kernel
theorem dL_law_867 : decode cL_law 867 = .ok (.iconst 1, 1) := by decide +kernel
theorem dL_law_868 : decode cL_law 868 = .ok (.iadd, 1) := by decide +kernel
theorem dL_law_869 : decode cL_law 869 = .ok (.iaload, 1) := by decide +kernel
theorem dL_law_870 : decode cL_law 870 = .ok (.aload_n 0, 1) := by decide +kernel
theorem dL_law_871 : decode cL_law 871 = .ok (.iload 4, 2) := by decide +kernel
theorem dL_law_873 : decode cL_law 873 = .ok (.iconst 2, 1) := by decide +kernel
theorem dL_law_874 : decode cL_law 874 = .ok (.iadd, 1) := by decide +kernel
theorem dL_law_875 : decode cL_law 875 = .ok (.iaload, 1) := by decide +kernel
theorem dL_law_876 : decode cL_law 876 = .ok (.aload_n 3, 1) := by decide +kernel
theorem dL_law_877 : decode cL_law 877 = .ok (.invokestatic 152, 3) := by decide +kernel
theorem dL_law_880 : decode cL_law 880 = .ok (.istore 5, 2) := by decide +kernel
theorem dL_law_882 : decode cL_law 882 = .ok (.aload_n 2, 1) := by decide +kernel
theorem dL_law_883 : decode cL_law 883 = .ok (.aload_n 0, 1) := by decide +kernel
theorem dL_law_884 : decode cL_law 884 = .ok (.iload 4, 2) := by decide +kernel
theorem dL_law_886 : decode cL_law 886 = .ok (.iconst 1, 1) := by decide +kernel
theorem dL_law_887 : decode cL_law 887 = .ok (.iadd, 1) := by decide +kernel
theorem dL_law_888 : decode cL_law 888 = .ok (.iaload, 1) := by decide +kernel
theorem dL_law_889 : decode cL_law 889 = .ok (.aload_n 0, 1) := by decide +kernel
theorem dL_law_890 : decode cL_law 890 = .ok (.iload 4, 2) := by decide +kernel
theorem dL_law_892 : decode cL_law 892 = .ok (.iconst 2, 1) := by decide +kernel
theorem dL_law_893 : decode cL_law 893 = .ok (.iadd, 1) := by decide +kernel
theorem dL_law_894 : decode cL_law 894 = .ok (.iaload, 1) := by decide +kernel
theorem dL_law_895 : decode cL_law 895 = .ok (.invokevirtual 154, 3) := by decide +kernel
theorem dL_law_898 : decode cL_law 898 = .ok (.istore 6, 2) := by decide +kernel
theorem dL_law_900 : decode cL_law 900 = .ok (.aload_n 2, 1) := by decide +kernel
theorem dL_law_901 : decode cL_law 901 = .ok (.invokevirtual 113, 3) := by decide +kernel
theorem dL_law_904 : decode cL_law 904 = .ok (.iload 5, 2) := by decide +kernel
theorem dL_law_906 : decode cL_law 906 = .ok (.if_icmp .eq 5, 3) := by decide +kernel
theorem dL_law_909 : decode cL_law 909 = .ok (.iconst 0, 1) := by decide +kernel
theorem dL_law_910 : decode cL_law 910 = .ok (.ireturn, 1) := by decide +kernel
theorem dL_law_911 : decode cL_law 911 = .ok (.iload 5, 2) := by decide +kernel
theorem dL_law_913 : decode cL_law 913 = .ok (.ifCond .ne 15, 3) := by decide +kernel
theorem dL_law_916 : decode cL_law 916 = .ok (.aload_n 3, 1) := by decide +kernel
theorem dL_law_917 : decode cL_law 917 = .ok (.iconst 0, 1) := by decide +kernel
theorem dL_law_918 : decode cL_law 918 = .ok (.laload, 1) := by decide +kernel
theorem dL_law_919 : decode cL_law 919 = .ok (.iload 6, 2) := by decide +kernel
theorem dL_law_921 : decode cL_law 921 = .ok (.i2l, 1) := by decide +kernel
theorem dL_law_922 : decode cL_law 922 = .ok (.lcmp, 1) := by decide +kernel
theorem dL_law_923 : decode cL_law 923 = .ok (.ifCond .eq 5, 3) := by decide +kernel
theorem dL_law_926 : decode cL_law 926 = .ok (.iconst 0, 1) := by decide +kernel
theorem dL_law_927 : decode cL_law 927 = .ok (.ireturn, 1) := by decide +kernel
theorem dL_law_928 : decode cL_law 928 = .ok (.goto 1226, 3) := by decide +kernel
theorem dL_law_931 : decode cL_law 931 = .ok (.aload_n 1, 1) := by decide +kernel
theorem dL_law_932 : decode cL_law 932 = .ok (.aload_n 0, 1) := by decide +kernel
theorem dL_law_933 : decode cL_law 933 = .ok (.iload 4, 2) := by decide +kernel
theorem dL_law_935 : decode cL_law 935 = .ok (.iconst 1, 1) := by decide +kernel
theorem dL_law_936 : decode cL_law 936 = .ok (.iadd, 1) := by decide +kernel
theorem dL_law_937 : decode cL_law 937 = .ok (.iaload, 1) := by decide +kernel
theorem dL_law_938 : decode cL_law 938 = .ok (.aload_n 0, 1) := by decide +kernel
theorem dL_law_939 : decode cL_law 939 = .ok (.iload 4, 2) := by decide +kernel
theorem dL_law_941 : decode cL_law 941 = .ok (.iconst 2, 1) := by decide +kernel
theorem dL_law_942 : decode cL_law 942 = .ok (.iadd, 1) := by decide +kernel
theorem dL_law_943 : decode cL_law 943 = .ok (.iaload, 1) := by decide +kernel
theorem dL_law_944 : decode cL_law 944 = .ok (.aload_n 3, 1) := by decide +kernel
theorem dL_law_945 : decode cL_law 945 = .ok (.invokestatic 155, 3) := by decide +kernel
theorem dL_law_948 : decode cL_law 948 = .ok (.istore 5, 2) := by decide +kernel
theorem dL_law_950 : decode cL_law 950 = .ok (.aload_n 2, 1) := by decide +kernel
theorem dL_law_951 : decode cL_law 951 = .ok (.aload_n 0, 1) := by decide +kernel
theorem dL_law_952 : decode cL_law 952 = .ok (.iload 4, 2) := by decide +kernel
theorem dL_law_954 : decode cL_law 954 = .ok (.iconst 1, 1) := by decide +kernel
theorem dL_law_955 : decode cL_law 955 = .ok (.iadd, 1) := by decide +kernel
theorem dL_law_956 : decode cL_law 956 = .ok (.iaload, 1) := by decide +kernel
theorem dL_law_957 : decode cL_law 957 = .ok (.aload_n 0, 1) := by decide +kernel
theorem dL_law_958 : decode cL_law 958 = .ok (.iload 4, 2) := by decide +kernel
theorem dL_law_960 : decode cL_law 960 = .ok (.iconst 2, 1) := by decide +kernel
theorem dL_law_961 : decode cL_law 961 = .ok (.iadd, 1) := by decide +kernel
theorem dL_law_962 : decode cL_law 962 = .ok (.iaload, 1) := by decide +kernel
theorem dL_law_963 : decode cL_law 963 = .ok (.invokevirtual 157, 3) := by decide +kernel
theorem dL_law_966 : decode cL_law 966 = .ok (.istore 6, 2) := by decide +kernel
theorem dL_law_968 : decode cL_law 968 = .ok (.aload_n 2, 1) := by decide +kernel
theorem dL_law_969 : decode cL_law 969 = .ok (.invokevirtual 113, 3) := by decide +kernel
theorem dL_law_972 : decode cL_law 972 = .ok (.iload 5, 2) := by decide +kernel
theorem dL_law_974 : decode cL_law 974 = .ok (.if_icmp .eq 5, 3) := by decide +kernel
theorem dL_law_977 : decode cL_law 977 = .ok (.iconst 0, 1) := by decide +kernel
theorem dL_law_978 : decode cL_law 978 = .ok (.ireturn, 1) := by decide +kernel
theorem dL_law_979 : decode cL_law 979 = .ok (.iload 5, 2) := by decide +kernel
theorem dL_law_981 : decode cL_law 981 = .ok (.ifCond .ne 15, 3) := by decide +kernel
theorem dL_law_984 : decode cL_law 984 = .ok (.aload_n 3, 1) := by decide +kernel
theorem dL_law_985 : decode cL_law 985 = .ok (.iconst 0, 1) := by decide +kernel
theorem dL_law_986 : decode cL_law 986 = .ok (.laload, 1) := by decide +kernel
theorem dL_law_987 : decode cL_law 987 = .ok (.iload 6, 2) := by decide +kernel
theorem dL_law_989 : decode cL_law 989 = .ok (.i2l, 1) := by decide +kernel
theorem dL_law_990 : decode cL_law 990 = .ok (.lcmp, 1) := by decide +kernel
theorem dL_law_991 : decode cL_law 991 = .ok (.ifCond .eq 5, 3) := by decide +kernel
theorem dL_law_994 : decode cL_law 994 = .ok (.iconst 0, 1) := by decide +kernel
theorem dL_law_995 : decode cL_law 995 = .ok (.ireturn, 1) := by decide +kernel
theorem dL_law_996 : decode cL_law 996 = .ok (.goto 1158, 3) := by decide +kernel
theorem dL_law_999 : decode cL_law 999 = .ok (.aload_n 1, 1) := by decide +kernel
theorem dL_law_1000 : decode cL_law 1000 = .ok (.aload_n 0, 1) := by decide +kernel
theorem dL_law_1001 : decode cL_law 1001 = .ok (.iload 4, 2) := by decide +kernel
theorem dL_law_1003 : decode cL_law 1003 = .ok (.iconst 1, 1) := by decide +kernel
theorem dL_law_1004 : decode cL_law 1004 = .ok (.iadd, 1) := by decide +kernel
theorem dL_law_1005 : decode cL_law 1005 = .ok (.iaload, 1) := by decide +kernel
theorem dL_law_1006 : decode cL_law 1006 = .ok (.aload_n 0, 1) := by decide +kernel
theorem dL_law_1007 : decode cL_law 1007 = .ok (.iload 4, 2) := by decide +kernel
theorem dL_law_1009 : decode cL_law 1009 = .ok (.iconst 2, 1) := by decide +kernel
theorem dL_law_1010 : decode cL_law 1010 = .ok (.iadd, 1) := by decide +kernel
theorem dL_law_1011 : decode cL_law 1011 = .ok (.iaload, 1) := by decide +kernel
theorem dL_law_1012 : decode cL_law 1012 = .ok (.aload_n 3, 1) := by decide +kernel
theorem dL_law_1013 : decode cL_law 1013 = .ok (.invokestatic 158, 3) := by decide +kernel
theorem dL_law_1016 : decode cL_law 1016 = .ok (.istore 5, 2) := by decide +kernel
theorem dL_law_1018 : decode cL_law 1018 = .ok (.aload_n 2, 1) := by decide +kernel
theorem dL_law_1019 : decode cL_law 1019 = .ok (.aload_n 0, 1) := by decide +kernel
theorem dL_law_1020 : decode cL_law 1020 = .ok (.iload 4, 2) := by decide +kernel
theorem dL_law_1022 : decode cL_law 1022 = .ok (.iconst 1, 1) := by decide +kernel
theorem dL_law_1023 : decode cL_law 1023 = .ok (.iadd, 1) := by decide +kernel
theorem dL_law_1024 : decode cL_law 1024 = .ok (.iaload, 1) := by decide +kernel
theorem dL_law_1025 : decode cL_law 1025 = .ok (.aload_n 0, 1) := by decide +kernel
theorem dL_law_1026 : decode cL_law 1026 = .ok (.iload 4, 2) := by decide +kernel
theorem dL_law_1028 : decode cL_law 1028 = .ok (.iconst 2, 1) := by decide +kernel
theorem dL_law_1029 : decode cL_law 1029 = .ok (.iadd, 1) := by decide +kernel
theorem dL_law_1030 : decode cL_law 1030 = .ok (.iaload, 1) := by decide +kernel
theorem dL_law_1031 : decode cL_law 1031 = .ok (.invokevirtual 160, 3) := by decide +kernel
theorem dL_law_1034 : decode cL_law 1034 = .ok (.istore 6, 2) := by decide +kernel
theorem dL_law_1036 : decode cL_law 1036 = .ok (.aload_n 2, 1) := by decide +kernel
theorem dL_law_1037 : decode cL_law 1037 = .ok (.invokevirtual 113, 3) := by decide +kernel
theorem dL_law_1040 : decode cL_law 1040 = .ok (.iload 5, 2) := by decide +kernel
theorem dL_law_1042 : decode cL_law 1042 = .ok (.if_icmp .eq 5, 3) := by decide +kernel
theorem dL_law_1045 : decode cL_law 1045 = .ok (.iconst 0, 1) := by decide +kernel
theorem dL_law_1046 : decode cL_law 1046 = .ok (.ireturn, 1) := by decide +kernel
theorem dL_law_1047 : decode cL_law 1047 = .ok (.iload 5, 2) := by decide +kernel
theorem dL_law_1049 : decode cL_law 1049 = .ok (.ifCond .ne 15, 3) := by decide +kernel
theorem dL_law_1052 : decode cL_law 1052 = .ok (.aload_n 3, 1) := by decide +kernel
theorem dL_law_1053 : decode cL_law 1053 = .ok (.iconst 0, 1) := by decide +kernel
theorem dL_law_1054 : decode cL_law 1054 = .ok (.laload, 1) := by decide +kernel
theorem dL_law_1055 : decode cL_law 1055 = .ok (.iload 6, 2) := by decide +kernel
theorem dL_law_1057 : decode cL_law 1057 = .ok (.i2l, 1) := by decide +kernel
theorem dL_law_1058 : decode cL_law 1058 = .ok (.lcmp, 1) := by decide +kernel
theorem dL_law_1059 : decode cL_law 1059 = .ok (.ifCond .eq 5, 3) := by decide +kernel
theorem dL_law_1062 : decode cL_law 1062 = .ok (.iconst 0, 1) := by decide +kernel
theorem dL_law_1063 : decode cL_law 1063 = .ok (.ireturn, 1) := by decide +kernel
theorem dL_law_1064 : decode cL_law 1064 = .ok (.goto 1090, 3) := by decide +kernel
theorem dL_law_1067 : decode cL_law 1067 = .ok (.aload_n 1, 1) := by decide +kernel
theorem dL_law_1068 : decode cL_law 1068 = .ok (.aload_n 0, 1) := by decide +kernel
theorem dL_law_1069 : decode cL_law 1069 = .ok (.iload 4, 2) := by decide +kernel
theorem dL_law_1071 : decode cL_law 1071 = .ok (.iconst 1, 1) := by decide +kernel
theorem dL_law_1072 : decode cL_law 1072 = .ok (.iadd, 1) := by decide +kernel
theorem dL_law_1073 : decode cL_law 1073 = .ok (.iaload, 1) := by decide +kernel
theorem dL_law_1074 : decode cL_law 1074 = .ok (.aload_n 0, 1) := by decide +kernel
theorem dL_law_1075 : decode cL_law 1075 = .ok (.iload 4, 2) := by decide +kernel
theorem dL_law_1077 : decode cL_law 1077 = .ok (.iconst 2, 1) := by decide +kernel
theorem dL_law_1078 : decode cL_law 1078 = .ok (.iadd, 1) := by decide +kernel
theorem dL_law_1079 : decode cL_law 1079 = .ok (.iaload, 1) := by decide +kernel
theorem dL_law_1080 : decode cL_law 1080 = .ok (.aload_n 3, 1) := by decide +kernel
theorem dL_law_1081 : decode cL_law 1081 = .ok (.invokestatic 161, 3) := by decide +kernel
theorem dL_law_1084 : decode cL_law 1084 = .ok (.istore 5, 2) := by decide +kernel
theorem dL_law_1086 : decode cL_law 1086 = .ok (.aload_n 2, 1) := by decide +kernel
theorem dL_law_1087 : decode cL_law 1087 = .ok (.aload_n 0, 1) := by decide +kernel
theorem dL_law_1088 : decode cL_law 1088 = .ok (.iload 4, 2) := by decide +kernel
theorem dL_law_1090 : decode cL_law 1090 = .ok (.iconst 1, 1) := by decide +kernel
theorem dL_law_1091 : decode cL_law 1091 = .ok (.iadd, 1) := by decide +kernel
theorem dL_law_1092 : decode cL_law 1092 = .ok (.iaload, 1) := by decide +kernel
theorem dL_law_1093 : decode cL_law 1093 = .ok (.aload_n 0, 1) := by decide +kernel
theorem dL_law_1094 : decode cL_law 1094 = .ok (.iload 4, 2) := by decide +kernel
theorem dL_law_1096 : decode cL_law 1096 = .ok (.iconst 2, 1) := by decide +kernel
theorem dL_law_1097 : decode cL_law 1097 = .ok (.iadd, 1) := by decide +kernel
theorem dL_law_1098 : decode cL_law 1098 = .ok (.iaload, 1) := by decide +kernel
theorem dL_law_1099 : decode cL_law 1099 = .ok (.invokevirtual 163, 3) := by decide +kernel
theorem dL_law_1102 : decode cL_law 1102 = .ok (.istore 6, 2) := by decide +kernel
theorem dL_law_1104 : decode cL_law 1104 = .ok (.aload_n 2, 1) := by decide +kernel
theorem dL_law_1105 : decode cL_law 1105 = .ok (.invokevirtual 113, 3) := by decide +kernel
theorem dL_law_1108 : decode cL_law 1108 = .ok (.iload 5, 2) := by decide +kernel
theorem dL_law_1110 : decode cL_law 1110 = .ok (.if_icmp .eq 5, 3) := by decide +kernel
theorem dL_law_1113 : decode cL_law 1113 = .ok (.iconst 0, 1) := by decide +kernel
theorem dL_law_1114 : decode cL_law 1114 = .ok (.ireturn, 1) := by decide +kernel
theorem dL_law_1115 : decode cL_law 1115 = .ok (.iload 5, 2) := by decide +kernel
theorem dL_law_1117 : decode cL_law 1117 = .ok (.ifCond .ne 15, 3) := by decide +kernel
theorem dL_law_1120 : decode cL_law 1120 = .ok (.aload_n 3, 1) := by decide +kernel
theorem dL_law_1121 : decode cL_law 1121 = .ok (.iconst 0, 1) := by decide +kernel
theorem dL_law_1122 : decode cL_law 1122 = .ok (.laload, 1) := by decide +kernel
theorem dL_law_1123 : decode cL_law 1123 = .ok (.iload 6, 2) := by decide +kernel
theorem dL_law_1125 : decode cL_law 1125 = .ok (.i2l, 1) := by decide +kernel
theorem dL_law_1126 : decode cL_law 1126 = .ok (.lcmp, 1) := by decide +kernel
theorem dL_law_1127 : decode cL_law 1127 = .ok (.ifCond .eq 5, 3) := by decide +kernel
theorem dL_law_1130 : decode cL_law 1130 = .ok (.iconst 0, 1) := by decide +kernel
theorem dL_law_1131 : decode cL_law 1131 = .ok (.ireturn, 1) := by decide +kernel
theorem dL_law_1132 : decode cL_law 1132 = .ok (.goto 1022, 3) := by decide +kernel
theorem dL_law_1135 : decode cL_law 1135 = .ok (.aload_n 1, 1) := by decide +kernel
theorem dL_law_1136 : decode cL_law 1136 = .ok (.aload_n 0, 1) := by decide +kernel
theorem dL_law_1137 : decode cL_law 1137 = .ok (.iload 4, 2) := by decide +kernel
theorem dL_law_1139 : decode cL_law 1139 = .ok (.iconst 1, 1) := by decide +kernel
theorem dL_law_1140 : decode cL_law 1140 = .ok (.iadd, 1) := by decide +kernel
theorem dL_law_1141 : decode cL_law 1141 = .ok (.iaload, 1) := by decide +kernel
theorem dL_law_1142 : decode cL_law 1142 = .ok (.aload_n 0, 1) := by decide +kernel
theorem dL_law_1143 : decode cL_law 1143 = .ok (.iload 4, 2) := by decide +kernel
theorem dL_law_1145 : decode cL_law 1145 = .ok (.iconst 2, 1) := by decide +kernel
theorem dL_law_1146 : decode cL_law 1146 = .ok (.iadd, 1) := by decide +kernel
theorem dL_law_1147 : decode cL_law 1147 = .ok (.iaload, 1) := by decide +kernel
theorem dL_law_1148 : decode cL_law 1148 = .ok (.aload_n 3, 1) := by decide +kernel
theorem dL_law_1149 : decode cL_law 1149 = .ok (.invokestatic 164, 3) := by decide +kernel
theorem dL_law_1152 : decode cL_law 1152 = .ok (.istore 5, 2) := by decide +kernel
theorem dL_law_1154 : decode cL_law 1154 = .ok (.aload_n 2, 1) := by decide +kernel
theorem dL_law_1155 : decode cL_law 1155 = .ok (.aload_n 0, 1) := by decide +kernel
theorem dL_law_1156 : decode cL_law 1156 = .ok (.iload 4, 2) := by decide +kernel
theorem dL_law_1158 : decode cL_law 1158 = .ok (.iconst 1, 1) := by decide +kernel
theorem dL_law_1159 : decode cL_law 1159 = .ok (.iadd, 1) := by decide +kernel
theorem dL_law_1160 : decode cL_law 1160 = .ok (.iaload, 1) := by decide +kernel
theorem dL_law_1161 : decode cL_law 1161 = .ok (.aload_n 0, 1) := by decide +kernel
theorem dL_law_1162 : decode cL_law 1162 = .ok (.iload 4, 2) := by decide +kernel
theorem dL_law_1164 : decode cL_law 1164 = .ok (.iconst 2, 1) := by decide +kernel
theorem dL_law_1165 : decode cL_law 1165 = .ok (.iadd, 1) := by decide +kernel
theorem dL_law_1166 : decode cL_law 1166 = .ok (.iaload, 1) := by decide +kernel
theorem dL_law_1167 : decode cL_law 1167 = .ok (.invokevirtual 166, 3) := by decide +kernel
theorem dL_law_1170 : decode cL_law 1170 = .ok (.istore 6, 2) := by decide +kernel
theorem dL_law_1172 : decode cL_law 1172 = .ok (.aload_n 2, 1) := by decide +kernel
theorem dL_law_1173 : decode cL_law 1173 = .ok (.invokevirtual 113, 3) := by decide +kernel
theorem dL_law_1176 : decode cL_law 1176 = .ok (.iload 5, 2) := by decide +kernel
theorem dL_law_1178 : decode cL_law 1178 = .ok (.if_icmp .eq 5, 3) := by decide +kernel
theorem dL_law_1181 : decode cL_law 1181 = .ok (.iconst 0, 1) := by decide +kernel
theorem dL_law_1182 : decode cL_law 1182 = .ok (.ireturn, 1) := by decide +kernel
theorem dL_law_1183 : decode cL_law 1183 = .ok (.iload 5, 2) := by decide +kernel
theorem dL_law_1185 : decode cL_law 1185 = .ok (.ifCond .ne 15, 3) := by decide +kernel
theorem dL_law_1188 : decode cL_law 1188 = .ok (.aload_n 3, 1) := by decide +kernel
theorem dL_law_1189 : decode cL_law 1189 = .ok (.iconst 0, 1) := by decide +kernel
theorem dL_law_1190 : decode cL_law 1190 = .ok (.laload, 1) := by decide +kernel
theorem dL_law_1191 : decode cL_law 1191 = .ok (.iload 6, 2) := by decide +kernel
theorem dL_law_1193 : decode cL_law 1193 = .ok (.i2l, 1) := by decide +kernel
theorem dL_law_1194 : decode cL_law 1194 = .ok (.lcmp, 1) := by decide +kernel
theorem dL_law_1195 : decode cL_law 1195 = .ok (.ifCond .eq 5, 3) := by decide +kernel
theorem dL_law_1198 : decode cL_law 1198 = .ok (.iconst 0, 1) := by decide +kernel
theorem dL_law_1199 : decode cL_law 1199 = .ok (.ireturn, 1) := by decide +kernel
theorem dL_law_1200 : decode cL_law 1200 = .ok (.goto 954, 3) := by decide +kernel
theorem dL_law_1203 : decode cL_law 1203 = .ok (.aload_n 1, 1) := by decide +kernel
theorem dL_law_1204 : decode cL_law 1204 = .ok (.aload_n 0, 1) := by decide +kernel
theorem dL_law_1205 : decode cL_law 1205 = .ok (.iload 4, 2) := by decide +kernel
theorem dL_law_1207 : decode cL_law 1207 = .ok (.iconst 1, 1) := by decide +kernel
theorem dL_law_1208 : decode cL_law 1208 = .ok (.iadd, 1) := by decide +kernel
theorem dL_law_1209 : decode cL_law 1209 = .ok (.iaload, 1) := by decide +kernel
theorem dL_law_1210 : decode cL_law 1210 = .ok (.aload_n 0, 1) := by decide +kernel
theorem dL_law_1211 : decode cL_law 1211 = .ok (.iload 4, 2) := by decide +kernel
theorem dL_law_1213 : decode cL_law 1213 = .ok (.iconst 2, 1) := by decide +kernel
theorem dL_law_1214 : decode cL_law 1214 = .ok (.iadd, 1) := by decide +kernel
theorem dL_law_1215 : decode cL_law 1215 = .ok (.iaload, 1) := by decide +kernel
theorem dL_law_1216 : decode cL_law 1216 = .ok (.aload_n 0, 1) := by decide +kernel
theorem dL_law_1217 : decode cL_law 1217 = .ok (.iload 4, 2) := by decide +kernel
theorem dL_law_1219 : decode cL_law 1219 = .ok (.iconst 3, 1) := by decide +kernel
theorem dL_law_1220 : decode cL_law 1220 = .ok (.iadd, 1) := by decide +kernel
theorem dL_law_1221 : decode cL_law 1221 = .ok (.iaload, 1) := by decide +kernel
theorem dL_law_1222 : decode cL_law 1222 = .ok (.aload_n 3, 1) := by decide +kernel
theorem dL_law_1223 : decode cL_law 1223 = .ok (.invokestatic 167, 3) := by decide +kernel
theorem dL_law_1226 : decode cL_law 1226 = .ok (.istore 5, 2) := by decide +kernel
theorem dL_law_1228 : decode cL_law 1228 = .ok (.aload_n 2, 1) := by decide +kernel
theorem dL_law_1229 : decode cL_law 1229 = .ok (.aload_n 0, 1) := by decide +kernel
theorem dL_law_1230 : decode cL_law 1230 = .ok (.iload 4, 2) := by decide +kernel
theorem dL_law_1232 : decode cL_law 1232 = .ok (.iconst 1, 1) := by decide +kernel
theorem dL_law_1233 : decode cL_law 1233 = .ok (.iadd, 1) := by decide +kernel
theorem dL_law_1234 : decode cL_law 1234 = .ok (.iaload, 1) := by decide +kernel
theorem dL_law_1235 : decode cL_law 1235 = .ok (.aload_n 0, 1) := by decide +kernel
theorem dL_law_1236 : decode cL_law 1236 = .ok (.iload 4, 2) := by decide +kernel
theorem dL_law_1238 : decode cL_law 1238 = .ok (.iconst 2, 1) := by decide +kernel
theorem dL_law_1239 : decode cL_law 1239 = .ok (.iadd, 1) := by decide +kernel
theorem dL_law_1240 : decode cL_law 1240 = .ok (.iaload, 1) := by decide +kernel
theorem dL_law_1241 : decode cL_law 1241 = .ok (.aload_n 0, 1) := by decide +kernel
theorem dL_law_1242 : decode cL_law 1242 = .ok (.iload 4, 2) := by decide +kernel
theorem dL_law_1244 : decode cL_law 1244 = .ok (.iconst 3, 1) := by decide +kernel
theorem dL_law_1245 : decode cL_law 1245 = .ok (.iadd, 1) := by decide +kernel
theorem dL_law_1246 : decode cL_law 1246 = .ok (.iaload, 1) := by decide +kernel
theorem dL_law_1247 : decode cL_law 1247 = .ok (.invokevirtual 169, 3) := by decide +kernel
theorem dL_law_1250 : decode cL_law 1250 = .ok (.istore 6, 2) := by decide +kernel
theorem dL_law_1252 : decode cL_law 1252 = .ok (.aload_n 2, 1) := by decide +kernel
theorem dL_law_1253 : decode cL_law 1253 = .ok (.invokevirtual 113, 3) := by decide +kernel
theorem dL_law_1256 : decode cL_law 1256 = .ok (.iload 5, 2) := by decide +kernel
theorem dL_law_1258 : decode cL_law 1258 = .ok (.if_icmp .eq 5, 3) := by decide +kernel
theorem dL_law_1261 : decode cL_law 1261 = .ok (.iconst 0, 1) := by decide +kernel
theorem dL_law_1262 : decode cL_law 1262 = .ok (.ireturn, 1) := by decide +kernel
theorem dL_law_1263 : decode cL_law 1263 = .ok (.iload 5, 2) := by decide +kernel
theorem dL_law_1265 : decode cL_law 1265 = .ok (.ifCond .ne 15, 3) := by decide +kernel
theorem dL_law_1268 : decode cL_law 1268 = .ok (.aload_n 3, 1) := by decide +kernel
theorem dL_law_1269 : decode cL_law 1269 = .ok (.iconst 0, 1) := by decide +kernel
theorem dL_law_1270 : decode cL_law 1270 = .ok (.laload, 1) := by decide +kernel
theorem dL_law_1271 : decode cL_law 1271 = .ok (.iload 6, 2) := by decide +kernel
theorem dL_law_1273 : decode cL_law 1273 = .ok (.i2l, 1) := by decide +kernel
theorem dL_law_1274 : decode cL_law 1274 = .ok (.lcmp, 1) := by decide +kernel
theorem dL_law_1275 : decode cL_law 1275 = .ok (.ifCond .eq 5, 3) := by decide +kernel
theorem dL_law_1278 : decode cL_law 1278 = .ok (.iconst 0, 1) := by decide +kernel
theorem dL_law_1279 : decode cL_law 1279 = .ok (.ireturn, 1) := by decide +kernel
theorem dL_law_1280 : decode cL_law 1280 = .ok (.goto 874, 3) := by decide +kernel
theorem dL_law_1283 : decode cL_law 1283 = .ok (.aload_n 1, 1) := by decide +kernel
theorem dL_law_1284 : decode cL_law 1284 = .ok (.aload_n 0, 1) := by decide +kernel
theorem dL_law_1285 : decode cL_law 1285 = .ok (.iload 4, 2) := by decide +kernel
theorem dL_law_1287 : decode cL_law 1287 = .ok (.iconst 1, 1) := by decide +kernel
theorem dL_law_1288 : decode cL_law 1288 = .ok (.iadd, 1) := by decide +kernel
theorem dL_law_1289 : decode cL_law 1289 = .ok (.iaload, 1) := by decide +kernel
theorem dL_law_1290 : decode cL_law 1290 = .ok (.aload_n 3, 1) := by decide +kernel
theorem dL_law_1291 : decode cL_law 1291 = .ok (.invokestatic 170, 3) := by decide +kernel
theorem dL_law_1294 : decode cL_law 1294 = .ok (.istore 5, 2) := by decide +kernel
theorem dL_law_1296 : decode cL_law 1296 = .ok (.aload_n 2, 1) := by decide +kernel
theorem dL_law_1297 : decode cL_law 1297 = .ok (.aload_n 0, 1) := by decide +kernel
theorem dL_law_1298 : decode cL_law 1298 = .ok (.iload 4, 2) := by decide +kernel
theorem dL_law_1300 : decode cL_law 1300 = .ok (.iconst 1, 1) := by decide +kernel
theorem dL_law_1301 : decode cL_law 1301 = .ok (.iadd, 1) := by decide +kernel
theorem dL_law_1302 : decode cL_law 1302 = .ok (.iaload, 1) := by decide +kernel
theorem dL_law_1303 : decode cL_law 1303 = .ok (.invokevirtual 172, 3) := by decide +kernel
theorem dL_law_1306 : decode cL_law 1306 = .ok (.istore 6, 2) := by decide +kernel
theorem dL_law_1308 : decode cL_law 1308 = .ok (.aload_n 2, 1) := by decide +kernel
theorem dL_law_1309 : decode cL_law 1309 = .ok (.invokevirtual 113, 3) := by decide +kernel
theorem dL_law_1312 : decode cL_law 1312 = .ok (.iload 5, 2) := by decide +kernel
theorem dL_law_1314 : decode cL_law 1314 = .ok (.if_icmp .eq 5, 3) := by decide +kernel
theorem dL_law_1317 : decode cL_law 1317 = .ok (.iconst 0, 1) := by decide +kernel
theorem dL_law_1318 : decode cL_law 1318 = .ok (.ireturn, 1) := by decide +kernel
theorem dL_law_1319 : decode cL_law 1319 = .ok (.iload 5, 2) := by decide +kernel
theorem dL_law_1321 : decode cL_law 1321 = .ok (.ifCond .ne 15, 3) := by decide +kernel
theorem dL_law_1324 : decode cL_law 1324 = .ok (.aload_n 3, 1) := by decide +kernel
theorem dL_law_1325 : decode cL_law 1325 = .ok (.iconst 0, 1) := by decide +kernel
theorem dL_law_1326 : decode cL_law 1326 = .ok (.laload, 1) := by decide +kernel
theorem dL_law_1327 : decode cL_law 1327 = .ok (.iload 6, 2) := by decide +kernel
theorem dL_law_1329 : decode cL_law 1329 = .ok (.i2l, 1) := by decide +kernel
theorem dL_law_1330 : decode cL_law 1330 = .ok (.lcmp, 1) := by decide +kernel
theorem dL_law_1331 : decode cL_law 1331 = .ok (.ifCond .eq 5, 3) := by decide +kernel
theorem dL_law_1334 : decode cL_law 1334 = .ok (.iconst 0, 1) := by decide +kernel
theorem dL_law_1335 : decode cL_law 1335 = .ok (.ireturn, 1) := by decide +kernel
theorem dL_law_1336 : decode cL_law 1336 = .ok (.goto 818, 3) := by decide +kernel
theorem dL_law_1339 : decode cL_law 1339 = .ok (.aload_n 1, 1) := by decide +kernel
theorem dL_law_1340 : decode cL_law 1340 = .ok (.aload_n 0, 1) := by decide +kernel
theorem dL_law_1341 : decode cL_law 1341 = .ok (.iload 4, 2) := by decide +kernel
theorem dL_law_1343 : decode cL_law 1343 = .ok (.iconst 1, 1) := by decide +kernel
theorem dL_law_1344 : decode cL_law 1344 = .ok (.iadd, 1) := by decide +kernel
theorem dL_law_1345 : decode cL_law 1345 = .ok (.iaload, 1) := by decide +kernel
theorem dL_law_1346 : decode cL_law 1346 = .ok (.aload_n 3, 1) := by decide +kernel
theorem dL_law_1347 : decode cL_law 1347 = .ok (.invokestatic 173, 3) := by decide +kernel
theorem dL_law_1350 : decode cL_law 1350 = .ok (.istore 5, 2) := by decide +kernel
theorem dL_law_1352 : decode cL_law 1352 = .ok (.aload_n 2, 1) := by decide +kernel
theorem dL_law_1353 : decode cL_law 1353 = .ok (.aload_n 0, 1) := by decide +kernel
theorem dL_law_1354 : decode cL_law 1354 = .ok (.iload 4, 2) := by decide +kernel
theorem dL_law_1356 : decode cL_law 1356 = .ok (.iconst 1, 1) := by decide +kernel
theorem dL_law_1357 : decode cL_law 1357 = .ok (.iadd, 1) := by decide +kernel
theorem dL_law_1358 : decode cL_law 1358 = .ok (.iaload, 1) := by decide +kernel
theorem dL_law_1359 : decode cL_law 1359 = .ok (.invokevirtual 175, 3) := by decide +kernel
theorem dL_law_1362 : decode cL_law 1362 = .ok (.istore 6, 2) := by decide +kernel
theorem dL_law_1364 : decode cL_law 1364 = .ok (.aload_n 2, 1) := by decide +kernel
theorem dL_law_1365 : decode cL_law 1365 = .ok (.invokevirtual 113, 3) := by decide +kernel
theorem dL_law_1368 : decode cL_law 1368 = .ok (.iload 5, 2) := by decide +kernel
theorem dL_law_1370 : decode cL_law 1370 = .ok (.if_icmp .eq 5, 3) := by decide +kernel
theorem dL_law_1373 : decode cL_law 1373 = .ok (.iconst 0, 1) := by decide +kernel
theorem dL_law_1374 : decode cL_law 1374 = .ok (.ireturn, 1) := by decide +kernel
theorem dL_law_1375 : decode cL_law 1375 = .ok (.iload 5, 2) := by decide +kernel
theorem dL_law_1377 : decode cL_law 1377 = .ok (.ifCond .ne 15, 3) := by decide +kernel
theorem dL_law_1380 : decode cL_law 1380 = .ok (.aload_n 3, 1) := by decide +kernel
theorem dL_law_1381 : decode cL_law 1381 = .ok (.iconst 0, 1) := by decide +kernel
theorem dL_law_1382 : decode cL_law 1382 = .ok (.laload, 1) := by decide +kernel
theorem dL_law_1383 : decode cL_law 1383 = .ok (.iload 6, 2) := by decide +kernel
theorem dL_law_1385 : decode cL_law 1385 = .ok (.i2l, 1) := by decide +kernel
theorem dL_law_1386 : decode cL_law 1386 = .ok (.lcmp, 1) := by decide +kernel
theorem dL_law_1387 : decode cL_law 1387 = .ok (.ifCond .eq 5, 3) := by decide +kernel
theorem dL_law_1390 : decode cL_law 1390 = .ok (.iconst 0, 1) := by decide +kernel
theorem dL_law_1391 : decode cL_law 1391 = .ok (.ireturn, 1) := by decide +kernel
theorem dL_law_1392 : decode cL_law 1392 = .ok (.goto 762, 3) := by decide +kernel
theorem dL_law_1395 : decode cL_law 1395 = .ok (.aload_n 1, 1) := by decide +kernel
theorem dL_law_1396 : decode cL_law 1396 = .ok (.aload_n 0, 1) := by decide +kernel
theorem dL_law_1397 : decode cL_law 1397 = .ok (.iload 4, 2) := by decide +kernel
theorem dL_law_1399 : decode cL_law 1399 = .ok (.iconst 1, 1) := by decide +kernel
theorem dL_law_1400 : decode cL_law 1400 = .ok (.iadd, 1) := by decide +kernel
theorem dL_law_1401 : decode cL_law 1401 = .ok (.iaload, 1) := by decide +kernel
theorem dL_law_1402 : decode cL_law 1402 = .ok (.aload_n 3, 1) := by decide +kernel
theorem dL_law_1403 : decode cL_law 1403 = .ok (.invokestatic 176, 3) := by decide +kernel
theorem dL_law_1406 : decode cL_law 1406 = .ok (.istore 5, 2) := by decide +kernel
theorem dL_law_1408 : decode cL_law 1408 = .ok (.aload_n 2, 1) := by decide +kernel
theorem dL_law_1409 : decode cL_law 1409 = .ok (.aload_n 0, 1) := by decide +kernel
theorem dL_law_1410 : decode cL_law 1410 = .ok (.iload 4, 2) := by decide +kernel
theorem dL_law_1412 : decode cL_law 1412 = .ok (.iconst 1, 1) := by decide +kernel
theorem dL_law_1413 : decode cL_law 1413 = .ok (.iadd, 1) := by decide +kernel
theorem dL_law_1414 : decode cL_law 1414 = .ok (.iaload, 1) := by decide +kernel
theorem dL_law_1415 : decode cL_law 1415 = .ok (.invokevirtual 178, 3) := by decide +kernel
theorem dL_law_1418 : decode cL_law 1418 = .ok (.istore 6, 2) := by decide +kernel
theorem dL_law_1420 : decode cL_law 1420 = .ok (.aload_n 2, 1) := by decide +kernel
theorem dL_law_1421 : decode cL_law 1421 = .ok (.invokevirtual 113, 3) := by decide +kernel
theorem dL_law_1424 : decode cL_law 1424 = .ok (.iload 5, 2) := by decide +kernel
theorem dL_law_1426 : decode cL_law 1426 = .ok (.if_icmp .eq 5, 3) := by decide +kernel
theorem dL_law_1429 : decode cL_law 1429 = .ok (.iconst 0, 1) := by decide +kernel
theorem dL_law_1430 : decode cL_law 1430 = .ok (.ireturn, 1) := by decide +kernel
theorem dL_law_1431 : decode cL_law 1431 = .ok (.iload 5, 2) := by decide +kernel
theorem dL_law_1433 : decode cL_law 1433 = .ok (.ifCond .ne 15, 3) := by decide +kernel
theorem dL_law_1436 : decode cL_law 1436 = .ok (.aload_n 3, 1) := by decide +kernel
theorem dL_law_1437 : decode cL_law 1437 = .ok (.iconst 0, 1) := by decide +kernel
theorem dL_law_1438 : decode cL_law 1438 = .ok (.laload, 1) := by decide +kernel
theorem dL_law_1439 : decode cL_law 1439 = .ok (.iload 6, 2) := by decide +kernel
theorem dL_law_1441 : decode cL_law 1441 = .ok (.i2l, 1) := by decide +kernel
theorem dL_law_1442 : decode cL_law 1442 = .ok (.lcmp, 1) := by decide +kernel
theorem dL_law_1443 : decode cL_law 1443 = .ok (.ifCond .eq 5, 3) := by decide +kernel
theorem dL_law_1446 : decode cL_law 1446 = .ok (.iconst 0, 1) := by decide +kernel
theorem dL_law_1447 : decode cL_law 1447 = .ok (.ireturn, 1) := by decide +kernel
theorem dL_law_1448 : decode cL_law 1448 = .ok (.goto 706, 3) := by decide +kernel
theorem dL_law_1451 : decode cL_law 1451 = .ok (.aload_n 1, 1) := by decide +kernel
theorem dL_law_1452 : decode cL_law 1452 = .ok (.aload_n 0, 1) := by decide +kernel
theorem dL_law_1453 : decode cL_law 1453 = .ok (.iload 4, 2) := by decide +kernel
theorem dL_law_1455 : decode cL_law 1455 = .ok (.iconst 1, 1) := by decide +kernel
theorem dL_law_1456 : decode cL_law 1456 = .ok (.iadd, 1) := by decide +kernel
theorem dL_law_1457 : decode cL_law 1457 = .ok (.iaload, 1) := by decide +kernel
theorem dL_law_1458 : decode cL_law 1458 = .ok (.aload_n 3, 1) := by decide +kernel
theorem dL_law_1459 : decode cL_law 1459 = .ok (.invokestatic 179, 3) := by decide +kernel
theorem dL_law_1462 : decode cL_law 1462 = .ok (.istore 5, 2) := by decide +kernel
theorem dL_law_1464 : decode cL_law 1464 = .ok (.aload_n 2, 1) := by decide +kernel
theorem dL_law_1465 : decode cL_law 1465 = .ok (.aload_n 0, 1) := by decide +kernel
theorem dL_law_1466 : decode cL_law 1466 = .ok (.iload 4, 2) := by decide +kernel
theorem dL_law_1468 : decode cL_law 1468 = .ok (.iconst 1, 1) := by decide +kernel
theorem dL_law_1469 : decode cL_law 1469 = .ok (.iadd, 1) := by decide +kernel
theorem dL_law_1470 : decode cL_law 1470 = .ok (.iaload, 1) := by decide +kernel
theorem dL_law_1471 : decode cL_law 1471 = .ok (.invokevirtual 181, 3) := by decide +kernel
theorem dL_law_1474 : decode cL_law 1474 = .ok (.istore 6, 2) := by decide +kernel
theorem dL_law_1476 : decode cL_law 1476 = .ok (.aload_n 2, 1) := by decide +kernel
theorem dL_law_1477 : decode cL_law 1477 = .ok (.invokevirtual 113, 3) := by decide +kernel
theorem dL_law_1480 : decode cL_law 1480 = .ok (.iload 5, 2) := by decide +kernel
theorem dL_law_1482 : decode cL_law 1482 = .ok (.if_icmp .eq 5, 3) := by decide +kernel
theorem dL_law_1485 : decode cL_law 1485 = .ok (.iconst 0, 1) := by decide +kernel
theorem dL_law_1486 : decode cL_law 1486 = .ok (.ireturn, 1) := by decide +kernel
theorem dL_law_1487 : decode cL_law 1487 = .ok (.iload 5, 2) := by decide +kernel
theorem dL_law_1489 : decode cL_law 1489 = .ok (.ifCond .ne 15, 3) := by decide +kernel
theorem dL_law_1492 : decode cL_law 1492 = .ok (.aload_n 3, 1) := by decide +kernel
theorem dL_law_1493 : decode cL_law 1493 = .ok (.iconst 0, 1) := by decide +kernel
theorem dL_law_1494 : decode cL_law 1494 = .ok (.laload, 1) := by decide +kernel
theorem dL_law_1495 : decode cL_law 1495 = .ok (.iload 6, 2) := by decide +kernel
theorem dL_law_1497 : decode cL_law 1497 = .ok (.i2l, 1) := by decide +kernel
theorem dL_law_1498 : decode cL_law 1498 = .ok (.lcmp, 1) := by decide +kernel
theorem dL_law_1499 : decode cL_law 1499 = .ok (.ifCond .eq 5, 3) := by decide +kernel
theorem dL_law_1502 : decode cL_law 1502 = .ok (.iconst 0, 1) := by decide +kernel
theorem dL_law_1503 : decode cL_law 1503 = .ok (.ireturn, 1) := by decide +kernel
theorem dL_law_1504 : decode cL_law 1504 = .ok (.goto 650, 3) := by decide +kernel
theorem dL_law_1507 : decode cL_law 1507 = .ok (.aload_n 1, 1) := by decide +kernel
theorem dL_law_1508 : decode cL_law 1508 = .ok (.aload_n 0, 1) := by decide +kernel
theorem dL_law_1509 : decode cL_law 1509 = .ok (.iload 4, 2) := by decide +kernel
theorem dL_law_1511 : decode cL_law 1511 = .ok (.iconst 1, 1) := by decide +kernel
theorem dL_law_1512 : decode cL_law 1512 = .ok (.iadd, 1) := by decide +kernel
theorem dL_law_1513 : decode cL_law 1513 = .ok (.iaload, 1) := by decide +kernel
theorem dL_law_1514 : decode cL_law 1514 = .ok (.aload_n 0, 1) := by decide +kernel
theorem dL_law_1515 : decode cL_law 1515 = .ok (.iload 4, 2) := by decide +kernel
theorem dL_law_1517 : decode cL_law 1517 = .ok (.iconst 2, 1) := by decide +kernel
theorem dL_law_1518 : decode cL_law 1518 = .ok (.iadd, 1) := by decide +kernel
theorem dL_law_1519 : decode cL_law 1519 = .ok (.iaload, 1) := by decide +kernel
theorem dL_law_1520 : decode cL_law 1520 = .ok (.aload_n 0, 1) := by decide +kernel
theorem dL_law_1521 : decode cL_law 1521 = .ok (.iload 4, 2) := by decide +kernel
theorem dL_law_1523 : decode cL_law 1523 = .ok (.iconst 3, 1) := by decide +kernel
theorem dL_law_1524 : decode cL_law 1524 = .ok (.iadd, 1) := by decide +kernel
theorem dL_law_1525 : decode cL_law 1525 = .ok (.iaload, 1) := by decide +kernel
theorem dL_law_1526 : decode cL_law 1526 = .ok (.aload_n 3, 1) := by decide +kernel
theorem dL_law_1527 : decode cL_law 1527 = .ok (.invokestatic 182, 3) := by decide +kernel
theorem dL_law_1530 : decode cL_law 1530 = .ok (.istore 5, 2) := by decide +kernel
theorem dL_law_1532 : decode cL_law 1532 = .ok (.aload_n 2, 1) := by decide +kernel
theorem dL_law_1533 : decode cL_law 1533 = .ok (.aload_n 0, 1) := by decide +kernel
theorem dL_law_1534 : decode cL_law 1534 = .ok (.iload 4, 2) := by decide +kernel
theorem dL_law_1536 : decode cL_law 1536 = .ok (.iconst 1, 1) := by decide +kernel
theorem dL_law_1537 : decode cL_law 1537 = .ok (.iadd, 1) := by decide +kernel
theorem dL_law_1538 : decode cL_law 1538 = .ok (.iaload, 1) := by decide +kernel
theorem dL_law_1539 : decode cL_law 1539 = .ok (.aload_n 0, 1) := by decide +kernel
theorem dL_law_1540 : decode cL_law 1540 = .ok (.iload 4, 2) := by decide +kernel
theorem dL_law_1542 : decode cL_law 1542 = .ok (.iconst 2, 1) := by decide +kernel
theorem dL_law_1543 : decode cL_law 1543 = .ok (.iadd, 1) := by decide +kernel
theorem dL_law_1544 : decode cL_law 1544 = .ok (.iaload, 1) := by decide +kernel
theorem dL_law_1545 : decode cL_law 1545 = .ok (.aload_n 0, 1) := by decide +kernel
theorem dL_law_1546 : decode cL_law 1546 = .ok (.iload 4, 2) := by decide +kernel
theorem dL_law_1548 : decode cL_law 1548 = .ok (.iconst 3, 1) := by decide +kernel
theorem dL_law_1549 : decode cL_law 1549 = .ok (.iadd, 1) := by decide +kernel
theorem dL_law_1550 : decode cL_law 1550 = .ok (.iaload, 1) := by decide +kernel
theorem dL_law_1551 : decode cL_law 1551 = .ok (.invokevirtual 184, 3) := by decide +kernel
theorem dL_law_1554 : decode cL_law 1554 = .ok (.istore 6, 2) := by decide +kernel
theorem dL_law_1556 : decode cL_law 1556 = .ok (.aload_n 2, 1) := by decide +kernel
theorem dL_law_1557 : decode cL_law 1557 = .ok (.invokevirtual 113, 3) := by decide +kernel
theorem dL_law_1560 : decode cL_law 1560 = .ok (.iload 5, 2) := by decide +kernel
theorem dL_law_1562 : decode cL_law 1562 = .ok (.if_icmp .eq 5, 3) := by decide +kernel
theorem dL_law_1565 : decode cL_law 1565 = .ok (.iconst 0, 1) := by decide +kernel
theorem dL_law_1566 : decode cL_law 1566 = .ok (.ireturn, 1) := by decide +kernel
theorem dL_law_1567 : decode cL_law 1567 = .ok (.iload 5, 2) := by decide +kernel
theorem dL_law_1569 : decode cL_law 1569 = .ok (.ifCond .ne 15, 3) := by decide +kernel
theorem dL_law_1572 : decode cL_law 1572 = .ok (.aload_n 3, 1) := by decide +kernel
theorem dL_law_1573 : decode cL_law 1573 = .ok (.iconst 0, 1) := by decide +kernel
theorem dL_law_1574 : decode cL_law 1574 = .ok (.laload, 1) := by decide +kernel
theorem dL_law_1575 : decode cL_law 1575 = .ok (.iload 6, 2) := by decide +kernel
theorem dL_law_1577 : decode cL_law 1577 = .ok (.i2l, 1) := by decide +kernel
theorem dL_law_1578 : decode cL_law 1578 = .ok (.lcmp, 1) := by decide +kernel
theorem dL_law_1579 : decode cL_law 1579 = .ok (.ifCond .eq 5, 3) := by decide +kernel
theorem dL_law_1582 : decode cL_law 1582 = .ok (.iconst 0, 1) := by decide +kernel
theorem dL_law_1583 : decode cL_law 1583 = .ok (.ireturn, 1) := by decide +kernel
theorem dL_law_1584 : decode cL_law 1584 = .ok (.goto 570, 3) := by decide +kernel
theorem dL_law_1587 : decode cL_law 1587 = .ok (.aload_n 1, 1) := by decide +kernel
theorem dL_law_1588 : decode cL_law 1588 = .ok (.aload_n 0, 1) := by decide +kernel
theorem dL_law_1589 : decode cL_law 1589 = .ok (.iload 4, 2) := by decide +kernel
theorem dL_law_1591 : decode cL_law 1591 = .ok (.iconst 1, 1) := by decide +kernel
theorem dL_law_1592 : decode cL_law 1592 = .ok (.iadd, 1) := by decide +kernel
theorem dL_law_1593 : decode cL_law 1593 = .ok (.iaload, 1) := by decide +kernel
theorem dL_law_1594 : decode cL_law 1594 = .ok (.aload_n 0, 1) := by decide +kernel
theorem dL_law_1595 : decode cL_law 1595 = .ok (.iload 4, 2) := by decide +kernel
theorem dL_law_1597 : decode cL_law 1597 = .ok (.iconst 2, 1) := by decide +kernel
theorem dL_law_1598 : decode cL_law 1598 = .ok (.iadd, 1) := by decide +kernel
theorem dL_law_1599 : decode cL_law 1599 = .ok (.iaload, 1) := by decide +kernel
theorem dL_law_1600 : decode cL_law 1600 = .ok (.aload_n 0, 1) := by decide +kernel
theorem dL_law_1601 : decode cL_law 1601 = .ok (.iload 4, 2) := by decide +kernel
theorem dL_law_1603 : decode cL_law 1603 = .ok (.iconst 3, 1) := by decide +kernel
theorem dL_law_1604 : decode cL_law 1604 = .ok (.iadd, 1) := by decide +kernel
theorem dL_law_1605 : decode cL_law 1605 = .ok (.iaload, 1) := by decide +kernel
theorem dL_law_1606 : decode cL_law 1606 = .ok (.aload_n 0, 1) := by decide +kernel
theorem dL_law_1607 : decode cL_law 1607 = .ok (.iload 4, 2) := by decide +kernel
theorem dL_law_1609 : decode cL_law 1609 = .ok (.iconst 4, 1) := by decide +kernel
theorem dL_law_1610 : decode cL_law 1610 = .ok (.iadd, 1) := by decide +kernel
theorem dL_law_1611 : decode cL_law 1611 = .ok (.iaload, 1) := by decide +kernel
theorem dL_law_1612 : decode cL_law 1612 = .ok (.aload_n 0, 1) := by decide +kernel
theorem dL_law_1613 : decode cL_law 1613 = .ok (.iload 4, 2) := by decide +kernel
theorem dL_law_1615 : decode cL_law 1615 = .ok (.iconst 5, 1) := by decide +kernel
theorem dL_law_1616 : decode cL_law 1616 = .ok (.iadd, 1) := by decide +kernel
theorem dL_law_1617 : decode cL_law 1617 = .ok (.iaload, 1) := by decide +kernel
theorem dL_law_1618 : decode cL_law 1618 = .ok (.aload_n 3, 1) := by decide +kernel
theorem dL_law_1619 : decode cL_law 1619 = .ok (.invokestatic 185, 3) := by decide +kernel
theorem dL_law_1622 : decode cL_law 1622 = .ok (.istore 5, 2) := by decide +kernel
theorem dL_law_1624 : decode cL_law 1624 = .ok (.aload_n 2, 1) := by decide +kernel
theorem dL_law_1625 : decode cL_law 1625 = .ok (.aload_n 0, 1) := by decide +kernel
theorem dL_law_1626 : decode cL_law 1626 = .ok (.iload 4, 2) := by decide +kernel
theorem dL_law_1628 : decode cL_law 1628 = .ok (.iconst 1, 1) := by decide +kernel
theorem dL_law_1629 : decode cL_law 1629 = .ok (.iadd, 1) := by decide +kernel
theorem dL_law_1630 : decode cL_law 1630 = .ok (.iaload, 1) := by decide +kernel
theorem dL_law_1631 : decode cL_law 1631 = .ok (.aload_n 0, 1) := by decide +kernel
theorem dL_law_1632 : decode cL_law 1632 = .ok (.iload 4, 2) := by decide +kernel
theorem dL_law_1634 : decode cL_law 1634 = .ok (.iconst 2, 1) := by decide +kernel
theorem dL_law_1635 : decode cL_law 1635 = .ok (.iadd, 1) := by decide +kernel
theorem dL_law_1636 : decode cL_law 1636 = .ok (.iaload, 1) := by decide +kernel
theorem dL_law_1637 : decode cL_law 1637 = .ok (.aload_n 0, 1) := by decide +kernel
theorem dL_law_1638 : decode cL_law 1638 = .ok (.iload 4, 2) := by decide +kernel
theorem dL_law_1640 : decode cL_law 1640 = .ok (.iconst 3, 1) := by decide +kernel
theorem dL_law_1641 : decode cL_law 1641 = .ok (.iadd, 1) := by decide +kernel
theorem dL_law_1642 : decode cL_law 1642 = .ok (.iaload, 1) := by decide +kernel
theorem dL_law_1643 : decode cL_law 1643 = .ok (.aload_n 0, 1) := by decide +kernel
theorem dL_law_1644 : decode cL_law 1644 = .ok (.iload 4, 2) := by decide +kernel
theorem dL_law_1646 : decode cL_law 1646 = .ok (.iconst 4, 1) := by decide +kernel
theorem dL_law_1647 : decode cL_law 1647 = .ok (.iadd, 1) := by decide +kernel
theorem dL_law_1648 : decode cL_law 1648 = .ok (.iaload, 1) := by decide +kernel
theorem dL_law_1649 : decode cL_law 1649 = .ok (.aload_n 0, 1) := by decide +kernel
theorem dL_law_1650 : decode cL_law 1650 = .ok (.iload 4, 2) := by decide +kernel
theorem dL_law_1652 : decode cL_law 1652 = .ok (.iconst 5, 1) := by decide +kernel
theorem dL_law_1653 : decode cL_law 1653 = .ok (.iadd, 1) := by decide +kernel
theorem dL_law_1654 : decode cL_law 1654 = .ok (.iaload, 1) := by decide +kernel
theorem dL_law_1655 : decode cL_law 1655 = .ok (.invokevirtual 188, 3) := by decide +kernel
theorem dL_law_1658 : decode cL_law 1658 = .ok (.istore 6, 2) := by decide +kernel
theorem dL_law_1660 : decode cL_law 1660 = .ok (.aload_n 2, 1) := by decide +kernel
theorem dL_law_1661 : decode cL_law 1661 = .ok (.invokevirtual 113, 3) := by decide +kernel
theorem dL_law_1664 : decode cL_law 1664 = .ok (.iload 5, 2) := by decide +kernel
theorem dL_law_1666 : decode cL_law 1666 = .ok (.if_icmp .eq 5, 3) := by decide +kernel
theorem dL_law_1669 : decode cL_law 1669 = .ok (.iconst 0, 1) := by decide +kernel
theorem dL_law_1670 : decode cL_law 1670 = .ok (.ireturn, 1) := by decide +kernel
theorem dL_law_1671 : decode cL_law 1671 = .ok (.iload 5, 2) := by decide +kernel
theorem dL_law_1673 : decode cL_law 1673 = .ok (.ifCond .ne 15, 3) := by decide +kernel
theorem dL_law_1676 : decode cL_law 1676 = .ok (.aload_n 3, 1) := by decide +kernel
theorem dL_law_1677 : decode cL_law 1677 = .ok (.iconst 0, 1) := by decide +kernel
theorem dL_law_1678 : decode cL_law 1678 = .ok (.laload, 1) := by decide +kernel
theorem dL_law_1679 : decode cL_law 1679 = .ok (.iload 6, 2) := by decide +kernel
theorem dL_law_1681 : decode cL_law 1681 = .ok (.i2l, 1) := by decide +kernel
theorem dL_law_1682 : decode cL_law 1682 = .ok (.lcmp, 1) := by decide +kernel
theorem dL_law_1683 : decode cL_law 1683 = .ok (.ifCond .eq 5, 3) := by decide +kernel
theorem dL_law_1686 : decode cL_law 1686 = .ok (.iconst 0, 1) := by decide +kernel
theorem dL_law_1687 : decode cL_law 1687 = .ok (.ireturn, 1) := by decide +kernel
theorem dL_law_1688 : decode cL_law 1688 = .ok (.goto 466, 3) := by decide +kernel
theorem dL_law_1691 : decode cL_law 1691 = .ok (.aload_n 1, 1) := by decide +kernel
theorem dL_law_1692 : decode cL_law 1692 = .ok (.aload_n 0, 1) := by decide +kernel
theorem dL_law_1693 : decode cL_law 1693 = .ok (.iload 4, 2) := by decide +kernel
theorem dL_law_1695 : decode cL_law 1695 = .ok (.iconst 1, 1) := by decide +kernel
theorem dL_law_1696 : decode cL_law 1696 = .ok (.iadd, 1) := by decide +kernel
theorem dL_law_1697 : decode cL_law 1697 = .ok (.iaload, 1) := by decide +kernel
theorem dL_law_1698 : decode cL_law 1698 = .ok (.aload_n 0, 1) := by decide +kernel
theorem dL_law_1699 : decode cL_law 1699 = .ok (.iload 4, 2) := by decide +kernel
theorem dL_law_1701 : decode cL_law 1701 = .ok (.iconst 2, 1) := by decide +kernel
theorem dL_law_1702 : decode cL_law 1702 = .ok (.iadd, 1) := by decide +kernel
theorem dL_law_1703 : decode cL_law 1703 = .ok (.iaload, 1) := by decide +kernel
theorem dL_law_1704 : decode cL_law 1704 = .ok (.aload_n 3, 1) := by decide +kernel
theorem dL_law_1705 : decode cL_law 1705 = .ok (.invokestatic 189, 3) := by decide +kernel
theorem dL_law_1708 : decode cL_law 1708 = .ok (.istore 5, 2) := by decide +kernel
theorem dL_law_1710 : decode cL_law 1710 = .ok (.aload_n 2, 1) := by decide +kernel
theorem dL_law_1711 : decode cL_law 1711 = .ok (.aload_n 0, 1) := by decide +kernel
theorem dL_law_1712 : decode cL_law 1712 = .ok (.iload 4, 2) := by decide +kernel
theorem dL_law_1714 : decode cL_law 1714 = .ok (.iconst 1, 1) := by decide +kernel
theorem dL_law_1715 : decode cL_law 1715 = .ok (.iadd, 1) := by decide +kernel
theorem dL_law_1716 : decode cL_law 1716 = .ok (.iaload, 1) := by decide +kernel
theorem dL_law_1717 : decode cL_law 1717 = .ok (.aload_n 0, 1) := by decide +kernel
theorem dL_law_1718 : decode cL_law 1718 = .ok (.iload 4, 2) := by decide +kernel
theorem dL_law_1720 : decode cL_law 1720 = .ok (.iconst 2, 1) := by decide +kernel
theorem dL_law_1721 : decode cL_law 1721 = .ok (.iadd, 1) := by decide +kernel
theorem dL_law_1722 : decode cL_law 1722 = .ok (.iaload, 1) := by decide +kernel
theorem dL_law_1723 : decode cL_law 1723 = .ok (.invokevirtual 191, 3) := by decide +kernel
theorem dL_law_1726 : decode cL_law 1726 = .ok (.istore 6, 2) := by decide +kernel
theorem dL_law_1728 : decode cL_law 1728 = .ok (.aload_n 2, 1) := by decide +kernel
theorem dL_law_1729 : decode cL_law 1729 = .ok (.invokevirtual 113, 3) := by decide +kernel
theorem dL_law_1732 : decode cL_law 1732 = .ok (.iload 5, 2) := by decide +kernel
theorem dL_law_1734 : decode cL_law 1734 = .ok (.if_icmp .eq 5, 3) := by decide +kernel
theorem dL_law_1737 : decode cL_law 1737 = .ok (.iconst 0, 1) := by decide +kernel
theorem dL_law_1738 : decode cL_law 1738 = .ok (.ireturn, 1) := by decide +kernel
theorem dL_law_1739 : decode cL_law 1739 = .ok (.iload 5, 2) := by decide +kernel
theorem dL_law_1741 : decode cL_law 1741 = .ok (.ifCond .ne 15, 3) := by decide +kernel
theorem dL_law_1744 : decode cL_law 1744 = .ok (.aload_n 3, 1) := by decide +kernel
theorem dL_law_1745 : decode cL_law 1745 = .ok (.iconst 0, 1) := by decide +kernel
theorem dL_law_1746 : decode cL_law 1746 = .ok (.laload, 1) := by decide +kernel
theorem dL_law_1747 : decode cL_law 1747 = .ok (.iload 6, 2) := by decide +kernel
theorem dL_law_1749 : decode cL_law 1749 = .ok (.i2l, 1) := by decide +kernel
theorem dL_law_1750 : decode cL_law 1750 = .ok (.lcmp, 1) := by decide +kernel
theorem dL_law_1751 : decode cL_law 1751 = .ok (.ifCond .eq 5, 3) := by decide +kernel
theorem dL_law_1754 : decode cL_law 1754 = .ok (.iconst 0, 1) := by decide +kernel
theorem dL_law_1755 : decode cL_law 1755 = .ok (.ireturn, 1) := by decide +kernel
theorem dL_law_1756 : decode cL_law 1756 = .ok (.goto 398, 3) := by decide +kernel
theorem dL_law_1759 : decode cL_law 1759 = .ok (.aload_n 1, 1) := by decide +kernel
theorem dL_law_1760 : decode cL_law 1760 = .ok (.aload_n 0, 1) := by decide +kernel
theorem dL_law_1761 : decode cL_law 1761 = .ok (.iload 4, 2) := by decide +kernel
theorem dL_law_1763 : decode cL_law 1763 = .ok (.iconst 1, 1) := by decide +kernel
theorem dL_law_1764 : decode cL_law 1764 = .ok (.iadd, 1) := by decide +kernel
theorem dL_law_1765 : decode cL_law 1765 = .ok (.iaload, 1) := by decide +kernel
theorem dL_law_1766 : decode cL_law 1766 = .ok (.aload_n 0, 1) := by decide +kernel
theorem dL_law_1767 : decode cL_law 1767 = .ok (.iload 4, 2) := by decide +kernel
theorem dL_law_1769 : decode cL_law 1769 = .ok (.iconst 2, 1) := by decide +kernel
theorem dL_law_1770 : decode cL_law 1770 = .ok (.iadd, 1) := by decide +kernel
theorem dL_law_1771 : decode cL_law 1771 = .ok (.iaload, 1) := by decide +kernel
theorem dL_law_1772 : decode cL_law 1772 = .ok (.aload_n 3, 1) := by decide +kernel
theorem dL_law_1773 : decode cL_law 1773 = .ok (.invokestatic 192, 3) := by decide +kernel
theorem dL_law_1776 : decode cL_law 1776 = .ok (.istore 5, 2) := by decide +kernel
theorem dL_law_1778 : decode cL_law 1778 = .ok (.aload_n 2, 1) := by decide +kernel
theorem dL_law_1779 : decode cL_law 1779 = .ok (.aload_n 0, 1) := by decide +kernel
theorem dL_law_1780 : decode cL_law 1780 = .ok (.iload 4, 2) := by decide +kernel
theorem dL_law_1782 : decode cL_law 1782 = .ok (.iconst 1, 1) := by decide +kernel
theorem dL_law_1783 : decode cL_law 1783 = .ok (.iadd, 1) := by decide +kernel
theorem dL_law_1784 : decode cL_law 1784 = .ok (.iaload, 1) := by decide +kernel
theorem dL_law_1785 : decode cL_law 1785 = .ok (.aload_n 0, 1) := by decide +kernel
theorem dL_law_1786 : decode cL_law 1786 = .ok (.iload 4, 2) := by decide +kernel
theorem dL_law_1788 : decode cL_law 1788 = .ok (.iconst 2, 1) := by decide +kernel
theorem dL_law_1789 : decode cL_law 1789 = .ok (.iadd, 1) := by decide +kernel
theorem dL_law_1790 : decode cL_law 1790 = .ok (.iaload, 1) := by decide +kernel
theorem dL_law_1791 : decode cL_law 1791 = .ok (.invokevirtual 194, 3) := by decide +kernel
theorem dL_law_1794 : decode cL_law 1794 = .ok (.istore 6, 2) := by decide +kernel
theorem dL_law_1796 : decode cL_law 1796 = .ok (.aload_n 2, 1) := by decide +kernel
theorem dL_law_1797 : decode cL_law 1797 = .ok (.invokevirtual 113, 3) := by decide +kernel
theorem dL_law_1800 : decode cL_law 1800 = .ok (.iload 5, 2) := by decide +kernel
theorem dL_law_1802 : decode cL_law 1802 = .ok (.if_icmp .eq 5, 3) := by decide +kernel
theorem dL_law_1805 : decode cL_law 1805 = .ok (.iconst 0, 1) := by decide +kernel
theorem dL_law_1806 : decode cL_law 1806 = .ok (.ireturn, 1) := by decide +kernel
theorem dL_law_1807 : decode cL_law 1807 = .ok (.iload 5, 2) := by decide +kernel
theorem dL_law_1809 : decode cL_law 1809 = .ok (.ifCond .ne 15, 3) := by decide +kernel
theorem dL_law_1812 : decode cL_law 1812 = .ok (.aload_n 3, 1) := by decide +kernel
theorem dL_law_1813 : decode cL_law 1813 = .ok (.iconst 0, 1) := by decide +kernel
theorem dL_law_1814 : decode cL_law 1814 = .ok (.laload, 1) := by decide +kernel
theorem dL_law_1815 : decode cL_law 1815 = .ok (.iload 6, 2) := by decide +kernel
theorem dL_law_1817 : decode cL_law 1817 = .ok (.i2l, 1) := by decide +kernel
theorem dL_law_1818 : decode cL_law 1818 = .ok (.lcmp, 1) := by decide +kernel
theorem dL_law_1819 : decode cL_law 1819 = .ok (.ifCond .eq 5, 3) := by decide +kernel
theorem dL_law_1822 : decode cL_law 1822 = .ok (.iconst 0, 1) := by decide +kernel
theorem dL_law_1823 : decode cL_law 1823 = .ok (.ireturn, 1) := by decide +kernel
theorem dL_law_1824 : decode cL_law 1824 = .ok (.goto 330, 3) := by decide +kernel
theorem dL_law_1827 : decode cL_law 1827 = .ok (.aload_n 1, 1) := by decide +kernel
theorem dL_law_1828 : decode cL_law 1828 = .ok (.aload_n 0, 1) := by decide +kernel
theorem dL_law_1829 : decode cL_law 1829 = .ok (.iload 4, 2) := by decide +kernel
theorem dL_law_1831 : decode cL_law 1831 = .ok (.iconst 1, 1) := by decide +kernel
theorem dL_law_1832 : decode cL_law 1832 = .ok (.iadd, 1) := by decide +kernel
theorem dL_law_1833 : decode cL_law 1833 = .ok (.iaload, 1) := by decide +kernel
theorem dL_law_1834 : decode cL_law 1834 = .ok (.aload_n 0, 1) := by decide +kernel
theorem dL_law_1835 : decode cL_law 1835 = .ok (.iload 4, 2) := by decide +kernel
theorem dL_law_1837 : decode cL_law 1837 = .ok (.iconst 2, 1) := by decide +kernel
theorem dL_law_1838 : decode cL_law 1838 = .ok (.iadd, 1) := by decide +kernel
theorem dL_law_1839 : decode cL_law 1839 = .ok (.iaload, 1) := by decide +kernel
theorem dL_law_1840 : decode cL_law 1840 = .ok (.aload_n 3, 1) := by decide +kernel
theorem dL_law_1841 : decode cL_law 1841 = .ok (.invokestatic 195, 3) := by decide +kernel
theorem dL_law_1844 : decode cL_law 1844 = .ok (.istore 5, 2) := by decide +kernel
theorem dL_law_1846 : decode cL_law 1846 = .ok (.aload_n 2, 1) := by decide +kernel
theorem dL_law_1847 : decode cL_law 1847 = .ok (.aload_n 0, 1) := by decide +kernel
theorem dL_law_1848 : decode cL_law 1848 = .ok (.iload 4, 2) := by decide +kernel
theorem dL_law_1850 : decode cL_law 1850 = .ok (.iconst 1, 1) := by decide +kernel
theorem dL_law_1851 : decode cL_law 1851 = .ok (.iadd, 1) := by decide +kernel
theorem dL_law_1852 : decode cL_law 1852 = .ok (.iaload, 1) := by decide +kernel
theorem dL_law_1853 : decode cL_law 1853 = .ok (.aload_n 0, 1) := by decide +kernel
theorem dL_law_1854 : decode cL_law 1854 = .ok (.iload 4, 2) := by decide +kernel
theorem dL_law_1856 : decode cL_law 1856 = .ok (.iconst 2, 1) := by decide +kernel
theorem dL_law_1857 : decode cL_law 1857 = .ok (.iadd, 1) := by decide +kernel
theorem dL_law_1858 : decode cL_law 1858 = .ok (.iaload, 1) := by decide +kernel
theorem dL_law_1859 : decode cL_law 1859 = .ok (.invokevirtual 197, 3) := by decide +kernel
theorem dL_law_1862 : decode cL_law 1862 = .ok (.istore 6, 2) := by decide +kernel
theorem dL_law_1864 : decode cL_law 1864 = .ok (.aload_n 2, 1) := by decide +kernel
theorem dL_law_1865 : decode cL_law 1865 = .ok (.invokevirtual 113, 3) := by decide +kernel
theorem dL_law_1868 : decode cL_law 1868 = .ok (.iload 5, 2) := by decide +kernel
theorem dL_law_1870 : decode cL_law 1870 = .ok (.if_icmp .eq 5, 3) := by decide +kernel
theorem dL_law_1873 : decode cL_law 1873 = .ok (.iconst 0, 1) := by decide +kernel
theorem dL_law_1874 : decode cL_law 1874 = .ok (.ireturn, 1) := by decide +kernel
theorem dL_law_1875 : decode cL_law 1875 = .ok (.iload 5, 2) := by decide +kernel
theorem dL_law_1877 : decode cL_law 1877 = .ok (.ifCond .ne 15, 3) := by decide +kernel
theorem dL_law_1880 : decode cL_law 1880 = .ok (.aload_n 3, 1) := by decide +kernel
theorem dL_law_1881 : decode cL_law 1881 = .ok (.iconst 0, 1) := by decide +kernel
theorem dL_law_1882 : decode cL_law 1882 = .ok (.laload, 1) := by decide +kernel
theorem dL_law_1883 : decode cL_law 1883 = .ok (.iload 6, 2) := by decide +kernel
theorem dL_law_1885 : decode cL_law 1885 = .ok (.i2l, 1) := by decide +kernel
theorem dL_law_1886 : decode cL_law 1886 = .ok (.lcmp, 1) := by decide +kernel
theorem dL_law_1887 : decode cL_law 1887 = .ok (.ifCond .eq 5, 3) := by decide +kernel
theorem dL_law_1890 : decode cL_law 1890 = .ok (.iconst 0, 1) := by decide +kernel
theorem dL_law_1891 : decode cL_law 1891 = .ok (.ireturn, 1) := by decide +kernel
theorem dL_law_1892 : decode cL_law 1892 = .ok (.goto 262, 3) := by decide +kernel
theorem dL_law_1895 : decode cL_law 1895 = .ok (.aload_n 1, 1) := by decide +kernel
theorem dL_law_1896 : decode cL_law 1896 = .ok (.aload_n 0, 1) := by decide +kernel
theorem dL_law_1897 : decode cL_law 1897 = .ok (.iload 4, 2) := by decide +kernel
theorem dL_law_1899 : decode cL_law 1899 = .ok (.iconst 1, 1) := by decide +kernel
theorem dL_law_1900 : decode cL_law 1900 = .ok (.iadd, 1) := by decide +kernel
theorem dL_law_1901 : decode cL_law 1901 = .ok (.iaload, 1) := by decide +kernel
theorem dL_law_1902 : decode cL_law 1902 = .ok (.aload_n 0, 1) := by decide +kernel
theorem dL_law_1903 : decode cL_law 1903 = .ok (.iload 4, 2) := by decide +kernel
theorem dL_law_1905 : decode cL_law 1905 = .ok (.iconst 2, 1) := by decide +kernel
theorem dL_law_1906 : decode cL_law 1906 = .ok (.iadd, 1) := by decide +kernel
theorem dL_law_1907 : decode cL_law 1907 = .ok (.iaload, 1) := by decide +kernel
theorem dL_law_1908 : decode cL_law 1908 = .ok (.aload_n 3, 1) := by decide +kernel
theorem dL_law_1909 : decode cL_law 1909 = .ok (.invokestatic 198, 3) := by decide +kernel
theorem dL_law_1912 : decode cL_law 1912 = .ok (.istore 5, 2) := by decide +kernel
theorem dL_law_1914 : decode cL_law 1914 = .ok (.aload_n 2, 1) := by decide +kernel
theorem dL_law_1915 : decode cL_law 1915 = .ok (.aload_n 0, 1) := by decide +kernel
theorem dL_law_1916 : decode cL_law 1916 = .ok (.iload 4, 2) := by decide +kernel
theorem dL_law_1918 : decode cL_law 1918 = .ok (.iconst 1, 1) := by decide +kernel
theorem dL_law_1919 : decode cL_law 1919 = .ok (.iadd, 1) := by decide +kernel
theorem dL_law_1920 : decode cL_law 1920 = .ok (.iaload, 1) := by decide +kernel
theorem dL_law_1921 : decode cL_law 1921 = .ok (.aload_n 0, 1) := by decide +kernel
theorem dL_law_1922 : decode cL_law 1922 = .ok (.iload 4, 2) := by decide +kernel
theorem dL_law_1924 : decode cL_law 1924 = .ok (.iconst 2, 1) := by decide +kernel
theorem dL_law_1925 : decode cL_law 1925 = .ok (.iadd, 1) := by decide +kernel
theorem dL_law_1926 : decode cL_law 1926 = .ok (.iaload, 1) := by decide +kernel
theorem dL_law_1927 : decode cL_law 1927 = .ok (.invokevirtual 200, 3) := by decide +kernel
theorem dL_law_1930 : decode cL_law 1930 = .ok (.istore 6, 2) := by decide +kernel
theorem dL_law_1932 : decode cL_law 1932 = .ok (.aload_n 2, 1) := by decide +kernel
theorem dL_law_1933 : decode cL_law 1933 = .ok (.invokevirtual 113, 3) := by decide +kernel
theorem dL_law_1936 : decode cL_law 1936 = .ok (.iload 5, 2) := by decide +kernel
theorem dL_law_1938 : decode cL_law 1938 = .ok (.if_icmp .eq 5, 3) := by decide +kernel
theorem dL_law_1941 : decode cL_law 1941 = .ok (.iconst 0, 1) := by decide +kernel
theorem dL_law_1942 : decode cL_law 1942 = .ok (.ireturn, 1) := by decide +kernel
theorem dL_law_1943 : decode cL_law 1943 = .ok (.iload 5, 2) := by decide +kernel
theorem dL_law_1945 : decode cL_law 1945 = .ok (.ifCond .ne 15, 3) := by decide +kernel
theorem dL_law_1948 : decode cL_law 1948 = .ok (.aload_n 3, 1) := by decide +kernel
theorem dL_law_1949 : decode cL_law 1949 = .ok (.iconst 0, 1) := by decide +kernel
theorem dL_law_1950 : decode cL_law 1950 = .ok (.laload, 1) := by decide +kernel
theorem dL_law_1951 : decode cL_law 1951 = .ok (.iload 6, 2) := by decide +kernel
theorem dL_law_1953 : decode cL_law 1953 = .ok (.i2l, 1) := by decide +kernel
theorem dL_law_1954 : decode cL_law 1954 = .ok (.lcmp, 1) := by decide +kernel
theorem dL_law_1955 : decode cL_law 1955 = .ok (.ifCond .eq 5, 3) := by decide +kernel
theorem dL_law_1958 : decode cL_law 1958 = .ok (.iconst 0, 1) := by decide +kernel
theorem dL_law_1959 : decode cL_law 1959 = .ok (.ireturn, 1) := by decide +kernel
theorem dL_law_1960 : decode cL_law 1960 = .ok (.goto 194, 3) := by decide +kernel
theorem dL_law_1963 : decode cL_law 1963 = .ok (.aload_n 1, 1) := by decide +kernel
theorem dL_law_1964 : decode cL_law 1964 = .ok (.aload_n 0, 1) := by decide +kernel
theorem dL_law_1965 : decode cL_law 1965 = .ok (.iload 4, 2) := by decide +kernel
theorem dL_law_1967 : decode cL_law 1967 = .ok (.iconst 1, 1) := by decide +kernel
theorem dL_law_1968 : decode cL_law 1968 = .ok (.iadd, 1) := by decide +kernel
theorem dL_law_1969 : decode cL_law 1969 = .ok (.iaload, 1) := by decide +kernel
theorem dL_law_1970 : decode cL_law 1970 = .ok (.aload_n 0, 1) := by decide +kernel
theorem dL_law_1971 : decode cL_law 1971 = .ok (.iload 4, 2) := by decide +kernel
theorem dL_law_1973 : decode cL_law 1973 = .ok (.iconst 2, 1) := by decide +kernel
theorem dL_law_1974 : decode cL_law 1974 = .ok (.iadd, 1) := by decide +kernel
theorem dL_law_1975 : decode cL_law 1975 = .ok (.iaload, 1) := by decide +kernel
theorem dL_law_1976 : decode cL_law 1976 = .ok (.aload_n 3, 1) := by decide +kernel
theorem dL_law_1977 : decode cL_law 1977 = .ok (.invokestatic 201, 3) := by decide +kernel
theorem dL_law_1980 : decode cL_law 1980 = .ok (.istore 5, 2) := by decide +kernel
theorem dL_law_1982 : decode cL_law 1982 = .ok (.aload_n 2, 1) := by decide +kernel
theorem dL_law_1983 : decode cL_law 1983 = .ok (.aload_n 0, 1) := by decide +kernel
theorem dL_law_1984 : decode cL_law 1984 = .ok (.iload 4, 2) := by decide +kernel
theorem dL_law_1986 : decode cL_law 1986 = .ok (.iconst 1, 1) := by decide +kernel
theorem dL_law_1987 : decode cL_law 1987 = .ok (.iadd, 1) := by decide +kernel
theorem dL_law_1988 : decode cL_law 1988 = .ok (.iaload, 1) := by decide +kernel
theorem dL_law_1989 : decode cL_law 1989 = .ok (.aload_n 0, 1) := by decide +kernel
theorem dL_law_1990 : decode cL_law 1990 = .ok (.iload 4, 2) := by decide +kernel
theorem dL_law_1992 : decode cL_law 1992 = .ok (.iconst 2, 1) := by decide +kernel
theorem dL_law_1993 : decode cL_law 1993 = .ok (.iadd, 1) := by decide +kernel
theorem dL_law_1994 : decode cL_law 1994 = .ok (.iaload, 1) := by decide +kernel
theorem dL_law_1995 : decode cL_law 1995 = .ok (.invokevirtual 203, 3) := by decide +kernel
theorem dL_law_1998 : decode cL_law 1998 = .ok (.istore 6, 2) := by decide +kernel
theorem dL_law_2000 : decode cL_law 2000 = .ok (.aload_n 2, 1) := by decide +kernel
theorem dL_law_2001 : decode cL_law 2001 = .ok (.invokevirtual 113, 3) := by decide +kernel
theorem dL_law_2004 : decode cL_law 2004 = .ok (.iload 5, 2) := by decide +kernel
theorem dL_law_2006 : decode cL_law 2006 = .ok (.if_icmp .eq 5, 3) := by decide +kernel
theorem dL_law_2009 : decode cL_law 2009 = .ok (.iconst 0, 1) := by decide +kernel
theorem dL_law_2010 : decode cL_law 2010 = .ok (.ireturn, 1) := by decide +kernel
theorem dL_law_2011 : decode cL_law 2011 = .ok (.iload 5, 2) := by decide +kernel
theorem dL_law_2013 : decode cL_law 2013 = .ok (.ifCond .ne 15, 3) := by decide +kernel
theorem dL_law_2016 : decode cL_law 2016 = .ok (.aload_n 3, 1) := by decide +kernel
theorem dL_law_2017 : decode cL_law 2017 = .ok (.iconst 0, 1) := by decide +kernel
theorem dL_law_2018 : decode cL_law 2018 = .ok (.laload, 1) := by decide +kernel
theorem dL_law_2019 : decode cL_law 2019 = .ok (.iload 6, 2) := by decide +kernel
theorem dL_law_2021 : decode cL_law 2021 = .ok (.i2l, 1) := by decide +kernel
theorem dL_law_2022 : decode cL_law 2022 = .ok (.lcmp, 1) := by decide +kernel
theorem dL_law_2023 : decode cL_law 2023 = .ok (.ifCond .eq 5, 3) := by decide +kernel
theorem dL_law_2026 : decode cL_law 2026 = .ok (.iconst 0, 1) := by decide +kernel
theorem dL_law_2027 : decode cL_law 2027 = .ok (.ireturn, 1) := by decide +kernel
theorem dL_law_2028 : decode cL_law 2028 = .ok (.goto 126, 3) := by decide +kernel
theorem dL_law_2031 : decode cL_law 2031 = .ok (.aload_n 1, 1) := by decide +kernel
theorem dL_law_2032 : decode cL_law 2032 = .ok (.aload_n 0, 1) := by decide +kernel
theorem dL_law_2033 : decode cL_law 2033 = .ok (.iload 4, 2) := by decide +kernel
theorem dL_law_2035 : decode cL_law 2035 = .ok (.iconst 1, 1) := by decide +kernel
theorem dL_law_2036 : decode cL_law 2036 = .ok (.iadd, 1) := by decide +kernel
theorem dL_law_2037 : decode cL_law 2037 = .ok (.iaload, 1) := by decide +kernel
theorem dL_law_2038 : decode cL_law 2038 = .ok (.aload_n 0, 1) := by decide +kernel
theorem dL_law_2039 : decode cL_law 2039 = .ok (.iload 4, 2) := by decide +kernel
theorem dL_law_2041 : decode cL_law 2041 = .ok (.iconst 2, 1) := by decide +kernel
theorem dL_law_2042 : decode cL_law 2042 = .ok (.iadd, 1) := by decide +kernel
theorem dL_law_2043 : decode cL_law 2043 = .ok (.iaload, 1) := by decide +kernel
theorem dL_law_2044 : decode cL_law 2044 = .ok (.aload_n 3, 1) := by decide +kernel
theorem dL_law_2045 : decode cL_law 2045 = .ok (.invokestatic 204, 3) := by decide +kernel
theorem dL_law_2048 : decode cL_law 2048 = .ok (.istore 5, 2) := by decide +kernel
theorem dL_law_2050 : decode cL_law 2050 = .ok (.aload_n 2, 1) := by decide +kernel
theorem dL_law_2051 : decode cL_law 2051 = .ok (.aload_n 0, 1) := by decide +kernel
theorem dL_law_2052 : decode cL_law 2052 = .ok (.iload 4, 2) := by decide +kernel
theorem dL_law_2054 : decode cL_law 2054 = .ok (.iconst 1, 1) := by decide +kernel
theorem dL_law_2055 : decode cL_law 2055 = .ok (.iadd, 1) := by decide +kernel
theorem dL_law_2056 : decode cL_law 2056 = .ok (.iaload, 1) := by decide +kernel
theorem dL_law_2057 : decode cL_law 2057 = .ok (.aload_n 0, 1) := by decide +kernel
theorem dL_law_2058 : decode cL_law 2058 = .ok (.iload 4, 2) := by decide +kernel
theorem dL_law_2060 : decode cL_law 2060 = .ok (.iconst 2, 1) := by decide +kernel
theorem dL_law_2061 : decode cL_law 2061 = .ok (.iadd, 1) := by decide +kernel
theorem dL_law_2062 : decode cL_law 2062 = .ok (.iaload, 1) := by decide +kernel
theorem dL_law_2063 : decode cL_law 2063 = .ok (.invokevirtual 206, 3) := by decide +kernel
theorem dL_law_2066 : decode cL_law 2066 = .ok (.istore 6, 2) := by decide +kernel
theorem dL_law_2068 : decode cL_law 2068 = .ok (.aload_n 2, 1) := by decide +kernel
theorem dL_law_2069 : decode cL_law 2069 = .ok (.invokevirtual 113, 3) := by decide +kernel
theorem dL_law_2072 : decode cL_law 2072 = .ok (.iload 5, 2) := by decide +kernel
theorem dL_law_2074 : decode cL_law 2074 = .ok (.if_icmp .eq 5, 3) := by decide +kernel
theorem dL_law_2077 : decode cL_law 2077 = .ok (.iconst 0, 1) := by decide +kernel
theorem dL_law_2078 : decode cL_law 2078 = .ok (.ireturn, 1) := by decide +kernel
theorem dL_law_2079 : decode cL_law 2079 = .ok (.iload 5, 2) := by decide +kernel
theorem dL_law_2081 : decode cL_law 2081 = .ok (.ifCond .ne 15, 3) := by decide +kernel
theorem dL_law_2084 : decode cL_law 2084 = .ok (.aload_n 3, 1) := by decide +kernel
theorem dL_law_2085 : decode cL_law 2085 = .ok (.iconst 0, 1) := by decide +kernel
theorem dL_law_2086 : decode cL_law 2086 = .ok (.laload, 1) := by decide +kernel
theorem dL_law_2087 : decode cL_law 2087 = .ok (.iload 6, 2) := by decide +kernel
theorem dL_law_2089 : decode cL_law 2089 = .ok (.i2l, 1) := by decide +kernel
theorem dL_law_2090 : decode cL_law 2090 = .ok (.lcmp, 1) := by decide +kernel
theorem dL_law_2091 : decode cL_law 2091 = .ok (.ifCond .eq 5, 3) := by decide +kernel
theorem dL_law_2094 : decode cL_law 2094 = .ok (.iconst 0, 1) := by decide +kernel
theorem dL_law_2095 : decode cL_law 2095 = .ok (.ireturn, 1) := by decide +kernel
theorem dL_law_2096 : decode cL_law 2096 = .ok (.goto 58, 3) := by decide +kernel
theorem dL_law_2099 : decode cL_law 2099 = .ok (.aload_n 1, 1) := by decide +kernel
theorem dL_law_2100 : decode cL_law 2100 = .ok (.invokevirtual 207, 3) := by decide +kernel
theorem dL_law_2103 : decode cL_law 2103 = .ok (.dstore 5, 2) := by decide +kernel
theorem dL_law_2105 : decode cL_law 2105 = .ok (.aload_n 2, 1) := by decide +kernel
theorem dL_law_2106 : decode cL_law 2106 = .ok (.invokevirtual 211, 3) := by decide +kernel
theorem dL_law_2109 : decode cL_law 2109 = .ok (.dstore 7, 2) := by decide +kernel
theorem dL_law_2111 : decode cL_law 2111 = .ok (.dload 5, 2) := by decide +kernel
theorem dL_law_2113 : decode cL_law 2113 = .ok (.dload 7, 2) := by decide +kernel
theorem dL_law_2115 : decode cL_law 2115 = .ok (.dcmp .l, 1) := by decide +kernel
theorem dL_law_2116 : decode cL_law 2116 = .ok (.ifCond .eq 21, 3) := by decide +kernel
theorem dL_law_2119 : decode cL_law 2119 = .ok (.dload 5, 2) := by decide +kernel
theorem dL_law_2121 : decode cL_law 2121 = .ok (.dload 5, 2) := by decide +kernel
theorem dL_law_2123 : decode cL_law 2123 = .ok (.dcmp .l, 1) := by decide +kernel
theorem dL_law_2124 : decode cL_law 2124 = .ok (.ifCond .eq 11, 3) := by decide +kernel
theorem dL_law_2127 : decode cL_law 2127 = .ok (.dload 7, 2) := by decide +kernel
theorem dL_law_2129 : decode cL_law 2129 = .ok (.dload 7, 2) := by decide +kernel
theorem dL_law_2131 : decode cL_law 2131 = .ok (.dcmp .l, 1) := by decide +kernel
theorem dL_law_2132 : decode cL_law 2132 = .ok (.ifCond .ne 5, 3) := by decide +kernel
theorem dL_law_2135 : decode cL_law 2135 = .ok (.iconst 0, 1) := by decide +kernel
theorem dL_law_2136 : decode cL_law 2136 = .ok (.ireturn, 1) := by decide +kernel
theorem dL_law_2137 : decode cL_law 2137 = .ok (.goto 17, 3) := by decide +kernel
theorem dL_law_2140 : decode cL_law 2140 = .ok (.aload_n 1, 1) := by decide +kernel
theorem dL_law_2141 : decode cL_law 2141 = .ok (.invokevirtual 212, 3) := by decide +kernel
theorem dL_law_2144 : decode cL_law 2144 = .ok (.aload_n 2, 1) := by decide +kernel
theorem dL_law_2145 : decode cL_law 2145 = .ok (.invokevirtual 216, 3) := by decide +kernel
theorem dL_law_2148 : decode cL_law 2148 = .ok (.lcmp, 1) := by decide +kernel
theorem dL_law_2149 : decode cL_law 2149 = .ok (.ifCond .eq 5, 3) := by decide +kernel
theorem dL_law_2152 : decode cL_law 2152 = .ok (.iconst 0, 1) := by decide +kernel
theorem dL_law_2153 : decode cL_law 2153 = .ok (.ireturn, 1) := by decide +kernel
theorem dL_law_2154 : decode cL_law 2154 = .ok (.iinc 4 7, 3) := by decide +kernel
theorem dL_law_2157 : decode cL_law 2157 = .ok (.goto (-2134), 3) := by decide +kernel
theorem dL_law_2160 : decode cL_law 2160 = .ok (.iconst 1, 1) := by decide +kernel
theorem dL_law_2161 : decode cL_law 2161 = .ok (.ireturn, 1) := by decide +kernel
end
