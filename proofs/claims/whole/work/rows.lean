section
-- ===== PART A: goes FIRST, ahead of the names: the tables' words, and 'selects' of the private methods out of them =====
/-- a private method of a class that the tables say can be made, by its rows of tables_1 -/
def lw_okq (q : MethodName × Nat) : Prop := (q.1.cls ≠ "java/lang/invoke/MethodHandle" ∧ q.1.cls ≠ "java/lang/invoke/VarHandle") ∧ Cond.instantiable q.1.cls q.2 ∈ tables_1 ∧ Cond.privateMethod q.1 ∈ tables_1 ∧ Cond.instanceMethod q.1 ∈ tables_1
theorem lw_p0 : lw_okq (⟨"SignMasons$Book", "countAlike", "()I"⟩, 4) := ⟨⟨by decide +kernel, by decide +kernel⟩, List.mem_of_getElem? (i := 40) (by decide +kernel), List.mem_of_getElem? (i := 99) (by decide +kernel), List.mem_of_getElem? (i := 100) (by decide +kernel)⟩
theorem lw_p1 : lw_okq (⟨"SignMasons$Places", "alike", "(II)Z"⟩, 2) := ⟨⟨by decide +kernel, by decide +kernel⟩, List.mem_of_getElem? (i := 24) (by decide +kernel), List.mem_of_getElem? (i := 103) (by decide +kernel), List.mem_of_getElem? (i := 104) (by decide +kernel)⟩
theorem lw_p2 : lw_okq (⟨"SignMasons$Places", "sameGroup", "(II)Z"⟩, 2) := ⟨⟨by decide +kernel, by decide +kernel⟩, List.mem_of_getElem? (i := 24) (by decide +kernel), List.mem_of_getElem? (i := 113) (by decide +kernel), List.mem_of_getElem? (i := 114) (by decide +kernel)⟩
theorem lw_p3 : lw_okq (⟨"SignMasons$Book", "countThumbApart", "()I"⟩, 4) := ⟨⟨by decide +kernel, by decide +kernel⟩, List.mem_of_getElem? (i := 40) (by decide +kernel), List.mem_of_getElem? (i := 117) (by decide +kernel), List.mem_of_getElem? (i := 118) (by decide +kernel)⟩
theorem lw_p4 : lw_okq (⟨"SignMasons$Places", "distance", "(II)I"⟩, 2) := ⟨⟨by decide +kernel, by decide +kernel⟩, List.mem_of_getElem? (i := 24) (by decide +kernel), List.mem_of_getElem? (i := 124) (by decide +kernel), List.mem_of_getElem? (i := 125) (by decide +kernel)⟩
theorem lw_p5 : lw_okq (⟨"SignMasons$Places", "stepsBetween", "(II)I"⟩, 2) := ⟨⟨by decide +kernel, by decide +kernel⟩, List.mem_of_getElem? (i := 24) (by decide +kernel), List.mem_of_getElem? (i := 141) (by decide +kernel), List.mem_of_getElem? (i := 142) (by decide +kernel)⟩
theorem lw_p6 : lw_okq (⟨"SignMasons$Book", "fewestApart", "()I"⟩, 4) := ⟨⟨by decide +kernel, by decide +kernel⟩, List.mem_of_getElem? (i := 40) (by decide +kernel), List.mem_of_getElem? (i := 148) (by decide +kernel), List.mem_of_getElem? (i := 149) (by decide +kernel)⟩
theorem lw_p7 : lw_okq (⟨"SignMasons$Book", "nearestBut", "(II)I"⟩, 4) := ⟨⟨by decide +kernel, by decide +kernel⟩, List.mem_of_getElem? (i := 40) (by decide +kernel), List.mem_of_getElem? (i := 152) (by decide +kernel), List.mem_of_getElem? (i := 153) (by decide +kernel)⟩
theorem lw_p8 : lw_okq (⟨"SignMasons$Book", "signNearMost", "()I"⟩, 4) := ⟨⟨by decide +kernel, by decide +kernel⟩, List.mem_of_getElem? (i := 40) (by decide +kernel), List.mem_of_getElem? (i := 159) (by decide +kernel), List.mem_of_getElem? (i := 160) (by decide +kernel)⟩
theorem lw_p9 : lw_okq (⟨"SignMasons$Book", "countNear", "(I)I"⟩, 4) := ⟨⟨by decide +kernel, by decide +kernel⟩, List.mem_of_getElem? (i := 40) (by decide +kernel), List.mem_of_getElem? (i := 163) (by decide +kernel), List.mem_of_getElem? (i := 164) (by decide +kernel)⟩
theorem lw_p10 : lw_okq (⟨"SignMasons$Book", "countUnderstood", "(LSignMasons$Book;)I"⟩, 4) := ⟨⟨by decide +kernel, by decide +kernel⟩, List.mem_of_getElem? (i := 40) (by decide +kernel), List.mem_of_getElem? (i := 167) (by decide +kernel), List.mem_of_getElem? (i := 168) (by decide +kernel)⟩
theorem lw_p11 : lw_okq (⟨"SignMasons$Book", "meaningRead", "(I)I"⟩, 4) := ⟨⟨by decide +kernel, by decide +kernel⟩, List.mem_of_getElem? (i := 40) (by decide +kernel), List.mem_of_getElem? (i := 171) (by decide +kernel), List.mem_of_getElem? (i := 172) (by decide +kernel)⟩
theorem lw_p12 : lw_okq (⟨"SignMasons$Book", "countMisread", "(LSignMasons$Book;)I"⟩, 4) := ⟨⟨by decide +kernel, by decide +kernel⟩, List.mem_of_getElem? (i := 40) (by decide +kernel), List.mem_of_getElem? (i := 175) (by decide +kernel), List.mem_of_getElem? (i := 176) (by decide +kernel)⟩
theorem lw_p13 : lw_okq (⟨"SignMasons", "bookOf", "(I)LSignMasons$Book;"⟩, 4) := ⟨⟨by decide +kernel, by decide +kernel⟩, List.mem_of_getElem? (i := 16) (by decide +kernel), List.mem_of_getElem? (i := 183) (by decide +kernel), List.mem_of_getElem? (i := 184) (by decide +kernel)⟩
theorem lw_p14 : lw_okq (⟨"java/lang/Throwable", "fillInStackTrace", "(I)Ljava/lang/Throwable;"⟩, 6) := ⟨⟨by decide +kernel, by decide +kernel⟩, List.mem_of_getElem? (i := 228) (by decide +kernel), List.mem_of_getElem? (i := 226) (by decide +kernel), List.mem_of_getElem? (i := 227) (by decide +kernel)⟩
theorem lw_p15 : lw_okq (⟨"SignMasons", "tryLoan", "(LSignMasons$Book;ILSignMasons$Book;)Z"⟩, 4) := ⟨⟨by decide +kernel, by decide +kernel⟩, List.mem_of_getElem? (i := 16) (by decide +kernel), List.mem_of_getElem? (i := 258) (by decide +kernel), List.mem_of_getElem? (i := 259) (by decide +kernel)⟩
def lw_privs_1 : List (MethodName × Nat) := [(⟨"SignMasons$Book", "countAlike", "()I"⟩, 4), (⟨"SignMasons$Places", "alike", "(II)Z"⟩, 2), (⟨"SignMasons$Places", "sameGroup", "(II)Z"⟩, 2), (⟨"SignMasons$Book", "countThumbApart", "()I"⟩, 4), (⟨"SignMasons$Places", "distance", "(II)I"⟩, 2), (⟨"SignMasons$Places", "stepsBetween", "(II)I"⟩, 2), (⟨"SignMasons$Book", "fewestApart", "()I"⟩, 4), (⟨"SignMasons$Book", "nearestBut", "(II)I"⟩, 4), (⟨"SignMasons$Book", "signNearMost", "()I"⟩, 4), (⟨"SignMasons$Book", "countNear", "(I)I"⟩, 4), (⟨"SignMasons$Book", "countUnderstood", "(LSignMasons$Book;)I"⟩, 4), (⟨"SignMasons$Book", "meaningRead", "(I)I"⟩, 4), (⟨"SignMasons$Book", "countMisread", "(LSignMasons$Book;)I"⟩, 4), (⟨"SignMasons", "bookOf", "(I)LSignMasons$Book;"⟩, 4), (⟨"java/lang/Throwable", "fillInStackTrace", "(I)Ljava/lang/Throwable;"⟩, 6), (⟨"SignMasons", "tryLoan", "(LSignMasons$Book;ILSignMasons$Book;)Z"⟩, 4)]
theorem lw_r1 : ∀ q ∈ lw_privs_1, lw_okq q := List.forall_mem_cons.mpr ⟨lw_p0, List.forall_mem_cons.mpr ⟨lw_p1, List.forall_mem_cons.mpr ⟨lw_p2, List.forall_mem_cons.mpr ⟨lw_p3, List.forall_mem_cons.mpr ⟨lw_p4, List.forall_mem_cons.mpr ⟨lw_p5, List.forall_mem_cons.mpr ⟨lw_p6, List.forall_mem_cons.mpr ⟨lw_p7, List.forall_mem_cons.mpr ⟨lw_p8, List.forall_mem_cons.mpr ⟨lw_p9, List.forall_mem_cons.mpr ⟨lw_p10, List.forall_mem_cons.mpr ⟨lw_p11, List.forall_mem_cons.mpr ⟨lw_p12, List.forall_mem_cons.mpr ⟨lw_p13, List.forall_mem_cons.mpr ⟨lw_p14, List.forall_mem_cons.mpr ⟨lw_p15, fun _ h => absurd h List.not_mem_nil⟩⟩⟩⟩⟩⟩⟩⟩⟩⟩⟩⟩⟩⟩⟩⟩
theorem lw_p16 : lw_okq (⟨"SignMasons$Book", "hasRoomFor", "(I)Z"⟩, 4) := ⟨⟨by decide +kernel, by decide +kernel⟩, List.mem_of_getElem? (i := 40) (by decide +kernel), List.mem_of_getElem? (i := 262) (by decide +kernel), List.mem_of_getElem? (i := 263) (by decide +kernel)⟩
theorem lw_p17 : lw_okq (⟨"SignMasons$Book", "find", "(I)I"⟩, 4) := ⟨⟨by decide +kernel, by decide +kernel⟩, List.mem_of_getElem? (i := 40) (by decide +kernel), List.mem_of_getElem? (i := 266) (by decide +kernel), List.mem_of_getElem? (i := 267) (by decide +kernel)⟩
theorem lw_p18 : lw_okq (⟨"SignMasons$Book", "firstUnlike", "(I)I"⟩, 4) := ⟨⟨by decide +kernel, by decide +kernel⟩, List.mem_of_getElem? (i := 40) (by decide +kernel), List.mem_of_getElem? (i := 270) (by decide +kernel), List.mem_of_getElem? (i := 271) (by decide +kernel)⟩
theorem lw_p19 : lw_okq (⟨"SignMasons$Book", "hasAlike", "(I)Z"⟩, 4) := ⟨⟨by decide +kernel, by decide +kernel⟩, List.mem_of_getElem? (i := 40) (by decide +kernel), List.mem_of_getElem? (i := 277) (by decide +kernel), List.mem_of_getElem? (i := 278) (by decide +kernel)⟩
theorem lw_p20 : lw_okq (⟨"SignMasons$Book", "copyFrom", "(LSignMasons$Book;)V"⟩, 4) := ⟨⟨by decide +kernel, by decide +kernel⟩, List.mem_of_getElem? (i := 40) (by decide +kernel), List.mem_of_getElem? (i := 281) (by decide +kernel), List.mem_of_getElem? (i := 282) (by decide +kernel)⟩
theorem lw_p21 : lw_okq (⟨"SignMasons$Book", "append", "(II)I"⟩, 4) := ⟨⟨by decide +kernel, by decide +kernel⟩, List.mem_of_getElem? (i := 40) (by decide +kernel), List.mem_of_getElem? (i := 288) (by decide +kernel), List.mem_of_getElem? (i := 289) (by decide +kernel)⟩
theorem lw_p22 : lw_okq (⟨"SignMasons$Book", "thumbFarthest", "(I)I"⟩, 4) := ⟨⟨by decide +kernel, by decide +kernel⟩, List.mem_of_getElem? (i := 40) (by decide +kernel), List.mem_of_getElem? (i := 298) (by decide +kernel), List.mem_of_getElem? (i := 299) (by decide +kernel)⟩
theorem lw_p23 : lw_okq (⟨"SignMasons$Book", "remove", "(I)I"⟩, 4) := ⟨⟨by decide +kernel, by decide +kernel⟩, List.mem_of_getElem? (i := 40) (by decide +kernel), List.mem_of_getElem? (i := 373) (by decide +kernel), List.mem_of_getElem? (i := 374) (by decide +kernel)⟩
theorem lw_p24 : lw_okq (⟨"SignMasons$Places", "unite", "(II)V"⟩, 2) := ⟨⟨by decide +kernel, by decide +kernel⟩, List.mem_of_getElem? (i := 24) (by decide +kernel), List.mem_of_getElem? (i := 395) (by decide +kernel), List.mem_of_getElem? (i := 396) (by decide +kernel)⟩
theorem lw_p25 : lw_okq (⟨"SignMasons", "lookOf", "(II)I"⟩, 4) := ⟨⟨by decide +kernel, by decide +kernel⟩, List.mem_of_getElem? (i := 16) (by decide +kernel), List.mem_of_getElem? (i := 438) (by decide +kernel), List.mem_of_getElem? (i := 439) (by decide +kernel)⟩
theorem lw_p26 : lw_okq (⟨"SignMasons$Book", "countCommon", "(LSignMasons$Book;)I"⟩, 4) := ⟨⟨by decide +kernel, by decide +kernel⟩, List.mem_of_getElem? (i := 40) (by decide +kernel), List.mem_of_getElem? (i := 543) (by decide +kernel), List.mem_of_getElem? (i := 544) (by decide +kernel)⟩
theorem lw_p27 : lw_okq (⟨"SignMasons$Book", "countAlikeIfJoined", "(II)I"⟩, 4) := ⟨⟨by decide +kernel, by decide +kernel⟩, List.mem_of_getElem? (i := 40) (by decide +kernel), List.mem_of_getElem? (i := 565) (by decide +kernel), List.mem_of_getElem? (i := 566) (by decide +kernel)⟩
theorem lw_p28 : lw_okq (⟨"SignMasons$Places", "alikeIf", "(IIII)Z"⟩, 2) := ⟨⟨by decide +kernel, by decide +kernel⟩, List.mem_of_getElem? (i := 24) (by decide +kernel), List.mem_of_getElem? (i := 569) (by decide +kernel), List.mem_of_getElem? (i := 570) (by decide +kernel)⟩
theorem lw_p29 : lw_okq (⟨"SignMasons$Places", "sameGroupIf", "(IIII)Z"⟩, 2) := ⟨⟨by decide +kernel, by decide +kernel⟩, List.mem_of_getElem? (i := 24) (by decide +kernel), List.mem_of_getElem? (i := 573) (by decide +kernel), List.mem_of_getElem? (i := 574) (by decide +kernel)⟩
theorem lw_p30 : lw_okq (⟨"SignMasonsModel", "fail", "(I)I"⟩, 9) := ⟨⟨by decide +kernel, by decide +kernel⟩, List.mem_of_getElem? (i := 577) (by decide +kernel), List.mem_of_getElem? (i := 619) (by decide +kernel), List.mem_of_getElem? (i := 620) (by decide +kernel)⟩
theorem lw_p31 : lw_okq (⟨"SignMasonsModel", "isLodge", "(I)Z"⟩, 9) := ⟨⟨by decide +kernel, by decide +kernel⟩, List.mem_of_getElem? (i := 577) (by decide +kernel), List.mem_of_getElem? (i := 627) (by decide +kernel), List.mem_of_getElem? (i := 628) (by decide +kernel)⟩
def lw_privs_2 : List (MethodName × Nat) := [(⟨"SignMasons$Book", "hasRoomFor", "(I)Z"⟩, 4), (⟨"SignMasons$Book", "find", "(I)I"⟩, 4), (⟨"SignMasons$Book", "firstUnlike", "(I)I"⟩, 4), (⟨"SignMasons$Book", "hasAlike", "(I)Z"⟩, 4), (⟨"SignMasons$Book", "copyFrom", "(LSignMasons$Book;)V"⟩, 4), (⟨"SignMasons$Book", "append", "(II)I"⟩, 4), (⟨"SignMasons$Book", "thumbFarthest", "(I)I"⟩, 4), (⟨"SignMasons$Book", "remove", "(I)I"⟩, 4), (⟨"SignMasons$Places", "unite", "(II)V"⟩, 2), (⟨"SignMasons", "lookOf", "(II)I"⟩, 4), (⟨"SignMasons$Book", "countCommon", "(LSignMasons$Book;)I"⟩, 4), (⟨"SignMasons$Book", "countAlikeIfJoined", "(II)I"⟩, 4), (⟨"SignMasons$Places", "alikeIf", "(IIII)Z"⟩, 2), (⟨"SignMasons$Places", "sameGroupIf", "(IIII)Z"⟩, 2), (⟨"SignMasonsModel", "fail", "(I)I"⟩, 9), (⟨"SignMasonsModel", "isLodge", "(I)Z"⟩, 9)]
theorem lw_r2 : ∀ q ∈ lw_privs_2, lw_okq q := List.forall_mem_cons.mpr ⟨lw_p16, List.forall_mem_cons.mpr ⟨lw_p17, List.forall_mem_cons.mpr ⟨lw_p18, List.forall_mem_cons.mpr ⟨lw_p19, List.forall_mem_cons.mpr ⟨lw_p20, List.forall_mem_cons.mpr ⟨lw_p21, List.forall_mem_cons.mpr ⟨lw_p22, List.forall_mem_cons.mpr ⟨lw_p23, List.forall_mem_cons.mpr ⟨lw_p24, List.forall_mem_cons.mpr ⟨lw_p25, List.forall_mem_cons.mpr ⟨lw_p26, List.forall_mem_cons.mpr ⟨lw_p27, List.forall_mem_cons.mpr ⟨lw_p28, List.forall_mem_cons.mpr ⟨lw_p29, List.forall_mem_cons.mpr ⟨lw_p30, List.forall_mem_cons.mpr ⟨lw_p31, fun _ h => absurd h List.not_mem_nil⟩⟩⟩⟩⟩⟩⟩⟩⟩⟩⟩⟩⟩⟩⟩⟩
theorem lw_p32 : lw_okq (⟨"SignMasonsModel", "signOf", "(II)I"⟩, 9) := ⟨⟨by decide +kernel, by decide +kernel⟩, List.mem_of_getElem? (i := 577) (by decide +kernel), List.mem_of_getElem? (i := 640) (by decide +kernel), List.mem_of_getElem? (i := 641) (by decide +kernel)⟩
theorem lw_p33 : lw_okq (⟨"SignMasonsModel", "write", "(IIIIII)V"⟩, 9) := ⟨⟨by decide +kernel, by decide +kernel⟩, List.mem_of_getElem? (i := 577) (by decide +kernel), List.mem_of_getElem? (i := 647) (by decide +kernel), List.mem_of_getElem? (i := 648) (by decide +kernel)⟩
theorem lw_p34 : lw_okq (⟨"SignMasonsModel", "isSign", "(II)Z"⟩, 9) := ⟨⟨by decide +kernel, by decide +kernel⟩, List.mem_of_getElem? (i := 577) (by decide +kernel), List.mem_of_getElem? (i := 655) (by decide +kernel), List.mem_of_getElem? (i := 656) (by decide +kernel)⟩
theorem lw_p35 : lw_okq (⟨"SignMasonsModel", "joinNow", "(II)V"⟩, 9) := ⟨⟨by decide +kernel, by decide +kernel⟩, List.mem_of_getElem? (i := 577) (by decide +kernel), List.mem_of_getElem? (i := 670) (by decide +kernel), List.mem_of_getElem? (i := 671) (by decide +kernel)⟩
theorem lw_p36 : lw_okq (⟨"SignMasonsModel", "allGroups", "()I"⟩, 9) := ⟨⟨by decide +kernel, by decide +kernel⟩, List.mem_of_getElem? (i := 577) (by decide +kernel), List.mem_of_getElem? (i := 678) (by decide +kernel), List.mem_of_getElem? (i := 679) (by decide +kernel)⟩
theorem lw_p37 : lw_okq (⟨"SignMasonsModel", "thumbFor", "(II)I"⟩, 9) := ⟨⟨by decide +kernel, by decide +kernel⟩, List.mem_of_getElem? (i := 577) (by decide +kernel), List.mem_of_getElem? (i := 686) (by decide +kernel), List.mem_of_getElem? (i := 687) (by decide +kernel)⟩
theorem lw_p38 : lw_okq (⟨"SignMasonsModel", "far", "(IIIII)I"⟩, 9) := ⟨⟨by decide +kernel, by decide +kernel⟩, List.mem_of_getElem? (i := 577) (by decide +kernel), List.mem_of_getElem? (i := 690) (by decide +kernel), List.mem_of_getElem? (i := 691) (by decide +kernel)⟩
theorem lw_p39 : lw_okq (⟨"SignMasonsModel", "stepsOf", "(II)I"⟩, 9) := ⟨⟨by decide +kernel, by decide +kernel⟩, List.mem_of_getElem? (i := 577) (by decide +kernel), List.mem_of_getElem? (i := 694) (by decide +kernel), List.mem_of_getElem? (i := 695) (by decide +kernel)⟩
theorem lw_p40 : lw_okq (⟨"SignMasonsModel", "told", "(I)I"⟩, 9) := ⟨⟨by decide +kernel, by decide +kernel⟩, List.mem_of_getElem? (i := 577) (by decide +kernel), List.mem_of_getElem? (i := 703) (by decide +kernel), List.mem_of_getElem? (i := 704) (by decide +kernel)⟩
theorem lw_p41 : lw_okq (⟨"SignMasonsModel", "of", "(II[I)I"⟩, 9) := ⟨⟨by decide +kernel, by decide +kernel⟩, List.mem_of_getElem? (i := 577) (by decide +kernel), List.mem_of_getElem? (i := 727) (by decide +kernel), List.mem_of_getElem? (i := 728) (by decide +kernel)⟩
theorem lw_p42 : lw_okq (⟨"SignMasonsModel", "far", "(II)I"⟩, 9) := ⟨⟨by decide +kernel, by decide +kernel⟩, List.mem_of_getElem? (i := 577) (by decide +kernel), List.mem_of_getElem? (i := 751) (by decide +kernel), List.mem_of_getElem? (i := 752) (by decide +kernel)⟩
theorem lw_p43 : lw_okq (⟨"SignMasonsModel", "alike", "(I)I"⟩, 9) := ⟨⟨by decide +kernel, by decide +kernel⟩, List.mem_of_getElem? (i := 577) (by decide +kernel), List.mem_of_getElem? (i := 759) (by decide +kernel), List.mem_of_getElem? (i := 760) (by decide +kernel)⟩
theorem lw_p44 : lw_okq (⟨"SignMasonsModel", "thumbs", "(I)I"⟩, 9) := ⟨⟨by decide +kernel, by decide +kernel⟩, List.mem_of_getElem? (i := 577) (by decide +kernel), List.mem_of_getElem? (i := 767) (by decide +kernel), List.mem_of_getElem? (i := 768) (by decide +kernel)⟩
theorem lw_p45 : lw_okq (⟨"SignMasonsModel", "nearest", "(I)I"⟩, 9) := ⟨⟨by decide +kernel, by decide +kernel⟩, List.mem_of_getElem? (i := 577) (by decide +kernel), List.mem_of_getElem? (i := 775) (by decide +kernel), List.mem_of_getElem? (i := 776) (by decide +kernel)⟩
theorem lw_p46 : lw_okq (⟨"SignMasonsModel", "mistaken", "(I)I"⟩, 9) := ⟨⟨by decide +kernel, by decide +kernel⟩, List.mem_of_getElem? (i := 577) (by decide +kernel), List.mem_of_getElem? (i := 783) (by decide +kernel), List.mem_of_getElem? (i := 784) (by decide +kernel)⟩
theorem lw_p47 : lw_okq (⟨"SignMasonsModel", "reads", "(II)I"⟩, 9) := ⟨⟨by decide +kernel, by decide +kernel⟩, List.mem_of_getElem? (i := 577) (by decide +kernel), List.mem_of_getElem? (i := 791) (by decide +kernel), List.mem_of_getElem? (i := 792) (by decide +kernel)⟩
def lw_privs_3 : List (MethodName × Nat) := [(⟨"SignMasonsModel", "signOf", "(II)I"⟩, 9), (⟨"SignMasonsModel", "write", "(IIIIII)V"⟩, 9), (⟨"SignMasonsModel", "isSign", "(II)Z"⟩, 9), (⟨"SignMasonsModel", "joinNow", "(II)V"⟩, 9), (⟨"SignMasonsModel", "allGroups", "()I"⟩, 9), (⟨"SignMasonsModel", "thumbFor", "(II)I"⟩, 9), (⟨"SignMasonsModel", "far", "(IIIII)I"⟩, 9), (⟨"SignMasonsModel", "stepsOf", "(II)I"⟩, 9), (⟨"SignMasonsModel", "told", "(I)I"⟩, 9), (⟨"SignMasonsModel", "of", "(II[I)I"⟩, 9), (⟨"SignMasonsModel", "far", "(II)I"⟩, 9), (⟨"SignMasonsModel", "alike", "(I)I"⟩, 9), (⟨"SignMasonsModel", "thumbs", "(I)I"⟩, 9), (⟨"SignMasonsModel", "nearest", "(I)I"⟩, 9), (⟨"SignMasonsModel", "mistaken", "(I)I"⟩, 9), (⟨"SignMasonsModel", "reads", "(II)I"⟩, 9)]
theorem lw_r3 : ∀ q ∈ lw_privs_3, lw_okq q := List.forall_mem_cons.mpr ⟨lw_p32, List.forall_mem_cons.mpr ⟨lw_p33, List.forall_mem_cons.mpr ⟨lw_p34, List.forall_mem_cons.mpr ⟨lw_p35, List.forall_mem_cons.mpr ⟨lw_p36, List.forall_mem_cons.mpr ⟨lw_p37, List.forall_mem_cons.mpr ⟨lw_p38, List.forall_mem_cons.mpr ⟨lw_p39, List.forall_mem_cons.mpr ⟨lw_p40, List.forall_mem_cons.mpr ⟨lw_p41, List.forall_mem_cons.mpr ⟨lw_p42, List.forall_mem_cons.mpr ⟨lw_p43, List.forall_mem_cons.mpr ⟨lw_p44, List.forall_mem_cons.mpr ⟨lw_p45, List.forall_mem_cons.mpr ⟨lw_p46, List.forall_mem_cons.mpr ⟨lw_p47, fun _ h => absurd h List.not_mem_nil⟩⟩⟩⟩⟩⟩⟩⟩⟩⟩⟩⟩⟩⟩⟩⟩
theorem lw_p48 : lw_okq (⟨"SignMasonsModel", "reads", "(IIIII)I"⟩, 9) := ⟨⟨by decide +kernel, by decide +kernel⟩, List.mem_of_getElem? (i := 577) (by decide +kernel), List.mem_of_getElem? (i := 795) (by decide +kernel), List.mem_of_getElem? (i := 796) (by decide +kernel)⟩
theorem lw_p49 : lw_okq (⟨"SignMasonsModel", "readAs", "(IIZ)I"⟩, 9) := ⟨⟨by decide +kernel, by decide +kernel⟩, List.mem_of_getElem? (i := 577) (by decide +kernel), List.mem_of_getElem? (i := 807) (by decide +kernel), List.mem_of_getElem? (i := 808) (by decide +kernel)⟩
theorem lw_p50 : lw_okq (⟨"SignMasonsModel", "bestThumbOf", "(II)I"⟩, 9) := ⟨⟨by decide +kernel, by decide +kernel⟩, List.mem_of_getElem? (i := 577) (by decide +kernel), List.mem_of_getElem? (i := 823) (by decide +kernel), List.mem_of_getElem? (i := 824) (by decide +kernel)⟩
theorem lw_p51 : lw_okq (⟨"SignMasonsModel", "toBorrow", "(II)I"⟩, 9) := ⟨⟨by decide +kernel, by decide +kernel⟩, List.mem_of_getElem? (i := 577) (by decide +kernel), List.mem_of_getElem? (i := 831) (by decide +kernel), List.mem_of_getElem? (i := 832) (by decide +kernel)⟩
def lw_privs_4 : List (MethodName × Nat) := [(⟨"SignMasonsModel", "reads", "(IIIII)I"⟩, 9), (⟨"SignMasonsModel", "readAs", "(IIZ)I"⟩, 9), (⟨"SignMasonsModel", "bestThumbOf", "(II)I"⟩, 9), (⟨"SignMasonsModel", "toBorrow", "(II)I"⟩, 9)]
theorem lw_r4 : ∀ q ∈ lw_privs_4, lw_okq q := List.forall_mem_cons.mpr ⟨lw_p48, List.forall_mem_cons.mpr ⟨lw_p49, List.forall_mem_cons.mpr ⟨lw_p50, List.forall_mem_cons.mpr ⟨lw_p51, fun _ h => absurd h List.not_mem_nil⟩⟩⟩⟩
def lw_privs : List (MethodName × Nat) := lw_privs_1 ++ (lw_privs_2 ++ (lw_privs_3 ++ (lw_privs_4)))
def lw_tbl : List Cond := k2_sels lw_privs ++ tables_1
theorem lw_privs_ok : ∀ q ∈ lw_privs, lw_okq q := by
  show ∀ q ∈ lw_privs_1 ++ (lw_privs_2 ++ (lw_privs_3 ++ (lw_privs_4))), lw_okq q
  exact List.forall_mem_append.mpr ⟨lw_r1, List.forall_mem_append.mpr ⟨lw_r2, List.forall_mem_append.mpr ⟨lw_r3, lw_r4⟩⟩⟩
/-- the streams that the claim lets the run draw from -/
abbrev lw_cs : List Choice := [Jvm.Choice.named "NaN.bits"]
theorem lw_bits : nanBits ∈ lw_cs := by first | decide | exact List.mem_cons_self | simp [lw_cs, nanBits]
/-! ===== BEGIN words of one list among another's, by their places ===== -/
theorem goodIn_r {big : List Cond} (ws : List Cond) (ps : List Nat) (hp : ws = ps.filterMap (fun i => big[i]?)) (h : ws.all goodWord = true) : GoodIn big ws := by
  intro w hw
  have h1 := List.all_eq_true.mp h w hw
  rw [hp] at hw
  obtain ⟨i, -, hi⟩ := List.mem_filterMap.mp hw
  have hm : w ∈ big := by first | exact List.mem_of_getElem? hi | exact List.getElem?_mem hi
  exact ⟨hm, good_of_word h1⟩
theorem goodIn_app {big a b : List Cond} (ha : GoodIn big a) (hb : GoodIn big b) : GoodIn big (a ++ b) := fun w h => (List.mem_append.mp h).elim (ha w) (hb w)
theorem goodIn_ca {big a b : List Cond} {c : Cond} (ha : GoodIn big (c :: a)) (hb : GoodIn big b) : GoodIn big (c :: (a ++ b)) := fun w h => (List.mem_cons.mp h).elim (fun e => ha w (List.mem_cons.mpr (Or.inl e))) (fun h => (List.mem_append.mp h).elim (fun h => ha w (List.mem_cons.mpr (Or.inr h))) (hb w))
theorem goodIn_sub {big ws : List Cond} (hm : ∀ w ∈ ws, w ∈ big) (h : ws.all goodWord = true) : GoodIn big ws := fun w hw => ⟨hm w hw, good_of_word (List.all_eq_true.mp h w hw)⟩
/-! ===== END ===== -/

/-! ===== BEGIN exceptions that leave a method, and their catching by the caller (launches without stack traces) ===== -/
section VXA
/-! The laws vx_back, vx_callV, vx_callS, vx_callSW, vx_throw0, vx_throwS follow proofs of the library, with one case more: JvmDerived/Free/Laws.lean (Back.of_free), Shelf42/LK1.lean (callV, callS), Shelf/KitTraced.lean (throwNew0V, throwNewS). -/
/-- where a method has thrown q: the class by its name, the cell, what was written, the world -/
def vx_T (XC : String → State → State → Prop) (st : State) (q : Addr) (t : State) (mc ms : Nat) (free : Addr → Prop) : Prop :=
  ∃ (E : String) (ce : Cell) (L : List Loc), XC E st t ∧ t.heap[q]? = some ce ∧ ce.vm = .none ∧ st.vm.findClass E = some ce.cls ∧ st.WarmedH t.vm ∧ st.sameButNew ({ t with vm := st.vm } : State) L mc ms ∧ ∀ z ∈ L, free z.base
def vx_Q (Qc : Array Value → State → Outcome → State → Prop) (XC : String → State → State → Prop) (mc ms : Nat) (free : Addr → Prop) : Array Value → State → Outcome → State → Prop := fun a st o t =>
  (Qc a st o t ∧ ∃ L, FrameEnd st o t L mc ms ∧ ∀ q ∈ L, free q.base) ∨ ∃ q, o = .threw q ∧ vx_T XC st q t mc ms free
/-- a callee that returns or throws -/
def vx_Met (l : Launch) (y : MethodName) (ws : List Cond) (rm : Room) (Pc : Array Value → State → Prop) (Qc : Array Value → State → Outcome → State → Prop) (XC : String → State → State → Prop) (mc ms : Nat) (free : Addr → Prop) : Prop :=
  MetFree l y (headSpec ws rm) Pc (fun _ _ _ _ _ => True) (vx_Q Qc XC mc ms free)
def vx_Post (XC : String → State → State → Prop) (mc ms : Nat) (free : Addr → Prop) : Pt → Array Value → Addr → Pt → Prop := fun A a q B =>
  ∃ (g : JFrame) (mk : MethodId) (t : State) (L : List Loc) (E : String) (ce : Cell), B.U.heap = t.heap ∧ B.U.vm = t.vm ∧ XC E (A.U.calling g mk a) t ∧ t.heap[q]? = some ce ∧ ce.vm = .none ∧ A.U.vm.findClass E = some ce.cls ∧ B.locs = A.locs ++ L ∧ (∀ z ∈ L, free z.base) ∧ B.cells = A.cells + mc ∧ B.slots = A.slots + ms
def vx_Back (l : Launch) (R : Room) (p : Program) (e : Env) (below : List Frame) (s : State) (sargs : Array Value) (y : MethodName) (len W9 : Nat)
    (Pre : Pt → Array Value → Prop) (Post : Pt → Array Value → Option Value → Pt → Prop) (PostX : Pt → Array Value → Addr → Pt → Prop) : Prop :=
  ∀ (m : MethodId) (meth : Method) (c : Code) (A : Pt) (g : JFrame) (ig : Instr) (mk : MethodId) (a : Array Value),
    Stand p l e R s m sargs below meth c A.U A.locs A.cells A.slots → g.method = m → g.locals.size = c.maxLocals → decode c.code g.pc = .ok (ig, len) →
    2 * g.monitorRoom + (g.stack.map fun v => v.category).sum ≤ W9 → A.U.methodNamed? y = some mk → Pre A a →
    (∃ (v : Option Value) (B : Pt), Stand p l e R s m sargs below meth c B.U B.locs B.cells B.slots ∧ Post A a v B ∧
      Steps p.tables e below (doInvoke e (A.U.setTop g) [] mk a).1 (B.U.setTop { g with pc := g.pc + len, stack := v.toList ++ g.stack })) ∨
    (∃ (q : Addr) (B : Pt), Stand p l e R s m sargs below meth c B.U B.locs B.cells B.slots ∧ PostX A a q B ∧
      Steps p.tables e below (doInvoke e (A.U.setTop g) [] mk a).1 ((B.U.setTop g).pushFrame (.throwing q)))
section Payer
variable {l : Launch} {R : Room} {p : Program} {e : Env} {below : List Frame} {s : State} {sargs : Array Value} {y : MethodName} {len W9 : Nat}
theorem vx_back {ws : List Cond} {rm : Room} {Pc : Array Value → State → Prop} {Qc : Array Value → State → Outcome → State → Prop} {XC : String → State → State → Prop} {mc ms : Nat} {free : Addr → Prop} {bytes : ByteArray} {maxL : Nat} {ret : Option FieldType}
    (hM : vx_Met l y ws rm Pc Qc XC mc ms free) (hblind : FrameBlind Pc) (hrc : rm.cells = mc) (hrs : rm.slots = ms)
    (hframes : rm.frames + 1 ≤ R.frames) (hlocals : W9 + (maxL + 11) + rm.locals ≤ R.locals)
    (hws : ∀ w ∈ ws, ∀ a' U, s.WarmedH U.vm → w.before a' U = true) (hcode : Cond.code y bytes maxL ret ∈ ws) (hinit : ∀ a' U, s.WarmedH U.vm → (Cond.initialized y.cls).before a' U = true) :
    vx_Back l R p e below s sargs y len W9 (PreOf R mc ms Pc) (PostOf Qc mc ms free) (vx_Post XC mc ms free) := by
  intro m meth c A g ig mk a X hg hsize hdg hW hn hp
  have h1 : (headSpec ws rm).pre.before a A.U = true := atoms_intro fun w hw => hws w hw _ _ X.warmed
  have h2 : (Cond.code y bytes maxL ret).before a A.U = true := hws _ hcode _ _ X.warmed
  have h3 : (Cond.initialized y.cls).before a A.U = true := hinit _ _ X.warmed
  have h4 : A.cells + (headSpec ws rm).room.cells ≤ R.cells := by rw [show (headSpec ws rm).room.cells = mc from hrc]; exact hp.1
  have h5 : A.slots + (headSpec ws rm).room.slots ≤ R.slots := by rw [show (headSpec ws rm).room.slots = ms from hrs]; exact hp.2.1
  have hPc : Pc a (A.U.calling g mk a) := hblind _ _ _ _ hp.2.2
  obtain ⟨U, Ls, c0, s0⟩ := A
  dsimp only [Pt.U, Pt.locs, Pt.cells, Pt.slots] at h1 h2 h3 h4 h5 X hn hPc ⊢
  obtain ⟨methY, cY, hmY, hcY, -, hlY, -, -, -, -⟩ := Cond.code_spec hn h2
  obtain ⟨kY, hkY, -⟩ := className_of_methodNamed hn
  have hinitY : kY.init = .initialized := Cond.initialized_spec (findClass_of_methodNamed hn) hkY h3
  have h : At U g.method c below := by rw [hg]; exact X.here
  have hlocals9 : W9 + (maxL + 11) + (headSpec ws rm).room.locals ≤ R.locals := hlocals
  have happ : (headSpec ws rm).appliesLoose y e.platform (U.calling g mk a) = true :=
    Spec.appliesLoose_calling (g := g) h hdg hn hkY hinitY
      (X.room_calling (g := g) (R' := (headSpec ws rm).room) hsize hmY hcY hframes (by rw [hlY]; omega) h4 h5) h1
  obtain ⟨mid, hmid⟩ := h.above
  have hfr : (U.setTop g).frames = (.java g :: mid) ++ below := by rw [State.frames_setTop' g h.top, hmid]; rfl
  obtain ⟨o, s₂, hsteps, -, hend, hq⟩ := Steps.callFree hM p X.admits X.cas X.clock (acts := []) hfr happ hPc trivial
  have hq' : vx_Q Qc XC mc ms free a (U.calling g mk a) o s₂ := hq
  rw [State.frames_setTop' g h.top] at hend
  obtain ⟨g₀, hg0⟩ := Option.isSome_iff_exists.mp h.top
  obtain ⟨r, hr⟩ := State.topJava?_eq_some.mp hg0
  have hr' : (({ U with heap := s₂.heap, slotsUsed := s₂.slotsUsed } : State).setVm s₂.vm).frames = .java g₀ :: r := hr
  rcases hq' with ⟨hqc, L, hfe, hL⟩ | ⟨q, rfl, E, ce, L, hx, hce, hcv, hcl, hW₂, hsm, hL⟩
  · obtain ⟨⟨v, rfl⟩, hW₂, e2, q2, q3, q4, q5, q6⟩ := id hfe
    have e3 : s₂ = ({ (U.calling g mk a).setFrames s₂.frames with heap := s₂.heap, slotsUsed := s₂.slotsUsed } : State).setVm s₂.vm := by
      have : s₂ = ({ s₂ with vm := (U.calling g mk a).vm } : State).setVm s₂.vm := rfl
      rw [e2] at this
      exact this
    obtain ⟨c₂, i₂, len₂, hc₂, hd₂, hf₂⟩ := hend
    have hW' : U.WarmedH s₂.vm := hW₂
    have hcc : c₂ = c := by
      have h1 : s₂.code? g.method = U.code? g.method := by
        rw [State.code?_eq, State.code?_eq, hW'.alike.method?]
      exact Option.some.inj (hc₂.symm.trans (h1.trans h.code))
    subst hcc
    have hlen : len₂ = len := by rw [hdg] at hd₂; cases hd₂; rfl
    subst hlen
    have hs₂ : s₂ = (({ U with heap := s₂.heap, slotsUsed := s₂.slotsUsed } : State).setVm s₂.vm).setTop { g with pc := g.pc + len₂, stack := v.toList ++ g.stack } := by
      refine e3.trans ?_
      rw [hf₂, State.calling_eq h.top, State.setFrames_setFrames, State.setTop_of_frames _ hr', hr]
      rfl
    have hsame : U.sameButNew ({ U with heap := s₂.heap, slotsUsed := s₂.slotsUsed } : State) L mc ms := by
      refine ⟨?_, q2, q3, q4, q5, q6⟩
      obtain ⟨t, ht, -⟩ := State.frames_cons hr
      show ({ U with heap := s₂.heap, slotsUsed := s₂.slotsUsed } : State) = { U.setFrames U.frames with heap := s₂.heap, slotsUsed := s₂.slotsUsed }
      rw [State.setFrames_self ht]
    subst hg
    refine Or.inl ⟨v, ⟨(({ U with heap := s₂.heap, slotsUsed := s₂.slotsUsed } : State).setVm s₂.vm), Ls ++ L, c0 + mc, s0 + ms⟩,
      ⟨X.admits, X.cas, X.clock, X.frames, X.room, X.hears, X.method, X.code, (X.here.setHeapUsed s₂.heap s₂.slotsUsed).setVm hW'.alike, X.tail, State.WarmedH.trans X.warmed hW', X.limits, X.bytes, X.same.trans (hsame.setVm s.vm)⟩,
      ⟨g, mk, s₂, L, rfl, rfl, hqc, rfl, hL, rfl, rfl⟩, ?_⟩
    show Steps p.tables e below _ ((({ U with heap := s₂.heap, slotsUsed := s₂.slotsUsed } : State).setVm s₂.vm).setTop { g with pc := g.pc + len₂, stack := v.toList ++ g.stack })
    rw [← hs₂]
    exact hsteps
  · obtain ⟨e2, q2, q3, q4, q5, q6⟩ := id hsm
    have e3 : s₂ = ({ (U.calling g mk a).setFrames s₂.frames with heap := s₂.heap, slotsUsed := s₂.slotsUsed } : State).setVm s₂.vm := by
      have : s₂ = ({ s₂ with vm := (U.calling g mk a).vm } : State).setVm s₂.vm := rfl
      rw [e2] at this
      exact this
    have hf₂ : s₂.frames = .throwing q :: .java g :: U.frames.tail := hend
    have hW' : U.WarmedH s₂.vm := hW₂
    have hs₂ : s₂ = ((({ U with heap := s₂.heap, slotsUsed := s₂.slotsUsed } : State).setVm s₂.vm).setTop g).pushFrame (.throwing q) := by
      refine e3.trans ?_
      rw [hf₂, State.calling_eq h.top, State.setFrames_setFrames, State.pushFrame, State.frames_setTop _ hr', State.setTop_of_frames _ hr', State.setFrames_setFrames, hr]
      rfl
    have hsame : U.sameButNew ({ U with heap := s₂.heap, slotsUsed := s₂.slotsUsed } : State) L mc ms := by
      refine ⟨?_, q2, q3, q4, q5, q6⟩
      obtain ⟨t, ht, -⟩ := State.frames_cons hr
      show ({ U with heap := s₂.heap, slotsUsed := s₂.slotsUsed } : State) = { U.setFrames U.frames with heap := s₂.heap, slotsUsed := s₂.slotsUsed }
      rw [State.setFrames_self ht]
    subst hg
    refine Or.inr ⟨q, ⟨(({ U with heap := s₂.heap, slotsUsed := s₂.slotsUsed } : State).setVm s₂.vm), Ls ++ L, c0 + mc, s0 + ms⟩,
      ⟨X.admits, X.cas, X.clock, X.frames, X.room, X.hears, X.method, X.code, (X.here.setHeapUsed s₂.heap s₂.slotsUsed).setVm hW'.alike, X.tail, State.WarmedH.trans X.warmed hW', X.limits, X.bytes, X.same.trans (hsame.setVm s.vm)⟩,
      ⟨g, mk, s₂, L, E, ce, rfl, rfl, hx, hce, hcv, hcl, rfl, hL, rfl, rfl⟩, ?_⟩
    show Steps p.tables e below _ (((({ U with heap := s₂.heap, slotsUsed := s₂.slotsUsed } : State).setVm s₂.vm).setTop g).pushFrame (.throwing q))
    rw [← hs₂]
    exact hsteps
end Payer
section Calls
variable {p : Program} {l : Launch} {e : Env} {R : Room} {s : State} {m : MethodId} {args : Array Value} {below : List Frame} {meth : Method} {c : Code} {T : State} {locs : List Loc} {cells slots : Nat}
theorem vx_callV (X : Stand p l e R s m args below meth c T locs cells slots) (hexec : p.tables.exec = Jvm.exec) {own C : String} {index : Nat} {y : MethodName} {bytes : ByteArray} {maxL : Nat} {ret : Option FieldType}
    (hown : s.vm.findClass own = some m.cls) (hlink : (Cond.methodLink own index y).before args s = true) (hinst : (Cond.instanceMethod y).before args s = true) (hsel : (Cond.selects C y y).before args s = true)
    (hcode : (Cond.code y bytes maxL ret).before args s = true) (hy : y.cls ≠ "java/lang/invoke/MethodHandle" ∧ y.cls ≠ "java/lang/invoke/VarHandle")
    {W9 : Nat} {Pre : Pt → Array Value → Prop} {Post : Pt → Array Value → Option Value → Pt → Prop} {PostX : Pt → Array Value → Addr → Pt → Prop} (hK : vx_Back l R p e below s args y 3 W9 Pre Post PostX)
    {b : Addr} {cellB : Cell} (hcell : T.heap[b]? = some cellB) (hobj : cellB.vm.isStatics = false) (hcls : s.vm.findClass C = some cellB.cls)
    {g : JFrame} (hg : g.method = m) (hsize : g.locals.size = c.maxLocals) {argsL rest : List Value} (hlen : ∀ sig, parseMethodDescriptor y.desc = some sig → argsL.length = sig.parameters.length)
    (hstack : g.stack = argsL.reverse ++ .ref b :: rest) (hW : 2 * g.monitorRoom + (rest.map fun v => v.category).sum ≤ W9) (hdg : decode c.code g.pc = .ok (.invokevirtual index, 3))
    (hpre : ∀ vm₁, s.WarmedH vm₁ → Pre ⟨T.setVm vm₁, locs, cells, slots⟩ (Value.ref b :: argsL).toArray) :
    (∃ (v : Option Value) (vm₁ : Vm) (B : Pt), s.WarmedH vm₁ ∧ Stand p l e R s m args below meth c B.U B.locs B.cells B.slots ∧ Post ⟨T.setVm vm₁, locs, cells, slots⟩ (Value.ref b :: argsL).toArray v B ∧
      ∀ target, Steps p.tables e below (B.U.setTop { g with pc := g.pc + 3, stack := v.toList ++ rest }) target → Steps p.tables e below (T.setTop g) target) ∨
    (∃ (q : Addr) (vm₁ : Vm) (B : Pt), s.WarmedH vm₁ ∧ Stand p l e R s m args below meth c B.U B.locs B.cells B.slots ∧ PostX ⟨T.setVm vm₁, locs, cells, slots⟩ (Value.ref b :: argsL).toArray q B ∧
      Steps p.tables e below (T.setTop g) ((B.U.setTop { g with stack := rest }).pushFrame (.throwing q))) := by
  obtain ⟨mk, methM, hnamed, hmethM, hstM, habM⟩ := Cond.instanceMethod_spec hinst
  obtain ⟨methM', cM, hmethM', -, -, -, -, -, -, hsigM⟩ := Cond.code_spec hnamed hcode
  cases hmethM.symm.trans hmethM'
  obtain ⟨c2, r2, m2, q1, q2, q3, q4, kP, hkP, hkPi⟩ := Cond.selects_spec hsel
  cases hcls.symm.trans q1
  cases (State.methodFound?_of_named hnamed hy).symm.trans q2
  cases hnamed.symm.trans q3
  have hselP : selectMethod e.platform s.vm cellB.cls mk = .method mk := by rw [Launch.admits_selectMethod X.admits]; exact q4
  obtain ⟨vm₁, X₁, hstep₁⟩ := X.invokevirtual hexec hown hlink hnamed hmethM hstM hkP hkPi hy (a := b) (cell := cellB) hcell
    (fun z h => by rw [h] at hobj; cases hobj) hselP hmethM habM hkP hkPi (g := g) hg (argsL := argsL) (rest := rest) (hlen _ hsigM) hstack hdg
  rcases hK m meth c ⟨T.setVm vm₁, locs, cells, slots⟩ { g with stack := rest } (.invokevirtual index) mk (Value.ref b :: argsL).toArray X₁ hg hsize hdg hW (X₁.named hnamed) (hpre vm₁ X₁.warmed) with ⟨v, B, X', hpost, hsteps⟩ | ⟨q, B, X', hpost, hsteps⟩
  · exact Or.inl ⟨v, vm₁, B, X₁.warmed, X', hpost, fun target h => hstep₁ _ fun acts => by rw [doInvoke_state]; exact hsteps.trans h⟩
  · exact Or.inr ⟨q, vm₁, B, X₁.warmed, X', hpost, hstep₁ _ fun acts => by rw [doInvoke_state]; exact hsteps⟩
theorem vx_callS (X : Stand p l e R s m args below meth c T locs cells slots) (hexec : p.tables.exec = Jvm.exec) {own : String} {index : Nat} {y : MethodName} {bytes : ByteArray} {maxL : Nat} {ret : Option FieldType}
    (hown : s.vm.findClass own = some m.cls) (hlink : (Cond.methodLink own index y).before args s = true) (hstat : (Cond.static y).before args s = true) (hinit : (Cond.initialized y.cls).before args s = true)
    (hcode : (Cond.code y bytes maxL ret).before args s = true) (hy : y.cls ≠ "java/lang/invoke/MethodHandle" ∧ y.cls ≠ "java/lang/invoke/VarHandle")
    {W9 : Nat} {Pre : Pt → Array Value → Prop} {Post : Pt → Array Value → Option Value → Pt → Prop} {PostX : Pt → Array Value → Addr → Pt → Prop} (hK : vx_Back l R p e below s args y 3 W9 Pre Post PostX)
    {g : JFrame} (hg : g.method = m) (hsize : g.locals.size = c.maxLocals) {argsL rest : List Value} (hlen : ∀ sig, parseMethodDescriptor y.desc = some sig → argsL.length = sig.parameters.length)
    (hstack : g.stack = argsL.reverse ++ rest) (hW : 2 * g.monitorRoom + (rest.map fun v => v.category).sum ≤ W9) (hdg : decode c.code g.pc = .ok (.invokestatic index, 3))
    (hpre : ∀ vm₁, s.WarmedH vm₁ → Pre ⟨T.setVm vm₁, locs, cells, slots⟩ argsL.toArray) :
    (∃ (v : Option Value) (vm₁ : Vm) (B : Pt), s.WarmedH vm₁ ∧ Stand p l e R s m args below meth c B.U B.locs B.cells B.slots ∧ Post ⟨T.setVm vm₁, locs, cells, slots⟩ argsL.toArray v B ∧
      ∀ target, Steps p.tables e below (B.U.setTop { g with pc := g.pc + 3, stack := v.toList ++ rest }) target → Steps p.tables e below (T.setTop g) target) ∨
    (∃ (q : Addr) (vm₁ : Vm) (B : Pt), s.WarmedH vm₁ ∧ Stand p l e R s m args below meth c B.U B.locs B.cells B.slots ∧ PostX ⟨T.setVm vm₁, locs, cells, slots⟩ argsL.toArray q B ∧
      Steps p.tables e below (T.setTop g) ((B.U.setTop { g with stack := rest }).pushFrame (.throwing q))) := by
  obtain ⟨mk, hnamed⟩ := Cond.code_named hcode
  obtain ⟨methM, cM, hmethM, -, -, -, -, -, -, hsigM⟩ := Cond.code_spec hnamed hcode
  have hstatic : methM.isStatic = true := Cond.static_spec hnamed hmethM hstat
  obtain ⟨kP, hkP, -⟩ := className_of_methodNamed hnamed
  have hinitP : kP.init = .initialized := Cond.initialized_spec (findClass_of_methodNamed hnamed) hkP hinit
  obtain ⟨vm₁, X₁, hstep₁⟩ := X.invokestatic hexec hown hlink hnamed hmethM hstatic hkP hinitP hy (g := g) hg (argsL := argsL) (rest := rest) (hlen _ hsigM) hstack hdg
  rcases hK m meth c ⟨T.setVm vm₁, locs, cells, slots⟩ { g with stack := rest } (.invokestatic index) mk argsL.toArray X₁ hg hsize hdg hW (X₁.named hnamed) (hpre vm₁ X₁.warmed) with ⟨v, B, X', hpost, hsteps⟩ | ⟨q, B, X', hpost, hsteps⟩
  · exact Or.inl ⟨v, vm₁, B, X₁.warmed, X', hpost, fun target h => hstep₁ _ fun acts => by rw [doInvoke_state]; exact hsteps.trans h⟩
  · exact Or.inr ⟨q, vm₁, B, X₁.warmed, X', hpost, hstep₁ _ fun acts => by rw [doInvoke_state]; exact hsteps⟩
end Calls
theorem vx_cls {s : State} {T : State} {vm₁ : Vm} {E : String} {k : ClassId} (hW : s.WarmedH vm₁) (h : (T.setVm vm₁).vm.findClass E = some k) : s.vm.findClass E = some k := by
  have h1 : vm₁.findClass E = some k := h
  rw [hW.alike.findClass] at h1
  exact h1
/-- the method's frame g, with q thrown over it -/
def vx_W (p : Program) (l : Launch) (e : Env) (R : Room) (s : State) (m : MethodId) (args : Array Value) (below : List Frame) (meth : Method) (c : Code) (H : Heap) (locs : List Loc) (cells slots : Nat) (Q : State → Prop) (g : JFrame) (q : Addr) : Prop :=
  ∀ T : State, T.heap = H → Stand p l e R s m args below meth c T locs cells slots → ∃ t, Steps p.tables e below ((T.setTop g).pushFrame (.throwing q)) t ∧ Q t
def vx_Run (p : Program) (l : Launch) (e : Env) (R : Room) (s : State) (m : MethodId) (args : Array Value) (below : List Frame) (meth : Method) (c : Code) (H : Heap) (locs : List Loc) (cells slots mc ms : Nat) (g : JFrame) (rest : List Value) (Qa : State → Outcome → State → Prop) (XC : String → State → State → Prop) (free : Addr → Prop) : Prop :=
  ∀ T : State, T.heap = H → Stand p l e R s m args below meth c T locs cells slots →
    (∃ (v : Option Value) (st₀ t T' : State) (L : List Loc), st₀.heap = H ∧ Stand p l e R s m args below meth c T' (locs ++ L) (cells + mc) (slots + ms) ∧ (∀ q ∈ L, free q.base) ∧ T'.heap = t.heap ∧ T'.vm = t.vm ∧ Qa st₀ (.returned v) t ∧
      Goes p e below T g T' { g with pc := g.pc + 3, stack := v.toList ++ rest }) ∨
    (∃ (q : Addr) (st₀ t T' : State) (L : List Loc) (E : String) (ce : Cell), st₀.heap = H ∧ Stand p l e R s m args below meth c T' (locs ++ L) (cells + mc) (slots + ms) ∧ (∀ z ∈ L, free z.base) ∧ T'.heap = t.heap ∧ T'.vm = t.vm ∧ XC E st₀ t ∧ t.heap[q]? = some ce ∧ ce.vm = .none ∧ s.vm.findClass E = some ce.cls ∧
      Steps p.tables e below (T.setTop g) ((T'.setTop { g with stack := rest }).pushFrame (.throwing q)))
def vx_X {S : Type} (px : S → Prop) (B : String → S → State → Prop) (A : Nat → Prop) : String → State → State → Prop := fun E st t => ∃ u : S, px u ∧ B E u t ∧ va_F A st t
section Runs
variable {p : Program} {l : Launch} {e : Env} {R : Room} {s : State} {m : MethodId} {args : Array Value} {below : List Frame} {meth : Method} {c : Code} {H : Heap} {locs : List Loc} {cells slots : Nat}
variable {y : MethodName} {bytes cc : ByteArray} {maxL nL mc ms n index : Nat} {ret : Option FieldType} {ws : List Cond} {rm : Room} {Pc : Array Value → State → Prop} {Qc : Array Value → State → Outcome → State → Prop} {XC : String → State → State → Prop} {free : Addr → Prop} {Ts : List Cond} {own C : String} {b : Addr} {As rest : List Value} {g : JFrame}
theorem vx_callBack (cb : CallB R s args own index y bytes maxL ret ws rm mc ms n) (hM : vx_Met l y ws rm Pc Qc XC mc ms free) (hbl : FrameBlind Pc) : vx_Back l R p e below s args y 3 8 (PreOf R mc ms Pc) (PostOf Qc mc ms free) (vx_Post XC mc ms free) := by
  obtain ⟨hrc, hrs, hfr, hlo, hws, hcw, -, hini, -⟩ := cb
  exact vx_back (bytes := bytes) (maxL := maxL) (ret := ret) hM hbl hrc hrs hfr hlo hws hcw (fun a' U hW => word_at hW (Or.inl (by first | rfl | simp [Cond.onTables, Cond.keeps, Cond.steady])) hini)
theorem vx_runV (S : CallFix p m c cc nL s args Ts own) (hM : vx_Met l y ws rm Pc Qc XC mc ms free) (cw : CallW R s args own C index y bytes maxL ret ws rm mc ms n) (hp : PreV s H C b Pc As)
    (hg : g.method = m) (hn : As.length = n) (hsize : g.locals.size = nL) (hstack : g.stack = As.reverse ++ .ref b :: rest) (hW : 2 * g.monitorRoom + (rest.map fun v => v.category).sum ≤ 8) (hdg : decode cc g.pc = .ok (.invokevirtual index, 3)) (hf : cells + mc ≤ R.cells ∧ slots + ms ≤ R.slots) :
    vx_Run p l e R s m args below meth c H locs cells slots mc ms g rest (Qc (Value.ref b :: As).toArray) XC free := by
  have hK : vx_Back l R p e below s args y 3 8 (PreOf R mc ms Pc) (PostOf Qc mc ms free) (vx_Post XC mc ms free) := vx_callBack cw.1 hM hp.1
  obtain ⟨⟨-, -, -, -, -, -, hcode, -, hy, hlen, hl⟩, hin, hse⟩ := cw
  obtain ⟨hx, hb, hml, ho, -⟩ := S
  obtain ⟨-, ⟨cellB, hcB, hoB, hclB⟩, hPc⟩ := hp
  intro T hT X
  rcases vx_callV X hx (C := C) (bytes := bytes) (maxL := maxL) (ret := ret) ho hl hin hse hcode hy hK (by rw [hT]; exact hcB) hoB hclB hg (hsize.trans hml.symm) (argsL := As) (rest := rest) (fun sig h => hn.trans (hlen sig h)) hstack hW (by rw [hb]; exact hdg)
    (fun vm₁ hW₁ => ⟨hf.1, hf.2, hPc (T.setVm vm₁) hT hW₁⟩) with ⟨v, vm₁, ⟨U', l2, c2, s2⟩, hW₁, X', ⟨g', mk, t, L, e1, e2, hq, h1, hL, h2, h3⟩, st⟩ | ⟨q, vm₁, ⟨U', l2, c2, s2⟩, hW₁, X', ⟨g', mk, t, L, E, ce, e1, e2, hq, hce, hcv, hcl, h1, hL, h2, h3⟩, st⟩
  · dsimp only [Pt.U, Pt.locs, Pt.cells, Pt.slots] at X' e1 e2 h1 h2 h3 st
    subst h1; subst h2; subst h3
    exact Or.inl ⟨v, (T.setVm vm₁).calling g' mk (Value.ref b :: As).toArray, t, U', L, hT, X', hL, e1, e2, hq, st⟩
  · dsimp only [Pt.U, Pt.locs, Pt.cells, Pt.slots] at X' e1 e2 h1 h2 h3 st hcl
    subst h1; subst h2; subst h3
    exact Or.inr ⟨q, (T.setVm vm₁).calling g' mk (Value.ref b :: As).toArray, t, U', L, E, ce, hT, X', hL, e1, e2, hq, hce, hcv, vx_cls hW₁ hcl, st⟩
theorem vx_runS (S : CallFix p m c cc nL s args Ts own) (hM : vx_Met l y ws rm Pc Qc XC mc ms free) (cw : CallB R s args own index y bytes maxL ret ws rm mc ms n ∧ (Cond.static y).before args s = true) (hp : PreS s H Pc As)
    (hg : g.method = m) (hn : As.length = n) (hsize : g.locals.size = nL) (hstack : g.stack = As.reverse ++ rest) (hW : 2 * g.monitorRoom + (rest.map fun v => v.category).sum ≤ 8) (hdg : decode cc g.pc = .ok (.invokestatic index, 3)) (hf : cells + mc ≤ R.cells ∧ slots + ms ≤ R.slots) :
    vx_Run p l e R s m args below meth c H locs cells slots mc ms g rest (Qc As.toArray) XC free := by
  have hK : vx_Back l R p e below s args y 3 8 (PreOf R mc ms Pc) (PostOf Qc mc ms free) (vx_Post XC mc ms free) := vx_callBack cw.1 hM hp.1
  obtain ⟨⟨-, -, -, -, -, -, hcode, hini, hy, hlen, hl⟩, hstt⟩ := cw
  obtain ⟨hx, hb, hml, ho, -⟩ := S
  intro T hT X
  rcases vx_callS X hx (bytes := bytes) (maxL := maxL) (ret := ret) ho hl hstt hini hcode hy hK hg (hsize.trans hml.symm) (argsL := As) (rest := rest) (fun sig h => hn.trans (hlen sig h)) hstack hW (by rw [hb]; exact hdg)
    (fun vm₁ hW₁ => ⟨hf.1, hf.2, hp.2 (T.setVm vm₁) hT hW₁⟩) with ⟨v, vm₁, ⟨U', l2, c2, s2⟩, hW₁, X', ⟨g', mk, t, L, e1, e2, hq, h1, hL, h2, h3⟩, st⟩ | ⟨q, vm₁, ⟨U', l2, c2, s2⟩, hW₁, X', ⟨g', mk, t, L, E, ce, e1, e2, hq, hce, hcv, hcl, h1, hL, h2, h3⟩, st⟩
  · dsimp only [Pt.U, Pt.locs, Pt.cells, Pt.slots] at X' e1 e2 h1 h2 h3 st
    subst h1; subst h2; subst h3
    exact Or.inl ⟨v, (T.setVm vm₁).calling g' mk As.toArray, t, U', L, hT, X', hL, e1, e2, hq, st⟩
  · dsimp only [Pt.U, Pt.locs, Pt.cells, Pt.slots] at X' e1 e2 h1 h2 h3 st hcl
    subst h1; subst h2; subst h3
    exact Or.inr ⟨q, (T.setVm vm₁).calling g' mk As.toArray, t, U', L, E, ce, hT, X', hL, e1, e2, hq, hce, hcv, vx_cls hW₁ hcl, st⟩
end Runs
section Rows
variable {p : Program} {l : Launch} {e : Env} {R : Room} {s : State} {m : MethodId} {args : Array Value} {below : List Frame} {meth : Method} {c : Code} {H : Heap} {locs : List Loc} {cells slots : Nat} {Q : State → Prop}
variable {mc ms : Nat} {free : Addr → Prop} {A0 A1 : Nat → Prop} {H0 : Heap} {a : Array Value} {pc : Nat} {ls : Array Slot} {st0 rest : List Value}
theorem vx_keep {st₀ t T' : State} {L : List Loc} (h0 : st₀.heap = H) (e1 : T'.heap = t.heap) (hS : va_S A0 H0 H locs) (hA : ∀ q, q < H.size → A1 q → A0 q) (hf : ∀ q, free q → A0 q) (hL : ∀ q ∈ L, free q.base) (hF : va_F A1 st₀ t) :
    H.size ≤ T'.heap.size ∧ (∀ q : Nat, q < H.size → ¬ A1 q → T'.heap[q]? = H[q]?) ∧ va_S A0 H0 T'.heap (locs ++ L) := by
  obtain ⟨hz, hk⟩ := hF
  rw [h0] at hz hk
  exact ⟨by rw [e1]; exact hz, fun q h1 h2 => by rw [e1]; exact hk q h1 h2,
    ⟨Nat.le_trans hS.1 (by rw [e1]; exact hz), fun q h1 h2 => by rw [e1, hk q (Nat.lt_of_lt_of_le h1 hS.1) (fun z => h2 (hA q (Nat.lt_of_lt_of_le h1 hS.1) z))]; exact hS.2.1 q h1 h2, fun q hq => by
      rcases List.mem_append.mp hq with h | h
      · exact hS.2.2 q h
      · exact hf _ (hL q h)⟩⟩
theorem vx_calli {S SX : Type} {post : Int32 → S → Prop} {px : SX → Prop} {B : S → State → Prop} {BX : String → SX → State → Prop} {AX : Nat → Prop} (hr : vx_Run p l e R s m args below meth c H locs cells slots mc ms (F0 m pc ls st0) rest (va_Qi post B A1 a) (vx_X px BX AX) free) (hS : va_S A0 H0 H locs) (hA : ∀ q, q < H.size → A1 q → A0 q) (hf : ∀ q, free q → A0 q) (hAX : ∀ q, q < H.size → AX q → A0 q)
    (kx : ∀ (E : String) (ce : Cell) (q9 : Addr) (u : SX) (t : State) (H1 : Heap) (locs1 : List Loc), t.heap = H1 → s.vm.Alike t.vm → px u → BX E u t → H.size ≤ H1.size → (∀ q : Nat, q < H.size → ¬ AX q → H1[q]? = H[q]?) → va_S A0 H0 H1 locs1 → H1[q9]? = some ce → ce.vm = .none → s.vm.findClass E = some ce.cls → vx_W p l e R s m args below meth c H1 locs1 (cells + mc) (slots + ms) Q (F0 m pc ls rest) q9)
    (kk : ∀ (r : Int32) (u : S) (t : State) (H1 : Heap) (locs1 : List Loc), t.heap = H1 → s.vm.Alike t.vm → post r u → B u t → H.size ≤ H1.size → (∀ q : Nat, q < H.size → ¬ A1 q → H1[q]? = H[q]?) → va_S A0 H0 H1 locs1 → W p l e R s m args below meth c H1 locs1 (cells + mc) (slots + ms) Q (F0 m (pc + 3) ls (.int r :: rest))) : W p l e R s m args below meth c H locs cells slots Q (F0 m pc ls st0) := by
  intro T hT X
  rcases hr T hT X with ⟨v, st₀, t, T', L, h0, X', hL, e1, e2, ⟨⟨r, u, hv, hp, hb⟩, hF⟩, st⟩ | ⟨q, st₀, t, T', L, E, ce, h0, X', hL, e1, e2, ⟨u, hp, hb, hF⟩, hce, hcv, hcl, st⟩
  · cases hv
    obtain ⟨k1, k2, k3⟩ := vx_keep h0 e1 hS hA hf hL hF
    obtain ⟨t2, a1, b1⟩ := kk r u t T'.heap (locs ++ L) e1.symm (by rw [← e2]; exact X'.warmed.alike) hp hb k1 k2 k3 T' rfl X'
    exact ⟨t2, st t2 a1, b1⟩
  · obtain ⟨k1, k2, k3⟩ := vx_keep h0 e1 hS hAX hf hL hF
    obtain ⟨t2, a1, b1⟩ := kx E ce q u t T'.heap (locs ++ L) e1.symm (by rw [← e2]; exact X'.warmed.alike) hp hb k1 k2 k3 (by rw [e1]; exact hce) hcv hcl T' rfl X'
    exact ⟨t2, st.trans a1, b1⟩
theorem vx_calll {S SX : Type} {post : Int64 → S → Prop} {px : SX → Prop} {B : S → State → Prop} {BX : String → SX → State → Prop} {AX : Nat → Prop} (hr : vx_Run p l e R s m args below meth c H locs cells slots mc ms (F0 m pc ls st0) rest (va_Ql post B A1 a) (vx_X px BX AX) free) (hS : va_S A0 H0 H locs) (hA : ∀ q, q < H.size → A1 q → A0 q) (hf : ∀ q, free q → A0 q) (hAX : ∀ q, q < H.size → AX q → A0 q)
    (kx : ∀ (E : String) (ce : Cell) (q9 : Addr) (u : SX) (t : State) (H1 : Heap) (locs1 : List Loc), t.heap = H1 → s.vm.Alike t.vm → px u → BX E u t → H.size ≤ H1.size → (∀ q : Nat, q < H.size → ¬ AX q → H1[q]? = H[q]?) → va_S A0 H0 H1 locs1 → H1[q9]? = some ce → ce.vm = .none → s.vm.findClass E = some ce.cls → vx_W p l e R s m args below meth c H1 locs1 (cells + mc) (slots + ms) Q (F0 m pc ls rest) q9)
    (kk : ∀ (r : Int64) (u : S) (t : State) (H1 : Heap) (locs1 : List Loc), t.heap = H1 → s.vm.Alike t.vm → post r u → B u t → H.size ≤ H1.size → (∀ q : Nat, q < H.size → ¬ A1 q → H1[q]? = H[q]?) → va_S A0 H0 H1 locs1 → W p l e R s m args below meth c H1 locs1 (cells + mc) (slots + ms) Q (F0 m (pc + 3) ls (.long r :: rest))) : W p l e R s m args below meth c H locs cells slots Q (F0 m pc ls st0) := by
  intro T hT X
  rcases hr T hT X with ⟨v, st₀, t, T', L, h0, X', hL, e1, e2, ⟨⟨r, u, hv, hp, hb⟩, hF⟩, st⟩ | ⟨q, st₀, t, T', L, E, ce, h0, X', hL, e1, e2, ⟨u, hp, hb, hF⟩, hce, hcv, hcl, st⟩
  · cases hv
    obtain ⟨k1, k2, k3⟩ := vx_keep h0 e1 hS hA hf hL hF
    obtain ⟨t2, a1, b1⟩ := kk r u t T'.heap (locs ++ L) e1.symm (by rw [← e2]; exact X'.warmed.alike) hp hb k1 k2 k3 T' rfl X'
    exact ⟨t2, st t2 a1, b1⟩
  · obtain ⟨k1, k2, k3⟩ := vx_keep h0 e1 hS hAX hf hL hF
    obtain ⟨t2, a1, b1⟩ := kx E ce q u t T'.heap (locs ++ L) e1.symm (by rw [← e2]; exact X'.warmed.alike) hp hb k1 k2 k3 (by rw [e1]; exact hce) hcv hcl T' rfl X'
    exact ⟨t2, st.trans a1, b1⟩
theorem vx_callf {S SX : Type} {post : UInt32 → S → Prop} {px : SX → Prop} {B : S → State → Prop} {BX : String → SX → State → Prop} {AX : Nat → Prop} (hr : vx_Run p l e R s m args below meth c H locs cells slots mc ms (F0 m pc ls st0) rest (va_Qf post B A1 a) (vx_X px BX AX) free) (hS : va_S A0 H0 H locs) (hA : ∀ q, q < H.size → A1 q → A0 q) (hf : ∀ q, free q → A0 q) (hAX : ∀ q, q < H.size → AX q → A0 q)
    (kx : ∀ (E : String) (ce : Cell) (q9 : Addr) (u : SX) (t : State) (H1 : Heap) (locs1 : List Loc), t.heap = H1 → s.vm.Alike t.vm → px u → BX E u t → H.size ≤ H1.size → (∀ q : Nat, q < H.size → ¬ AX q → H1[q]? = H[q]?) → va_S A0 H0 H1 locs1 → H1[q9]? = some ce → ce.vm = .none → s.vm.findClass E = some ce.cls → vx_W p l e R s m args below meth c H1 locs1 (cells + mc) (slots + ms) Q (F0 m pc ls rest) q9)
    (kk : ∀ (r : UInt32) (u : S) (t : State) (H1 : Heap) (locs1 : List Loc), t.heap = H1 → s.vm.Alike t.vm → post r u → B u t → H.size ≤ H1.size → (∀ q : Nat, q < H.size → ¬ A1 q → H1[q]? = H[q]?) → va_S A0 H0 H1 locs1 → W p l e R s m args below meth c H1 locs1 (cells + mc) (slots + ms) Q (F0 m (pc + 3) ls (.float r :: rest))) : W p l e R s m args below meth c H locs cells slots Q (F0 m pc ls st0) := by
  intro T hT X
  rcases hr T hT X with ⟨v, st₀, t, T', L, h0, X', hL, e1, e2, ⟨⟨r, u, hv, hp, hb⟩, hF⟩, st⟩ | ⟨q, st₀, t, T', L, E, ce, h0, X', hL, e1, e2, ⟨u, hp, hb, hF⟩, hce, hcv, hcl, st⟩
  · cases hv
    obtain ⟨k1, k2, k3⟩ := vx_keep h0 e1 hS hA hf hL hF
    obtain ⟨t2, a1, b1⟩ := kk r u t T'.heap (locs ++ L) e1.symm (by rw [← e2]; exact X'.warmed.alike) hp hb k1 k2 k3 T' rfl X'
    exact ⟨t2, st t2 a1, b1⟩
  · obtain ⟨k1, k2, k3⟩ := vx_keep h0 e1 hS hAX hf hL hF
    obtain ⟨t2, a1, b1⟩ := kx E ce q u t T'.heap (locs ++ L) e1.symm (by rw [← e2]; exact X'.warmed.alike) hp hb k1 k2 k3 (by rw [e1]; exact hce) hcv hcl T' rfl X'
    exact ⟨t2, st.trans a1, b1⟩
theorem vx_calld {S SX : Type} {post : UInt64 → S → Prop} {px : SX → Prop} {B : S → State → Prop} {BX : String → SX → State → Prop} {AX : Nat → Prop} (hr : vx_Run p l e R s m args below meth c H locs cells slots mc ms (F0 m pc ls st0) rest (va_Qd post B A1 a) (vx_X px BX AX) free) (hS : va_S A0 H0 H locs) (hA : ∀ q, q < H.size → A1 q → A0 q) (hf : ∀ q, free q → A0 q) (hAX : ∀ q, q < H.size → AX q → A0 q)
    (kx : ∀ (E : String) (ce : Cell) (q9 : Addr) (u : SX) (t : State) (H1 : Heap) (locs1 : List Loc), t.heap = H1 → s.vm.Alike t.vm → px u → BX E u t → H.size ≤ H1.size → (∀ q : Nat, q < H.size → ¬ AX q → H1[q]? = H[q]?) → va_S A0 H0 H1 locs1 → H1[q9]? = some ce → ce.vm = .none → s.vm.findClass E = some ce.cls → vx_W p l e R s m args below meth c H1 locs1 (cells + mc) (slots + ms) Q (F0 m pc ls rest) q9)
    (kk : ∀ (r : UInt64) (u : S) (t : State) (H1 : Heap) (locs1 : List Loc), t.heap = H1 → s.vm.Alike t.vm → post r u → B u t → H.size ≤ H1.size → (∀ q : Nat, q < H.size → ¬ A1 q → H1[q]? = H[q]?) → va_S A0 H0 H1 locs1 → W p l e R s m args below meth c H1 locs1 (cells + mc) (slots + ms) Q (F0 m (pc + 3) ls (.double r :: rest))) : W p l e R s m args below meth c H locs cells slots Q (F0 m pc ls st0) := by
  intro T hT X
  rcases hr T hT X with ⟨v, st₀, t, T', L, h0, X', hL, e1, e2, ⟨⟨r, u, hv, hp, hb⟩, hF⟩, st⟩ | ⟨q, st₀, t, T', L, E, ce, h0, X', hL, e1, e2, ⟨u, hp, hb, hF⟩, hce, hcv, hcl, st⟩
  · cases hv
    obtain ⟨k1, k2, k3⟩ := vx_keep h0 e1 hS hA hf hL hF
    obtain ⟨t2, a1, b1⟩ := kk r u t T'.heap (locs ++ L) e1.symm (by rw [← e2]; exact X'.warmed.alike) hp hb k1 k2 k3 T' rfl X'
    exact ⟨t2, st t2 a1, b1⟩
  · obtain ⟨k1, k2, k3⟩ := vx_keep h0 e1 hS hAX hf hL hF
    obtain ⟨t2, a1, b1⟩ := kx E ce q u t T'.heap (locs ++ L) e1.symm (by rw [← e2]; exact X'.warmed.alike) hp hb k1 k2 k3 (by rw [e1]; exact hce) hcv hcl T' rfl X'
    exact ⟨t2, st.trans a1, b1⟩
theorem vx_callv {S SX : Type} {post : S → Prop} {px : SX → Prop} {B : S → State → Prop} {BX : String → SX → State → Prop} {AX : Nat → Prop} (hr : vx_Run p l e R s m args below meth c H locs cells slots mc ms (F0 m pc ls st0) rest (va_Qv post B A1 a) (vx_X px BX AX) free) (hS : va_S A0 H0 H locs) (hA : ∀ q, q < H.size → A1 q → A0 q) (hf : ∀ q, free q → A0 q) (hAX : ∀ q, q < H.size → AX q → A0 q)
    (kx : ∀ (E : String) (ce : Cell) (q9 : Addr) (u : SX) (t : State) (H1 : Heap) (locs1 : List Loc), t.heap = H1 → s.vm.Alike t.vm → px u → BX E u t → H.size ≤ H1.size → (∀ q : Nat, q < H.size → ¬ AX q → H1[q]? = H[q]?) → va_S A0 H0 H1 locs1 → H1[q9]? = some ce → ce.vm = .none → s.vm.findClass E = some ce.cls → vx_W p l e R s m args below meth c H1 locs1 (cells + mc) (slots + ms) Q (F0 m pc ls rest) q9)
    (kk : ∀ (u : S) (t : State) (H1 : Heap) (locs1 : List Loc), t.heap = H1 → s.vm.Alike t.vm → post u → B u t → H.size ≤ H1.size → (∀ q : Nat, q < H.size → ¬ A1 q → H1[q]? = H[q]?) → va_S A0 H0 H1 locs1 → W p l e R s m args below meth c H1 locs1 (cells + mc) (slots + ms) Q (F0 m (pc + 3) ls (rest))) : W p l e R s m args below meth c H locs cells slots Q (F0 m pc ls st0) := by
  intro T hT X
  rcases hr T hT X with ⟨v, st₀, t, T', L, h0, X', hL, e1, e2, ⟨⟨u, hv, hp, hb⟩, hF⟩, st⟩ | ⟨q, st₀, t, T', L, E, ce, h0, X', hL, e1, e2, ⟨u, hp, hb, hF⟩, hce, hcv, hcl, st⟩
  · cases hv
    obtain ⟨k1, k2, k3⟩ := vx_keep h0 e1 hS hA hf hL hF
    obtain ⟨t2, a1, b1⟩ := kk u t T'.heap (locs ++ L) e1.symm (by rw [← e2]; exact X'.warmed.alike) hp hb k1 k2 k3 T' rfl X'
    exact ⟨t2, st t2 a1, b1⟩
  · obtain ⟨k1, k2, k3⟩ := vx_keep h0 e1 hS hAX hf hL hF
    obtain ⟨t2, a1, b1⟩ := kx E ce q u t T'.heap (locs ++ L) e1.symm (by rw [← e2]; exact X'.warmed.alike) hp hb k1 k2 k3 (by rw [e1]; exact hce) hcv hcl T' rfl X'
    exact ⟨t2, st.trans a1, b1⟩
/-- caught by the row x of this method's table; the rows ahead don't take it -/
theorem vx_catch {own name : String} {E : String} {ce : Cell} {q : Addr} (hown : s.vm.findClass own = some m.cls) (pre : List ExceptionTableEntry) (x : ExceptionTableEntry) (suf : List ExceptionTableEntry) (hsplit : c.exceptionTable.toList = pre ++ x :: suf)
    (hpass : ∀ z ∈ pre, covers z pc = false ∨ (z.catchType ≠ 0 ∧ ∃ nm : String, (Cond.classLink own z.catchType nm).before args s = true ∧ va_Nc E nm s)) (hx : covers x pc = true) (h0 : x.catchType ≠ 0)
    (hlink : (Cond.classLink own x.catchType name).before args s = true) (hcast : (Cond.castable E name).before args s = true) (hcell : H[q]? = some ce) (hv : ce.vm = .none) (hcl : s.vm.findClass E = some ce.cls)
    (kk : W p l e R s m args below meth c H locs cells slots Q (F0 m x.handlerPc ls [.ref q])) : vx_W p l e R s m args below meth c H locs cells slots Q (F0 m pc ls rest) q := by
  intro T hT X
  have hpl : e.platform.magicAccessors = ({} : Platform).magicAccessors := by rw [X.admits.platform]
  obtain ⟨c3, c4, hc3, hc4, hasg⟩ := Cond.castable_spec hcast
  cases Option.some.inj (hc3.symm.trans hcl)
  obtain ⟨c5, hc5, hcl5⟩ := Cond.classLink_spec hown hlink e.platform hpl
  cases Option.some.inj (hc4.symm.trans hc5)
  obtain ⟨vm', X', st⟩ := X.thenCaughtThrough q (g := F0 m pc ls rest) rfl (Steps.refl _) (by rw [hT]; exact hcell) (by rw [hv]; rfl) (by obtain ⟨k9, h9, -⟩ := Vm.findClass_spec hcl; exact ⟨k9, h9⟩) pre x suf hsplit
    (fun z hz => by
      rcases hpass z hz with h | ⟨hz0, nm, hl1, hn1⟩
      · exact Or.inl h
      · obtain ⟨c6, hc6, hcl6⟩ := Cond.classLink_spec hown hl1 e.platform hpl
        obtain ⟨a8, b8, h1, h2, h3⟩ := hn1
        cases Option.some.inj (h1.symm.trans hcl)
        cases Option.some.inj (h2.symm.trans hc6)
        exact Or.inr ⟨hz0, _, hcl6, h3⟩) hx (Or.inr ⟨h0, c4, hcl5, hasg⟩)
  obtain ⟨t, a1, b1⟩ := kk (T.setVm vm') hT X'
  exact ⟨t, st.trans a1, b1⟩
end Rows
section Ends
variable {p : Program} {l : Launch} {e : Env} {R : Room} {s : State} {m : MethodId} {args : Array Value} {below : List Frame} {meth : Method} {c : Code} {H : Heap} {locs : List Loc} {cells slots : Nat} {Q : State → Prop}
variable {mc ms : Nat} {free : Addr → Prop} {A0 A1 : Nat → Prop} {H0 : Heap} {a : Array Value} {ls : Array Slot} {st0 rest : List Value}
variable {Qc : Array Value → State → Outcome → State → Prop} {XC : String → State → State → Prop}
/-- what a body that may throw owes at its end -/
def vx_MQ (below : List Frame) (Qc : Array Value → State → Outcome → State → Prop) (XC : String → State → State → Prop) (a : Array Value) (s : State) (mc ms : Nat) (free : Addr → Prop) : State → Prop := fun t =>
  ∃ o, t.status = .running ∧ Ended t below o ∧ vx_Q Qc XC mc ms free a s o t
theorem vx_ret {g : JFrame} {mc ms : Nat} (k : W p l e R s m args below meth c H locs cells slots (MQ below Qc args s mc ms free) g) : W p l e R s m args below meth c H locs cells slots (vx_MQ below Qc XC args s mc ms free) g := by
  intro T hT X
  obtain ⟨t, a1, o, b1, b2, b3, b4⟩ := k T hT X
  exact ⟨t, a1, o, b1, b2, Or.inl ⟨b3, b4⟩⟩
/-- not caught here: it goes on to the caller -/
theorem vx_widen {g : JFrame} {q : Addr} {k n : Nat} (h1 : cells ≤ k) (h2 : slots ≤ n) (kk : vx_W p l e R s m args below meth c H locs k n Q g q) : vx_W p l e R s m args below meth c H locs cells slots Q g q := fun T hT X => kk T hT (stand_widen X h1 h2)
theorem vx_out {pc : Nat} {E : String} {ce : Cell} {q : Addr} {mc ms : Nat} (hout : ∀ x ∈ c.exceptionTable.toList, covers x pc = false) (hlocks : meth.locks = false) (hcell : H[q]? = some ce) (hv : ce.vm = .none) (hcl : s.vm.findClass E = some ce.cls)
    (hx : ∀ t : State, t.heap = H → s.vm.Alike t.vm → XC E s t) (hf : ∀ z ∈ locs, free z.base) (hc : cells ≤ mc) (hs : slots ≤ ms) :
    vx_W p l e R s m args below meth c H locs cells slots (vx_MQ below Qc XC args s mc ms free) (F0 m pc ls rest) q := by
  intro T hT X
  obtain ⟨st1, hrun, hend, hW, hsm⟩ := X.leaveThrown q (g := F0 m pc ls rest) rfl rfl rfl hout hlocks
  have hcell9 : (T.setFrames (.throwing q :: below)).heap[q]? = some ce := by
    show T.heap[q]? = some ce
    rw [hT]; exact hcell
  exact ⟨_, st1, .threw q, hrun, hend, Or.inr ⟨q, rfl, E, ce, locs, hx _ hT hW.alike, hcell9, hv, hcl, hW, hsm.mono hc hs, hf⟩⟩
theorem vx_frame {U : State} {k n : Nat} (h : s.sameButNew ({ U with vm := s.vm } : State) locs k n) : s.heap.size ≤ U.heap.size ∧ ∀ q : Nat, q < s.heap.size → (∀ z ∈ locs, z.base ≠ q) → U.heap[q]? = s.heap[q]? := by
  obtain ⟨-, h2, -, -, -, h6⟩ := h
  refine ⟨h2, fun q hq hz => ?_⟩
  obtain ⟨c9, e1, e2, e3, e4⟩ := h6 q _ (Array.getElem?_eq_getElem hq)
  have hs : c9.slots = (s.heap[q]).slots := Array.ext_getElem? fun i => e4 i fun hm => hz _ hm rfl
  have h9 : c9 = s.heap[q] := by
    rw [hs] at e2
    exact e2
  have e5 : U.heap[q]? = some c9 := e1
  rw [e5, h9, Array.getElem?_eq_getElem hq]
/-- the words of a throw but the four that speak of the heap -/
def vx_no (w : Cond) : Bool := decide (w ≠ .isRef (.static Bundle.tN "UNASSIGNED_STACK" Bundle.steD)) && decide (w ≠ .isRef (.static Bundle.tN "SUPPRESSED_SENTINEL" Bundle.listD)) && decide (w ≠ .laysStatic Bundle.tN "UNASSIGNED_STACK" Bundle.steD) && decide (w ≠ .laysStatic Bundle.tN "SUPPRESSED_SENTINEL" Bundle.listD)
def vx_at0 (own : String) (ic : Nat) (X : String) (names : List String) : List Cond := (Bundle.ownAtoms0 own ic X names).filter vx_no
def vx_atS (own : String) (ic : Nat) (X : String) (names : List String) : List Cond := (Bundle.ownAtoms own ic X names).filter vx_no
/-- a word that the tables alone decide, or a good one -/
def vx_ot (w : Cond) : Bool := w.onTables || goodWord w
theorem vx_ot_at {args a' : Array Value} {s U : State} {w : Cond} (hW : s.WarmedH U.vm) (hvm : s.vm = U.vm) (hg : vx_ot w = true) (h : w.before args s = true) : w.before a' U = true := by
  simp only [vx_ot, Bool.or_eq_true] at hg
  rcases hg with hg | hg
  · exact va_tabs hg hvm h
  · exact word_at hW (good_of_word hg) h
/-- a list's words: the good ones out of the method's own list, the others by premises of their own -/
theorem vx_hat {args : Array Value} {s : State} {L B : List Cond} (h1 : ∀ w ∈ L.filter goodWord, w.before args s = true) (h2 : ∀ w ∈ L.filter (fun w => !goodWord w), w ∈ B) (h3 : ∀ w ∈ B, w.before args s = true) : ∀ w ∈ L, w.before args s = true := by
  intro w hw
  by_cases g : goodWord w = true
  · exact h1 w (List.mem_filter.mpr ⟨hw, g⟩)
  · refine h3 w (h2 w (List.mem_filter.mpr ⟨hw, ?_⟩))
    show (!goodWord w) = true
    cases hgw : goodWord w
    · rfl
    · exact absurd hgw g
theorem vx_c {args : Array Value} {s : State} {w : Cond} {B : List Cond} (h : w.before args s = true) (t : ∀ w ∈ B, w.before args s = true) : ∀ w' ∈ w :: B, w'.before args s = true := fun w' h' => (List.mem_cons.mp h').elim (fun e => by rw [e]; exact h) (t w')
theorem vx_n {args : Array Value} {s : State} : ∀ w ∈ ([] : List Cond), w.before args s = true := fun _ h => nomatch h
theorem vx_own {args : Array Value} {s : State} {L : List Cond} (h1 : ∀ w ∈ L.filter vx_no, w.before args s = true)
    (hU : (Cond.isRef (.static Bundle.tN "UNASSIGNED_STACK" Bundle.steD)).before args s = true) (hN : (Cond.isRef (.static Bundle.tN "SUPPRESSED_SENTINEL" Bundle.listD)).before args s = true)
    (lU : (Cond.laysStatic Bundle.tN "UNASSIGNED_STACK" Bundle.steD).before args s = true) (lN : (Cond.laysStatic Bundle.tN "SUPPRESSED_SENTINEL" Bundle.listD).before args s = true) : ∀ w ∈ L, w.before args s = true := by
  intro w hw
  by_cases e1 : w = .isRef (.static Bundle.tN "UNASSIGNED_STACK" Bundle.steD)
  · rw [e1]; exact hU
  · by_cases e2 : w = .isRef (.static Bundle.tN "SUPPRESSED_SENTINEL" Bundle.listD)
    · rw [e2]; exact hN
    · by_cases e3 : w = .laysStatic Bundle.tN "UNASSIGNED_STACK" Bundle.steD
      · rw [e3]; exact lU
      · by_cases e4 : w = .laysStatic Bundle.tN "SUPPRESSED_SENTINEL" Bundle.listD
        · rw [e4]; exact lN
        · exact h1 w (List.mem_filter.mpr ⟨hw, by unfold vx_no; rw [decide_eq_true e1, decide_eq_true e2, decide_eq_true e3, decide_eq_true e4]; rfl⟩)
/-- where a static field lies, its class's statics cell in H -/
def vx_L (C n d : String) (A : Nat → Prop) (U : State) (H : Heap) : Prop := ∃ (c : ClassId) (k : Class) (i : Nat) (f : Field) (a : Nat) (cell : Cell), U.vm.findClass C = some c ∧ U.fieldFound? C n d = some (c, k, i, f) ∧ f.isStatic = true ∧ k.statics = some a ∧ H[a]? = some cell ∧ cell.vm.isStatics = true ∧ cell.cls = c ∧ f.slot < cell.slots.size ∧ k.staticTypes[f.slot]? = some f.type ∧ ¬ A a
theorem vx_L.moved {C n d : String} {A : Nat → Prop} {u U : State} {H : Heap} (hvm : u.vm.Alike U.vm) (h : vx_L C n d A u H) : vx_L C n d A U H := by
  obtain ⟨c, k, i, f, a, cell, h1, h2, h3, h4, h5, h6, h7, h8, h9, h10⟩ := h
  obtain ⟨k', hi', he⟩ := State.fieldFound?_setVm hvm h2
  exact ⟨c, k', i, f, a, cell, by rw [hvm.findClass]; exact h1, hi', h3, by rw [he]; exact h4, h5, h6, h7, h8, by rw [he]; exact h9, h10⟩
theorem vx_L.kept {C n d : String} {A : Nat → Prop} {U : State} {H H1 : Heap} (h : vx_L C n d A U H) (hq : ∀ a : Nat, a < H.size → ¬ A a → H1[a]? = H[a]?) : vx_L C n d A U H1 := by
  obtain ⟨c, k, i, f, a, cell, h1, h2, h3, h4, h5, h6, h7, h8, h9, h10⟩ := h
  exact ⟨c, k, i, f, a, cell, h1, h2, h3, h4, by rw [hq a (Array.getElem?_eq_some_iff.mp h5).1 h10]; exact h5, h6, h7, h8, h9, h10⟩
theorem vx_L.narrow {C n d : String} {A B : Nat → Prop} {U : State} {H : Heap} (h : vx_L C n d A U H) (hAB : ∀ q, B q → A q) : vx_L C n d B U H := by
  obtain ⟨c, k, i, f, a, cell, h1, h2, h3, h4, h5, h6, h7, h8, h9, h10⟩ := h
  exact ⟨c, k, i, f, a, cell, h1, h2, h3, h4, h5, h6, h7, h8, h9, fun z => h10 (hAB _ z)⟩
theorem vx_L.word {C n d : String} {A : Nat → Prop} {s : State} {args : Array Value} (h : vx_L C n d A s s.heap) : (Cond.laysStatic C n d).before args s = true := by
  obtain ⟨c, k, i, f, a, cell, h1, h2, h3, h4, h5, h6, h7, h8, h9, -⟩ := h
  show (Cond.laysStatic C n d).holds args s none s [] = true
  exact Cond.laysStatic_of h1 h2 h3 h4 h5 h6 h7 h8 h9
/-- .. and what it holds: null or some reference -/
def vx_Zq (C n d : String) (A : Nat → Prop) (U : State) (H : Heap) : Prop := va_Zq C n d A U H ∧ vx_L C n d A U H
theorem vx_Zq.moved {C n d : String} {A : Nat → Prop} {u U : State} {H : Heap} (hvm : u.vm.Alike U.vm) (h : vx_Zq C n d A u H) : vx_Zq C n d A U H := ⟨va_Zq.moved hvm h.1, vx_L.moved hvm h.2⟩
theorem vx_Zq.kept {C n d : String} {A : Nat → Prop} {U : State} {H H1 : Heap} (h : vx_Zq C n d A U H) (hq : ∀ a : Nat, a < H.size → ¬ A a → H1[a]? = H[a]?) : vx_Zq C n d A U H1 := ⟨va_Zq.kept h.1 hq, vx_L.kept h.2 hq⟩
theorem vx_Zq.narrow {C n d : String} {A B : Nat → Prop} {U : State} {H : Heap} (h : vx_Zq C n d A U H) (hAB : ∀ q, B q → A q) : vx_Zq C n d B U H := ⟨va_Zq.narrow h.1 hAB, vx_L.narrow h.2 hAB⟩
theorem vx_Zqof {args : Array Value} {s : State} {C n d : String} {A : Nat → Prop} (hl : (Cond.laysStatic C n d).before args s = true) (hini : (Cond.initialized C).before args s = true) (h : (Cond.isRef (.static C n d)).before args s = true) (hA : ∀ a : Nat, a < s.heap.size → ¬ A a) : vx_Zq C n d A s s.heap := by
  refine ⟨va_Zqof hl hini h hA, ?_⟩
  obtain ⟨c, k, i, f, a, cell, h1, h2, h3, h4, h5, h6, h7, h8, h9⟩ := Cond.laysStatic_spec hl
  exact ⟨c, k, i, f, a, cell, h1, h2, h3, h4, h5, h6, h7, h8, h9, hA a (Array.getElem?_eq_some_iff.mp h5).1⟩
theorem vx_isRef {C n d : String} {v : Value} {A : Nat → Prop} {s : State} {args : Array Value} (h : va_Z C n d v A s s.heap) (hv : v.isRef = true) : (Cond.isRef (.static C n d)).before args s = true := by
  obtain ⟨cf, kf, fi, f, a, cell, h1, h2, h3, h4, h5, h6, h7, -⟩ := h
  have he : (Term.static C n d).eval args s none [] s = some v := by
    simp [Term.eval, State.fieldNamed?, h1, h2, h4, h5, h6, h7]
  simp only [Cond.before, Cond.holds, Cond.value, he]
  cases v <;> simp_all [Value.isRef]
theorem vx_isRefq {C n d : String} {A : Nat → Prop} {s : State} {args : Array Value} (h : va_Zq C n d A s s.heap) : (Cond.isRef (.static C n d)).before args s = true := by
  rcases h with h | ⟨t, h⟩
  · exact vx_isRef h rfl
  · exact vx_isRef h rfl
/-- the same frame, seen from here: as if the method were called anew in this heap -/
theorem vx_rebase {T : State} (X : Stand p l e R s m args below meth c T locs cells slots) {R' : Room} (hf : R'.frames ≤ R.frames) (hl : R'.locals ≤ R.locals) (hc : cells + R'.cells ≤ R.cells) (hs : slots + R'.slots ≤ R.slots) :
    Stand p l e R' ((T.setVm s.vm).setFrames (.invoking m args :: below)) m args below meth c T [] 0 0 := by
  have htop : (T.setVm s.vm).topJava?.isSome := X.here.top
  have hF : ((T.setVm s.vm).setFrames (.invoking m args :: below)).frames = .invoking m args :: below := State.frames_setFrames _ (State.cur_lt_of_top htop)
  obtain ⟨g₀, hg0⟩ := Option.isSome_iff_exists.mp htop
  obtain ⟨r, hr⟩ := State.topJava?_eq_some.mp hg0
  have hl9 : e.platform.stackLimits (T.setVm s.vm).me = e.platform.stackLimits s.me := X.limits
  have hb9 : (T.setVm s.vm).me.stackBytes = s.me.stackBytes := X.bytes
  refine ⟨X.admits, X.cas, X.clock, hF, ?_, X.hears, X.method, X.code, X.here, X.tail, X.warmed, ?_, ?_, ?_⟩
  · have h := X.room
    have hU : ((T.setVm s.vm).setFrames (.invoking m args :: below)).localsInUse = s.localsInUse := by
      rw [State.localsInUse_invoking hF (meth := meth) (c := c) X.method X.code, State.localsInUse_invoking X.frames X.method X.code]
    simp only [State.hasRoom, Bool.and_eq_true, decide_eq_true_eq] at h ⊢
    obtain ⟨⟨⟨⟨h1, h2, h3, h4, h5, h6⟩, h7⟩, h8⟩, h9⟩ := h
    rw [X.frames, List.length_cons] at h2 h3
    have q1 := X.heapSize
    have q2 := X.used
    simp only [hF, hU, List.length_cons, State.stackLimits_setFrames, State.stackBytes_setFrames, hl9, hb9]
    refine ⟨⟨⟨⟨by omega, by omega, by omega, by omega, by omega, h6⟩, ?_⟩, ?_⟩, X.book⟩
    · show T.heap.size + R'.cells ≤ e.platform.maxCells
      omega
    · show T.slotsUsed + R'.slots ≤ e.platform.maxSlots
      omega
  · rw [State.stackLimits_setFrames]; rfl
  · rw [State.stackBytes_setFrames]; rfl
  · refine ⟨?_, Nat.le_refl _, Nat.le_refl _, ?_, ?_, fun a c9 h9 => ⟨c9, h9, rfl, rfl, fun _ _ => rfl⟩⟩
    · obtain ⟨t, ht, -⟩ := State.frames_cons hr
      show T.setVm s.vm = { ((T.setVm s.vm).setFrames (.invoking m args :: below)).setFrames (T.setVm s.vm).frames with heap := T.heap, slotsUsed := T.slotsUsed }
      rw [State.setFrames_setFrames, State.setFrames_self ht]
      rfl
    · show T.slotsUsed = T.slotsUsed + ((T.heap.toList.drop T.heap.size).map (·.slots.size)).sum
      rw [List.drop_eq_nil_of_le (Nat.le_of_eq Array.length_toList)]
      rfl
    · show ((T.heap.toList.drop T.heap.size).map (·.slots.size)).sum ≤ 0
      rw [List.drop_eq_nil_of_le (Nat.le_of_eq Array.length_toList)]
      exact Nat.le_refl _
/-- 'throw new E()': new; dup; invokespecial; athrow -/
theorem vx_throw0 {cc : ByteArray} {pc : Nat} (hexec : p.tables.exec = Jvm.exec) (hb : c.code = cc) (hl : l.stackTraces = false) {own cls : String} {names : List String} {ik ic mc ms : Nat} {A : Nat → Prop}
    (hown : s.vm.findClass own = some m.cls) (hcls : Bundle.fit cls = true) (hnames : ∀ n ∈ names, Bundle.fit n = true)
    (hk : (Cond.classLink own ik cls).before args s = true) (hini : (Cond.initialized cls).before args s = true) (hat : ∀ w ∈ vx_at0 own ic cls names, w.before args s = true)
    (hgood : ∀ w ∈ Cond.classLink own ik cls :: Cond.initialized cls :: vx_at0 own ic cls names, vx_ot w = true)
    (hU : vx_Zq Bundle.tN "UNASSIGNED_STACK" Bundle.steD A s s.heap) (hN : vx_Zq Bundle.tN "SUPPRESSED_SENTINEL" Bundle.listD A s s.heap) (hS : va_S A s.heap H locs) (hsize : ls.size = c.maxLocals)
    (d0 : decode cc pc = .ok (.new ik, 3)) (d3 : decode cc (pc + 3) = .ok (.dup, 1)) (d4 : decode cc (pc + 4) = .ok (.invokespecial ic, 3)) (d7 : decode cc (pc + 7) = .ok (.athrow, 1))
    (hout : ∀ x ∈ c.exceptionTable.toList, covers x (pc + 7) = false)
    (hRframes : names.length + 3 < R.frames) (hRlocals : (rest.map fun v => v.category).sum + (13 * (names.length + 1) + 42) ≤ R.locals) (hRcells : cells + 1 ≤ R.cells) (hRslots : slots + 6 ≤ R.slots) (hlocks : meth.locks = false)
    (hx : ∀ t : State, s.vm.Alike t.vm → H.size ≤ t.heap.size → (∀ q : Nat, q < H.size → t.heap[q]? = H[q]?) → XC cls s t)
    (hf : ∀ z ∈ locs, free z.base) (hc : cells + 1 ≤ mc) (hs : slots + 6 ≤ ms) :
    W p l e R s m args below meth c H locs cells slots (vx_MQ below Qc XC args s mc ms free) (F0 m pc ls rest) := by
  intro T hT X
  have htr : e.platform.stackTraces = false := (show e.platform.stackTraces = l.stackTraces by rw [X.admits.platform]).trans hl
  have Y := vx_rebase X (R' := { frames := R.frames, locals := R.locals, cells := 1, slots := 6 }) (Nat.le_refl _) (Nat.le_refl _) hRcells hRslots
  obtain ⟨s', hA⟩ : ∃ z, z = (T.setVm s.vm).setFrames (.invoking m args :: below) := ⟨_, rfl⟩
  rw [← hA] at Y
  have hvm : s'.vm = s.vm := by rw [hA]; rfl
  have hhp : s'.heap = H := by rw [hA]; exact hT
  have hW0 : s.WarmedH s'.vm := by rw [hvm]; exact State.WarmedH.refl s
  have hat' : ∀ w ∈ vx_at0 own ic cls names, w.before args s' = true := fun w hw => vx_ot_at hW0 hvm.symm (hgood w (List.mem_cons_of_mem _ (List.mem_cons_of_mem _ hw))) (hat w hw)
  have hk' : (Cond.classLink own ik cls).before args s' = true := vx_ot_at hW0 hvm.symm (hgood _ List.mem_cons_self) hk
  have hini' : (Cond.initialized cls).before args s' = true := vx_ot_at hW0 hvm.symm (hgood _ (List.mem_cons_of_mem _ List.mem_cons_self)) hini
  have hU' : vx_Zq Bundle.tN "UNASSIGNED_STACK" Bundle.steD A s' s'.heap := by rw [hhp]; exact vx_Zq.moved hW0.alike (hU.kept hS.2.1)
  have hN' : vx_Zq Bundle.tN "SUPPRESSED_SENTINEL" Bundle.listD A s' s'.heap := by rw [hhp]; exact vx_Zq.moved hW0.alike (hN.kept hS.2.1)
  have h : ∀ w ∈ Bundle.ownAtoms0 own ic cls names, w.before args s' = true := vx_own hat' (vx_isRefq hU'.1) (vx_isRefq hN'.1) hU'.2.word hN'.2.word
  have hown' : s'.vm.findClass own = some m.cls := by rw [hvm]; exact hown
  have hins : (Cond.instantiable cls 6).before args s' = true := h _ (by simp [Bundle.ownAtoms0])
  obtain ⟨vm₁, cX, kX, hfX, hkX, -, -, X₁, st1⟩ := Y.newCold hexec (own := own) (C := cls) (index := ik) (n := 6) hown' hk' hins hini'
    (g := F0 m pc ls rest) rfl (by rw [hb]; exact d0) (Nat.le_refl _) (Nat.le_refl _)
  generalize hT1 : (T.setVm vm₁).pushCell { cls := cX, slots := kX.instanceTypes.map defaultValue, vm := .none } = T1 at X₁ st1
  have hcat : (Value.ref T.heap.size).category = 1 := rfl
  have hcellA : T1.heap[T.heap.size]? = some (freshCell cX kX) := by rw [← hT1]; exact State.heap_pushCell_size _ _
  have d3' : decode c.code (pc + 3) = .ok (.dup, 1) := by rw [hb]; exact d3
  obtain ⟨U, hsteps, hrun, hend, hW, hsame, ce, hce, hO⟩ := X₁.ctorThrow0 hexec htr (own := own) (cls := cls) (names := names) (ic := ic) hown' hcls hnames h (fun x hx => nomatch hx) hfX hkX hcellA (by rw [hhp, hT]; exact Nat.le_refl _)
    (g := { method := m, pc := pc + 4, locals := ls, stack := .ref T.heap.size :: .ref T.heap.size :: rest, locked := none }) rfl hsize rfl rfl (rest := rest) rfl
    (by rw [hb]; exact d4) (by rw [hb]; exact d7) hout hRframes (by simp only [List.map_cons, List.sum_cons, hcat]; omega) hlocks
  obtain ⟨f1, f2⟩ := vx_frame hsame
  rw [hhp] at f1 f2
  have hWs : s.WarmedH U.vm := State.WarmedH.trans hW0 hW
  have hcl : s.vm.findClass cls = some ce.cls := by
    have h9 := hO.cls
    rw [hvm] at h9
    exact h9
  have hall : s.sameButNew ({ U with vm := s.vm } : State) locs mc ms := by
    subst hA
    obtain ⟨e1, e2⟩ := hsame
    rw [State.setFrames_setFrames] at e1
    have h2 : (T.setVm s.vm).sameButNew ({ U with vm := s.vm } : State) [] (0 + 1) (0 + 6) := ⟨e1, e2⟩
    have h3 := X.same.trans h2
    rw [List.append_nil] at h3
    exact h3.mono hc hs
  refine ⟨U, ?_, .threw T.heap.size, hrun, hend, Or.inr ⟨T.heap.size, rfl, cls, ce, locs, hx U hWs.alike f1 (fun q hq => f2 q hq (fun z hz => nomatch hz)), hce, hO.vm, hcl, hWs, hall, hf⟩⟩
  refine st1 _ ?_
  show Steps p.tables e below (T1.setTop { method := m, pc := pc + 3, locals := ls, stack := .ref T.heap.size :: rest, locked := none }) _
  jvm_step X₁.here [X₁.here.top, hexec, d3', Value.category]
  exact hsteps
/-- 'throw new E("text")': new; dup; ldc; invokespecial; athrow -/
theorem vx_throwS {cc : ByteArray} {pc : Nat} (hexec : p.tables.exec = Jvm.exec) (hb : c.code = cc) (hl : l.stackTraces = false) {own cls text : String} {names : List String} {ik is ic mc ms sa : Nat} {A : Nat → Prop}
    (hown : s.vm.findClass own = some m.cls) (hcls : Bundle.fit cls = true) (hnames : ∀ n ∈ names, Bundle.fit n = true)
    (hk : (Cond.classLink own ik cls).before args s = true) (hini : (Cond.initialized cls).before args s = true) (hstr : vk_R own is text sa s) (hat : ∀ w ∈ vx_atS own ic cls names, w.before args s = true)
    (hgood : ∀ w ∈ Cond.classLink own ik cls :: Cond.initialized cls :: vx_atS own ic cls names, vx_ot w = true)
    (hU : vx_Zq Bundle.tN "UNASSIGNED_STACK" Bundle.steD A s s.heap) (hN : vx_Zq Bundle.tN "SUPPRESSED_SENTINEL" Bundle.listD A s s.heap) (hS : va_S A s.heap H locs) (hsize : ls.size = c.maxLocals)
    (d0 : decode cc pc = .ok (.new ik, 3)) (d3 : decode cc (pc + 3) = .ok (.dup, 1)) (d4 : decode cc (pc + 4) = .ok (.ldc is, 2)) (d6 : decode cc (pc + 6) = .ok (.invokespecial ic, 3)) (d9 : decode cc (pc + 9) = .ok (.athrow, 1))
    (hout : ∀ x ∈ c.exceptionTable.toList, covers x (pc + 9) = false)
    (hRframes : names.length + 3 < R.frames) (hRlocals : (rest.map fun v => v.category).sum + (13 * (names.length + 1) + 43) ≤ R.locals) (hRcells : cells + 1 ≤ R.cells) (hRslots : slots + 6 ≤ R.slots) (hlocks : meth.locks = false)
    (hx : ∀ t : State, s.vm.Alike t.vm → H.size ≤ t.heap.size → (∀ q : Nat, q < H.size → t.heap[q]? = H[q]?) → XC cls s t)
    (hf : ∀ z ∈ locs, free z.base) (hc : cells + 1 ≤ mc) (hs : slots + 6 ≤ ms) :
    W p l e R s m args below meth c H locs cells slots (vx_MQ below Qc XC args s mc ms free) (F0 m pc ls rest) := by
  intro T hT X
  have htr : e.platform.stackTraces = false := (show e.platform.stackTraces = l.stackTraces by rw [X.admits.platform]).trans hl
  have Y := vx_rebase X (R' := { frames := R.frames, locals := R.locals, cells := 1, slots := 6 }) (Nat.le_refl _) (Nat.le_refl _) hRcells hRslots
  obtain ⟨s', hA⟩ : ∃ z, z = (T.setVm s.vm).setFrames (.invoking m args :: below) := ⟨_, rfl⟩
  rw [← hA] at Y
  have hvm : s'.vm = s.vm := by rw [hA]; rfl
  have hhp : s'.heap = H := by rw [hA]; exact hT
  have hW0 : s.WarmedH s'.vm := by rw [hvm]; exact State.WarmedH.refl s
  have hat' : ∀ w ∈ vx_atS own ic cls names, w.before args s' = true := fun w hw => vx_ot_at hW0 hvm.symm (hgood w (List.mem_cons_of_mem _ (List.mem_cons_of_mem _ hw))) (hat w hw)
  have hk' : (Cond.classLink own ik cls).before args s' = true := vx_ot_at hW0 hvm.symm (hgood _ List.mem_cons_self) hk
  have hini' : (Cond.initialized cls).before args s' = true := vx_ot_at hW0 hvm.symm (hgood _ (List.mem_cons_of_mem _ List.mem_cons_self)) hini
  have hU' : vx_Zq Bundle.tN "UNASSIGNED_STACK" Bundle.steD A s' s'.heap := by rw [hhp]; exact vx_Zq.moved hW0.alike (hU.kept hS.2.1)
  have hN' : vx_Zq Bundle.tN "SUPPRESSED_SENTINEL" Bundle.listD A s' s'.heap := by rw [hhp]; exact vx_Zq.moved hW0.alike (hN.kept hS.2.1)
  have h : ∀ w ∈ Bundle.ownAtoms own ic cls names, w.before args s' = true := vx_own hat' (vx_isRefq hU'.1) (vx_isRefq hN'.1) hU'.2.word hN'.2.word
  have hown' : s'.vm.findClass own = some m.cls := by rw [hvm]; exact hown
  have hins : (Cond.instantiable cls 6).before args s' = true := h _ (by simp [Bundle.ownAtoms])
  obtain ⟨vm₁, cX, kX, hfX, hkX, -, -, X₁, st1⟩ := Y.newCold hexec (own := own) (C := cls) (index := ik) (n := 6) hown' hk' hins hini'
    (g := F0 m pc ls rest) rfl (by rw [hb]; exact d0) (Nat.le_refl _) (Nat.le_refl _)
  generalize hT1 : (T.setVm vm₁).pushCell { cls := cX, slots := kX.instanceTypes.map defaultValue, vm := .none } = T1 at X₁ st1
  have hcat : (Value.ref T.heap.size).category = 1 := rfl
  have hcellA : T1.heap[T.heap.size]? = some (freshCell cX kX) := by rw [← hT1]; exact State.heap_pushCell_size _ _
  have d3' : decode c.code (pc + 3) = .ok (.dup, 1) := by rw [hb]; exact d3
  have d4' : decode c.code (pc + 4) = .ok (.ldc is, 2) := by rw [hb]; exact d4
  have hstr' : vk_R own is text sa s' := vk_R.warm hW0 hstr
  obtain ⟨U, hsteps, hrun, hend, hW, hsame, ce, hce, hO⟩ := X₁.ctorThrowS hexec htr (own := own) (cls := cls) (names := names) (ic := ic) hown' hcls hnames h (fun x hx => nomatch hx) hfX hkX hcellA (by rw [hhp, hT]; exact Nat.le_refl _) (msg := .ref sa) rfl
    (g := { method := m, pc := pc + 6, locals := ls, stack := .ref sa :: .ref T.heap.size :: .ref T.heap.size :: rest, locked := none }) rfl hsize rfl rfl (rest := rest) rfl
    (by rw [hb]; exact d6) (by rw [hb]; exact d9) hout hRframes (by simp only [List.map_cons, List.sum_cons, hcat]; omega) hlocks
  obtain ⟨f1, f2⟩ := vx_frame hsame
  rw [hhp] at f1 f2
  have hWs : s.WarmedH U.vm := State.WarmedH.trans hW0 hW
  have hcl : s.vm.findClass cls = some ce.cls := by
    have h9 := hO.cls
    rw [hvm] at h9
    exact h9
  have hall : s.sameButNew ({ U with vm := s.vm } : State) locs mc ms := by
    subst hA
    obtain ⟨e1, e2⟩ := hsame
    rw [State.setFrames_setFrames] at e1
    have h2 : (T.setVm s.vm).sameButNew ({ U with vm := s.vm } : State) [] (0 + 1) (0 + 6) := ⟨e1, e2⟩
    have h3 := X.same.trans h2
    rw [List.append_nil] at h3
    exact h3.mono hc hs
  refine ⟨U, ?_, .threw T.heap.size, hrun, hend, Or.inr ⟨T.heap.size, rfl, cls, ce, locs, hx U hWs.alike f1 (fun q hq => f2 q hq (fun z hz => nomatch hz)), hce, hO.vm, hcl, hWs, hall, hf⟩⟩
  refine st1 _ ?_
  show Steps p.tables e below (T1.setTop { method := m, pc := pc + 3, locals := ls, stack := .ref T.heap.size :: rest, locked := none }) _
  jvm_step X₁.here [X₁.here.top, hexec, d3', Value.category]
  exact X₁.ldcString hexec (own := own) (text := text) (index := is) (a := sa) hown' hstr'.1 hstr'.2
    (g := { method := m, pc := pc + 4, locals := ls, stack := .ref T.heap.size :: .ref T.heap.size :: rest, locked := none }) rfl d4' _ hsteps
/-- 'throw new E("text")', the text by a wide index -/
theorem vx_throwSW {cc : ByteArray} {pc : Nat} (hexec : p.tables.exec = Jvm.exec) (hb : c.code = cc) (hl : l.stackTraces = false) {own cls text : String} {names : List String} {ik is ic mc ms sa : Nat} {A : Nat → Prop}
    (hown : s.vm.findClass own = some m.cls) (hcls : Bundle.fit cls = true) (hnames : ∀ n ∈ names, Bundle.fit n = true)
    (hk : (Cond.classLink own ik cls).before args s = true) (hini : (Cond.initialized cls).before args s = true) (hstr : vk_R own is text sa s) (hat : ∀ w ∈ vx_atS own ic cls names, w.before args s = true)
    (hgood : ∀ w ∈ Cond.classLink own ik cls :: Cond.initialized cls :: vx_atS own ic cls names, vx_ot w = true)
    (hU : vx_Zq Bundle.tN "UNASSIGNED_STACK" Bundle.steD A s s.heap) (hN : vx_Zq Bundle.tN "SUPPRESSED_SENTINEL" Bundle.listD A s s.heap) (hS : va_S A s.heap H locs) (hsize : ls.size = c.maxLocals)
    (d0 : decode cc pc = .ok (.new ik, 3)) (d3 : decode cc (pc + 3) = .ok (.dup, 1)) (d4 : decode cc (pc + 4) = .ok (.ldc_w is, 3)) (d7 : decode cc (pc + 7) = .ok (.invokespecial ic, 3)) (d10 : decode cc (pc + 10) = .ok (.athrow, 1))
    (hout : ∀ x ∈ c.exceptionTable.toList, covers x (pc + 10) = false)
    (hRframes : names.length + 3 < R.frames) (hRlocals : (rest.map fun v => v.category).sum + (13 * (names.length + 1) + 43) ≤ R.locals) (hRcells : cells + 1 ≤ R.cells) (hRslots : slots + 6 ≤ R.slots) (hlocks : meth.locks = false)
    (hx : ∀ t : State, s.vm.Alike t.vm → H.size ≤ t.heap.size → (∀ q : Nat, q < H.size → t.heap[q]? = H[q]?) → XC cls s t)
    (hf : ∀ z ∈ locs, free z.base) (hc : cells + 1 ≤ mc) (hs : slots + 6 ≤ ms) :
    W p l e R s m args below meth c H locs cells slots (vx_MQ below Qc XC args s mc ms free) (F0 m pc ls rest) := by
  intro T hT X
  have htr : e.platform.stackTraces = false := (show e.platform.stackTraces = l.stackTraces by rw [X.admits.platform]).trans hl
  have Y := vx_rebase X (R' := { frames := R.frames, locals := R.locals, cells := 1, slots := 6 }) (Nat.le_refl _) (Nat.le_refl _) hRcells hRslots
  obtain ⟨s', hA⟩ : ∃ z, z = (T.setVm s.vm).setFrames (.invoking m args :: below) := ⟨_, rfl⟩
  rw [← hA] at Y
  have hvm : s'.vm = s.vm := by rw [hA]; rfl
  have hhp : s'.heap = H := by rw [hA]; exact hT
  have hW0 : s.WarmedH s'.vm := by rw [hvm]; exact State.WarmedH.refl s
  have hat' : ∀ w ∈ vx_atS own ic cls names, w.before args s' = true := fun w hw => vx_ot_at hW0 hvm.symm (hgood w (List.mem_cons_of_mem _ (List.mem_cons_of_mem _ hw))) (hat w hw)
  have hk' : (Cond.classLink own ik cls).before args s' = true := vx_ot_at hW0 hvm.symm (hgood _ List.mem_cons_self) hk
  have hini' : (Cond.initialized cls).before args s' = true := vx_ot_at hW0 hvm.symm (hgood _ (List.mem_cons_of_mem _ List.mem_cons_self)) hini
  have hU' : vx_Zq Bundle.tN "UNASSIGNED_STACK" Bundle.steD A s' s'.heap := by rw [hhp]; exact vx_Zq.moved hW0.alike (hU.kept hS.2.1)
  have hN' : vx_Zq Bundle.tN "SUPPRESSED_SENTINEL" Bundle.listD A s' s'.heap := by rw [hhp]; exact vx_Zq.moved hW0.alike (hN.kept hS.2.1)
  have h : ∀ w ∈ Bundle.ownAtoms own ic cls names, w.before args s' = true := vx_own hat' (vx_isRefq hU'.1) (vx_isRefq hN'.1) hU'.2.word hN'.2.word
  have hown' : s'.vm.findClass own = some m.cls := by rw [hvm]; exact hown
  have hins : (Cond.instantiable cls 6).before args s' = true := h _ (by simp [Bundle.ownAtoms])
  obtain ⟨vm₁, cX, kX, hfX, hkX, -, -, X₁, st1⟩ := Y.newCold hexec (own := own) (C := cls) (index := ik) (n := 6) hown' hk' hins hini'
    (g := F0 m pc ls rest) rfl (by rw [hb]; exact d0) (Nat.le_refl _) (Nat.le_refl _)
  generalize hT1 : (T.setVm vm₁).pushCell { cls := cX, slots := kX.instanceTypes.map defaultValue, vm := .none } = T1 at X₁ st1
  have hcat : (Value.ref T.heap.size).category = 1 := rfl
  have hcellA : T1.heap[T.heap.size]? = some (freshCell cX kX) := by rw [← hT1]; exact State.heap_pushCell_size _ _
  have d3' : decode c.code (pc + 3) = .ok (.dup, 1) := by rw [hb]; exact d3
  have d4' : decode c.code (pc + 4) = .ok (.ldc_w is, 3) := by rw [hb]; exact d4
  have hstr' : vk_R own is text sa s' := vk_R.warm hW0 hstr
  obtain ⟨U, hsteps, hrun, hend, hW, hsame, ce, hce, hO⟩ := X₁.ctorThrowS hexec htr (own := own) (cls := cls) (names := names) (ic := ic) hown' hcls hnames h (fun x hx => nomatch hx) hfX hkX hcellA (by rw [hhp, hT]; exact Nat.le_refl _) (msg := .ref sa) rfl
    (g := { method := m, pc := pc + 7, locals := ls, stack := .ref sa :: .ref T.heap.size :: .ref T.heap.size :: rest, locked := none }) rfl hsize rfl rfl (rest := rest) rfl
    (by rw [hb]; exact d7) (by rw [hb]; exact d10) hout hRframes (by simp only [List.map_cons, List.sum_cons, hcat]; omega) hlocks
  obtain ⟨f1, f2⟩ := vx_frame hsame
  rw [hhp] at f1 f2
  have hWs : s.WarmedH U.vm := State.WarmedH.trans hW0 hW
  have hcl : s.vm.findClass cls = some ce.cls := by
    have h9 := hO.cls
    rw [hvm] at h9
    exact h9
  have hall : s.sameButNew ({ U with vm := s.vm } : State) locs mc ms := by
    subst hA
    obtain ⟨e1, e2⟩ := hsame
    rw [State.setFrames_setFrames] at e1
    have h2 : (T.setVm s.vm).sameButNew ({ U with vm := s.vm } : State) [] (0 + 1) (0 + 6) := ⟨e1, e2⟩
    have h3 := X.same.trans h2
    rw [List.append_nil] at h3
    exact h3.mono hc hs
  refine ⟨U, ?_, .threw T.heap.size, hrun, hend, Or.inr ⟨T.heap.size, rfl, cls, ce, locs, hx U hWs.alike f1 (fun q hq => f2 q hq (fun z hz => nomatch hz)), hce, hO.vm, hcl, hWs, hall, hf⟩⟩
  refine st1 _ ?_
  show Steps p.tables e below (T1.setTop { method := m, pc := pc + 3, locals := ls, stack := .ref T.heap.size :: rest, locked := none }) _
  jvm_step X₁.here [X₁.here.top, hexec, d3', Value.category]
  exact X₁.ldcStringW hexec (own := own) (text := text) (index := is) (a := sa) hown' hstr'.1 hstr'.2
    (g := { method := m, pc := pc + 4, locals := ls, stack := .ref T.heap.size :: .ref T.heap.size :: rest, locked := none }) rfl d4' _ hsteps
end Ends
section Bodies
variable {l : Launch}
theorem vx_ofW {y : MethodName} {ws ws' : List Cond} {rm : Room} {Pc : Array Value → State → Prop} {Qc : Array Value → State → Outcome → State → Prop} {XC : String → State → State → Prop} {mc ms : Nat} {free : Addr → Prop} {cc : ByteArray} {maxL : Nat} {ret : Option FieldType}
    (hy : plainName y.cls = true) (hw : ws = Cond.code y cc maxL ret :: ws')
    (body : ∀ p e s m args below meth c s₁, BodyLoose p l y (headSpec ws rm) cc maxL ret e s m args below meth c s₁ → c.maxLocals = maxL → (∀ x ∈ c.exceptionTable.toList, False) → Pc args s →
      W p l e (headSpec ws rm).room s m args below meth c s.heap [] 0 0 (vx_MQ below Qc XC args s mc ms free) (entryFrame m args maxL)) : vx_Met l y ws rm Pc Qc XC mc ms free := by
  refine MetFree.of_bodyS (code := cc) (maxLocals := maxL) (ret := ret) hy ?_ ?_
  · intro args s m h hn
    obtain ⟨meth, c, h1, h2, h3, h4, h5, h6, -, -⟩ := Cond.code_spec hn (atoms_spec (ws := ws) h _ (by rw [hw]; exact List.mem_cons_self))
    exact ⟨meth, c, h1, h2, h3, h4, h5, h6⟩
  · intro p e s m args below meth c s₁ B hml hP _
    have hh0 : s₁.heap = s.heap := by rw [B.state]; rfl
    have ht : ∀ x ∈ c.exceptionTable.toList, False := by
      obtain ⟨meth9, c9, h1, h2, -, -, -, -, h7, -⟩ := Cond.code_spec B.named (atoms_spec (ws := ws) B.pre _ (by rw [hw]; exact List.mem_cons_self))
      cases Option.some.inj (h1.symm.trans B.method)
      cases Option.some.inj (h2.symm.trans (Stand.of_body B).code)
      intro x hx
      rw [Array.isEmpty_iff.mp h7] at hx
      cases hx
    obtain ⟨t, a1, o, b1, b2, b3⟩ := body p e s m args below meth c s₁ B hml ht hP s₁ hh0 (Stand.of_body B)
    exact ⟨t, o, a1, b1, b2, b3⟩
/-- the table of a body with handlers -/
theorem vx_table {p : Program} {x y : MethodName} {S : Spec} {cc bytes : ByteArray} {maxL maxL' : Nat} {ret ret' : Option FieldType} {e : Env} {s s₁ : State} {m : MethodId} {args : Array Value} {below : List Frame} {meth : Method} {c : Code} {hh : List (Nat × Nat × Nat × Nat)}
    (B : BodyLoose p l y S cc maxL ret e s m args below meth c s₁) (h : (Cond.codeWith y bytes maxL' ret' hh).before args s = true) : c.exceptionTable.toList = tableOf hh := by
  obtain ⟨m9, meth9, c9, hn9, h1, h2, -, -, h6, -⟩ := Cond.codeWith_spec h
  cases Option.some.inj (hn9.symm.trans B.named)
  cases Option.some.inj (h1.symm.trans B.method)
  cases Option.some.inj (h2.symm.trans (Stand.of_body B).code)
  rw [← h6, table_eq]
end Bodies
end VXA
/-! ===== END ===== -/
/-! ===== BEGIN a static call of a method with an exception table ===== -/
section VXS
variable {p : Program} {l : Launch} {e : Env} {R : Room} {s : State} {m : MethodId} {args : Array Value} {below : List Frame} {meth : Method} {c : Code} {T : State} {H : Heap} {locs : List Loc} {cells slots : Nat}
abbrev vx_CSW (R : Room) (s : State) (args : Array Value) (own : String) (index : Nat) (y : MethodName) (bytes : ByteArray) (maxL : Nat) (ret : Option FieldType) (hh : List (Nat × Nat × Nat × Nat)) (ws : List Cond) (rm : Room) (mc ms n : Nat) : Prop :=
  (rm.cells = mc ∧ rm.slots = ms ∧ rm.frames + 1 ≤ R.frames ∧ 8 + (maxL + 11) + rm.locals ≤ R.locals ∧ (∀ w ∈ ws, ∀ (a' : Array Value) (U : State), s.WarmedH U.vm → w.before a' U = true) ∧ Cond.codeWith y bytes maxL ret hh ∈ ws) ∧
  (Cond.codeWith y bytes maxL ret hh).before args s = true ∧ (Cond.initialized y.cls).before args s = true ∧ (y.cls ≠ "java/lang/invoke/MethodHandle" ∧ y.cls ≠ "java/lang/invoke/VarHandle") ∧
  (∀ sig, parseMethodDescriptor y.desc = some sig → n = sig.parameters.length) ∧ (Cond.methodLink own index y).before args s = true ∧ (Cond.static y).before args s = true
theorem vx_cwSW {own : String} {index maxL mc ms : Nat} {y : MethodName} {bytes : ByteArray} {ret : Option FieldType} {hh : List (Nat × Nat × Nat × Nat)} {Ts ws ws' : List Cond} {rm : Room} (n : Nat) (ht : ∀ w ∈ Ts, w.before args s = true) (hT : GoodIn Ts (va_wsS own index y ws)) (hw : ws = Cond.codeWith y bytes maxL ret hh :: ws') (hrc : rm.cells = mc) (hrs : rm.slots = ms)
    (hd : y.cls ≠ "java/lang/invoke/MethodHandle" ∧ y.cls ≠ "java/lang/invoke/VarHandle" ∧ (parseMethodDescriptor y.desc).map (fun d => d.parameters.length) = some n) (hR : rm.frames + 1 ≤ R.frames ∧ 8 + (maxL + 11) + rm.locals ≤ R.locals) :
    vx_CSW R s args own index y bytes maxL ret hh ws rm mc ms n := by
  have ok : ∀ w ∈ va_wsS own index y ws, w.before args s = true := fun w h => ht w (hT w h).1
  have hG : GoodIn Ts ws := fun w h => hT w (by unfold va_wsS; exact List.mem_append_right _ h)
  have hc : Cond.codeWith y bytes maxL ret hh ∈ ws := by rw [hw]; exact List.mem_cons_self
  refine ⟨⟨hrc, hrs, hR.1, hR.2, pay_in ht hG, hc⟩, ht _ (hG _ hc).1, ok _ (by simp [va_wsS]), ⟨hd.1, hd.2.1⟩, fun sig h => ?_, ok _ (by simp [va_wsS]), ok _ (by simp [va_wsS])⟩
  have h2 := hd.2.2
  rw [h] at h2
  exact (Option.some.inj h2).symm
theorem vx_callSW (X : Stand p l e R s m args below meth c T locs cells slots) (hexec : p.tables.exec = Jvm.exec) {own : String} {index : Nat} {y : MethodName} {bytes : ByteArray} {maxL : Nat} {ret : Option FieldType} {hh : List (Nat × Nat × Nat × Nat)}
    (hown : s.vm.findClass own = some m.cls) (hlink : (Cond.methodLink own index y).before args s = true) (hstat : (Cond.static y).before args s = true) (hinit : (Cond.initialized y.cls).before args s = true)
    (hcode : (Cond.codeWith y bytes maxL ret hh).before args s = true) (hy : y.cls ≠ "java/lang/invoke/MethodHandle" ∧ y.cls ≠ "java/lang/invoke/VarHandle")
    {W9 : Nat} {Pre : Pt → Array Value → Prop} {Post : Pt → Array Value → Option Value → Pt → Prop} (hK : Back l R p e below s args y 3 W9 Pre Post)
    {g : JFrame} (hg : g.method = m) (hsize : g.locals.size = c.maxLocals) {argsL rest : List Value} (hlen : ∀ sig, parseMethodDescriptor y.desc = some sig → argsL.length = sig.parameters.length)
    (hstack : g.stack = argsL.reverse ++ rest) (hW : 2 * g.monitorRoom + (rest.map fun v => v.category).sum ≤ W9) (hdg : decode c.code g.pc = .ok (.invokestatic index, 3))
    (hpre : ∀ vm₁, s.WarmedH vm₁ → Pre ⟨T.setVm vm₁, locs, cells, slots⟩ argsL.toArray) :
    ∃ (v : Option Value) (vm₁ : Vm) (B : Pt), s.WarmedH vm₁ ∧ Stand p l e R s m args below meth c B.U B.locs B.cells B.slots ∧ Post ⟨T.setVm vm₁, locs, cells, slots⟩ argsL.toArray v B ∧
      ∀ target, Steps p.tables e below (B.U.setTop { g with pc := g.pc + 3, stack := v.toList ++ rest }) target → Steps p.tables e below (T.setTop g) target := by
  obtain ⟨mk, methM, cM, hnamed, hmethM, -, -, -, -, -, -, hsigM⟩ := Cond.codeWith_spec hcode
  have hstatic : methM.isStatic = true := Cond.static_spec hnamed hmethM hstat
  obtain ⟨kP, hkP, -⟩ := className_of_methodNamed hnamed
  have hinitP : kP.init = .initialized := Cond.initialized_spec (findClass_of_methodNamed hnamed) hkP hinit
  obtain ⟨vm₁, X₁, hstep₁⟩ := X.invokestatic hexec hown hlink hnamed hmethM hstatic hkP hinitP hy (g := g) hg (argsL := argsL) (rest := rest) (hlen _ hsigM) hstack hdg
  obtain ⟨v, B, X', hpost, hsteps⟩ := hK m meth c ⟨T.setVm vm₁, locs, cells, slots⟩ { g with stack := rest } (.invokestatic index) mk argsL.toArray X₁ hg hsize hdg hW (X₁.named hnamed) (hpre vm₁ X₁.warmed)
  exact ⟨v, vm₁, B, X₁.warmed, X', hpost, fun target h => hstep₁ _ fun acts => by rw [doInvoke_state]; exact hsteps.trans h⟩
theorem vx_runSW {y : MethodName} {bytes cc : ByteArray} {maxL nL mc ms n index : Nat} {ret : Option FieldType} {hh : List (Nat × Nat × Nat × Nat)} {ws : List Cond} {rm : Room} {Pc : Array Value → State → Prop} {Qc : Array Value → State → Outcome → State → Prop} {free : Addr → Prop} {Ts : List Cond} {own : String} {As rest : List Value} {g : JFrame}
    (S : CallFix p m c cc nL s args Ts own) (hM : Met l y ws rm Pc Qc mc ms free) (cw : vx_CSW R s args own index y bytes maxL ret hh ws rm mc ms n) (hp : PreS s H Pc As)
    (hg : g.method = m) (hn : As.length = n) (hsize : g.locals.size = nL) (hstack : g.stack = As.reverse ++ rest) (hW : 2 * g.monitorRoom + (rest.map fun v => v.category).sum ≤ 8) (hdg : decode cc g.pc = .ok (.invokestatic index, 3)) (hf : cells + mc ≤ R.cells ∧ slots + ms ≤ R.slots) :
    va_Run p l e R s m args below meth c H locs cells slots mc ms g rest (Qc As.toArray) (free) := by
  obtain ⟨⟨hrc, hrs, hfr, hlo, hws, hcw⟩, hcode, hini, hy, hlen, hl, hstt⟩ := cw
  have hK : Back l R p e below s args y 3 8 (PreOf R mc ms Pc) (PostOf Qc mc ms free) := va_backW (hh := hh) (bytes := bytes) (maxL := maxL) (ret := ret) hM hp.1 hrc hrs hfr hlo hws hcw (fun a' U hW => word_at hW (Or.inl (by first | rfl | simp [Cond.onTables, Cond.keeps, Cond.steady])) hini)
  obtain ⟨hx, hb, hml, ho, -⟩ := S
  intro T hT X
  obtain ⟨v, vm₁, ⟨U', l2, c2, s2⟩, hW₁, X', ⟨g', mk, t, L, e1, e2, hq, h1, hL, h2, h3⟩, st⟩ := vx_callSW X hx (hh := hh) (bytes := bytes) (maxL := maxL) (ret := ret) ho hl hstt hini hcode hy hK hg (hsize.trans hml.symm) (argsL := As) (rest := rest) (fun sig h => hn.trans (hlen sig h)) hstack hW (by rw [hb]; exact hdg)
    (fun vm₁ hW₁ => ⟨hf.1, hf.2, hp.2 (T.setVm vm₁) hT hW₁⟩)
  dsimp only [Pt.U, Pt.locs, Pt.cells, Pt.slots] at X' e1 e2 h1 h2 h3 st
  subst h1; subst h2; subst h3
  exact ⟨v, (T.setVm vm₁).calling g' mk As.toArray, t, U', L, hT, X', hL, e1, e2, hq, st⟩
/-- not caught here, past rows that name other classes: it goes on to the caller -/
theorem vx_outP {p : Program} {l : Launch} {e : Env} {R : Room} {s : State} {m : MethodId} {args : Array Value} {below : List Frame} {meth : Method} {c : Code} {H : Heap} {locs : List Loc} {cells slots : Nat} {free : Addr → Prop} {ls : Array Slot} {rest : List Value} {Qc : Array Value → State → Outcome → State → Prop} {XC : String → State → State → Prop}
    {pc : Nat} {own E : String} {ce : Cell} {q : Addr} {mc ms : Nat} (hown : s.vm.findClass own = some m.cls) (hlocks : meth.locks = false)
    (hpass : ∀ z ∈ c.exceptionTable.toList, covers z pc = false ∨ (z.catchType ≠ 0 ∧ ∃ nm : String, (Cond.classLink own z.catchType nm).before args s = true ∧ va_Nc E nm s)) (hcell : H[q]? = some ce) (hv : ce.vm = .none) (hcl : s.vm.findClass E = some ce.cls)
    (hx : ∀ t : State, t.heap = H → s.vm.Alike t.vm → XC E s t) (hf : ∀ z ∈ locs, free z.base) (hc : cells ≤ mc) (hs : slots ≤ ms) :
    vx_W p l e R s m args below meth c H locs cells slots (vx_MQ below Qc XC args s mc ms free) (F0 m pc ls rest) q := by
  intro T hT X
  have hpl : e.platform.magicAccessors = ({} : Platform).magicAccessors := by rw [X.admits.platform]
  obtain ⟨vm', hW', X', st⟩ := X.outThrough hlocks q (g := F0 m pc ls rest) rfl rfl rfl (cell := ce) (by rw [hT]; exact hcell) (by rw [hv]; rfl)
    (by obtain ⟨k9, h9, -⟩ := Vm.findClass_spec hcl; exact ⟨k9, h9⟩) (fun z hz => by
      rcases hpass z hz with h | ⟨hz0, nm, hl1, hn1⟩
      · exact Or.inl h
      · obtain ⟨c6, hc6, hcl6⟩ := Cond.classLink_spec hown hl1 e.platform hpl
        obtain ⟨a8, b8, h1, h2, h3⟩ := hn1
        cases Option.some.inj (h1.symm.trans hcl)
        cases Option.some.inj (h2.symm.trans hc6)
        exact Or.inr ⟨hz0, _, hcl6, h3⟩)
  obtain ⟨g₀, hfr⟩ := X'.frames_eq
  have hcell9 : ((T.setVm vm').setFrames (.throwing q :: below)).heap[q]? = some ce := by
    show T.heap[q]? = some ce
    rw [hT]; exact hcell
  have hend : Ended ((T.setVm vm').setFrames (.throwing q :: below)) below (.threw q) := State.frames_setFrames _ (State.cur_lt_of_frames hfr)
  refine ⟨(T.setVm vm').setFrames (.throwing q :: below), ?_, .threw q, X'.here.running, hend, Or.inr ⟨q, rfl, E, ce, locs, hx _ hT (X'.ends _).1.alike, hcell9, hv, hcl, (X'.ends _).1, (X'.ends _).2.mono hc hs, hf⟩⟩
  rw [X.pushThrowing_eq]
  exact st
/-- a thing of a world lies in the heap -/
theorem vx_lt {D : va_G} {cl : List vw_C} {ws : va_W} {H1 : Heap} (h : va_P D cl ws H1) {k : Nat} {q : Nat × va_E} (hk : ws[k]? = some q) : q.1 < H1.size := (h k q hk).lt
end VXS
/-! ===== END ===== -/
/-! ===== BEGIN methods with a table of their own: called by a name, returning or throwing ===== -/
section VXH
/-! vx_backW, vx_callVX, vx_callSX, vx_callVW, vx_runVW, vx_runVX, vx_runSX, vx_ofWH follow the same proofs as their sisters above (Free/Laws.lean, Shelf42/LK1.lean); vx_outP calls Shelf42/NT130.lean (outThrough). -/
section
variable {l : Launch} {R : Room} {p : Program} {e : Env} {below : List Frame} {s : State} {sargs : Array Value} {y : MethodName} {len W9 : Nat}
theorem vx_backW {ws : List Cond} {rm : Room} {Pc : Array Value → State → Prop} {Qc : Array Value → State → Outcome → State → Prop} {XC : String → State → State → Prop} {mc ms : Nat} {free : Addr → Prop} {bytes : ByteArray} {maxL : Nat} {ret : Option FieldType} {hh : List (Nat × Nat × Nat × Nat)}
    (hM : vx_Met l y ws rm Pc Qc XC mc ms free) (hblind : FrameBlind Pc) (hrc : rm.cells = mc) (hrs : rm.slots = ms)
    (hframes : rm.frames + 1 ≤ R.frames) (hlocals : W9 + (maxL + 11) + rm.locals ≤ R.locals)
    (hws : ∀ w ∈ ws, ∀ a' U, s.WarmedH U.vm → w.before a' U = true) (hcode : Cond.codeWith y bytes maxL ret hh ∈ ws) (hinit : ∀ a' U, s.WarmedH U.vm → (Cond.initialized y.cls).before a' U = true) :
    vx_Back l R p e below s sargs y len W9 (PreOf R mc ms Pc) (PostOf Qc mc ms free) (vx_Post XC mc ms free) := by
  intro m meth c A g ig mk a X hg hsize hdg hW hn hp
  have h1 : (headSpec ws rm).pre.before a A.U = true := atoms_intro fun w hw => hws w hw _ _ X.warmed
  have h2 : (Cond.codeWith y bytes maxL ret hh).before a A.U = true := hws _ hcode _ _ X.warmed
  have h3 : (Cond.initialized y.cls).before a A.U = true := hinit _ _ X.warmed
  have h4 : A.cells + (headSpec ws rm).room.cells ≤ R.cells := by rw [show (headSpec ws rm).room.cells = mc from hrc]; exact hp.1
  have h5 : A.slots + (headSpec ws rm).room.slots ≤ R.slots := by rw [show (headSpec ws rm).room.slots = ms from hrs]; exact hp.2.1
  have hPc : Pc a (A.U.calling g mk a) := hblind _ _ _ _ hp.2.2
  obtain ⟨U, Ls, c0, s0⟩ := A
  dsimp only [Pt.U, Pt.locs, Pt.cells, Pt.slots] at h1 h2 h3 h4 h5 X hn hPc ⊢
  obtain ⟨m9, methY, cY, hn9, hmY, hcY, -, hlY, -⟩ := Cond.codeWith_spec h2
  cases Option.some.inj (hn9.symm.trans hn)
  obtain ⟨kY, hkY, -⟩ := className_of_methodNamed hn
  have hinitY : kY.init = .initialized := Cond.initialized_spec (findClass_of_methodNamed hn) hkY h3
  have h : At U g.method c below := by rw [hg]; exact X.here
  have hlocals9 : W9 + (maxL + 11) + (headSpec ws rm).room.locals ≤ R.locals := hlocals
  have happ : (headSpec ws rm).appliesLoose y e.platform (U.calling g mk a) = true :=
    Spec.appliesLoose_calling (g := g) h hdg hn hkY hinitY
      (X.room_calling (g := g) (R' := (headSpec ws rm).room) hsize hmY hcY hframes (by rw [hlY]; omega) h4 h5) h1
  obtain ⟨mid, hmid⟩ := h.above
  have hfr : (U.setTop g).frames = (.java g :: mid) ++ below := by rw [State.frames_setTop' g h.top, hmid]; rfl
  obtain ⟨o, s₂, hsteps, -, hend, hq⟩ := Steps.callFree hM p X.admits X.cas X.clock (acts := []) hfr happ hPc trivial
  have hq' : vx_Q Qc XC mc ms free a (U.calling g mk a) o s₂ := hq
  rw [State.frames_setTop' g h.top] at hend
  obtain ⟨g₀, hg0⟩ := Option.isSome_iff_exists.mp h.top
  obtain ⟨r, hr⟩ := State.topJava?_eq_some.mp hg0
  have hr' : (({ U with heap := s₂.heap, slotsUsed := s₂.slotsUsed } : State).setVm s₂.vm).frames = .java g₀ :: r := hr
  rcases hq' with ⟨hqc, L, hfe, hL⟩ | ⟨q, rfl, E, ce, L, hx, hce, hcv, hcl, hW₂, hsm, hL⟩
  · obtain ⟨⟨v, rfl⟩, hW₂, e2, q2, q3, q4, q5, q6⟩ := id hfe
    have e3 : s₂ = ({ (U.calling g mk a).setFrames s₂.frames with heap := s₂.heap, slotsUsed := s₂.slotsUsed } : State).setVm s₂.vm := by
      have : s₂ = ({ s₂ with vm := (U.calling g mk a).vm } : State).setVm s₂.vm := rfl
      rw [e2] at this
      exact this
    obtain ⟨c₂, i₂, len₂, hc₂, hd₂, hf₂⟩ := hend
    have hW' : U.WarmedH s₂.vm := hW₂
    have hcc : c₂ = c := by
      have h1 : s₂.code? g.method = U.code? g.method := by
        rw [State.code?_eq, State.code?_eq, hW'.alike.method?]
      exact Option.some.inj (hc₂.symm.trans (h1.trans h.code))
    subst hcc
    have hlen : len₂ = len := by rw [hdg] at hd₂; cases hd₂; rfl
    subst hlen
    have hs₂ : s₂ = (({ U with heap := s₂.heap, slotsUsed := s₂.slotsUsed } : State).setVm s₂.vm).setTop { g with pc := g.pc + len₂, stack := v.toList ++ g.stack } := by
      refine e3.trans ?_
      rw [hf₂, State.calling_eq h.top, State.setFrames_setFrames, State.setTop_of_frames _ hr', hr]
      rfl
    have hsame : U.sameButNew ({ U with heap := s₂.heap, slotsUsed := s₂.slotsUsed } : State) L mc ms := by
      refine ⟨?_, q2, q3, q4, q5, q6⟩
      obtain ⟨t, ht, -⟩ := State.frames_cons hr
      show ({ U with heap := s₂.heap, slotsUsed := s₂.slotsUsed } : State) = { U.setFrames U.frames with heap := s₂.heap, slotsUsed := s₂.slotsUsed }
      rw [State.setFrames_self ht]
    subst hg
    refine Or.inl ⟨v, ⟨(({ U with heap := s₂.heap, slotsUsed := s₂.slotsUsed } : State).setVm s₂.vm), Ls ++ L, c0 + mc, s0 + ms⟩,
      ⟨X.admits, X.cas, X.clock, X.frames, X.room, X.hears, X.method, X.code, (X.here.setHeapUsed s₂.heap s₂.slotsUsed).setVm hW'.alike, X.tail, State.WarmedH.trans X.warmed hW', X.limits, X.bytes, X.same.trans (hsame.setVm s.vm)⟩,
      ⟨g, mk, s₂, L, rfl, rfl, hqc, rfl, hL, rfl, rfl⟩, ?_⟩
    show Steps p.tables e below _ ((({ U with heap := s₂.heap, slotsUsed := s₂.slotsUsed } : State).setVm s₂.vm).setTop { g with pc := g.pc + len₂, stack := v.toList ++ g.stack })
    rw [← hs₂]
    exact hsteps
  · obtain ⟨e2, q2, q3, q4, q5, q6⟩ := id hsm
    have e3 : s₂ = ({ (U.calling g mk a).setFrames s₂.frames with heap := s₂.heap, slotsUsed := s₂.slotsUsed } : State).setVm s₂.vm := by
      have : s₂ = ({ s₂ with vm := (U.calling g mk a).vm } : State).setVm s₂.vm := rfl
      rw [e2] at this
      exact this
    have hf₂ : s₂.frames = .throwing q :: .java g :: U.frames.tail := hend
    have hW' : U.WarmedH s₂.vm := hW₂
    have hs₂ : s₂ = ((({ U with heap := s₂.heap, slotsUsed := s₂.slotsUsed } : State).setVm s₂.vm).setTop g).pushFrame (.throwing q) := by
      refine e3.trans ?_
      rw [hf₂, State.calling_eq h.top, State.setFrames_setFrames, State.pushFrame, State.frames_setTop _ hr', State.setTop_of_frames _ hr', State.setFrames_setFrames, hr]
      rfl
    have hsame : U.sameButNew ({ U with heap := s₂.heap, slotsUsed := s₂.slotsUsed } : State) L mc ms := by
      refine ⟨?_, q2, q3, q4, q5, q6⟩
      obtain ⟨t, ht, -⟩ := State.frames_cons hr
      show ({ U with heap := s₂.heap, slotsUsed := s₂.slotsUsed } : State) = { U.setFrames U.frames with heap := s₂.heap, slotsUsed := s₂.slotsUsed }
      rw [State.setFrames_self ht]
    subst hg
    refine Or.inr ⟨q, ⟨(({ U with heap := s₂.heap, slotsUsed := s₂.slotsUsed } : State).setVm s₂.vm), Ls ++ L, c0 + mc, s0 + ms⟩,
      ⟨X.admits, X.cas, X.clock, X.frames, X.room, X.hears, X.method, X.code, (X.here.setHeapUsed s₂.heap s₂.slotsUsed).setVm hW'.alike, X.tail, State.WarmedH.trans X.warmed hW', X.limits, X.bytes, X.same.trans (hsame.setVm s.vm)⟩,
      ⟨g, mk, s₂, L, E, ce, rfl, rfl, hx, hce, hcv, hcl, rfl, hL, rfl, rfl⟩, ?_⟩
    show Steps p.tables e below _ (((({ U with heap := s₂.heap, slotsUsed := s₂.slotsUsed } : State).setVm s₂.vm).setTop g).pushFrame (.throwing q))
    rw [← hs₂]
    exact hsteps
end
variable {p : Program} {l : Launch} {e : Env} {R : Room} {s : State} {m : MethodId} {args : Array Value} {below : List Frame} {meth : Method} {c : Code} {T : State} {H : Heap} {locs : List Loc} {cells slots : Nat}
theorem vx_callVX (X : Stand p l e R s m args below meth c T locs cells slots) (hexec : p.tables.exec = Jvm.exec) {own C : String} {index : Nat} {y : MethodName} {bytes : ByteArray} {maxL : Nat} {ret : Option FieldType} {hh : List (Nat × Nat × Nat × Nat)}
    (hown : s.vm.findClass own = some m.cls) (hlink : (Cond.methodLink own index y).before args s = true) (hinst : (Cond.instanceMethod y).before args s = true) (hsel : (Cond.selects C y y).before args s = true)
    (hcode : (Cond.codeWith y bytes maxL ret hh).before args s = true) (hy : y.cls ≠ "java/lang/invoke/MethodHandle" ∧ y.cls ≠ "java/lang/invoke/VarHandle")
    {W9 : Nat} {Pre : Pt → Array Value → Prop} {Post : Pt → Array Value → Option Value → Pt → Prop} {PostX : Pt → Array Value → Addr → Pt → Prop} (hK : vx_Back l R p e below s args y 3 W9 Pre Post PostX)
    {b : Addr} {cellB : Cell} (hcell : T.heap[b]? = some cellB) (hobj : cellB.vm.isStatics = false) (hcls : s.vm.findClass C = some cellB.cls)
    {g : JFrame} (hg : g.method = m) (hsize : g.locals.size = c.maxLocals) {argsL rest : List Value} (hlen : ∀ sig, parseMethodDescriptor y.desc = some sig → argsL.length = sig.parameters.length)
    (hstack : g.stack = argsL.reverse ++ .ref b :: rest) (hW : 2 * g.monitorRoom + (rest.map fun v => v.category).sum ≤ W9) (hdg : decode c.code g.pc = .ok (.invokevirtual index, 3))
    (hpre : ∀ vm₁, s.WarmedH vm₁ → Pre ⟨T.setVm vm₁, locs, cells, slots⟩ (Value.ref b :: argsL).toArray) :
    (∃ (v : Option Value) (vm₁ : Vm) (B : Pt), s.WarmedH vm₁ ∧ Stand p l e R s m args below meth c B.U B.locs B.cells B.slots ∧ Post ⟨T.setVm vm₁, locs, cells, slots⟩ (Value.ref b :: argsL).toArray v B ∧
      ∀ target, Steps p.tables e below (B.U.setTop { g with pc := g.pc + 3, stack := v.toList ++ rest }) target → Steps p.tables e below (T.setTop g) target) ∨
    (∃ (q : Addr) (vm₁ : Vm) (B : Pt), s.WarmedH vm₁ ∧ Stand p l e R s m args below meth c B.U B.locs B.cells B.slots ∧ PostX ⟨T.setVm vm₁, locs, cells, slots⟩ (Value.ref b :: argsL).toArray q B ∧
      Steps p.tables e below (T.setTop g) ((B.U.setTop { g with stack := rest }).pushFrame (.throwing q))) := by
  obtain ⟨mk, methM, hnamed, hmethM, hstM, habM⟩ := Cond.instanceMethod_spec hinst
  obtain ⟨m8, methM', cM, hn8, hmethM', -, -, -, -, -, -, hsigM⟩ := Cond.codeWith_spec hcode
  cases Option.some.inj (hn8.symm.trans hnamed)
  cases hmethM.symm.trans hmethM'
  obtain ⟨c2, r2, m2, q1, q2, q3, q4, kP, hkP, hkPi⟩ := Cond.selects_spec hsel
  cases hcls.symm.trans q1
  cases (State.methodFound?_of_named hnamed hy).symm.trans q2
  cases hnamed.symm.trans q3
  have hselP : selectMethod e.platform s.vm cellB.cls mk = .method mk := by rw [Launch.admits_selectMethod X.admits]; exact q4
  obtain ⟨vm₁, X₁, hstep₁⟩ := X.invokevirtual hexec hown hlink hnamed hmethM hstM hkP hkPi hy (a := b) (cell := cellB) hcell
    (fun z h => by rw [h] at hobj; cases hobj) hselP hmethM habM hkP hkPi (g := g) hg (argsL := argsL) (rest := rest) (hlen _ hsigM) hstack hdg
  rcases hK m meth c ⟨T.setVm vm₁, locs, cells, slots⟩ { g with stack := rest } (.invokevirtual index) mk (Value.ref b :: argsL).toArray X₁ hg hsize hdg hW (X₁.named hnamed) (hpre vm₁ X₁.warmed) with ⟨v, B, X', hpost, hsteps⟩ | ⟨q, B, X', hpost, hsteps⟩
  · exact Or.inl ⟨v, vm₁, B, X₁.warmed, X', hpost, fun target h => hstep₁ _ fun acts => by rw [doInvoke_state]; exact hsteps.trans h⟩
  · exact Or.inr ⟨q, vm₁, B, X₁.warmed, X', hpost, hstep₁ _ fun acts => by rw [doInvoke_state]; exact hsteps⟩
theorem vx_callSX (X : Stand p l e R s m args below meth c T locs cells slots) (hexec : p.tables.exec = Jvm.exec) {own : String} {index : Nat} {y : MethodName} {bytes : ByteArray} {maxL : Nat} {ret : Option FieldType} {hh : List (Nat × Nat × Nat × Nat)}
    (hown : s.vm.findClass own = some m.cls) (hlink : (Cond.methodLink own index y).before args s = true) (hstat : (Cond.static y).before args s = true) (hinit : (Cond.initialized y.cls).before args s = true)
    (hcode : (Cond.codeWith y bytes maxL ret hh).before args s = true) (hy : y.cls ≠ "java/lang/invoke/MethodHandle" ∧ y.cls ≠ "java/lang/invoke/VarHandle")
    {W9 : Nat} {Pre : Pt → Array Value → Prop} {Post : Pt → Array Value → Option Value → Pt → Prop} {PostX : Pt → Array Value → Addr → Pt → Prop} (hK : vx_Back l R p e below s args y 3 W9 Pre Post PostX)
    {g : JFrame} (hg : g.method = m) (hsize : g.locals.size = c.maxLocals) {argsL rest : List Value} (hlen : ∀ sig, parseMethodDescriptor y.desc = some sig → argsL.length = sig.parameters.length)
    (hstack : g.stack = argsL.reverse ++ rest) (hW : 2 * g.monitorRoom + (rest.map fun v => v.category).sum ≤ W9) (hdg : decode c.code g.pc = .ok (.invokestatic index, 3))
    (hpre : ∀ vm₁, s.WarmedH vm₁ → Pre ⟨T.setVm vm₁, locs, cells, slots⟩ argsL.toArray) :
    (∃ (v : Option Value) (vm₁ : Vm) (B : Pt), s.WarmedH vm₁ ∧ Stand p l e R s m args below meth c B.U B.locs B.cells B.slots ∧ Post ⟨T.setVm vm₁, locs, cells, slots⟩ argsL.toArray v B ∧
      ∀ target, Steps p.tables e below (B.U.setTop { g with pc := g.pc + 3, stack := v.toList ++ rest }) target → Steps p.tables e below (T.setTop g) target) ∨
    (∃ (q : Addr) (vm₁ : Vm) (B : Pt), s.WarmedH vm₁ ∧ Stand p l e R s m args below meth c B.U B.locs B.cells B.slots ∧ PostX ⟨T.setVm vm₁, locs, cells, slots⟩ argsL.toArray q B ∧
      Steps p.tables e below (T.setTop g) ((B.U.setTop { g with stack := rest }).pushFrame (.throwing q))) := by
  obtain ⟨mk, methM, cM, hnamed, hmethM, -, -, -, -, -, -, hsigM⟩ := Cond.codeWith_spec hcode
  have hstatic : methM.isStatic = true := Cond.static_spec hnamed hmethM hstat
  obtain ⟨kP, hkP, -⟩ := className_of_methodNamed hnamed
  have hinitP : kP.init = .initialized := Cond.initialized_spec (findClass_of_methodNamed hnamed) hkP hinit
  obtain ⟨vm₁, X₁, hstep₁⟩ := X.invokestatic hexec hown hlink hnamed hmethM hstatic hkP hinitP hy (g := g) hg (argsL := argsL) (rest := rest) (hlen _ hsigM) hstack hdg
  rcases hK m meth c ⟨T.setVm vm₁, locs, cells, slots⟩ { g with stack := rest } (.invokestatic index) mk argsL.toArray X₁ hg hsize hdg hW (X₁.named hnamed) (hpre vm₁ X₁.warmed) with ⟨v, B, X', hpost, hsteps⟩ | ⟨q, B, X', hpost, hsteps⟩
  · exact Or.inl ⟨v, vm₁, B, X₁.warmed, X', hpost, fun target h => hstep₁ _ fun acts => by rw [doInvoke_state]; exact hsteps.trans h⟩
  · exact Or.inr ⟨q, vm₁, B, X₁.warmed, X', hpost, hstep₁ _ fun acts => by rw [doInvoke_state]; exact hsteps⟩
theorem vx_callVW (X : Stand p l e R s m args below meth c T locs cells slots) (hexec : p.tables.exec = Jvm.exec) {own C : String} {index : Nat} {y : MethodName} {bytes : ByteArray} {maxL : Nat} {ret : Option FieldType} {hh : List (Nat × Nat × Nat × Nat)}
    (hown : s.vm.findClass own = some m.cls) (hlink : (Cond.methodLink own index y).before args s = true) (hinst : (Cond.instanceMethod y).before args s = true) (hsel : (Cond.selects C y y).before args s = true)
    (hcode : (Cond.codeWith y bytes maxL ret hh).before args s = true) (hy : y.cls ≠ "java/lang/invoke/MethodHandle" ∧ y.cls ≠ "java/lang/invoke/VarHandle")
    {W9 : Nat} {Pre : Pt → Array Value → Prop} {Post : Pt → Array Value → Option Value → Pt → Prop} (hK : Back l R p e below s args y 3 W9 Pre Post)
    {b : Addr} {cellB : Cell} (hcell : T.heap[b]? = some cellB) (hobj : cellB.vm.isStatics = false) (hcls : s.vm.findClass C = some cellB.cls)
    {g : JFrame} (hg : g.method = m) (hsize : g.locals.size = c.maxLocals) {argsL rest : List Value} (hlen : ∀ sig, parseMethodDescriptor y.desc = some sig → argsL.length = sig.parameters.length)
    (hstack : g.stack = argsL.reverse ++ .ref b :: rest) (hW : 2 * g.monitorRoom + (rest.map fun v => v.category).sum ≤ W9) (hdg : decode c.code g.pc = .ok (.invokevirtual index, 3))
    (hpre : ∀ vm₁, s.WarmedH vm₁ → Pre ⟨T.setVm vm₁, locs, cells, slots⟩ (Value.ref b :: argsL).toArray) :
    ∃ (v : Option Value) (vm₁ : Vm) (B : Pt), s.WarmedH vm₁ ∧ Stand p l e R s m args below meth c B.U B.locs B.cells B.slots ∧ Post ⟨T.setVm vm₁, locs, cells, slots⟩ (Value.ref b :: argsL).toArray v B ∧
      ∀ target, Steps p.tables e below (B.U.setTop { g with pc := g.pc + 3, stack := v.toList ++ rest }) target → Steps p.tables e below (T.setTop g) target := by
  obtain ⟨mk, methM, hnamed, hmethM, hstM, habM⟩ := Cond.instanceMethod_spec hinst
  obtain ⟨m8, methM', cM, hn8, hmethM', -, -, -, -, -, -, hsigM⟩ := Cond.codeWith_spec hcode
  cases Option.some.inj (hn8.symm.trans hnamed)
  cases hmethM.symm.trans hmethM'
  obtain ⟨c2, r2, m2, q1, q2, q3, q4, kP, hkP, hkPi⟩ := Cond.selects_spec hsel
  cases hcls.symm.trans q1
  cases (State.methodFound?_of_named hnamed hy).symm.trans q2
  cases hnamed.symm.trans q3
  have hselP : selectMethod e.platform s.vm cellB.cls mk = .method mk := by rw [Launch.admits_selectMethod X.admits]; exact q4
  obtain ⟨vm₁, X₁, hstep₁⟩ := X.invokevirtual hexec hown hlink hnamed hmethM hstM hkP hkPi hy (a := b) (cell := cellB) hcell
    (fun z h => by rw [h] at hobj; cases hobj) hselP hmethM habM hkP hkPi (g := g) hg (argsL := argsL) (rest := rest) (hlen _ hsigM) hstack hdg
  obtain ⟨v, B, X', hpost, hsteps⟩ := hK m meth c ⟨T.setVm vm₁, locs, cells, slots⟩ { g with stack := rest } (.invokevirtual index) mk (Value.ref b :: argsL).toArray X₁ hg hsize hdg hW (X₁.named hnamed) (hpre vm₁ X₁.warmed)
  exact ⟨v, vm₁, B, X₁.warmed, X', hpost, fun target h => hstep₁ _ fun acts => by rw [doInvoke_state]; exact hsteps.trans h⟩
abbrev vx_CVW (R : Room) (s : State) (args : Array Value) (own C : String) (index : Nat) (y : MethodName) (bytes : ByteArray) (maxL : Nat) (ret : Option FieldType) (hh : List (Nat × Nat × Nat × Nat)) (ws : List Cond) (rm : Room) (mc ms n : Nat) : Prop :=
  (rm.cells = mc ∧ rm.slots = ms ∧ rm.frames + 1 ≤ R.frames ∧ 8 + (maxL + 11) + rm.locals ≤ R.locals ∧ (∀ w ∈ ws, ∀ (a' : Array Value) (U : State), s.WarmedH U.vm → w.before a' U = true) ∧ Cond.codeWith y bytes maxL ret hh ∈ ws) ∧
  (Cond.codeWith y bytes maxL ret hh).before args s = true ∧ (Cond.initialized y.cls).before args s = true ∧ (y.cls ≠ "java/lang/invoke/MethodHandle" ∧ y.cls ≠ "java/lang/invoke/VarHandle") ∧
  (∀ sig, parseMethodDescriptor y.desc = some sig → n = sig.parameters.length) ∧ (Cond.methodLink own index y).before args s = true ∧ (Cond.instanceMethod y).before args s = true ∧ (Cond.selects C y y).before args s = true
theorem vx_cwVW {own C : String} {index maxL mc ms : Nat} {y : MethodName} {bytes : ByteArray} {ret : Option FieldType} {hh : List (Nat × Nat × Nat × Nat)} {Ts ws ws' : List Cond} {rm : Room} (n : Nat) (ht : ∀ w ∈ Ts, w.before args s = true) (hT : GoodIn Ts (wsV own index C y ws)) (hw : ws = Cond.codeWith y bytes maxL ret hh :: ws') (hrc : rm.cells = mc) (hrs : rm.slots = ms)
    (hd : y.cls = C ∧ y.cls ≠ "java/lang/invoke/MethodHandle" ∧ y.cls ≠ "java/lang/invoke/VarHandle" ∧ (parseMethodDescriptor y.desc).map (fun d => d.parameters.length) = some n) (hR : rm.frames + 1 ≤ R.frames ∧ 8 + (maxL + 11) + rm.locals ≤ R.locals) :
    vx_CVW R s args own C index y bytes maxL ret hh ws rm mc ms n := by
  obtain ⟨hC, hd⟩ := hd
  subst hC
  have ok : ∀ w ∈ wsV own index y.cls y ws, w.before args s = true := fun w h => ht w (hT w h).1
  have hG : GoodIn Ts ws := fun w h => hT w (by unfold wsV; exact List.mem_append_right _ h)
  have hc : Cond.codeWith y bytes maxL ret hh ∈ ws := by rw [hw]; exact List.mem_cons_self
  refine ⟨⟨hrc, hrs, hR.1, hR.2, pay_in ht hG, hc⟩, ht _ (hG _ hc).1, ok _ (by simp [wsV]), ⟨hd.1, hd.2.1⟩, fun sig h => ?_, ok _ (by simp [wsV]), ok _ (by simp [wsV]), ok _ (by simp [wsV])⟩
  have h2 := hd.2.2
  rw [h] at h2
  exact (Option.some.inj h2).symm
theorem vx_runVW {y : MethodName} {bytes cc : ByteArray} {maxL nL mc ms n index : Nat} {ret : Option FieldType} {hh : List (Nat × Nat × Nat × Nat)} {ws : List Cond} {rm : Room} {Pc : Array Value → State → Prop} {Qc : Array Value → State → Outcome → State → Prop} {free : Addr → Prop} {Ts : List Cond} {own C : String} {b : Addr} {As rest : List Value} {g : JFrame}
    (S : CallFix p m c cc nL s args Ts own) (hM : Met l y ws rm Pc Qc mc ms free) (cw : vx_CVW R s args own C index y bytes maxL ret hh ws rm mc ms n) (hp : PreV s H C b Pc As)
    (hg : g.method = m) (hn : As.length = n) (hsize : g.locals.size = nL) (hstack : g.stack = As.reverse ++ .ref b :: rest) (hW : 2 * g.monitorRoom + (rest.map fun v => v.category).sum ≤ 8) (hdg : decode cc g.pc = .ok (.invokevirtual index, 3)) (hf : cells + mc ≤ R.cells ∧ slots + ms ≤ R.slots) :
    va_Run p l e R s m args below meth c H locs cells slots mc ms g rest (Qc (Value.ref b :: As).toArray) free := by
  obtain ⟨⟨hrc, hrs, hfr, hlo, hws, hcw⟩, hcode, hini, hy, hlen, hl, hin, hse⟩ := cw
  have hK : Back l R p e below s args y 3 8 (PreOf R mc ms Pc) (PostOf Qc mc ms free) := va_backW (hh := hh) (bytes := bytes) (maxL := maxL) (ret := ret) hM hp.1 hrc hrs hfr hlo hws hcw (fun a' U hW => word_at hW (Or.inl (by first | rfl | simp [Cond.onTables, Cond.keeps, Cond.steady])) hini)
  obtain ⟨hx, hb, hml, ho, -⟩ := S
  obtain ⟨-, ⟨cellB, hcB, hoB, hclB⟩, hPc⟩ := hp
  intro T hT X
  obtain ⟨v, vm₁, ⟨U', l2, c2, s2⟩, hW₁, X', ⟨g', mk, t, L, e1, e2, hq, h1, hL, h2, h3⟩, st⟩ := vx_callVW X hx (C := C) (hh := hh) (bytes := bytes) (maxL := maxL) (ret := ret) ho hl hin hse hcode hy hK (by rw [hT]; exact hcB) hoB hclB hg (hsize.trans hml.symm) (argsL := As) (rest := rest) (fun sig h => hn.trans (hlen sig h)) hstack hW (by rw [hb]; exact hdg)
    (fun vm₁ hW₁ => ⟨hf.1, hf.2, hPc (T.setVm vm₁) hT hW₁⟩)
  dsimp only [Pt.U, Pt.locs, Pt.cells, Pt.slots] at X' e1 e2 h1 h2 h3 st
  subst h1; subst h2; subst h3
  exact ⟨v, (T.setVm vm₁).calling g' mk (Value.ref b :: As).toArray, t, U', L, hT, X', hL, e1, e2, hq, st⟩
section
variable {y : MethodName} {bytes cc : ByteArray} {maxL nL mc ms n index : Nat} {ret : Option FieldType} {ws : List Cond} {rm : Room} {Pc : Array Value → State → Prop} {Qc : Array Value → State → Outcome → State → Prop} {XC : String → State → State → Prop} {free : Addr → Prop} {Ts : List Cond} {own C : String} {b : Addr} {As rest : List Value} {g : JFrame}
theorem vx_runVX {hh : List (Nat × Nat × Nat × Nat)} (S : CallFix p m c cc nL s args Ts own) (hM : vx_Met l y ws rm Pc Qc XC mc ms free) (cw : vx_CVW R s args own C index y bytes maxL ret hh ws rm mc ms n) (hp : PreV s H C b Pc As)
    (hg : g.method = m) (hn : As.length = n) (hsize : g.locals.size = nL) (hstack : g.stack = As.reverse ++ .ref b :: rest) (hW : 2 * g.monitorRoom + (rest.map fun v => v.category).sum ≤ 8) (hdg : decode cc g.pc = .ok (.invokevirtual index, 3)) (hf : cells + mc ≤ R.cells ∧ slots + ms ≤ R.slots) :
    vx_Run p l e R s m args below meth c H locs cells slots mc ms g rest (Qc (Value.ref b :: As).toArray) XC free := by
  obtain ⟨⟨hrc, hrs, hfr, hlo, hws, hcw⟩, hcode, hini, hy, hlen, hl, hin, hse⟩ := cw
  have hK : vx_Back l R p e below s args y 3 8 (PreOf R mc ms Pc) (PostOf Qc mc ms free) (vx_Post XC mc ms free) := vx_backW (hh := hh) (bytes := bytes) (maxL := maxL) (ret := ret) hM hp.1 hrc hrs hfr hlo hws hcw (fun a' U hW => word_at hW (Or.inl (by first | rfl | simp [Cond.onTables, Cond.keeps, Cond.steady])) hini)
  obtain ⟨hx, hb, hml, ho, -⟩ := S
  obtain ⟨-, ⟨cellB, hcB, hoB, hclB⟩, hPc⟩ := hp
  intro T hT X
  rcases vx_callVX X hx (C := C) (hh := hh) (bytes := bytes) (maxL := maxL) (ret := ret) ho hl hin hse hcode hy hK (by rw [hT]; exact hcB) hoB hclB hg (hsize.trans hml.symm) (argsL := As) (rest := rest) (fun sig h => hn.trans (hlen sig h)) hstack hW (by rw [hb]; exact hdg)
    (fun vm₁ hW₁ => ⟨hf.1, hf.2, hPc (T.setVm vm₁) hT hW₁⟩) with ⟨v, vm₁, ⟨U', l2, c2, s2⟩, hW₁, X', ⟨g', mk, t, L, e1, e2, hq, h1, hL, h2, h3⟩, st⟩ | ⟨q, vm₁, ⟨U', l2, c2, s2⟩, hW₁, X', ⟨g', mk, t, L, E, ce, e1, e2, hq, hce, hcv, hcl, h1, hL, h2, h3⟩, st⟩
  · dsimp only [Pt.U, Pt.locs, Pt.cells, Pt.slots] at X' e1 e2 h1 h2 h3 st
    subst h1; subst h2; subst h3
    exact Or.inl ⟨v, (T.setVm vm₁).calling g' mk (Value.ref b :: As).toArray, t, U', L, hT, X', hL, e1, e2, hq, st⟩
  · dsimp only [Pt.U, Pt.locs, Pt.cells, Pt.slots] at X' e1 e2 h1 h2 h3 st hcl
    subst h1; subst h2; subst h3
    exact Or.inr ⟨q, (T.setVm vm₁).calling g' mk (Value.ref b :: As).toArray, t, U', L, E, ce, hT, X', hL, e1, e2, hq, hce, hcv, vx_cls hW₁ hcl, st⟩
theorem vx_runSX {hh : List (Nat × Nat × Nat × Nat)} (S : CallFix p m c cc nL s args Ts own) (hM : vx_Met l y ws rm Pc Qc XC mc ms free) (cw : vx_CSW R s args own index y bytes maxL ret hh ws rm mc ms n) (hp : PreS s H Pc As)
    (hg : g.method = m) (hn : As.length = n) (hsize : g.locals.size = nL) (hstack : g.stack = As.reverse ++ rest) (hW : 2 * g.monitorRoom + (rest.map fun v => v.category).sum ≤ 8) (hdg : decode cc g.pc = .ok (.invokestatic index, 3)) (hf : cells + mc ≤ R.cells ∧ slots + ms ≤ R.slots) :
    vx_Run p l e R s m args below meth c H locs cells slots mc ms g rest (Qc As.toArray) XC free := by
  obtain ⟨⟨hrc, hrs, hfr, hlo, hws, hcw⟩, hcode, hini, hy, hlen, hl, hstt⟩ := cw
  have hK : vx_Back l R p e below s args y 3 8 (PreOf R mc ms Pc) (PostOf Qc mc ms free) (vx_Post XC mc ms free) := vx_backW (hh := hh) (bytes := bytes) (maxL := maxL) (ret := ret) hM hp.1 hrc hrs hfr hlo hws hcw (fun a' U hW => word_at hW (Or.inl (by first | rfl | simp [Cond.onTables, Cond.keeps, Cond.steady])) hini)
  obtain ⟨hx, hb, hml, ho, -⟩ := S
  intro T hT X
  rcases vx_callSX X hx (hh := hh) (bytes := bytes) (maxL := maxL) (ret := ret) ho hl hstt hini hcode hy hK hg (hsize.trans hml.symm) (argsL := As) (rest := rest) (fun sig h => hn.trans (hlen sig h)) hstack hW (by rw [hb]; exact hdg)
    (fun vm₁ hW₁ => ⟨hf.1, hf.2, hp.2 (T.setVm vm₁) hT hW₁⟩) with ⟨v, vm₁, ⟨U', l2, c2, s2⟩, hW₁, X', ⟨g', mk, t, L, e1, e2, hq, h1, hL, h2, h3⟩, st⟩ | ⟨q, vm₁, ⟨U', l2, c2, s2⟩, hW₁, X', ⟨g', mk, t, L, E, ce, e1, e2, hq, hce, hcv, hcl, h1, hL, h2, h3⟩, st⟩
  · dsimp only [Pt.U, Pt.locs, Pt.cells, Pt.slots] at X' e1 e2 h1 h2 h3 st
    subst h1; subst h2; subst h3
    exact Or.inl ⟨v, (T.setVm vm₁).calling g' mk As.toArray, t, U', L, hT, X', hL, e1, e2, hq, st⟩
  · dsimp only [Pt.U, Pt.locs, Pt.cells, Pt.slots] at X' e1 e2 h1 h2 h3 st hcl
    subst h1; subst h2; subst h3
    exact Or.inr ⟨q, (T.setVm vm₁).calling g' mk As.toArray, t, U', L, E, ce, hT, X', hL, e1, e2, hq, hce, hcv, vx_cls hW₁ hcl, st⟩
end
end VXH
theorem vx_ofWH {l : Launch} {y : MethodName} {ws ws' : List Cond} {rm : Room} {Pc : Array Value → State → Prop} {Qc : Array Value → State → Outcome → State → Prop} {XC : String → State → State → Prop} {mc ms : Nat} {free : Addr → Prop} {cc : ByteArray} {maxL : Nat} {ret : Option FieldType} {hh : List (Nat × Nat × Nat × Nat)}
    (hy : plainName y.cls = true) (hw : ws = Cond.codeWith y cc maxL ret hh :: ws')
    (body : ∀ p e s m args below meth c s₁, BodyLoose p l y (headSpec ws rm) cc maxL ret e s m args below meth c s₁ → c.maxLocals = maxL → Pc args s →
      W p l e (headSpec ws rm).room s m args below meth c s.heap [] 0 0 (vx_MQ below Qc XC args s mc ms free) (entryFrame m args maxL)) : vx_Met l y ws rm Pc Qc XC mc ms free := by
  refine MetFree.of_bodyS (code := cc) (maxLocals := maxL) (ret := ret) hy ?_ ?_
  · intro args s m h hn
    obtain ⟨m9, meth, c, hn9, h1, h2, h3, h4, -, h5, h6, -⟩ := Cond.codeWith_spec (atoms_spec (ws := ws) h _ (by rw [hw]; exact List.mem_cons_self))
    cases hn.symm.trans hn9
    exact ⟨meth, c, h1, h2, h3, h4, h5, h6⟩
  · intro p e s m args below meth c s₁ B hml hP _
    have hh0 : s₁.heap = s.heap := by rw [B.state]; rfl
    obtain ⟨t, a1, o, b1, b2, b3⟩ := body p e s m args below meth c s₁ B hml hP s₁ hh0 (Stand.of_body B)
    exact ⟨t, o, a1, b1, b2, b3⟩
/-! ===== END ===== -/
end
section
def RX0 : String := "SignMasons$Book"
def TX0 : u_T := fun k => match k with
  | 0 => ("SignMasons$Book", "places", "LSignMasons$Places;", true)
  | 1 => ("SignMasons$Book", "looks", "[I", true)
  | 2 => ("SignMasons$Book", "meanings", "[I", true)
  | _ => ("SignMasons$Book", "count", "I", false)
def tyX0 : Nat → FieldType := fun k => match k with
  | 0 => .object "SignMasons$Places"
  | 1 => .array .int
  | 2 => .array .int
  | _ => .int
abbrev wsX00 : List Cond := u_ws RX0 TX0 4
theorem nmX0 : ∀ a, a < 4 → ∀ b, b < 4 → a ≠ b → (TX0 a).2.1 ≠ (TX0 b).2.1 := by decide +kernel
theorem tyX0_ok : ∀ k, k < 4 → parseFieldDescriptor (TX0 k).2.2.1 = some (tyX0 k) := by decide +kernel
abbrev cX0_init : ByteArray := prog_2_method_1_code
def yX0_init : MethodName := ⟨RX0, "<init>", "(LSignMasons$Places;)V"⟩
abbrev cX0_copyFrom : ByteArray := prog_2_method_2_code
def yX0_copyFrom : MethodName := ⟨RX0, "copyFrom", "(LSignMasons$Book;)V"⟩
abbrev cX0_hasRoomFor : ByteArray := prog_2_method_3_code
def yX0_hasRoomFor : MethodName := ⟨RX0, "hasRoomFor", "(I)Z"⟩
abbrev cX0_append : ByteArray := prog_2_method_4_code
def yX0_append : MethodName := ⟨RX0, "append", "(II)I"⟩
abbrev cX0_remove : ByteArray := prog_2_method_5_code
def yX0_remove : MethodName := ⟨RX0, "remove", "(I)I"⟩
abbrev cX0_find : ByteArray := prog_2_method_6_code
def yX0_find : MethodName := ⟨RX0, "find", "(I)I"⟩
abbrev cX0_hasAlike : ByteArray := prog_2_method_7_code
def yX0_hasAlike : MethodName := ⟨RX0, "hasAlike", "(I)Z"⟩
abbrev cX0_firstUnlike : ByteArray := prog_2_method_8_code
def yX0_firstUnlike : MethodName := ⟨RX0, "firstUnlike", "(I)I"⟩
abbrev cX0_countAlike : ByteArray := prog_2_method_9_code
def yX0_countAlike : MethodName := ⟨RX0, "countAlike", "()I"⟩
abbrev cX0_countAlikeIfJoined : ByteArray := prog_2_method_10_code
def yX0_countAlikeIfJoined : MethodName := ⟨RX0, "countAlikeIfJoined", "(II)I"⟩
abbrev cX0_countThumbApart : ByteArray := prog_2_method_11_code
def yX0_countThumbApart : MethodName := ⟨RX0, "countThumbApart", "()I"⟩
abbrev cX0_nearestBut : ByteArray := prog_2_method_12_code
def yX0_nearestBut : MethodName := ⟨RX0, "nearestBut", "(II)I"⟩
abbrev cX0_fewestApart : ByteArray := prog_2_method_13_code
def yX0_fewestApart : MethodName := ⟨RX0, "fewestApart", "()I"⟩
abbrev cX0_countNear : ByteArray := prog_2_method_14_code
def yX0_countNear : MethodName := ⟨RX0, "countNear", "(I)I"⟩
abbrev cX0_signNearMost : ByteArray := prog_2_method_15_code
def yX0_signNearMost : MethodName := ⟨RX0, "signNearMost", "()I"⟩
abbrev cX0_thumbFarthest : ByteArray := prog_2_method_16_code
def yX0_thumbFarthest : MethodName := ⟨RX0, "thumbFarthest", "(I)I"⟩
abbrev cX0_meaningRead : ByteArray := prog_2_method_17_code
def yX0_meaningRead : MethodName := ⟨RX0, "meaningRead", "(I)I"⟩
abbrev cX0_countUnderstood : ByteArray := prog_2_method_18_code
def yX0_countUnderstood : MethodName := ⟨RX0, "countUnderstood", "(LSignMasons$Book;)I"⟩
abbrev cX0_countMisread : ByteArray := prog_2_method_19_code
def yX0_countMisread : MethodName := ⟨RX0, "countMisread", "(LSignMasons$Book;)I"⟩
abbrev cX0_countCommon : ByteArray := prog_2_method_20_code
def yX0_countCommon : MethodName := ⟨RX0, "countCommon", "(LSignMasons$Book;)I"⟩
def RX1 : String := "SignMasons$Look"
def TX1 : u_T := fun k => match k with
  | _ => ("", "", "", false)
def tyX1 : Nat → FieldType := fun k => match k with
  | _ => .int
abbrev wsX10 : List Cond := u_ws RX1 TX1 0
theorem nmX1 : ∀ a, a < 0 → ∀ b, b < 0 → a ≠ b → (TX1 a).2.1 ≠ (TX1 b).2.1 := by decide +kernel
theorem tyX1_ok : ∀ k, k < 0 → parseFieldDescriptor (TX1 k).2.2.1 = some (tyX1 k) := by decide +kernel
abbrev cX1_of : ByteArray := prog_3_method_2_code
def yX1_of : MethodName := ⟨RX1, "of", "(IIII)I"⟩
abbrev cX1_shape : ByteArray := prog_3_method_3_code
def yX1_shape : MethodName := ⟨RX1, "shape", "(I)I"⟩
abbrev cX1_thumb : ByteArray := prog_3_method_4_code
def yX1_thumb : MethodName := ⟨RX1, "thumb", "(I)I"⟩
abbrev cX1_movement : ByteArray := prog_3_method_5_code
def yX1_movement : MethodName := ⟨RX1, "movement", "(I)I"⟩
abbrev cX1_place : ByteArray := prog_3_method_6_code
def yX1_place : MethodName := ⟨RX1, "place", "(I)I"⟩
abbrev cX1_withThumb : ByteArray := prog_3_method_7_code
def yX1_withThumb : MethodName := ⟨RX1, "withThumb", "(II)I"⟩
abbrev cX1_sameButForPlace : ByteArray := prog_3_method_8_code
def yX1_sameButForPlace : MethodName := ⟨RX1, "sameButForPlace", "(II)Z"⟩
def RX2 : String := "SignMasons$Places"
def TX2 : u_T := fun k => match k with
  | 0 => ("SignMasons$Places", "groupAt", "[I", true)
  | _ => ("SignMasons$Places", "groupCount", "I", false)
def tyX2 : Nat → FieldType := fun k => match k with
  | 0 => .array .int
  | _ => .int
abbrev wsX20 : List Cond := u_ws RX2 TX2 2
theorem nmX2 : ∀ a, a < 2 → ∀ b, b < 2 → a ≠ b → (TX2 a).2.1 ≠ (TX2 b).2.1 := by decide +kernel
theorem tyX2_ok : ∀ k, k < 2 → parseFieldDescriptor (TX2 k).2.2.1 = some (tyX2 k) := by decide +kernel
abbrev cX2_init : ByteArray := prog_4_method_1_code
def yX2_init : MethodName := ⟨RX2, "<init>", "()V"⟩
abbrev cX2_unite : ByteArray := prog_4_method_2_code
def yX2_unite : MethodName := ⟨RX2, "unite", "(II)V"⟩
abbrev cX2_sameGroup : ByteArray := prog_4_method_3_code
def yX2_sameGroup : MethodName := ⟨RX2, "sameGroup", "(II)Z"⟩
abbrev cX2_sameGroupIf : ByteArray := prog_4_method_4_code
def yX2_sameGroupIf : MethodName := ⟨RX2, "sameGroupIf", "(IIII)Z"⟩
abbrev cX2_stepsBetween : ByteArray := prog_4_method_5_code
def yX2_stepsBetween : MethodName := ⟨RX2, "stepsBetween", "(II)I"⟩
abbrev cX2_alike : ByteArray := prog_4_method_6_code
def yX2_alike : MethodName := ⟨RX2, "alike", "(II)Z"⟩
abbrev cX2_alikeIf : ByteArray := prog_4_method_7_code
def yX2_alikeIf : MethodName := ⟨RX2, "alikeIf", "(IIII)Z"⟩
abbrev cX2_distance : ByteArray := prog_4_method_8_code
def yX2_distance : MethodName := ⟨RX2, "distance", "(II)I"⟩
def RX3 : String := "SignMasons"
def TX3 : u_T := fun k => match k with
  | 0 => ("SignMasons", "places", "LSignMasons$Places;", true)
  | 1 => ("SignMasons", "books", "[LSignMasons$Book;", true)
  | 2 => ("SignMasons", "trial", "LSignMasons$Book;", true)
  | _ => ("SignMasons", "lodgeCount", "I", false)
def tyX3 : Nat → FieldType := fun k => match k with
  | 0 => .object "SignMasons$Places"
  | 1 => .array (.object "SignMasons$Book")
  | 2 => .object "SignMasons$Book"
  | _ => .int
abbrev wsX30 : List Cond := u_ws RX3 TX3 4
theorem nmX3 : ∀ a, a < 4 → ∀ b, b < 4 → a ≠ b → (TX3 a).2.1 ≠ (TX3 b).2.1 := by decide +kernel
theorem tyX3_ok : ∀ k, k < 4 → parseFieldDescriptor (TX3 k).2.2.1 = some (tyX3 k) := by decide +kernel
abbrev cX3_init : ByteArray := prog_1_method_1_code
def yX3_init : MethodName := ⟨RX3, "<init>", "()V"⟩
abbrev cX3_addLodge : ByteArray := prog_1_method_2_code
def yX3_addLodge : MethodName := ⟨RX3, "addLodge", "()I"⟩
abbrev cX3_addSign : ByteArray := prog_1_method_3_code
def yX3_addSign : MethodName := ⟨RX3, "addSign", "(IIIIII)I"⟩
abbrev cX3_forget : ByteArray := prog_1_method_4_code
def yX3_forget : MethodName := ⟨RX3, "forget", "(II)I"⟩
abbrev cX3_setThumb : ByteArray := prog_1_method_5_code
def yX3_setThumb : MethodName := ⟨RX3, "setThumb", "(III)I"⟩
abbrev cX3_join : ByteArray := prog_1_method_6_code
def yX3_join : MethodName := ⟨RX3, "join", "(II)I"⟩
abbrev cX3_borrow : ByteArray := prog_1_method_7_code
def yX3_borrow : MethodName := ⟨RX3, "borrow", "(III)I"⟩
abbrev cX3_groups : ByteArray := prog_1_method_8_code
def yX3_groups : MethodName := ⟨RX3, "groups", "()I"⟩
abbrev cX3_areJoined : ByteArray := prog_1_method_9_code
def yX3_areJoined : MethodName := ⟨RX3, "areJoined", "(II)Z"⟩
abbrev cX3_steps : ByteArray := prog_1_method_10_code
def yX3_steps : MethodName := ⟨RX3, "steps", "(II)I"⟩
abbrev cX3_lodges : ByteArray := prog_1_method_11_code
def yX3_lodges : MethodName := ⟨RX3, "lodges", "()I"⟩
abbrev cX3_signsOf : ByteArray := prog_1_method_12_code
def yX3_signsOf : MethodName := ⟨RX3, "signsOf", "(I)I"⟩
abbrev cX3_shapeOf : ByteArray := prog_1_method_13_code
def yX3_shapeOf : MethodName := ⟨RX3, "shapeOf", "(II)I"⟩
abbrev cX3_thumbOf : ByteArray := prog_1_method_14_code
def yX3_thumbOf : MethodName := ⟨RX3, "thumbOf", "(II)I"⟩
abbrev cX3_placeOf : ByteArray := prog_1_method_15_code
def yX3_placeOf : MethodName := ⟨RX3, "placeOf", "(II)I"⟩
abbrev cX3_meaningOf : ByteArray := prog_1_method_16_code
def yX3_meaningOf : MethodName := ⟨RX3, "meaningOf", "(II)I"⟩
abbrev cX3_signFor : ByteArray := prog_1_method_17_code
def yX3_signFor : MethodName := ⟨RX3, "signFor", "(II)I"⟩
abbrev cX3_apart : ByteArray := prog_1_method_18_code
def yX3_apart : MethodName := ⟨RX3, "apart", "(III)I"⟩
abbrev cX3_alikePairs : ByteArray := prog_1_method_19_code
def yX3_alikePairs : MethodName := ⟨RX3, "alikePairs", "(I)I"⟩
abbrev cX3_thumbPairs : ByteArray := prog_1_method_20_code
def yX3_thumbPairs : MethodName := ⟨RX3, "thumbPairs", "(I)I"⟩
abbrev cX3_closest : ByteArray := prog_1_method_21_code
def yX3_closest : MethodName := ⟨RX3, "closest", "(I)I"⟩
abbrev cX3_mostMistaken : ByteArray := prog_1_method_22_code
def yX3_mostMistaken : MethodName := ⟨RX3, "mostMistaken", "(I)I"⟩
abbrev cX3_read : ByteArray := prog_1_method_23_code
def yX3_read : MethodName := ⟨RX3, "read", "(III)I"⟩
abbrev cX3_readShown : ByteArray := prog_1_method_24_code
def yX3_readShown : MethodName := ⟨RX3, "readShown", "(IIIII)I"⟩
abbrev cX3_understood : ByteArray := prog_1_method_25_code
def yX3_understood : MethodName := ⟨RX3, "understood", "(II)I"⟩
abbrev cX3_misread : ByteArray := prog_1_method_26_code
def yX3_misread : MethodName := ⟨RX3, "misread", "(II)I"⟩
abbrev cX3_common : ByteArray := prog_1_method_27_code
def yX3_common : MethodName := ⟨RX3, "common", "(II)I"⟩
abbrev cX3_bestThumb : ByteArray := prog_1_method_28_code
def yX3_bestThumb : MethodName := ⟨RX3, "bestThumb", "(II)I"⟩
abbrev cX3_bestToBorrow : ByteArray := prog_1_method_29_code
def yX3_bestToBorrow : MethodName := ⟨RX3, "bestToBorrow", "(II)I"⟩
abbrev cX3_alikeIfJoined : ByteArray := prog_1_method_30_code
def yX3_alikeIfJoined : MethodName := ⟨RX3, "alikeIfJoined", "(II)I"⟩
abbrev cX3_meanSigns : ByteArray := prog_1_method_31_code
def yX3_meanSigns : MethodName := ⟨RX3, "meanSigns", "()D"⟩
abbrev cX3_digest : ByteArray := prog_1_method_32_code
def yX3_digest : MethodName := ⟨RX3, "digest", "()J"⟩
abbrev cX3_mix : ByteArray := prog_1_method_33_code
def yX3_mix : MethodName := ⟨RX3, "mix", "(JJ)J"⟩
abbrev cX3_mixBook : ByteArray := prog_1_method_34_code
def yX3_mixBook : MethodName := ⟨RX3, "mixBook", "(JLSignMasons$Book;)J"⟩
abbrev cX3_mixSigns : ByteArray := prog_1_method_35_code
def yX3_mixSigns : MethodName := ⟨RX3, "mixSigns", "(JLSignMasons$Book;)J"⟩
abbrev cX3_tryLoan : ByteArray := prog_1_method_36_code
def yX3_tryLoan : MethodName := ⟨RX3, "tryLoan", "(LSignMasons$Book;ILSignMasons$Book;)Z"⟩
abbrev cX3_isBelow : ByteArray := prog_1_method_37_code
def yX3_isBelow : MethodName := ⟨RX3, "isBelow", "(II)Z"⟩
abbrev cX3_bookOf : ByteArray := prog_1_method_38_code
def yX3_bookOf : MethodName := ⟨RX3, "bookOf", "(I)LSignMasons$Book;"⟩
abbrev cX3_lookOf : ByteArray := prog_1_method_39_code
def yX3_lookOf : MethodName := ⟨RX3, "lookOf", "(II)I"⟩
abbrev cX3_checkSign : ByteArray := prog_1_method_40_code
def yX3_checkSign : MethodName := ⟨RX3, "checkSign", "(LSignMasons$Book;I)V"⟩
abbrev cX3_checkPlace : ByteArray := prog_1_method_41_code
def yX3_checkPlace : MethodName := ⟨RX3, "checkPlace", "(I)V"⟩
abbrev cX3_checkLook : ByteArray := prog_1_method_42_code
def yX3_checkLook : MethodName := ⟨RX3, "checkLook", "(IIII)V"⟩
def RX4 : String := "SignMasonsModel"
def TX4 : u_T := fun k => match k with
  | 0 => ("SignMasonsModel", "thrown", "I", false)
  | 1 => ("SignMasonsModel", "lodges", "I", false)
  | 2 => ("SignMasonsModel", "many", "[I", true)
  | 3 => ("SignMasonsModel", "shape", "[I", true)
  | 4 => ("SignMasonsModel", "thumb", "[I", true)
  | 5 => ("SignMasonsModel", "place", "[I", true)
  | 6 => ("SignMasonsModel", "move", "[I", true)
  | 7 => ("SignMasonsModel", "means", "[I", true)
  | _ => ("SignMasonsModel", "group", "[I", true)
def tyX4 : Nat → FieldType := fun k => match k with
  | 0 => .int
  | 1 => .int
  | 2 => .array .int
  | 3 => .array .int
  | 4 => .array .int
  | 5 => .array .int
  | 6 => .array .int
  | 7 => .array .int
  | _ => .array .int
abbrev wsX40 : List Cond := u_ws RX4 TX4 9
theorem nmX4 : ∀ a, a < 9 → ∀ b, b < 9 → a ≠ b → (TX4 a).2.1 ≠ (TX4 b).2.1 := by decide +kernel
theorem tyX4_ok : ∀ k, k < 9 → parseFieldDescriptor (TX4 k).2.2.1 = some (tyX4 k) := by decide +kernel
abbrev cX4_init : ByteArray := prog_6_method_1_code
def yX4_init : MethodName := ⟨RX4, "<init>", "()V"⟩
abbrev cX4_thrown : ByteArray := prog_6_method_2_code
def yX4_thrown : MethodName := ⟨RX4, "thrown", "()I"⟩
abbrev cX4_fail : ByteArray := prog_6_method_3_code
def yX4_fail : MethodName := ⟨RX4, "fail", "(I)I"⟩
abbrev cX4_told : ByteArray := prog_6_method_4_code
def yX4_told : MethodName := ⟨RX4, "told", "(I)I"⟩
abbrev cX4_isIn : ByteArray := prog_6_method_5_code
def yX4_isIn : MethodName := ⟨RX4, "isIn", "(III)Z"⟩
abbrev cX4_isLodge : ByteArray := prog_6_method_6_code
def yX4_isLodge : MethodName := ⟨RX4, "isLodge", "(I)Z"⟩
abbrev cX4_isSign : ByteArray := prog_6_method_7_code
def yX4_isSign : MethodName := ⟨RX4, "isSign", "(II)Z"⟩
abbrev cX4_isPlace : ByteArray := prog_6_method_8_code
def yX4_isPlace : MethodName := ⟨RX4, "isPlace", "(I)Z"⟩
abbrev cX4_isShown : ByteArray := prog_6_method_9_code
def yX4_isShown : MethodName := ⟨RX4, "isShown", "(IIII)Z"⟩
abbrev cX4_at : ByteArray := prog_6_method_10_code
def yX4_at : MethodName := ⟨RX4, "at", "(II)I"⟩
abbrev cX4_stepsOf : ByteArray := prog_6_method_11_code
def yX4_stepsOf : MethodName := ⟨RX4, "stepsOf", "(II)I"⟩
abbrev cX4_far : ByteArray := prog_6_method_12_code
def yX4_far : MethodName := ⟨RX4, "far", "(IIIII)I"⟩
abbrev cX4_far_ : ByteArray := prog_6_method_13_code
def yX4_far_ : MethodName := ⟨RX4, "far", "(II)I"⟩
abbrev cX4_reads : ByteArray := prog_6_method_14_code
def yX4_reads : MethodName := ⟨RX4, "reads", "(IIIII)I"⟩
abbrev cX4_reads_ : ByteArray := prog_6_method_15_code
def yX4_reads_ : MethodName := ⟨RX4, "reads", "(II)I"⟩
abbrev cX4_signOf : ByteArray := prog_6_method_16_code
def yX4_signOf : MethodName := ⟨RX4, "signOf", "(II)I"⟩
abbrev cX4_write : ByteArray := prog_6_method_17_code
def yX4_write : MethodName := ⟨RX4, "write", "(IIIIII)V"⟩
abbrev cX4_thumbFor : ByteArray := prog_6_method_18_code
def yX4_thumbFor : MethodName := ⟨RX4, "thumbFor", "(II)I"⟩
abbrev cX4_alike : ByteArray := prog_6_method_19_code
def yX4_alike : MethodName := ⟨RX4, "alike", "(I)I"⟩
abbrev cX4_readAs : ByteArray := prog_6_method_20_code
def yX4_readAs : MethodName := ⟨RX4, "readAs", "(IIZ)I"⟩
abbrev cX4_addLodge : ByteArray := prog_6_method_21_code
def yX4_addLodge : MethodName := ⟨RX4, "addLodge", "()I"⟩
abbrev cX4_addSign : ByteArray := prog_6_method_22_code
def yX4_addSign : MethodName := ⟨RX4, "addSign", "(IIIIII)I"⟩
abbrev cX4_close : ByteArray := prog_6_method_23_code
def yX4_close : MethodName := ⟨RX4, "close", "([III)V"⟩
abbrev cX4_forget : ByteArray := prog_6_method_24_code
def yX4_forget : MethodName := ⟨RX4, "forget", "(II)I"⟩
abbrev cX4_setThumb : ByteArray := prog_6_method_25_code
def yX4_setThumb : MethodName := ⟨RX4, "setThumb", "(III)I"⟩
abbrev cX4_allGroups : ByteArray := prog_6_method_26_code
def yX4_allGroups : MethodName := ⟨RX4, "allGroups", "()I"⟩
abbrev cX4_joinNow : ByteArray := prog_6_method_27_code
def yX4_joinNow : MethodName := ⟨RX4, "joinNow", "(II)V"⟩
abbrev cX4_join : ByteArray := prog_6_method_28_code
def yX4_join : MethodName := ⟨RX4, "join", "(II)I"⟩
abbrev cX4_borrow : ByteArray := prog_6_method_29_code
def yX4_borrow : MethodName := ⟨RX4, "borrow", "(III)I"⟩
abbrev cX4_groups : ByteArray := prog_6_method_30_code
def yX4_groups : MethodName := ⟨RX4, "groups", "()I"⟩
abbrev cX4_areJoined : ByteArray := prog_6_method_31_code
def yX4_areJoined : MethodName := ⟨RX4, "areJoined", "(II)Z"⟩
abbrev cX4_steps : ByteArray := prog_6_method_32_code
def yX4_steps : MethodName := ⟨RX4, "steps", "(II)I"⟩
abbrev cX4_lodges : ByteArray := prog_6_method_33_code
def yX4_lodges : MethodName := ⟨RX4, "lodges", "()I"⟩
abbrev cX4_signsOf : ByteArray := prog_6_method_34_code
def yX4_signsOf : MethodName := ⟨RX4, "signsOf", "(I)I"⟩
abbrev cX4_of : ByteArray := prog_6_method_35_code
def yX4_of : MethodName := ⟨RX4, "of", "(II[I)I"⟩
abbrev cX4_shapeOf : ByteArray := prog_6_method_36_code
def yX4_shapeOf : MethodName := ⟨RX4, "shapeOf", "(II)I"⟩
abbrev cX4_thumbOf : ByteArray := prog_6_method_37_code
def yX4_thumbOf : MethodName := ⟨RX4, "thumbOf", "(II)I"⟩
abbrev cX4_placeOf : ByteArray := prog_6_method_38_code
def yX4_placeOf : MethodName := ⟨RX4, "placeOf", "(II)I"⟩
abbrev cX4_meaningOf : ByteArray := prog_6_method_39_code
def yX4_meaningOf : MethodName := ⟨RX4, "meaningOf", "(II)I"⟩
abbrev cX4_signFor : ByteArray := prog_6_method_40_code
def yX4_signFor : MethodName := ⟨RX4, "signFor", "(II)I"⟩
abbrev cX4_apart : ByteArray := prog_6_method_41_code
def yX4_apart : MethodName := ⟨RX4, "apart", "(III)I"⟩
abbrev cX4_alikePairs : ByteArray := prog_6_method_42_code
def yX4_alikePairs : MethodName := ⟨RX4, "alikePairs", "(I)I"⟩
abbrev cX4_thumbs : ByteArray := prog_6_method_43_code
def yX4_thumbs : MethodName := ⟨RX4, "thumbs", "(I)I"⟩
abbrev cX4_thumbPairs : ByteArray := prog_6_method_44_code
def yX4_thumbPairs : MethodName := ⟨RX4, "thumbPairs", "(I)I"⟩
abbrev cX4_nearest : ByteArray := prog_6_method_45_code
def yX4_nearest : MethodName := ⟨RX4, "nearest", "(I)I"⟩
abbrev cX4_closest : ByteArray := prog_6_method_46_code
def yX4_closest : MethodName := ⟨RX4, "closest", "(I)I"⟩
abbrev cX4_mistaken : ByteArray := prog_6_method_47_code
def yX4_mistaken : MethodName := ⟨RX4, "mistaken", "(I)I"⟩
abbrev cX4_mostMistaken : ByteArray := prog_6_method_48_code
def yX4_mostMistaken : MethodName := ⟨RX4, "mostMistaken", "(I)I"⟩
abbrev cX4_read : ByteArray := prog_6_method_49_code
def yX4_read : MethodName := ⟨RX4, "read", "(III)I"⟩
abbrev cX4_readShown : ByteArray := prog_6_method_50_code
def yX4_readShown : MethodName := ⟨RX4, "readShown", "(IIIII)I"⟩
abbrev cX4_understood : ByteArray := prog_6_method_51_code
def yX4_understood : MethodName := ⟨RX4, "understood", "(II)I"⟩
abbrev cX4_misread : ByteArray := prog_6_method_52_code
def yX4_misread : MethodName := ⟨RX4, "misread", "(II)I"⟩
abbrev cX4_common : ByteArray := prog_6_method_53_code
def yX4_common : MethodName := ⟨RX4, "common", "(II)I"⟩
abbrev cX4_bestThumbOf : ByteArray := prog_6_method_54_code
def yX4_bestThumbOf : MethodName := ⟨RX4, "bestThumbOf", "(II)I"⟩
abbrev cX4_bestThumb : ByteArray := prog_6_method_55_code
def yX4_bestThumb : MethodName := ⟨RX4, "bestThumb", "(II)I"⟩
abbrev cX4_toBorrow : ByteArray := prog_6_method_56_code
def yX4_toBorrow : MethodName := ⟨RX4, "toBorrow", "(II)I"⟩
abbrev cX4_bestToBorrow : ByteArray := prog_6_method_57_code
def yX4_bestToBorrow : MethodName := ⟨RX4, "bestToBorrow", "(II)I"⟩
abbrev cX4_alikeIfJoined : ByteArray := prog_6_method_58_code
def yX4_alikeIfJoined : MethodName := ⟨RX4, "alikeIfJoined", "(II)I"⟩
abbrev cX4_meanSigns : ByteArray := prog_6_method_59_code
def yX4_meanSigns : MethodName := ⟨RX4, "meanSigns", "()D"⟩
abbrev cX4_digest : ByteArray := prog_6_method_60_code
def yX4_digest : MethodName := ⟨RX4, "digest", "()J"⟩
def RJ6 : String := "java/lang/Integer"
def TJ6 : u_T := fun k => match k with
  | _ => ("", "", "", false)
def tyJ6 : Nat → FieldType := fun k => match k with
  | _ => .int
abbrev wsJ60 : List Cond := u_ws RJ6 TJ6 0
theorem nmJ6 : ∀ a, a < 0 → ∀ b, b < 0 → a ≠ b → (TJ6 a).2.1 ≠ (TJ6 b).2.1 := by decide +kernel
theorem tyJ6_ok : ∀ k, k < 0 → parseFieldDescriptor (TJ6 k).2.2.1 = some (tyJ6 k) := by decide +kernel
abbrev cJ6_bitCount_0f7a4 : ByteArray := prog_11_method_49_code
def yJ6_bitCount_0f7a4 : MethodName := ⟨RJ6, "bitCount", "(I)I"⟩
def RJ9 : String := "java/lang/Math"
def TJ9 : u_T := fun k => match k with
  | _ => ("", "", "", false)
def tyJ9 : Nat → FieldType := fun k => match k with
  | _ => .int
abbrev wsJ90 : List Cond := u_ws RJ9 TJ9 0
theorem nmJ9 : ∀ a, a < 0 → ∀ b, b < 0 → a ≠ b → (TJ9 a).2.1 ≠ (TJ9 b).2.1 := by decide +kernel
theorem tyJ9_ok : ∀ k, k < 0 → parseFieldDescriptor (TJ9 k).2.2.1 = some (tyJ9 k) := by decide +kernel
abbrev cJ9_abs_0f7a4 : ByteArray := prog_12_method_59_code
def yJ9_abs_0f7a4 : MethodName := ⟨RJ9, "abs", "(I)I"⟩
abbrev cJ9_max_7cf53 : ByteArray := prog_12_method_65_code
def yJ9_max_7cf53 : MethodName := ⟨RJ9, "max", "(II)I"⟩
abbrev cJ9_min_7cf53 : ByteArray := prog_12_method_69_code
def yJ9_min_7cf53 : MethodName := ⟨RJ9, "min", "(II)I"⟩
def RJ0 : String := "java/lang/String"
def TJ0 : u_T := fun k => match k with
  | _ => ("", "", "", false)
def tyJ0 : Nat → FieldType := fun k => match k with
  | _ => .int
abbrev wsJ00 : List Cond := u_ws RJ0 TJ0 0
theorem nmJ0 : ∀ a, a < 0 → ∀ b, b < 0 → a ≠ b → (TJ0 a).2.1 ≠ (TJ0 b).2.1 := by decide +kernel
theorem tyJ0_ok : ∀ k, k < 0 → parseFieldDescriptor (TJ0 k).2.2.1 = some (tyJ0 k) := by decide +kernel
def RJ10 : String := "java/lang/System"
def TJ10 : u_T := fun k => match k with
  | _ => ("", "", "", false)
def tyJ10 : Nat → FieldType := fun k => match k with
  | _ => .int
abbrev wsJ100 : List Cond := u_ws RJ10 TJ10 0
theorem nmJ10 : ∀ a, a < 0 → ∀ b, b < 0 → a ≠ b → (TJ10 a).2.1 ≠ (TJ10 b).2.1 := by decide +kernel
theorem tyJ10_ok : ∀ k, k < 0 → parseFieldDescriptor (TJ10 k).2.2.1 = some (tyJ10 k) := by decide +kernel
def RL : String := "SignMasonsLaw"
abbrev cL_addLodge : ByteArray := method_3_code
def yL_addLodge : MethodName := ⟨RL, "addLodge", "(LSignMasons;[J)I"⟩
abbrev cL_addSign : ByteArray := method_4_code
def yL_addSign : MethodName := ⟨RL, "addSign", "(LSignMasons;IIIIII[J)I"⟩
abbrev cL_forget : ByteArray := method_5_code
def yL_forget : MethodName := ⟨RL, "forget", "(LSignMasons;II[J)I"⟩
abbrev cL_setThumb : ByteArray := method_6_code
def yL_setThumb : MethodName := ⟨RL, "setThumb", "(LSignMasons;III[J)I"⟩
abbrev cL_join : ByteArray := method_7_code
def yL_join : MethodName := ⟨RL, "join", "(LSignMasons;II[J)I"⟩
abbrev cL_borrow : ByteArray := method_8_code
def yL_borrow : MethodName := ⟨RL, "borrow", "(LSignMasons;III[J)I"⟩
abbrev cL_areJoined : ByteArray := method_9_code
def yL_areJoined : MethodName := ⟨RL, "areJoined", "(LSignMasons;II[J)I"⟩
abbrev cL_steps : ByteArray := method_10_code
def yL_steps : MethodName := ⟨RL, "steps", "(LSignMasons;II[J)I"⟩
abbrev cL_signsOf : ByteArray := method_11_code
def yL_signsOf : MethodName := ⟨RL, "signsOf", "(LSignMasons;I[J)I"⟩
abbrev cL_shapeOf : ByteArray := method_12_code
def yL_shapeOf : MethodName := ⟨RL, "shapeOf", "(LSignMasons;II[J)I"⟩
abbrev cL_thumbOf : ByteArray := method_13_code
def yL_thumbOf : MethodName := ⟨RL, "thumbOf", "(LSignMasons;II[J)I"⟩
abbrev cL_placeOf : ByteArray := method_14_code
def yL_placeOf : MethodName := ⟨RL, "placeOf", "(LSignMasons;II[J)I"⟩
abbrev cL_meaningOf : ByteArray := method_15_code
def yL_meaningOf : MethodName := ⟨RL, "meaningOf", "(LSignMasons;II[J)I"⟩
abbrev cL_signFor : ByteArray := method_16_code
def yL_signFor : MethodName := ⟨RL, "signFor", "(LSignMasons;II[J)I"⟩
abbrev cL_apart : ByteArray := method_17_code
def yL_apart : MethodName := ⟨RL, "apart", "(LSignMasons;III[J)I"⟩
abbrev cL_alikePairs : ByteArray := method_18_code
def yL_alikePairs : MethodName := ⟨RL, "alikePairs", "(LSignMasons;I[J)I"⟩
abbrev cL_thumbPairs : ByteArray := method_19_code
def yL_thumbPairs : MethodName := ⟨RL, "thumbPairs", "(LSignMasons;I[J)I"⟩
abbrev cL_closest : ByteArray := method_20_code
def yL_closest : MethodName := ⟨RL, "closest", "(LSignMasons;I[J)I"⟩
abbrev cL_mostMistaken : ByteArray := method_21_code
def yL_mostMistaken : MethodName := ⟨RL, "mostMistaken", "(LSignMasons;I[J)I"⟩
abbrev cL_read : ByteArray := method_22_code
def yL_read : MethodName := ⟨RL, "read", "(LSignMasons;III[J)I"⟩
abbrev cL_readShown : ByteArray := method_23_code
def yL_readShown : MethodName := ⟨RL, "readShown", "(LSignMasons;IIIII[J)I"⟩
abbrev cL_understood : ByteArray := method_24_code
def yL_understood : MethodName := ⟨RL, "understood", "(LSignMasons;II[J)I"⟩
abbrev cL_misread : ByteArray := method_25_code
def yL_misread : MethodName := ⟨RL, "misread", "(LSignMasons;II[J)I"⟩
abbrev cL_common : ByteArray := method_26_code
def yL_common : MethodName := ⟨RL, "common", "(LSignMasons;II[J)I"⟩
abbrev cL_bestThumb : ByteArray := method_27_code
def yL_bestThumb : MethodName := ⟨RL, "bestThumb", "(LSignMasons;II[J)I"⟩
abbrev cL_bestToBorrow : ByteArray := method_28_code
def yL_bestToBorrow : MethodName := ⟨RL, "bestToBorrow", "(LSignMasons;II[J)I"⟩
abbrev cL_alikeIfJoined : ByteArray := method_29_code
def yL_alikeIfJoined : MethodName := ⟨RL, "alikeIfJoined", "(LSignMasons;II[J)I"⟩
abbrev cL_law : ByteArray := code
def yL_law : MethodName := ⟨RL, "law", "([I)Z"⟩
abbrev vwCl : List vw_C := [(RX0, TX0, 4), (RX2, TX2, 2), (RX3, TX3, 4), (RX4, TX4, 9)]
end
section
theorem dX0_init_0 : decode cX0_init 0 = .ok (.aload_n 0, 1) := by decide +kernel
theorem dX0_init_1 : decode cX0_init 1 = .ok (.invokespecial 3, 3) := by decide +kernel
theorem dX0_init_4 : decode cX0_init 4 = .ok (.aload_n 0, 1) := by decide +kernel
theorem dX0_init_5 : decode cX0_init 5 = .ok (.aload_n 1, 1) := by decide +kernel
theorem dX0_init_6 : decode cX0_init 6 = .ok (.putfield 9, 3) := by decide +kernel
theorem dX0_init_9 : decode cX0_init 9 = .ok (.aload_n 0, 1) := by decide +kernel
theorem dX0_init_10 : decode cX0_init 10 = .ok (.bipush 16, 2) := by decide +kernel
theorem dX0_init_12 : decode cX0_init 12 = .ok (.newarray .int, 2) := by decide +kernel
theorem dX0_init_14 : decode cX0_init 14 = .ok (.putfield 15, 3) := by decide +kernel
theorem dX0_init_17 : decode cX0_init 17 = .ok (.aload_n 0, 1) := by decide +kernel
theorem dX0_init_18 : decode cX0_init 18 = .ok (.bipush 16, 2) := by decide +kernel
theorem dX0_init_20 : decode cX0_init 20 = .ok (.newarray .int, 2) := by decide +kernel
theorem dX0_init_22 : decode cX0_init 22 = .ok (.putfield 19, 3) := by decide +kernel
theorem dX0_init_25 : decode cX0_init 25 = .ok (.aload_n 0, 1) := by decide +kernel
theorem dX0_init_26 : decode cX0_init 26 = .ok (.iconst 0, 1) := by decide +kernel
theorem dX0_init_27 : decode cX0_init 27 = .ok (.putfield 22, 3) := by decide +kernel
theorem dX0_init_30 : decode cX0_init 30 = .ok (.return_, 1) := by decide +kernel
theorem dX0_copyFrom_0 : decode cX0_copyFrom 0 = .ok (.aload_n 1, 1) := by decide +kernel
theorem dX0_copyFrom_1 : decode cX0_copyFrom 1 = .ok (.getfield 15, 3) := by decide +kernel
theorem dX0_copyFrom_4 : decode cX0_copyFrom 4 = .ok (.iconst 0, 1) := by decide +kernel
theorem dX0_copyFrom_5 : decode cX0_copyFrom 5 = .ok (.aload_n 0, 1) := by decide +kernel
theorem dX0_copyFrom_6 : decode cX0_copyFrom 6 = .ok (.getfield 15, 3) := by decide +kernel
theorem dX0_copyFrom_9 : decode cX0_copyFrom 9 = .ok (.iconst 0, 1) := by decide +kernel
theorem dX0_copyFrom_10 : decode cX0_copyFrom 10 = .ok (.bipush 16, 2) := by decide +kernel
theorem dX0_copyFrom_12 : decode cX0_copyFrom 12 = .ok (.invokestatic 26, 3) := by decide +kernel
theorem dX0_copyFrom_15 : decode cX0_copyFrom 15 = .ok (.aload_n 1, 1) := by decide +kernel
theorem dX0_copyFrom_16 : decode cX0_copyFrom 16 = .ok (.getfield 19, 3) := by decide +kernel
theorem dX0_copyFrom_19 : decode cX0_copyFrom 19 = .ok (.iconst 0, 1) := by decide +kernel
theorem dX0_copyFrom_20 : decode cX0_copyFrom 20 = .ok (.aload_n 0, 1) := by decide +kernel
theorem dX0_copyFrom_21 : decode cX0_copyFrom 21 = .ok (.getfield 19, 3) := by decide +kernel
theorem dX0_copyFrom_24 : decode cX0_copyFrom 24 = .ok (.iconst 0, 1) := by decide +kernel
theorem dX0_copyFrom_25 : decode cX0_copyFrom 25 = .ok (.bipush 16, 2) := by decide +kernel
theorem dX0_copyFrom_27 : decode cX0_copyFrom 27 = .ok (.invokestatic 26, 3) := by decide +kernel
theorem dX0_copyFrom_30 : decode cX0_copyFrom 30 = .ok (.aload_n 0, 1) := by decide +kernel
theorem dX0_copyFrom_31 : decode cX0_copyFrom 31 = .ok (.aload_n 1, 1) := by decide +kernel
theorem dX0_copyFrom_32 : decode cX0_copyFrom 32 = .ok (.getfield 22, 3) := by decide +kernel
theorem dX0_copyFrom_35 : decode cX0_copyFrom 35 = .ok (.putfield 22, 3) := by decide +kernel
theorem dX0_copyFrom_38 : decode cX0_copyFrom 38 = .ok (.return_, 1) := by decide +kernel
theorem dX0_hasRoomFor_0 : decode cX0_hasRoomFor 0 = .ok (.aload_n 0, 1) := by decide +kernel
theorem dX0_hasRoomFor_1 : decode cX0_hasRoomFor 1 = .ok (.getfield 22, 3) := by decide +kernel
theorem dX0_hasRoomFor_4 : decode cX0_hasRoomFor 4 = .ok (.bipush 16, 2) := by decide +kernel
theorem dX0_hasRoomFor_6 : decode cX0_hasRoomFor 6 = .ok (.if_icmp .ge 16, 3) := by decide +kernel
theorem dX0_hasRoomFor_9 : decode cX0_hasRoomFor 9 = .ok (.aload_n 0, 1) := by decide +kernel
theorem dX0_hasRoomFor_10 : decode cX0_hasRoomFor 10 = .ok (.iload_n 1, 1) := by decide +kernel
theorem dX0_hasRoomFor_11 : decode cX0_hasRoomFor 11 = .ok (.invokevirtual 32, 3) := by decide +kernel
theorem dX0_hasRoomFor_14 : decode cX0_hasRoomFor 14 = .ok (.iconst (-1), 1) := by decide +kernel
theorem dX0_hasRoomFor_15 : decode cX0_hasRoomFor 15 = .ok (.if_icmp .ne 7, 3) := by decide +kernel
theorem dX0_hasRoomFor_18 : decode cX0_hasRoomFor 18 = .ok (.iconst 1, 1) := by decide +kernel
theorem dX0_hasRoomFor_19 : decode cX0_hasRoomFor 19 = .ok (.goto 4, 3) := by decide +kernel
theorem dX0_hasRoomFor_22 : decode cX0_hasRoomFor 22 = .ok (.iconst 0, 1) := by decide +kernel
theorem dX0_hasRoomFor_23 : decode cX0_hasRoomFor 23 = .ok (.ireturn, 1) := by decide +kernel
theorem dX0_append_0 : decode cX0_append 0 = .ok (.aload_n 0, 1) := by decide +kernel
theorem dX0_append_1 : decode cX0_append 1 = .ok (.getfield 22, 3) := by decide +kernel
theorem dX0_append_4 : decode cX0_append 4 = .ok (.istore_n 3, 1) := by decide +kernel
theorem dX0_append_5 : decode cX0_append 5 = .ok (.iload_n 3, 1) := by decide +kernel
theorem dX0_append_6 : decode cX0_append 6 = .ok (.bipush 16, 2) := by decide +kernel
theorem dX0_append_8 : decode cX0_append 8 = .ok (.if_icmp .lt 5, 3) := by decide +kernel
theorem dX0_append_11 : decode cX0_append 11 = .ok (.iconst (-1), 1) := by decide +kernel
theorem dX0_append_12 : decode cX0_append 12 = .ok (.ireturn, 1) := by decide +kernel
theorem dX0_append_13 : decode cX0_append 13 = .ok (.aload_n 0, 1) := by decide +kernel
theorem dX0_append_14 : decode cX0_append 14 = .ok (.getfield 15, 3) := by decide +kernel
theorem dX0_append_17 : decode cX0_append 17 = .ok (.iload_n 3, 1) := by decide +kernel
theorem dX0_append_18 : decode cX0_append 18 = .ok (.iload_n 1, 1) := by decide +kernel
theorem dX0_append_19 : decode cX0_append 19 = .ok (.iastore, 1) := by decide +kernel
theorem dX0_append_20 : decode cX0_append 20 = .ok (.aload_n 0, 1) := by decide +kernel
theorem dX0_append_21 : decode cX0_append 21 = .ok (.getfield 19, 3) := by decide +kernel
theorem dX0_append_24 : decode cX0_append 24 = .ok (.iload_n 3, 1) := by decide +kernel
theorem dX0_append_25 : decode cX0_append 25 = .ok (.iload_n 2, 1) := by decide +kernel
theorem dX0_append_26 : decode cX0_append 26 = .ok (.iastore, 1) := by decide +kernel
theorem dX0_append_27 : decode cX0_append 27 = .ok (.aload_n 0, 1) := by decide +kernel
theorem dX0_append_28 : decode cX0_append 28 = .ok (.dup, 1) := by decide +kernel
theorem dX0_append_29 : decode cX0_append 29 = .ok (.getfield 22, 3) := by decide +kernel
theorem dX0_append_32 : decode cX0_append 32 = .ok (.iconst 1, 1) := by decide +kernel
theorem dX0_append_33 : decode cX0_append 33 = .ok (.iadd, 1) := by decide +kernel
theorem dX0_append_34 : decode cX0_append 34 = .ok (.putfield 22, 3) := by decide +kernel
theorem dX0_append_37 : decode cX0_append 37 = .ok (.iload_n 3, 1) := by decide +kernel
theorem dX0_append_38 : decode cX0_append 38 = .ok (.ireturn, 1) := by decide +kernel
theorem dX0_remove_0 : decode cX0_remove 0 = .ok (.aload_n 0, 1) := by decide +kernel
theorem dX0_remove_1 : decode cX0_remove 1 = .ok (.getfield 19, 3) := by decide +kernel
theorem dX0_remove_4 : decode cX0_remove 4 = .ok (.iload_n 1, 1) := by decide +kernel
theorem dX0_remove_5 : decode cX0_remove 5 = .ok (.iaload, 1) := by decide +kernel
theorem dX0_remove_6 : decode cX0_remove 6 = .ok (.istore_n 2, 1) := by decide +kernel
theorem dX0_remove_7 : decode cX0_remove 7 = .ok (.iload_n 1, 1) := by decide +kernel
theorem dX0_remove_8 : decode cX0_remove 8 = .ok (.iconst 1, 1) := by decide +kernel
theorem dX0_remove_9 : decode cX0_remove 9 = .ok (.iadd, 1) := by decide +kernel
theorem dX0_remove_10 : decode cX0_remove 10 = .ok (.istore_n 3, 1) := by decide +kernel
theorem dX0_remove_11 : decode cX0_remove 11 = .ok (.iload_n 3, 1) := by decide +kernel
theorem dX0_remove_12 : decode cX0_remove 12 = .ok (.aload_n 0, 1) := by decide +kernel
theorem dX0_remove_13 : decode cX0_remove 13 = .ok (.getfield 22, 3) := by decide +kernel
theorem dX0_remove_16 : decode cX0_remove 16 = .ok (.if_icmp .ge 37, 3) := by decide +kernel
theorem dX0_remove_19 : decode cX0_remove 19 = .ok (.aload_n 0, 1) := by decide +kernel
theorem dX0_remove_20 : decode cX0_remove 20 = .ok (.getfield 15, 3) := by decide +kernel
theorem dX0_remove_23 : decode cX0_remove 23 = .ok (.iload_n 3, 1) := by decide +kernel
theorem dX0_remove_24 : decode cX0_remove 24 = .ok (.iconst 1, 1) := by decide +kernel
theorem dX0_remove_25 : decode cX0_remove 25 = .ok (.isub, 1) := by decide +kernel
theorem dX0_remove_26 : decode cX0_remove 26 = .ok (.aload_n 0, 1) := by decide +kernel
theorem dX0_remove_27 : decode cX0_remove 27 = .ok (.getfield 15, 3) := by decide +kernel
theorem dX0_remove_30 : decode cX0_remove 30 = .ok (.iload_n 3, 1) := by decide +kernel
theorem dX0_remove_31 : decode cX0_remove 31 = .ok (.iaload, 1) := by decide +kernel
theorem dX0_remove_32 : decode cX0_remove 32 = .ok (.iastore, 1) := by decide +kernel
theorem dX0_remove_33 : decode cX0_remove 33 = .ok (.aload_n 0, 1) := by decide +kernel
theorem dX0_remove_34 : decode cX0_remove 34 = .ok (.getfield 19, 3) := by decide +kernel
theorem dX0_remove_37 : decode cX0_remove 37 = .ok (.iload_n 3, 1) := by decide +kernel
theorem dX0_remove_38 : decode cX0_remove 38 = .ok (.iconst 1, 1) := by decide +kernel
theorem dX0_remove_39 : decode cX0_remove 39 = .ok (.isub, 1) := by decide +kernel
theorem dX0_remove_40 : decode cX0_remove 40 = .ok (.aload_n 0, 1) := by decide +kernel
theorem dX0_remove_41 : decode cX0_remove 41 = .ok (.getfield 19, 3) := by decide +kernel
theorem dX0_remove_44 : decode cX0_remove 44 = .ok (.iload_n 3, 1) := by decide +kernel
theorem dX0_remove_45 : decode cX0_remove 45 = .ok (.iaload, 1) := by decide +kernel
theorem dX0_remove_46 : decode cX0_remove 46 = .ok (.iastore, 1) := by decide +kernel
theorem dX0_remove_47 : decode cX0_remove 47 = .ok (.iinc 3 1, 3) := by decide +kernel
theorem dX0_remove_50 : decode cX0_remove 50 = .ok (.goto (-39), 3) := by decide +kernel
theorem dX0_remove_53 : decode cX0_remove 53 = .ok (.aload_n 0, 1) := by decide +kernel
theorem dX0_remove_54 : decode cX0_remove 54 = .ok (.dup, 1) := by decide +kernel
theorem dX0_remove_55 : decode cX0_remove 55 = .ok (.getfield 22, 3) := by decide +kernel
theorem dX0_remove_58 : decode cX0_remove 58 = .ok (.iconst 1, 1) := by decide +kernel
theorem dX0_remove_59 : decode cX0_remove 59 = .ok (.isub, 1) := by decide +kernel
theorem dX0_remove_60 : decode cX0_remove 60 = .ok (.putfield 22, 3) := by decide +kernel
theorem dX0_remove_63 : decode cX0_remove 63 = .ok (.iload_n 2, 1) := by decide +kernel
theorem dX0_remove_64 : decode cX0_remove 64 = .ok (.ireturn, 1) := by decide +kernel
theorem dX0_find_0 : decode cX0_find 0 = .ok (.iconst 0, 1) := by decide +kernel
theorem dX0_find_1 : decode cX0_find 1 = .ok (.istore_n 2, 1) := by decide +kernel
theorem dX0_find_2 : decode cX0_find 2 = .ok (.iload_n 2, 1) := by decide +kernel
theorem dX0_find_3 : decode cX0_find 3 = .ok (.aload_n 0, 1) := by decide +kernel
theorem dX0_find_4 : decode cX0_find 4 = .ok (.getfield 22, 3) := by decide +kernel
theorem dX0_find_7 : decode cX0_find 7 = .ok (.if_icmp .ge 21, 3) := by decide +kernel
theorem dX0_find_10 : decode cX0_find 10 = .ok (.aload_n 0, 1) := by decide +kernel
theorem dX0_find_11 : decode cX0_find 11 = .ok (.getfield 19, 3) := by decide +kernel
theorem dX0_find_14 : decode cX0_find 14 = .ok (.iload_n 2, 1) := by decide +kernel
theorem dX0_find_15 : decode cX0_find 15 = .ok (.iaload, 1) := by decide +kernel
theorem dX0_find_16 : decode cX0_find 16 = .ok (.iload_n 1, 1) := by decide +kernel
theorem dX0_find_17 : decode cX0_find 17 = .ok (.if_icmp .ne 5, 3) := by decide +kernel
theorem dX0_find_20 : decode cX0_find 20 = .ok (.iload_n 2, 1) := by decide +kernel
theorem dX0_find_21 : decode cX0_find 21 = .ok (.ireturn, 1) := by decide +kernel
theorem dX0_find_22 : decode cX0_find 22 = .ok (.iinc 2 1, 3) := by decide +kernel
theorem dX0_find_25 : decode cX0_find 25 = .ok (.goto (-23), 3) := by decide +kernel
theorem dX0_find_28 : decode cX0_find 28 = .ok (.iconst (-1), 1) := by decide +kernel
theorem dX0_find_29 : decode cX0_find 29 = .ok (.ireturn, 1) := by decide +kernel
theorem dX0_hasAlike_0 : decode cX0_hasAlike 0 = .ok (.iconst 0, 1) := by decide +kernel
theorem dX0_hasAlike_1 : decode cX0_hasAlike 1 = .ok (.istore_n 2, 1) := by decide +kernel
theorem dX0_hasAlike_2 : decode cX0_hasAlike 2 = .ok (.iload_n 2, 1) := by decide +kernel
theorem dX0_hasAlike_3 : decode cX0_hasAlike 3 = .ok (.aload_n 0, 1) := by decide +kernel
theorem dX0_hasAlike_4 : decode cX0_hasAlike 4 = .ok (.getfield 22, 3) := by decide +kernel
theorem dX0_hasAlike_7 : decode cX0_hasAlike 7 = .ok (.if_icmp .ge 28, 3) := by decide +kernel
theorem dX0_hasAlike_10 : decode cX0_hasAlike 10 = .ok (.aload_n 0, 1) := by decide +kernel
theorem dX0_hasAlike_11 : decode cX0_hasAlike 11 = .ok (.getfield 9, 3) := by decide +kernel
theorem dX0_hasAlike_14 : decode cX0_hasAlike 14 = .ok (.iload_n 1, 1) := by decide +kernel
theorem dX0_hasAlike_15 : decode cX0_hasAlike 15 = .ok (.aload_n 0, 1) := by decide +kernel
theorem dX0_hasAlike_16 : decode cX0_hasAlike 16 = .ok (.getfield 15, 3) := by decide +kernel
theorem dX0_hasAlike_19 : decode cX0_hasAlike 19 = .ok (.iload_n 2, 1) := by decide +kernel
theorem dX0_hasAlike_20 : decode cX0_hasAlike 20 = .ok (.iaload, 1) := by decide +kernel
theorem dX0_hasAlike_21 : decode cX0_hasAlike 21 = .ok (.invokevirtual 36, 3) := by decide +kernel
theorem dX0_hasAlike_24 : decode cX0_hasAlike 24 = .ok (.ifCond .eq 5, 3) := by decide +kernel
theorem dX0_hasAlike_27 : decode cX0_hasAlike 27 = .ok (.iconst 1, 1) := by decide +kernel
theorem dX0_hasAlike_28 : decode cX0_hasAlike 28 = .ok (.ireturn, 1) := by decide +kernel
theorem dX0_hasAlike_29 : decode cX0_hasAlike 29 = .ok (.iinc 2 1, 3) := by decide +kernel
theorem dX0_hasAlike_32 : decode cX0_hasAlike 32 = .ok (.goto (-30), 3) := by decide +kernel
theorem dX0_hasAlike_35 : decode cX0_hasAlike 35 = .ok (.iconst 0, 1) := by decide +kernel
theorem dX0_hasAlike_36 : decode cX0_hasAlike 36 = .ok (.ireturn, 1) := by decide +kernel
theorem dX0_firstUnlike_0 : decode cX0_firstUnlike 0 = .ok (.iload_n 1, 1) := by decide +kernel
theorem dX0_firstUnlike_1 : decode cX0_firstUnlike 1 = .ok (.invokestatic 42, 3) := by decide +kernel
theorem dX0_firstUnlike_4 : decode cX0_firstUnlike 4 = .ok (.istore_n 2, 1) := by decide +kernel
theorem dX0_firstUnlike_5 : decode cX0_firstUnlike 5 = .ok (.iconst 0, 1) := by decide +kernel
theorem dX0_firstUnlike_6 : decode cX0_firstUnlike 6 = .ok (.istore_n 3, 1) := by decide +kernel
theorem dX0_firstUnlike_7 : decode cX0_firstUnlike 7 = .ok (.iload_n 3, 1) := by decide +kernel
theorem dX0_firstUnlike_8 : decode cX0_firstUnlike 8 = .ok (.iconst 4, 1) := by decide +kernel
theorem dX0_firstUnlike_9 : decode cX0_firstUnlike 9 = .ok (.if_icmp .ge 32, 3) := by decide +kernel
theorem dX0_firstUnlike_12 : decode cX0_firstUnlike 12 = .ok (.iload_n 1, 1) := by decide +kernel
theorem dX0_firstUnlike_13 : decode cX0_firstUnlike 13 = .ok (.iload_n 2, 1) := by decide +kernel
theorem dX0_firstUnlike_14 : decode cX0_firstUnlike 14 = .ok (.iload_n 3, 1) := by decide +kernel
theorem dX0_firstUnlike_15 : decode cX0_firstUnlike 15 = .ok (.iadd, 1) := by decide +kernel
theorem dX0_firstUnlike_16 : decode cX0_firstUnlike 16 = .ok (.iconst 4, 1) := by decide +kernel
theorem dX0_firstUnlike_17 : decode cX0_firstUnlike 17 = .ok (.irem, 1) := by decide +kernel
theorem dX0_firstUnlike_18 : decode cX0_firstUnlike 18 = .ok (.invokestatic 47, 3) := by decide +kernel
theorem dX0_firstUnlike_21 : decode cX0_firstUnlike 21 = .ok (.istore 4, 2) := by decide +kernel
theorem dX0_firstUnlike_23 : decode cX0_firstUnlike 23 = .ok (.aload_n 0, 1) := by decide +kernel
theorem dX0_firstUnlike_24 : decode cX0_firstUnlike 24 = .ok (.iload 4, 2) := by decide +kernel
theorem dX0_firstUnlike_26 : decode cX0_firstUnlike 26 = .ok (.invokevirtual 51, 3) := by decide +kernel
theorem dX0_firstUnlike_29 : decode cX0_firstUnlike 29 = .ok (.ifCond .ne 6, 3) := by decide +kernel
theorem dX0_firstUnlike_32 : decode cX0_firstUnlike 32 = .ok (.iload 4, 2) := by decide +kernel
theorem dX0_firstUnlike_34 : decode cX0_firstUnlike 34 = .ok (.ireturn, 1) := by decide +kernel
theorem dX0_firstUnlike_35 : decode cX0_firstUnlike 35 = .ok (.iinc 3 1, 3) := by decide +kernel
theorem dX0_firstUnlike_38 : decode cX0_firstUnlike 38 = .ok (.goto (-31), 3) := by decide +kernel
theorem dX0_firstUnlike_41 : decode cX0_firstUnlike 41 = .ok (.iconst (-1), 1) := by decide +kernel
theorem dX0_firstUnlike_42 : decode cX0_firstUnlike 42 = .ok (.ireturn, 1) := by decide +kernel
theorem dX0_countAlike_0 : decode cX0_countAlike 0 = .ok (.iconst 0, 1) := by decide +kernel
theorem dX0_countAlike_1 : decode cX0_countAlike 1 = .ok (.istore_n 1, 1) := by decide +kernel
theorem dX0_countAlike_2 : decode cX0_countAlike 2 = .ok (.iconst 0, 1) := by decide +kernel
theorem dX0_countAlike_3 : decode cX0_countAlike 3 = .ok (.istore_n 2, 1) := by decide +kernel
theorem dX0_countAlike_4 : decode cX0_countAlike 4 = .ok (.iload_n 2, 1) := by decide +kernel
theorem dX0_countAlike_5 : decode cX0_countAlike 5 = .ok (.aload_n 0, 1) := by decide +kernel
theorem dX0_countAlike_6 : decode cX0_countAlike 6 = .ok (.getfield 22, 3) := by decide +kernel
theorem dX0_countAlike_9 : decode cX0_countAlike 9 = .ok (.if_icmp .ge 52, 3) := by decide +kernel
theorem dX0_countAlike_12 : decode cX0_countAlike 12 = .ok (.iload_n 2, 1) := by decide +kernel
theorem dX0_countAlike_13 : decode cX0_countAlike 13 = .ok (.iconst 1, 1) := by decide +kernel
theorem dX0_countAlike_14 : decode cX0_countAlike 14 = .ok (.iadd, 1) := by decide +kernel
theorem dX0_countAlike_15 : decode cX0_countAlike 15 = .ok (.istore_n 3, 1) := by decide +kernel
theorem dX0_countAlike_16 : decode cX0_countAlike 16 = .ok (.iload_n 3, 1) := by decide +kernel
theorem dX0_countAlike_17 : decode cX0_countAlike 17 = .ok (.aload_n 0, 1) := by decide +kernel
theorem dX0_countAlike_18 : decode cX0_countAlike 18 = .ok (.getfield 22, 3) := by decide +kernel
theorem dX0_countAlike_21 : decode cX0_countAlike 21 = .ok (.if_icmp .ge 34, 3) := by decide +kernel
theorem dX0_countAlike_24 : decode cX0_countAlike 24 = .ok (.aload_n 0, 1) := by decide +kernel
theorem dX0_countAlike_25 : decode cX0_countAlike 25 = .ok (.getfield 9, 3) := by decide +kernel
theorem dX0_countAlike_28 : decode cX0_countAlike 28 = .ok (.aload_n 0, 1) := by decide +kernel
theorem dX0_countAlike_29 : decode cX0_countAlike 29 = .ok (.getfield 15, 3) := by decide +kernel
theorem dX0_countAlike_32 : decode cX0_countAlike 32 = .ok (.iload_n 2, 1) := by decide +kernel
theorem dX0_countAlike_33 : decode cX0_countAlike 33 = .ok (.iaload, 1) := by decide +kernel
theorem dX0_countAlike_34 : decode cX0_countAlike 34 = .ok (.aload_n 0, 1) := by decide +kernel
theorem dX0_countAlike_35 : decode cX0_countAlike 35 = .ok (.getfield 15, 3) := by decide +kernel
theorem dX0_countAlike_38 : decode cX0_countAlike 38 = .ok (.iload_n 3, 1) := by decide +kernel
theorem dX0_countAlike_39 : decode cX0_countAlike 39 = .ok (.iaload, 1) := by decide +kernel
theorem dX0_countAlike_40 : decode cX0_countAlike 40 = .ok (.invokevirtual 36, 3) := by decide +kernel
theorem dX0_countAlike_43 : decode cX0_countAlike 43 = .ok (.ifCond .eq 6, 3) := by decide +kernel
theorem dX0_countAlike_46 : decode cX0_countAlike 46 = .ok (.iinc 1 1, 3) := by decide +kernel
theorem dX0_countAlike_49 : decode cX0_countAlike 49 = .ok (.iinc 3 1, 3) := by decide +kernel
theorem dX0_countAlike_52 : decode cX0_countAlike 52 = .ok (.goto (-36), 3) := by decide +kernel
theorem dX0_countAlike_55 : decode cX0_countAlike 55 = .ok (.iinc 2 1, 3) := by decide +kernel
theorem dX0_countAlike_58 : decode cX0_countAlike 58 = .ok (.goto (-54), 3) := by decide +kernel
theorem dX0_countAlike_61 : decode cX0_countAlike 61 = .ok (.iload_n 1, 1) := by decide +kernel
theorem dX0_countAlike_62 : decode cX0_countAlike 62 = .ok (.ireturn, 1) := by decide +kernel
theorem dX0_countAlikeIfJoined_0 : decode cX0_countAlikeIfJoined 0 = .ok (.iconst 0, 1) := by decide +kernel
theorem dX0_countAlikeIfJoined_1 : decode cX0_countAlikeIfJoined 1 = .ok (.istore_n 3, 1) := by decide +kernel
theorem dX0_countAlikeIfJoined_2 : decode cX0_countAlikeIfJoined 2 = .ok (.iconst 0, 1) := by decide +kernel
theorem dX0_countAlikeIfJoined_3 : decode cX0_countAlikeIfJoined 3 = .ok (.istore 4, 2) := by decide +kernel
theorem dX0_countAlikeIfJoined_5 : decode cX0_countAlikeIfJoined 5 = .ok (.iload 4, 2) := by decide +kernel
theorem dX0_countAlikeIfJoined_7 : decode cX0_countAlikeIfJoined 7 = .ok (.aload_n 0, 1) := by decide +kernel
theorem dX0_countAlikeIfJoined_8 : decode cX0_countAlikeIfJoined 8 = .ok (.getfield 22, 3) := by decide +kernel
theorem dX0_countAlikeIfJoined_11 : decode cX0_countAlikeIfJoined 11 = .ok (.if_icmp .ge 59, 3) := by decide +kernel
theorem dX0_countAlikeIfJoined_14 : decode cX0_countAlikeIfJoined 14 = .ok (.iload 4, 2) := by decide +kernel
theorem dX0_countAlikeIfJoined_16 : decode cX0_countAlikeIfJoined 16 = .ok (.iconst 1, 1) := by decide +kernel
theorem dX0_countAlikeIfJoined_17 : decode cX0_countAlikeIfJoined 17 = .ok (.iadd, 1) := by decide +kernel
theorem dX0_countAlikeIfJoined_18 : decode cX0_countAlikeIfJoined 18 = .ok (.istore 5, 2) := by decide +kernel
theorem dX0_countAlikeIfJoined_20 : decode cX0_countAlikeIfJoined 20 = .ok (.iload 5, 2) := by decide +kernel
theorem dX0_countAlikeIfJoined_22 : decode cX0_countAlikeIfJoined 22 = .ok (.aload_n 0, 1) := by decide +kernel
theorem dX0_countAlikeIfJoined_23 : decode cX0_countAlikeIfJoined 23 = .ok (.getfield 22, 3) := by decide +kernel
theorem dX0_countAlikeIfJoined_26 : decode cX0_countAlikeIfJoined 26 = .ok (.if_icmp .ge 38, 3) := by decide +kernel
theorem dX0_countAlikeIfJoined_29 : decode cX0_countAlikeIfJoined 29 = .ok (.aload_n 0, 1) := by decide +kernel
theorem dX0_countAlikeIfJoined_30 : decode cX0_countAlikeIfJoined 30 = .ok (.getfield 9, 3) := by decide +kernel
theorem dX0_countAlikeIfJoined_33 : decode cX0_countAlikeIfJoined 33 = .ok (.iload_n 1, 1) := by decide +kernel
theorem dX0_countAlikeIfJoined_34 : decode cX0_countAlikeIfJoined 34 = .ok (.iload_n 2, 1) := by decide +kernel
theorem dX0_countAlikeIfJoined_35 : decode cX0_countAlikeIfJoined 35 = .ok (.aload_n 0, 1) := by decide +kernel
theorem dX0_countAlikeIfJoined_36 : decode cX0_countAlikeIfJoined 36 = .ok (.getfield 15, 3) := by decide +kernel
theorem dX0_countAlikeIfJoined_39 : decode cX0_countAlikeIfJoined 39 = .ok (.iload 4, 2) := by decide +kernel
theorem dX0_countAlikeIfJoined_41 : decode cX0_countAlikeIfJoined 41 = .ok (.iaload, 1) := by decide +kernel
theorem dX0_countAlikeIfJoined_42 : decode cX0_countAlikeIfJoined 42 = .ok (.aload_n 0, 1) := by decide +kernel
theorem dX0_countAlikeIfJoined_43 : decode cX0_countAlikeIfJoined 43 = .ok (.getfield 15, 3) := by decide +kernel
theorem dX0_countAlikeIfJoined_46 : decode cX0_countAlikeIfJoined 46 = .ok (.iload 5, 2) := by decide +kernel
theorem dX0_countAlikeIfJoined_48 : decode cX0_countAlikeIfJoined 48 = .ok (.iaload, 1) := by decide +kernel
theorem dX0_countAlikeIfJoined_49 : decode cX0_countAlikeIfJoined 49 = .ok (.invokevirtual 55, 3) := by decide +kernel
theorem dX0_countAlikeIfJoined_52 : decode cX0_countAlikeIfJoined 52 = .ok (.ifCond .eq 6, 3) := by decide +kernel
theorem dX0_countAlikeIfJoined_55 : decode cX0_countAlikeIfJoined 55 = .ok (.iinc 3 1, 3) := by decide +kernel
theorem dX0_countAlikeIfJoined_58 : decode cX0_countAlikeIfJoined 58 = .ok (.iinc 5 1, 3) := by decide +kernel
theorem dX0_countAlikeIfJoined_61 : decode cX0_countAlikeIfJoined 61 = .ok (.goto (-41), 3) := by decide +kernel
theorem dX0_countAlikeIfJoined_64 : decode cX0_countAlikeIfJoined 64 = .ok (.iinc 4 1, 3) := by decide +kernel
theorem dX0_countAlikeIfJoined_67 : decode cX0_countAlikeIfJoined 67 = .ok (.goto (-62), 3) := by decide +kernel
theorem dX0_countAlikeIfJoined_70 : decode cX0_countAlikeIfJoined 70 = .ok (.iload_n 3, 1) := by decide +kernel
theorem dX0_countAlikeIfJoined_71 : decode cX0_countAlikeIfJoined 71 = .ok (.ireturn, 1) := by decide +kernel
theorem dX0_countThumbApart_0 : decode cX0_countThumbApart 0 = .ok (.iconst 0, 1) := by decide +kernel
theorem dX0_countThumbApart_1 : decode cX0_countThumbApart 1 = .ok (.istore_n 1, 1) := by decide +kernel
theorem dX0_countThumbApart_2 : decode cX0_countThumbApart 2 = .ok (.iconst 0, 1) := by decide +kernel
theorem dX0_countThumbApart_3 : decode cX0_countThumbApart 3 = .ok (.istore_n 2, 1) := by decide +kernel
theorem dX0_countThumbApart_4 : decode cX0_countThumbApart 4 = .ok (.iload_n 2, 1) := by decide +kernel
theorem dX0_countThumbApart_5 : decode cX0_countThumbApart 5 = .ok (.aload_n 0, 1) := by decide +kernel
theorem dX0_countThumbApart_6 : decode cX0_countThumbApart 6 = .ok (.getfield 22, 3) := by decide +kernel
theorem dX0_countThumbApart_9 : decode cX0_countThumbApart 9 = .ok (.if_icmp .ge 74, 3) := by decide +kernel
theorem dX0_countThumbApart_12 : decode cX0_countThumbApart 12 = .ok (.iload_n 2, 1) := by decide +kernel
theorem dX0_countThumbApart_13 : decode cX0_countThumbApart 13 = .ok (.iconst 1, 1) := by decide +kernel
theorem dX0_countThumbApart_14 : decode cX0_countThumbApart 14 = .ok (.iadd, 1) := by decide +kernel
theorem dX0_countThumbApart_15 : decode cX0_countThumbApart 15 = .ok (.istore_n 3, 1) := by decide +kernel
theorem dX0_countThumbApart_16 : decode cX0_countThumbApart 16 = .ok (.iload_n 3, 1) := by decide +kernel
theorem dX0_countThumbApart_17 : decode cX0_countThumbApart 17 = .ok (.aload_n 0, 1) := by decide +kernel
theorem dX0_countThumbApart_18 : decode cX0_countThumbApart 18 = .ok (.getfield 22, 3) := by decide +kernel
theorem dX0_countThumbApart_21 : decode cX0_countThumbApart 21 = .ok (.if_icmp .ge 56, 3) := by decide +kernel
theorem dX0_countThumbApart_24 : decode cX0_countThumbApart 24 = .ok (.aload_n 0, 1) := by decide +kernel
theorem dX0_countThumbApart_25 : decode cX0_countThumbApart 25 = .ok (.getfield 15, 3) := by decide +kernel
theorem dX0_countThumbApart_28 : decode cX0_countThumbApart 28 = .ok (.iload_n 2, 1) := by decide +kernel
theorem dX0_countThumbApart_29 : decode cX0_countThumbApart 29 = .ok (.iaload, 1) := by decide +kernel
theorem dX0_countThumbApart_30 : decode cX0_countThumbApart 30 = .ok (.invokestatic 42, 3) := by decide +kernel
theorem dX0_countThumbApart_33 : decode cX0_countThumbApart 33 = .ok (.aload_n 0, 1) := by decide +kernel
theorem dX0_countThumbApart_34 : decode cX0_countThumbApart 34 = .ok (.getfield 15, 3) := by decide +kernel
theorem dX0_countThumbApart_37 : decode cX0_countThumbApart 37 = .ok (.iload_n 3, 1) := by decide +kernel
theorem dX0_countThumbApart_38 : decode cX0_countThumbApart 38 = .ok (.iaload, 1) := by decide +kernel
theorem dX0_countThumbApart_39 : decode cX0_countThumbApart 39 = .ok (.invokestatic 42, 3) := by decide +kernel
theorem dX0_countThumbApart_42 : decode cX0_countThumbApart 42 = .ok (.if_icmp .eq 29, 3) := by decide +kernel
theorem dX0_countThumbApart_45 : decode cX0_countThumbApart 45 = .ok (.aload_n 0, 1) := by decide +kernel
theorem dX0_countThumbApart_46 : decode cX0_countThumbApart 46 = .ok (.getfield 9, 3) := by decide +kernel
theorem dX0_countThumbApart_49 : decode cX0_countThumbApart 49 = .ok (.aload_n 0, 1) := by decide +kernel
theorem dX0_countThumbApart_50 : decode cX0_countThumbApart 50 = .ok (.getfield 15, 3) := by decide +kernel
theorem dX0_countThumbApart_53 : decode cX0_countThumbApart 53 = .ok (.iload_n 2, 1) := by decide +kernel
theorem dX0_countThumbApart_54 : decode cX0_countThumbApart 54 = .ok (.iaload, 1) := by decide +kernel
theorem dX0_countThumbApart_55 : decode cX0_countThumbApart 55 = .ok (.aload_n 0, 1) := by decide +kernel
theorem dX0_countThumbApart_56 : decode cX0_countThumbApart 56 = .ok (.getfield 15, 3) := by decide +kernel
theorem dX0_countThumbApart_59 : decode cX0_countThumbApart 59 = .ok (.iload_n 3, 1) := by decide +kernel
theorem dX0_countThumbApart_60 : decode cX0_countThumbApart 60 = .ok (.iaload, 1) := by decide +kernel
theorem dX0_countThumbApart_61 : decode cX0_countThumbApart 61 = .ok (.invokevirtual 59, 3) := by decide +kernel
theorem dX0_countThumbApart_64 : decode cX0_countThumbApart 64 = .ok (.iconst 1, 1) := by decide +kernel
theorem dX0_countThumbApart_65 : decode cX0_countThumbApart 65 = .ok (.if_icmp .ne 6, 3) := by decide +kernel
theorem dX0_countThumbApart_68 : decode cX0_countThumbApart 68 = .ok (.iinc 1 1, 3) := by decide +kernel
theorem dX0_countThumbApart_71 : decode cX0_countThumbApart 71 = .ok (.iinc 3 1, 3) := by decide +kernel
theorem dX0_countThumbApart_74 : decode cX0_countThumbApart 74 = .ok (.goto (-58), 3) := by decide +kernel
theorem dX0_countThumbApart_77 : decode cX0_countThumbApart 77 = .ok (.iinc 2 1, 3) := by decide +kernel
theorem dX0_countThumbApart_80 : decode cX0_countThumbApart 80 = .ok (.goto (-76), 3) := by decide +kernel
theorem dX0_countThumbApart_83 : decode cX0_countThumbApart 83 = .ok (.iload_n 1, 1) := by decide +kernel
theorem dX0_countThumbApart_84 : decode cX0_countThumbApart 84 = .ok (.ireturn, 1) := by decide +kernel
theorem dX0_nearestBut_0 : decode cX0_nearestBut 0 = .ok (.bipush 100, 2) := by decide +kernel
theorem dX0_nearestBut_2 : decode cX0_nearestBut 2 = .ok (.istore_n 3, 1) := by decide +kernel
theorem dX0_nearestBut_3 : decode cX0_nearestBut 3 = .ok (.iconst 0, 1) := by decide +kernel
theorem dX0_nearestBut_4 : decode cX0_nearestBut 4 = .ok (.istore 4, 2) := by decide +kernel
theorem dX0_nearestBut_6 : decode cX0_nearestBut 6 = .ok (.iload 4, 2) := by decide +kernel
theorem dX0_nearestBut_8 : decode cX0_nearestBut 8 = .ok (.aload_n 0, 1) := by decide +kernel
theorem dX0_nearestBut_9 : decode cX0_nearestBut 9 = .ok (.getfield 22, 3) := by decide +kernel
theorem dX0_nearestBut_12 : decode cX0_nearestBut 12 = .ok (.if_icmp .ge 35, 3) := by decide +kernel
theorem dX0_nearestBut_15 : decode cX0_nearestBut 15 = .ok (.iload 4, 2) := by decide +kernel
theorem dX0_nearestBut_17 : decode cX0_nearestBut 17 = .ok (.iload_n 1, 1) := by decide +kernel
theorem dX0_nearestBut_18 : decode cX0_nearestBut 18 = .ok (.if_icmp .eq 23, 3) := by decide +kernel
theorem dX0_nearestBut_21 : decode cX0_nearestBut 21 = .ok (.iload_n 3, 1) := by decide +kernel
theorem dX0_nearestBut_22 : decode cX0_nearestBut 22 = .ok (.aload_n 0, 1) := by decide +kernel
theorem dX0_nearestBut_23 : decode cX0_nearestBut 23 = .ok (.getfield 9, 3) := by decide +kernel
theorem dX0_nearestBut_26 : decode cX0_nearestBut 26 = .ok (.iload_n 2, 1) := by decide +kernel
theorem dX0_nearestBut_27 : decode cX0_nearestBut 27 = .ok (.aload_n 0, 1) := by decide +kernel
theorem dX0_nearestBut_28 : decode cX0_nearestBut 28 = .ok (.getfield 15, 3) := by decide +kernel
theorem dX0_nearestBut_31 : decode cX0_nearestBut 31 = .ok (.iload 4, 2) := by decide +kernel
theorem dX0_nearestBut_33 : decode cX0_nearestBut 33 = .ok (.iaload, 1) := by decide +kernel
theorem dX0_nearestBut_34 : decode cX0_nearestBut 34 = .ok (.invokevirtual 59, 3) := by decide +kernel
theorem dX0_nearestBut_37 : decode cX0_nearestBut 37 = .ok (.invokestatic 62, 3) := by decide +kernel
theorem dX0_nearestBut_40 : decode cX0_nearestBut 40 = .ok (.istore_n 3, 1) := by decide +kernel
theorem dX0_nearestBut_41 : decode cX0_nearestBut 41 = .ok (.iinc 4 1, 3) := by decide +kernel
theorem dX0_nearestBut_44 : decode cX0_nearestBut 44 = .ok (.goto (-38), 3) := by decide +kernel
theorem dX0_nearestBut_47 : decode cX0_nearestBut 47 = .ok (.iload_n 3, 1) := by decide +kernel
theorem dX0_nearestBut_48 : decode cX0_nearestBut 48 = .ok (.ireturn, 1) := by decide +kernel
theorem dX0_fewestApart_0 : decode cX0_fewestApart 0 = .ok (.aload_n 0, 1) := by decide +kernel
theorem dX0_fewestApart_1 : decode cX0_fewestApart 1 = .ok (.getfield 22, 3) := by decide +kernel
theorem dX0_fewestApart_4 : decode cX0_fewestApart 4 = .ok (.iconst 2, 1) := by decide +kernel
theorem dX0_fewestApart_5 : decode cX0_fewestApart 5 = .ok (.if_icmp .ge 5, 3) := by decide +kernel
theorem dX0_fewestApart_8 : decode cX0_fewestApart 8 = .ok (.iconst 0, 1) := by decide +kernel
theorem dX0_fewestApart_9 : decode cX0_fewestApart 9 = .ok (.ireturn, 1) := by decide +kernel
theorem dX0_fewestApart_10 : decode cX0_fewestApart 10 = .ok (.bipush 100, 2) := by decide +kernel
theorem dX0_fewestApart_12 : decode cX0_fewestApart 12 = .ok (.istore_n 1, 1) := by decide +kernel
theorem dX0_fewestApart_13 : decode cX0_fewestApart 13 = .ok (.iconst 0, 1) := by decide +kernel
theorem dX0_fewestApart_14 : decode cX0_fewestApart 14 = .ok (.istore_n 2, 1) := by decide +kernel
theorem dX0_fewestApart_15 : decode cX0_fewestApart 15 = .ok (.iload_n 2, 1) := by decide +kernel
theorem dX0_fewestApart_16 : decode cX0_fewestApart 16 = .ok (.aload_n 0, 1) := by decide +kernel
theorem dX0_fewestApart_17 : decode cX0_fewestApart 17 = .ok (.getfield 22, 3) := by decide +kernel
theorem dX0_fewestApart_20 : decode cX0_fewestApart 20 = .ok (.if_icmp .ge 25, 3) := by decide +kernel
theorem dX0_fewestApart_23 : decode cX0_fewestApart 23 = .ok (.iload_n 1, 1) := by decide +kernel
theorem dX0_fewestApart_24 : decode cX0_fewestApart 24 = .ok (.aload_n 0, 1) := by decide +kernel
theorem dX0_fewestApart_25 : decode cX0_fewestApart 25 = .ok (.iload_n 2, 1) := by decide +kernel
theorem dX0_fewestApart_26 : decode cX0_fewestApart 26 = .ok (.aload_n 0, 1) := by decide +kernel
theorem dX0_fewestApart_27 : decode cX0_fewestApart 27 = .ok (.getfield 15, 3) := by decide +kernel
theorem dX0_fewestApart_30 : decode cX0_fewestApart 30 = .ok (.iload_n 2, 1) := by decide +kernel
theorem dX0_fewestApart_31 : decode cX0_fewestApart 31 = .ok (.iaload, 1) := by decide +kernel
theorem dX0_fewestApart_32 : decode cX0_fewestApart 32 = .ok (.invokevirtual 67, 3) := by decide +kernel
theorem dX0_fewestApart_35 : decode cX0_fewestApart 35 = .ok (.invokestatic 62, 3) := by decide +kernel
theorem dX0_fewestApart_38 : decode cX0_fewestApart 38 = .ok (.istore_n 1, 1) := by decide +kernel
theorem dX0_fewestApart_39 : decode cX0_fewestApart 39 = .ok (.iinc 2 1, 3) := by decide +kernel
theorem dX0_fewestApart_42 : decode cX0_fewestApart 42 = .ok (.goto (-27), 3) := by decide +kernel
theorem dX0_fewestApart_45 : decode cX0_fewestApart 45 = .ok (.iload_n 1, 1) := by decide +kernel
theorem dX0_fewestApart_46 : decode cX0_fewestApart 46 = .ok (.ireturn, 1) := by decide +kernel
theorem dX0_countNear_0 : decode cX0_countNear 0 = .ok (.iconst 0, 1) := by decide +kernel
theorem dX0_countNear_1 : decode cX0_countNear 1 = .ok (.istore_n 2, 1) := by decide +kernel
theorem dX0_countNear_2 : decode cX0_countNear 2 = .ok (.iconst 0, 1) := by decide +kernel
theorem dX0_countNear_3 : decode cX0_countNear 3 = .ok (.istore_n 3, 1) := by decide +kernel
theorem dX0_countNear_4 : decode cX0_countNear 4 = .ok (.iload_n 3, 1) := by decide +kernel
theorem dX0_countNear_5 : decode cX0_countNear 5 = .ok (.aload_n 0, 1) := by decide +kernel
theorem dX0_countNear_6 : decode cX0_countNear 6 = .ok (.getfield 22, 3) := by decide +kernel
theorem dX0_countNear_9 : decode cX0_countNear 9 = .ok (.if_icmp .ge 40, 3) := by decide +kernel
theorem dX0_countNear_12 : decode cX0_countNear 12 = .ok (.iload_n 3, 1) := by decide +kernel
theorem dX0_countNear_13 : decode cX0_countNear 13 = .ok (.iload_n 1, 1) := by decide +kernel
theorem dX0_countNear_14 : decode cX0_countNear 14 = .ok (.if_icmp .eq 29, 3) := by decide +kernel
theorem dX0_countNear_17 : decode cX0_countNear 17 = .ok (.aload_n 0, 1) := by decide +kernel
theorem dX0_countNear_18 : decode cX0_countNear 18 = .ok (.getfield 9, 3) := by decide +kernel
theorem dX0_countNear_21 : decode cX0_countNear 21 = .ok (.aload_n 0, 1) := by decide +kernel
theorem dX0_countNear_22 : decode cX0_countNear 22 = .ok (.getfield 15, 3) := by decide +kernel
theorem dX0_countNear_25 : decode cX0_countNear 25 = .ok (.iload_n 1, 1) := by decide +kernel
theorem dX0_countNear_26 : decode cX0_countNear 26 = .ok (.iaload, 1) := by decide +kernel
theorem dX0_countNear_27 : decode cX0_countNear 27 = .ok (.aload_n 0, 1) := by decide +kernel
theorem dX0_countNear_28 : decode cX0_countNear 28 = .ok (.getfield 15, 3) := by decide +kernel
theorem dX0_countNear_31 : decode cX0_countNear 31 = .ok (.iload_n 3, 1) := by decide +kernel
theorem dX0_countNear_32 : decode cX0_countNear 32 = .ok (.iaload, 1) := by decide +kernel
theorem dX0_countNear_33 : decode cX0_countNear 33 = .ok (.invokevirtual 59, 3) := by decide +kernel
theorem dX0_countNear_36 : decode cX0_countNear 36 = .ok (.iconst 3, 1) := by decide +kernel
theorem dX0_countNear_37 : decode cX0_countNear 37 = .ok (.if_icmp .gt 6, 3) := by decide +kernel
theorem dX0_countNear_40 : decode cX0_countNear 40 = .ok (.iinc 2 1, 3) := by decide +kernel
theorem dX0_countNear_43 : decode cX0_countNear 43 = .ok (.iinc 3 1, 3) := by decide +kernel
theorem dX0_countNear_46 : decode cX0_countNear 46 = .ok (.goto (-42), 3) := by decide +kernel
theorem dX0_countNear_49 : decode cX0_countNear 49 = .ok (.iload_n 2, 1) := by decide +kernel
theorem dX0_countNear_50 : decode cX0_countNear 50 = .ok (.ireturn, 1) := by decide +kernel
theorem dX0_signNearMost_0 : decode cX0_signNearMost 0 = .ok (.iconst (-1), 1) := by decide +kernel
theorem dX0_signNearMost_1 : decode cX0_signNearMost 1 = .ok (.istore_n 1, 1) := by decide +kernel
theorem dX0_signNearMost_2 : decode cX0_signNearMost 2 = .ok (.iconst (-1), 1) := by decide +kernel
theorem dX0_signNearMost_3 : decode cX0_signNearMost 3 = .ok (.istore_n 2, 1) := by decide +kernel
theorem dX0_signNearMost_4 : decode cX0_signNearMost 4 = .ok (.iconst 0, 1) := by decide +kernel
theorem dX0_signNearMost_5 : decode cX0_signNearMost 5 = .ok (.istore_n 3, 1) := by decide +kernel
theorem dX0_signNearMost_6 : decode cX0_signNearMost 6 = .ok (.iload_n 3, 1) := by decide +kernel
theorem dX0_signNearMost_7 : decode cX0_signNearMost 7 = .ok (.aload_n 0, 1) := by decide +kernel
theorem dX0_signNearMost_8 : decode cX0_signNearMost 8 = .ok (.getfield 22, 3) := by decide +kernel
theorem dX0_signNearMost_11 : decode cX0_signNearMost 11 = .ok (.if_icmp .ge 27, 3) := by decide +kernel
theorem dX0_signNearMost_14 : decode cX0_signNearMost 14 = .ok (.aload_n 0, 1) := by decide +kernel
theorem dX0_signNearMost_15 : decode cX0_signNearMost 15 = .ok (.iload_n 3, 1) := by decide +kernel
theorem dX0_signNearMost_16 : decode cX0_signNearMost 16 = .ok (.invokevirtual 70, 3) := by decide +kernel
theorem dX0_signNearMost_19 : decode cX0_signNearMost 19 = .ok (.istore 4, 2) := by decide +kernel
theorem dX0_signNearMost_21 : decode cX0_signNearMost 21 = .ok (.iload 4, 2) := by decide +kernel
theorem dX0_signNearMost_23 : decode cX0_signNearMost 23 = .ok (.iload_n 2, 1) := by decide +kernel
theorem dX0_signNearMost_24 : decode cX0_signNearMost 24 = .ok (.if_icmp .le 8, 3) := by decide +kernel
theorem dX0_signNearMost_27 : decode cX0_signNearMost 27 = .ok (.iload 4, 2) := by decide +kernel
theorem dX0_signNearMost_29 : decode cX0_signNearMost 29 = .ok (.istore_n 2, 1) := by decide +kernel
theorem dX0_signNearMost_30 : decode cX0_signNearMost 30 = .ok (.iload_n 3, 1) := by decide +kernel
theorem dX0_signNearMost_31 : decode cX0_signNearMost 31 = .ok (.istore_n 1, 1) := by decide +kernel
theorem dX0_signNearMost_32 : decode cX0_signNearMost 32 = .ok (.iinc 3 1, 3) := by decide +kernel
theorem dX0_signNearMost_35 : decode cX0_signNearMost 35 = .ok (.goto (-29), 3) := by decide +kernel
theorem dX0_signNearMost_38 : decode cX0_signNearMost 38 = .ok (.iload_n 1, 1) := by decide +kernel
theorem dX0_signNearMost_39 : decode cX0_signNearMost 39 = .ok (.ireturn, 1) := by decide +kernel
theorem dX0_thumbFarthest_0 : decode cX0_thumbFarthest 0 = .ok (.aload_n 0, 1) := by decide +kernel
theorem dX0_thumbFarthest_1 : decode cX0_thumbFarthest 1 = .ok (.getfield 15, 3) := by decide +kernel
theorem dX0_thumbFarthest_4 : decode cX0_thumbFarthest 4 = .ok (.iload_n 1, 1) := by decide +kernel
theorem dX0_thumbFarthest_5 : decode cX0_thumbFarthest 5 = .ok (.iaload, 1) := by decide +kernel
theorem dX0_thumbFarthest_6 : decode cX0_thumbFarthest 6 = .ok (.istore_n 2, 1) := by decide +kernel
theorem dX0_thumbFarthest_7 : decode cX0_thumbFarthest 7 = .ok (.aload_n 0, 1) := by decide +kernel
theorem dX0_thumbFarthest_8 : decode cX0_thumbFarthest 8 = .ok (.getfield 22, 3) := by decide +kernel
theorem dX0_thumbFarthest_11 : decode cX0_thumbFarthest 11 = .ok (.iconst 2, 1) := by decide +kernel
theorem dX0_thumbFarthest_12 : decode cX0_thumbFarthest 12 = .ok (.if_icmp .ge 8, 3) := by decide +kernel
theorem dX0_thumbFarthest_15 : decode cX0_thumbFarthest 15 = .ok (.iload_n 2, 1) := by decide +kernel
theorem dX0_thumbFarthest_16 : decode cX0_thumbFarthest 16 = .ok (.invokestatic 42, 3) := by decide +kernel
theorem dX0_thumbFarthest_19 : decode cX0_thumbFarthest 19 = .ok (.ireturn, 1) := by decide +kernel
theorem dX0_thumbFarthest_20 : decode cX0_thumbFarthest 20 = .ok (.iconst 0, 1) := by decide +kernel
theorem dX0_thumbFarthest_21 : decode cX0_thumbFarthest 21 = .ok (.istore_n 3, 1) := by decide +kernel
theorem dX0_thumbFarthest_22 : decode cX0_thumbFarthest 22 = .ok (.iconst (-1), 1) := by decide +kernel
theorem dX0_thumbFarthest_23 : decode cX0_thumbFarthest 23 = .ok (.istore 4, 2) := by decide +kernel
theorem dX0_thumbFarthest_25 : decode cX0_thumbFarthest 25 = .ok (.iconst 0, 1) := by decide +kernel
theorem dX0_thumbFarthest_26 : decode cX0_thumbFarthest 26 = .ok (.istore 5, 2) := by decide +kernel
theorem dX0_thumbFarthest_28 : decode cX0_thumbFarthest 28 = .ok (.iload 5, 2) := by decide +kernel
theorem dX0_thumbFarthest_30 : decode cX0_thumbFarthest 30 = .ok (.iconst 4, 1) := by decide +kernel
theorem dX0_thumbFarthest_31 : decode cX0_thumbFarthest 31 = .ok (.if_icmp .ge 36, 3) := by decide +kernel
theorem dX0_thumbFarthest_34 : decode cX0_thumbFarthest 34 = .ok (.aload_n 0, 1) := by decide +kernel
theorem dX0_thumbFarthest_35 : decode cX0_thumbFarthest 35 = .ok (.iload_n 1, 1) := by decide +kernel
theorem dX0_thumbFarthest_36 : decode cX0_thumbFarthest 36 = .ok (.iload_n 2, 1) := by decide +kernel
theorem dX0_thumbFarthest_37 : decode cX0_thumbFarthest 37 = .ok (.iload 5, 2) := by decide +kernel
theorem dX0_thumbFarthest_39 : decode cX0_thumbFarthest 39 = .ok (.invokestatic 47, 3) := by decide +kernel
theorem dX0_thumbFarthest_42 : decode cX0_thumbFarthest 42 = .ok (.invokevirtual 67, 3) := by decide +kernel
theorem dX0_thumbFarthest_45 : decode cX0_thumbFarthest 45 = .ok (.istore 6, 2) := by decide +kernel
theorem dX0_thumbFarthest_47 : decode cX0_thumbFarthest 47 = .ok (.iload 6, 2) := by decide +kernel
theorem dX0_thumbFarthest_49 : decode cX0_thumbFarthest 49 = .ok (.iload 4, 2) := by decide +kernel
theorem dX0_thumbFarthest_51 : decode cX0_thumbFarthest 51 = .ok (.if_icmp .le 10, 3) := by decide +kernel
theorem dX0_thumbFarthest_54 : decode cX0_thumbFarthest 54 = .ok (.iload 6, 2) := by decide +kernel
theorem dX0_thumbFarthest_56 : decode cX0_thumbFarthest 56 = .ok (.istore 4, 2) := by decide +kernel
theorem dX0_thumbFarthest_58 : decode cX0_thumbFarthest 58 = .ok (.iload 5, 2) := by decide +kernel
theorem dX0_thumbFarthest_60 : decode cX0_thumbFarthest 60 = .ok (.istore_n 3, 1) := by decide +kernel
theorem dX0_thumbFarthest_61 : decode cX0_thumbFarthest 61 = .ok (.iinc 5 1, 3) := by decide +kernel
theorem dX0_thumbFarthest_64 : decode cX0_thumbFarthest 64 = .ok (.goto (-36), 3) := by decide +kernel
theorem dX0_thumbFarthest_67 : decode cX0_thumbFarthest 67 = .ok (.iload_n 3, 1) := by decide +kernel
theorem dX0_thumbFarthest_68 : decode cX0_thumbFarthest 68 = .ok (.ireturn, 1) := by decide +kernel
theorem dX0_meaningRead_0 : decode cX0_meaningRead 0 = .ok (.iconst 4, 1) := by decide +kernel
theorem dX0_meaningRead_1 : decode cX0_meaningRead 1 = .ok (.istore_n 2, 1) := by decide +kernel
theorem dX0_meaningRead_2 : decode cX0_meaningRead 2 = .ok (.iconst (-1), 1) := by decide +kernel
theorem dX0_meaningRead_3 : decode cX0_meaningRead 3 = .ok (.istore_n 3, 1) := by decide +kernel
theorem dX0_meaningRead_4 : decode cX0_meaningRead 4 = .ok (.iconst 0, 1) := by decide +kernel
theorem dX0_meaningRead_5 : decode cX0_meaningRead 5 = .ok (.istore 4, 2) := by decide +kernel
theorem dX0_meaningRead_7 : decode cX0_meaningRead 7 = .ok (.iload 4, 2) := by decide +kernel
theorem dX0_meaningRead_9 : decode cX0_meaningRead 9 = .ok (.aload_n 0, 1) := by decide +kernel
theorem dX0_meaningRead_10 : decode cX0_meaningRead 10 = .ok (.getfield 22, 3) := by decide +kernel
theorem dX0_meaningRead_13 : decode cX0_meaningRead 13 = .ok (.if_icmp .ge 54, 3) := by decide +kernel
theorem dX0_meaningRead_16 : decode cX0_meaningRead 16 = .ok (.aload_n 0, 1) := by decide +kernel
theorem dX0_meaningRead_17 : decode cX0_meaningRead 17 = .ok (.getfield 9, 3) := by decide +kernel
theorem dX0_meaningRead_20 : decode cX0_meaningRead 20 = .ok (.iload_n 1, 1) := by decide +kernel
theorem dX0_meaningRead_21 : decode cX0_meaningRead 21 = .ok (.aload_n 0, 1) := by decide +kernel
theorem dX0_meaningRead_22 : decode cX0_meaningRead 22 = .ok (.getfield 15, 3) := by decide +kernel
theorem dX0_meaningRead_25 : decode cX0_meaningRead 25 = .ok (.iload 4, 2) := by decide +kernel
theorem dX0_meaningRead_27 : decode cX0_meaningRead 27 = .ok (.iaload, 1) := by decide +kernel
theorem dX0_meaningRead_28 : decode cX0_meaningRead 28 = .ok (.invokevirtual 59, 3) := by decide +kernel
theorem dX0_meaningRead_31 : decode cX0_meaningRead 31 = .ok (.istore 5, 2) := by decide +kernel
theorem dX0_meaningRead_33 : decode cX0_meaningRead 33 = .ok (.iload 5, 2) := by decide +kernel
theorem dX0_meaningRead_35 : decode cX0_meaningRead 35 = .ok (.iload_n 2, 1) := by decide +kernel
theorem dX0_meaningRead_36 : decode cX0_meaningRead 36 = .ok (.if_icmp .ge 17, 3) := by decide +kernel
theorem dX0_meaningRead_39 : decode cX0_meaningRead 39 = .ok (.iload 5, 2) := by decide +kernel
theorem dX0_meaningRead_41 : decode cX0_meaningRead 41 = .ok (.istore_n 2, 1) := by decide +kernel
theorem dX0_meaningRead_42 : decode cX0_meaningRead 42 = .ok (.aload_n 0, 1) := by decide +kernel
theorem dX0_meaningRead_43 : decode cX0_meaningRead 43 = .ok (.getfield 19, 3) := by decide +kernel
theorem dX0_meaningRead_46 : decode cX0_meaningRead 46 = .ok (.iload 4, 2) := by decide +kernel
theorem dX0_meaningRead_48 : decode cX0_meaningRead 48 = .ok (.iaload, 1) := by decide +kernel
theorem dX0_meaningRead_49 : decode cX0_meaningRead 49 = .ok (.istore_n 3, 1) := by decide +kernel
theorem dX0_meaningRead_50 : decode cX0_meaningRead 50 = .ok (.goto 11, 3) := by decide +kernel
theorem dX0_meaningRead_53 : decode cX0_meaningRead 53 = .ok (.iload 5, 2) := by decide +kernel
theorem dX0_meaningRead_55 : decode cX0_meaningRead 55 = .ok (.iload_n 2, 1) := by decide +kernel
theorem dX0_meaningRead_56 : decode cX0_meaningRead 56 = .ok (.if_icmp .ne 5, 3) := by decide +kernel
theorem dX0_meaningRead_59 : decode cX0_meaningRead 59 = .ok (.iconst (-1), 1) := by decide +kernel
theorem dX0_meaningRead_60 : decode cX0_meaningRead 60 = .ok (.istore_n 3, 1) := by decide +kernel
theorem dX0_meaningRead_61 : decode cX0_meaningRead 61 = .ok (.iinc 4 1, 3) := by decide +kernel
theorem dX0_meaningRead_64 : decode cX0_meaningRead 64 = .ok (.goto (-57), 3) := by decide +kernel
theorem dX0_meaningRead_67 : decode cX0_meaningRead 67 = .ok (.iload_n 3, 1) := by decide +kernel
theorem dX0_meaningRead_68 : decode cX0_meaningRead 68 = .ok (.ireturn, 1) := by decide +kernel
theorem dX0_countUnderstood_0 : decode cX0_countUnderstood 0 = .ok (.iconst 0, 1) := by decide +kernel
theorem dX0_countUnderstood_1 : decode cX0_countUnderstood 1 = .ok (.istore_n 2, 1) := by decide +kernel
theorem dX0_countUnderstood_2 : decode cX0_countUnderstood 2 = .ok (.iconst 0, 1) := by decide +kernel
theorem dX0_countUnderstood_3 : decode cX0_countUnderstood 3 = .ok (.istore_n 3, 1) := by decide +kernel
theorem dX0_countUnderstood_4 : decode cX0_countUnderstood 4 = .ok (.iload_n 3, 1) := by decide +kernel
theorem dX0_countUnderstood_5 : decode cX0_countUnderstood 5 = .ok (.aload_n 1, 1) := by decide +kernel
theorem dX0_countUnderstood_6 : decode cX0_countUnderstood 6 = .ok (.getfield 22, 3) := by decide +kernel
theorem dX0_countUnderstood_9 : decode cX0_countUnderstood 9 = .ok (.if_icmp .ge 31, 3) := by decide +kernel
theorem dX0_countUnderstood_12 : decode cX0_countUnderstood 12 = .ok (.aload_n 0, 1) := by decide +kernel
theorem dX0_countUnderstood_13 : decode cX0_countUnderstood 13 = .ok (.aload_n 1, 1) := by decide +kernel
theorem dX0_countUnderstood_14 : decode cX0_countUnderstood 14 = .ok (.getfield 15, 3) := by decide +kernel
theorem dX0_countUnderstood_17 : decode cX0_countUnderstood 17 = .ok (.iload_n 3, 1) := by decide +kernel
theorem dX0_countUnderstood_18 : decode cX0_countUnderstood 18 = .ok (.iaload, 1) := by decide +kernel
theorem dX0_countUnderstood_19 : decode cX0_countUnderstood 19 = .ok (.invokevirtual 73, 3) := by decide +kernel
theorem dX0_countUnderstood_22 : decode cX0_countUnderstood 22 = .ok (.aload_n 1, 1) := by decide +kernel
theorem dX0_countUnderstood_23 : decode cX0_countUnderstood 23 = .ok (.getfield 19, 3) := by decide +kernel
theorem dX0_countUnderstood_26 : decode cX0_countUnderstood 26 = .ok (.iload_n 3, 1) := by decide +kernel
theorem dX0_countUnderstood_27 : decode cX0_countUnderstood 27 = .ok (.iaload, 1) := by decide +kernel
theorem dX0_countUnderstood_28 : decode cX0_countUnderstood 28 = .ok (.if_icmp .ne 6, 3) := by decide +kernel
theorem dX0_countUnderstood_31 : decode cX0_countUnderstood 31 = .ok (.iinc 2 1, 3) := by decide +kernel
theorem dX0_countUnderstood_34 : decode cX0_countUnderstood 34 = .ok (.iinc 3 1, 3) := by decide +kernel
theorem dX0_countUnderstood_37 : decode cX0_countUnderstood 37 = .ok (.goto (-33), 3) := by decide +kernel
theorem dX0_countUnderstood_40 : decode cX0_countUnderstood 40 = .ok (.iload_n 2, 1) := by decide +kernel
theorem dX0_countUnderstood_41 : decode cX0_countUnderstood 41 = .ok (.ireturn, 1) := by decide +kernel
theorem dX0_countMisread_0 : decode cX0_countMisread 0 = .ok (.iconst 0, 1) := by decide +kernel
theorem dX0_countMisread_1 : decode cX0_countMisread 1 = .ok (.istore_n 2, 1) := by decide +kernel
theorem dX0_countMisread_2 : decode cX0_countMisread 2 = .ok (.iconst 0, 1) := by decide +kernel
theorem dX0_countMisread_3 : decode cX0_countMisread 3 = .ok (.istore_n 3, 1) := by decide +kernel
theorem dX0_countMisread_4 : decode cX0_countMisread 4 = .ok (.iload_n 3, 1) := by decide +kernel
theorem dX0_countMisread_5 : decode cX0_countMisread 5 = .ok (.aload_n 1, 1) := by decide +kernel
theorem dX0_countMisread_6 : decode cX0_countMisread 6 = .ok (.getfield 22, 3) := by decide +kernel
theorem dX0_countMisread_9 : decode cX0_countMisread 9 = .ok (.if_icmp .ge 41, 3) := by decide +kernel
theorem dX0_countMisread_12 : decode cX0_countMisread 12 = .ok (.aload_n 0, 1) := by decide +kernel
theorem dX0_countMisread_13 : decode cX0_countMisread 13 = .ok (.aload_n 1, 1) := by decide +kernel
theorem dX0_countMisread_14 : decode cX0_countMisread 14 = .ok (.getfield 15, 3) := by decide +kernel
theorem dX0_countMisread_17 : decode cX0_countMisread 17 = .ok (.iload_n 3, 1) := by decide +kernel
theorem dX0_countMisread_18 : decode cX0_countMisread 18 = .ok (.iaload, 1) := by decide +kernel
theorem dX0_countMisread_19 : decode cX0_countMisread 19 = .ok (.invokevirtual 73, 3) := by decide +kernel
theorem dX0_countMisread_22 : decode cX0_countMisread 22 = .ok (.istore 4, 2) := by decide +kernel
theorem dX0_countMisread_24 : decode cX0_countMisread 24 = .ok (.iload 4, 2) := by decide +kernel
theorem dX0_countMisread_26 : decode cX0_countMisread 26 = .ok (.iconst (-1), 1) := by decide +kernel
theorem dX0_countMisread_27 : decode cX0_countMisread 27 = .ok (.if_icmp .eq 17, 3) := by decide +kernel
theorem dX0_countMisread_30 : decode cX0_countMisread 30 = .ok (.iload 4, 2) := by decide +kernel
theorem dX0_countMisread_32 : decode cX0_countMisread 32 = .ok (.aload_n 1, 1) := by decide +kernel
theorem dX0_countMisread_33 : decode cX0_countMisread 33 = .ok (.getfield 19, 3) := by decide +kernel
theorem dX0_countMisread_36 : decode cX0_countMisread 36 = .ok (.iload_n 3, 1) := by decide +kernel
theorem dX0_countMisread_37 : decode cX0_countMisread 37 = .ok (.iaload, 1) := by decide +kernel
theorem dX0_countMisread_38 : decode cX0_countMisread 38 = .ok (.if_icmp .eq 6, 3) := by decide +kernel
theorem dX0_countMisread_41 : decode cX0_countMisread 41 = .ok (.iinc 2 1, 3) := by decide +kernel
theorem dX0_countMisread_44 : decode cX0_countMisread 44 = .ok (.iinc 3 1, 3) := by decide +kernel
theorem dX0_countMisread_47 : decode cX0_countMisread 47 = .ok (.goto (-43), 3) := by decide +kernel
theorem dX0_countMisread_50 : decode cX0_countMisread 50 = .ok (.iload_n 2, 1) := by decide +kernel
theorem dX0_countMisread_51 : decode cX0_countMisread 51 = .ok (.ireturn, 1) := by decide +kernel
theorem dX0_countCommon_0 : decode cX0_countCommon 0 = .ok (.iconst 0, 1) := by decide +kernel
theorem dX0_countCommon_1 : decode cX0_countCommon 1 = .ok (.istore_n 2, 1) := by decide +kernel
theorem dX0_countCommon_2 : decode cX0_countCommon 2 = .ok (.iconst 0, 1) := by decide +kernel
theorem dX0_countCommon_3 : decode cX0_countCommon 3 = .ok (.istore_n 3, 1) := by decide +kernel
theorem dX0_countCommon_4 : decode cX0_countCommon 4 = .ok (.iload_n 3, 1) := by decide +kernel
theorem dX0_countCommon_5 : decode cX0_countCommon 5 = .ok (.aload_n 0, 1) := by decide +kernel
theorem dX0_countCommon_6 : decode cX0_countCommon 6 = .ok (.getfield 22, 3) := by decide +kernel
theorem dX0_countCommon_9 : decode cX0_countCommon 9 = .ok (.if_icmp .ge 65, 3) := by decide +kernel
theorem dX0_countCommon_12 : decode cX0_countCommon 12 = .ok (.aload_n 0, 1) := by decide +kernel
theorem dX0_countCommon_13 : decode cX0_countCommon 13 = .ok (.getfield 19, 3) := by decide +kernel
theorem dX0_countCommon_16 : decode cX0_countCommon 16 = .ok (.iload_n 3, 1) := by decide +kernel
theorem dX0_countCommon_17 : decode cX0_countCommon 17 = .ok (.iaload, 1) := by decide +kernel
theorem dX0_countCommon_18 : decode cX0_countCommon 18 = .ok (.istore 4, 2) := by decide +kernel
theorem dX0_countCommon_20 : decode cX0_countCommon 20 = .ok (.aload_n 1, 1) := by decide +kernel
theorem dX0_countCommon_21 : decode cX0_countCommon 21 = .ok (.iload 4, 2) := by decide +kernel
theorem dX0_countCommon_23 : decode cX0_countCommon 23 = .ok (.invokevirtual 32, 3) := by decide +kernel
theorem dX0_countCommon_26 : decode cX0_countCommon 26 = .ok (.istore 5, 2) := by decide +kernel
theorem dX0_countCommon_28 : decode cX0_countCommon 28 = .ok (.iload 5, 2) := by decide +kernel
theorem dX0_countCommon_30 : decode cX0_countCommon 30 = .ok (.iconst (-1), 1) := by decide +kernel
theorem dX0_countCommon_31 : decode cX0_countCommon 31 = .ok (.if_icmp .eq 37, 3) := by decide +kernel
theorem dX0_countCommon_34 : decode cX0_countCommon 34 = .ok (.aload_n 1, 1) := by decide +kernel
theorem dX0_countCommon_35 : decode cX0_countCommon 35 = .ok (.aload_n 0, 1) := by decide +kernel
theorem dX0_countCommon_36 : decode cX0_countCommon 36 = .ok (.getfield 15, 3) := by decide +kernel
theorem dX0_countCommon_39 : decode cX0_countCommon 39 = .ok (.iload_n 3, 1) := by decide +kernel
theorem dX0_countCommon_40 : decode cX0_countCommon 40 = .ok (.iaload, 1) := by decide +kernel
theorem dX0_countCommon_41 : decode cX0_countCommon 41 = .ok (.invokevirtual 73, 3) := by decide +kernel
theorem dX0_countCommon_44 : decode cX0_countCommon 44 = .ok (.iload 4, 2) := by decide +kernel
theorem dX0_countCommon_46 : decode cX0_countCommon 46 = .ok (.if_icmp .ne 22, 3) := by decide +kernel
theorem dX0_countCommon_49 : decode cX0_countCommon 49 = .ok (.aload_n 0, 1) := by decide +kernel
theorem dX0_countCommon_50 : decode cX0_countCommon 50 = .ok (.aload_n 1, 1) := by decide +kernel
theorem dX0_countCommon_51 : decode cX0_countCommon 51 = .ok (.getfield 15, 3) := by decide +kernel
theorem dX0_countCommon_54 : decode cX0_countCommon 54 = .ok (.iload 5, 2) := by decide +kernel
theorem dX0_countCommon_56 : decode cX0_countCommon 56 = .ok (.iaload, 1) := by decide +kernel
theorem dX0_countCommon_57 : decode cX0_countCommon 57 = .ok (.invokevirtual 73, 3) := by decide +kernel
theorem dX0_countCommon_60 : decode cX0_countCommon 60 = .ok (.iload 4, 2) := by decide +kernel
theorem dX0_countCommon_62 : decode cX0_countCommon 62 = .ok (.if_icmp .ne 6, 3) := by decide +kernel
theorem dX0_countCommon_65 : decode cX0_countCommon 65 = .ok (.iinc 2 1, 3) := by decide +kernel
theorem dX0_countCommon_68 : decode cX0_countCommon 68 = .ok (.iinc 3 1, 3) := by decide +kernel
theorem dX0_countCommon_71 : decode cX0_countCommon 71 = .ok (.goto (-67), 3) := by decide +kernel
theorem dX0_countCommon_74 : decode cX0_countCommon 74 = .ok (.iload_n 2, 1) := by decide +kernel
theorem dX0_countCommon_75 : decode cX0_countCommon 75 = .ok (.ireturn, 1) := by decide +kernel
theorem dX1_of_0 : decode cX1_of 0 = .ok (.iload_n 0, 1) := by decide +kernel
theorem dX1_of_1 : decode cX1_of 1 = .ok (.iload_n 1, 1) := by decide +kernel
theorem dX1_of_2 : decode cX1_of 2 = .ok (.iconst 4, 1) := by decide +kernel
theorem dX1_of_3 : decode cX1_of 3 = .ok (.ishl, 1) := by decide +kernel
theorem dX1_of_4 : decode cX1_of 4 = .ok (.ior, 1) := by decide +kernel
theorem dX1_of_5 : decode cX1_of 5 = .ok (.iload_n 3, 1) := by decide +kernel
theorem dX1_of_6 : decode cX1_of 6 = .ok (.bipush 6, 2) := by decide +kernel
theorem dX1_of_8 : decode cX1_of 8 = .ok (.ishl, 1) := by decide +kernel
theorem dX1_of_9 : decode cX1_of 9 = .ok (.ior, 1) := by decide +kernel
theorem dX1_of_10 : decode cX1_of 10 = .ok (.iload_n 2, 1) := by decide +kernel
theorem dX1_of_11 : decode cX1_of 11 = .ok (.bipush 8, 2) := by decide +kernel
theorem dX1_of_13 : decode cX1_of 13 = .ok (.ishl, 1) := by decide +kernel
theorem dX1_of_14 : decode cX1_of 14 = .ok (.ior, 1) := by decide +kernel
theorem dX1_of_15 : decode cX1_of 15 = .ok (.ireturn, 1) := by decide +kernel
theorem dX1_shape_0 : decode cX1_shape 0 = .ok (.iload_n 0, 1) := by decide +kernel
theorem dX1_shape_1 : decode cX1_shape 1 = .ok (.bipush 15, 2) := by decide +kernel
theorem dX1_shape_3 : decode cX1_shape 3 = .ok (.iand, 1) := by decide +kernel
theorem dX1_shape_4 : decode cX1_shape 4 = .ok (.ireturn, 1) := by decide +kernel
theorem dX1_thumb_0 : decode cX1_thumb 0 = .ok (.iload_n 0, 1) := by decide +kernel
theorem dX1_thumb_1 : decode cX1_thumb 1 = .ok (.iconst 4, 1) := by decide +kernel
theorem dX1_thumb_2 : decode cX1_thumb 2 = .ok (.ishr, 1) := by decide +kernel
theorem dX1_thumb_3 : decode cX1_thumb 3 = .ok (.iconst 3, 1) := by decide +kernel
theorem dX1_thumb_4 : decode cX1_thumb 4 = .ok (.iand, 1) := by decide +kernel
theorem dX1_thumb_5 : decode cX1_thumb 5 = .ok (.ireturn, 1) := by decide +kernel
theorem dX1_movement_0 : decode cX1_movement 0 = .ok (.iload_n 0, 1) := by decide +kernel
theorem dX1_movement_1 : decode cX1_movement 1 = .ok (.bipush 6, 2) := by decide +kernel
theorem dX1_movement_3 : decode cX1_movement 3 = .ok (.ishr, 1) := by decide +kernel
theorem dX1_movement_4 : decode cX1_movement 4 = .ok (.iconst 3, 1) := by decide +kernel
theorem dX1_movement_5 : decode cX1_movement 5 = .ok (.iand, 1) := by decide +kernel
theorem dX1_movement_6 : decode cX1_movement 6 = .ok (.ireturn, 1) := by decide +kernel
theorem dX1_place_0 : decode cX1_place 0 = .ok (.iload_n 0, 1) := by decide +kernel
theorem dX1_place_1 : decode cX1_place 1 = .ok (.bipush 8, 2) := by decide +kernel
theorem dX1_place_3 : decode cX1_place 3 = .ok (.ishr, 1) := by decide +kernel
theorem dX1_place_4 : decode cX1_place 4 = .ok (.bipush 15, 2) := by decide +kernel
theorem dX1_place_6 : decode cX1_place 6 = .ok (.iand, 1) := by decide +kernel
theorem dX1_place_7 : decode cX1_place 7 = .ok (.ireturn, 1) := by decide +kernel
theorem dX1_withThumb_0 : decode cX1_withThumb 0 = .ok (.iload_n 0, 1) := by decide +kernel
theorem dX1_withThumb_1 : decode cX1_withThumb 1 = .ok (.bipush (-49), 2) := by decide +kernel
theorem dX1_withThumb_3 : decode cX1_withThumb 3 = .ok (.iand, 1) := by decide +kernel
theorem dX1_withThumb_4 : decode cX1_withThumb 4 = .ok (.iload_n 1, 1) := by decide +kernel
theorem dX1_withThumb_5 : decode cX1_withThumb 5 = .ok (.iconst 4, 1) := by decide +kernel
theorem dX1_withThumb_6 : decode cX1_withThumb 6 = .ok (.ishl, 1) := by decide +kernel
theorem dX1_withThumb_7 : decode cX1_withThumb 7 = .ok (.ior, 1) := by decide +kernel
theorem dX1_withThumb_8 : decode cX1_withThumb 8 = .ok (.ireturn, 1) := by decide +kernel
theorem dX1_sameButForPlace_0 : decode cX1_sameButForPlace 0 = .ok (.iload_n 0, 1) := by decide +kernel
theorem dX1_sameButForPlace_1 : decode cX1_sameButForPlace 1 = .ok (.iload_n 1, 1) := by decide +kernel
theorem dX1_sameButForPlace_2 : decode cX1_sameButForPlace 2 = .ok (.ixor, 1) := by decide +kernel
theorem dX1_sameButForPlace_3 : decode cX1_sameButForPlace 3 = .ok (.sipush (-3841), 3) := by decide +kernel
theorem dX1_sameButForPlace_6 : decode cX1_sameButForPlace 6 = .ok (.iand, 1) := by decide +kernel
theorem dX1_sameButForPlace_7 : decode cX1_sameButForPlace 7 = .ok (.ifCond .ne 7, 3) := by decide +kernel
theorem dX1_sameButForPlace_10 : decode cX1_sameButForPlace 10 = .ok (.iconst 1, 1) := by decide +kernel
theorem dX1_sameButForPlace_11 : decode cX1_sameButForPlace 11 = .ok (.goto 4, 3) := by decide +kernel
theorem dX1_sameButForPlace_14 : decode cX1_sameButForPlace 14 = .ok (.iconst 0, 1) := by decide +kernel
theorem dX1_sameButForPlace_15 : decode cX1_sameButForPlace 15 = .ok (.ireturn, 1) := by decide +kernel
theorem dX2_init_0 : decode cX2_init 0 = .ok (.aload_n 0, 1) := by decide +kernel
theorem dX2_init_1 : decode cX2_init 1 = .ok (.invokespecial 3, 3) := by decide +kernel
theorem dX2_init_4 : decode cX2_init 4 = .ok (.aload_n 0, 1) := by decide +kernel
theorem dX2_init_5 : decode cX2_init 5 = .ok (.bipush 9, 2) := by decide +kernel
theorem dX2_init_7 : decode cX2_init 7 = .ok (.newarray .int, 2) := by decide +kernel
theorem dX2_init_9 : decode cX2_init 9 = .ok (.putfield 9, 3) := by decide +kernel
theorem dX2_init_12 : decode cX2_init 12 = .ok (.iconst 0, 1) := by decide +kernel
theorem dX2_init_13 : decode cX2_init 13 = .ok (.istore_n 1, 1) := by decide +kernel
theorem dX2_init_14 : decode cX2_init 14 = .ok (.iload_n 1, 1) := by decide +kernel
theorem dX2_init_15 : decode cX2_init 15 = .ok (.bipush 9, 2) := by decide +kernel
theorem dX2_init_17 : decode cX2_init 17 = .ok (.if_icmp .ge 16, 3) := by decide +kernel
theorem dX2_init_20 : decode cX2_init 20 = .ok (.aload_n 0, 1) := by decide +kernel
theorem dX2_init_21 : decode cX2_init 21 = .ok (.getfield 9, 3) := by decide +kernel
theorem dX2_init_24 : decode cX2_init 24 = .ok (.iload_n 1, 1) := by decide +kernel
theorem dX2_init_25 : decode cX2_init 25 = .ok (.iload_n 1, 1) := by decide +kernel
theorem dX2_init_26 : decode cX2_init 26 = .ok (.iastore, 1) := by decide +kernel
theorem dX2_init_27 : decode cX2_init 27 = .ok (.iinc 1 1, 3) := by decide +kernel
theorem dX2_init_30 : decode cX2_init 30 = .ok (.goto (-16), 3) := by decide +kernel
theorem dX2_init_33 : decode cX2_init 33 = .ok (.aload_n 0, 1) := by decide +kernel
theorem dX2_init_34 : decode cX2_init 34 = .ok (.bipush 9, 2) := by decide +kernel
theorem dX2_init_36 : decode cX2_init 36 = .ok (.putfield 15, 3) := by decide +kernel
theorem dX2_init_39 : decode cX2_init 39 = .ok (.return_, 1) := by decide +kernel
theorem dX2_unite_0 : decode cX2_unite 0 = .ok (.aload_n 0, 1) := by decide +kernel
theorem dX2_unite_1 : decode cX2_unite 1 = .ok (.getfield 9, 3) := by decide +kernel
theorem dX2_unite_4 : decode cX2_unite 4 = .ok (.iload_n 1, 1) := by decide +kernel
theorem dX2_unite_5 : decode cX2_unite 5 = .ok (.iaload, 1) := by decide +kernel
theorem dX2_unite_6 : decode cX2_unite 6 = .ok (.istore_n 3, 1) := by decide +kernel
theorem dX2_unite_7 : decode cX2_unite 7 = .ok (.aload_n 0, 1) := by decide +kernel
theorem dX2_unite_8 : decode cX2_unite 8 = .ok (.getfield 9, 3) := by decide +kernel
theorem dX2_unite_11 : decode cX2_unite 11 = .ok (.iload_n 2, 1) := by decide +kernel
theorem dX2_unite_12 : decode cX2_unite 12 = .ok (.iaload, 1) := by decide +kernel
theorem dX2_unite_13 : decode cX2_unite 13 = .ok (.istore 4, 2) := by decide +kernel
theorem dX2_unite_15 : decode cX2_unite 15 = .ok (.iload_n 3, 1) := by decide +kernel
theorem dX2_unite_16 : decode cX2_unite 16 = .ok (.iload 4, 2) := by decide +kernel
theorem dX2_unite_18 : decode cX2_unite 18 = .ok (.if_icmp .ne 4, 3) := by decide +kernel
theorem dX2_unite_21 : decode cX2_unite 21 = .ok (.return_, 1) := by decide +kernel
theorem dX2_unite_22 : decode cX2_unite 22 = .ok (.iconst 0, 1) := by decide +kernel
theorem dX2_unite_23 : decode cX2_unite 23 = .ok (.istore 5, 2) := by decide +kernel
theorem dX2_unite_25 : decode cX2_unite 25 = .ok (.iload 5, 2) := by decide +kernel
theorem dX2_unite_27 : decode cX2_unite 27 = .ok (.bipush 9, 2) := by decide +kernel
theorem dX2_unite_29 : decode cX2_unite 29 = .ok (.if_icmp .ge 29, 3) := by decide +kernel
theorem dX2_unite_32 : decode cX2_unite 32 = .ok (.aload_n 0, 1) := by decide +kernel
theorem dX2_unite_33 : decode cX2_unite 33 = .ok (.getfield 9, 3) := by decide +kernel
theorem dX2_unite_36 : decode cX2_unite 36 = .ok (.iload 5, 2) := by decide +kernel
theorem dX2_unite_38 : decode cX2_unite 38 = .ok (.iaload, 1) := by decide +kernel
theorem dX2_unite_39 : decode cX2_unite 39 = .ok (.iload 4, 2) := by decide +kernel
theorem dX2_unite_41 : decode cX2_unite 41 = .ok (.if_icmp .ne 11, 3) := by decide +kernel
theorem dX2_unite_44 : decode cX2_unite 44 = .ok (.aload_n 0, 1) := by decide +kernel
theorem dX2_unite_45 : decode cX2_unite 45 = .ok (.getfield 9, 3) := by decide +kernel
theorem dX2_unite_48 : decode cX2_unite 48 = .ok (.iload 5, 2) := by decide +kernel
theorem dX2_unite_50 : decode cX2_unite 50 = .ok (.iload_n 3, 1) := by decide +kernel
theorem dX2_unite_51 : decode cX2_unite 51 = .ok (.iastore, 1) := by decide +kernel
theorem dX2_unite_52 : decode cX2_unite 52 = .ok (.iinc 5 1, 3) := by decide +kernel
theorem dX2_unite_55 : decode cX2_unite 55 = .ok (.goto (-30), 3) := by decide +kernel
theorem dX2_unite_58 : decode cX2_unite 58 = .ok (.aload_n 0, 1) := by decide +kernel
theorem dX2_unite_59 : decode cX2_unite 59 = .ok (.dup, 1) := by decide +kernel
theorem dX2_unite_60 : decode cX2_unite 60 = .ok (.getfield 15, 3) := by decide +kernel
theorem dX2_unite_63 : decode cX2_unite 63 = .ok (.iconst 1, 1) := by decide +kernel
theorem dX2_unite_64 : decode cX2_unite 64 = .ok (.isub, 1) := by decide +kernel
theorem dX2_unite_65 : decode cX2_unite 65 = .ok (.putfield 15, 3) := by decide +kernel
theorem dX2_unite_68 : decode cX2_unite 68 = .ok (.return_, 1) := by decide +kernel
theorem dX2_sameGroup_0 : decode cX2_sameGroup 0 = .ok (.aload_n 0, 1) := by decide +kernel
theorem dX2_sameGroup_1 : decode cX2_sameGroup 1 = .ok (.getfield 9, 3) := by decide +kernel
theorem dX2_sameGroup_4 : decode cX2_sameGroup 4 = .ok (.iload_n 1, 1) := by decide +kernel
theorem dX2_sameGroup_5 : decode cX2_sameGroup 5 = .ok (.iaload, 1) := by decide +kernel
theorem dX2_sameGroup_6 : decode cX2_sameGroup 6 = .ok (.aload_n 0, 1) := by decide +kernel
theorem dX2_sameGroup_7 : decode cX2_sameGroup 7 = .ok (.getfield 9, 3) := by decide +kernel
theorem dX2_sameGroup_10 : decode cX2_sameGroup 10 = .ok (.iload_n 2, 1) := by decide +kernel
theorem dX2_sameGroup_11 : decode cX2_sameGroup 11 = .ok (.iaload, 1) := by decide +kernel
theorem dX2_sameGroup_12 : decode cX2_sameGroup 12 = .ok (.if_icmp .ne 7, 3) := by decide +kernel
theorem dX2_sameGroup_15 : decode cX2_sameGroup 15 = .ok (.iconst 1, 1) := by decide +kernel
theorem dX2_sameGroup_16 : decode cX2_sameGroup 16 = .ok (.goto 4, 3) := by decide +kernel
theorem dX2_sameGroup_19 : decode cX2_sameGroup 19 = .ok (.iconst 0, 1) := by decide +kernel
theorem dX2_sameGroup_20 : decode cX2_sameGroup 20 = .ok (.ireturn, 1) := by decide +kernel
theorem dX2_sameGroupIf_0 : decode cX2_sameGroupIf 0 = .ok (.aload_n 0, 1) := by decide +kernel
theorem dX2_sameGroupIf_1 : decode cX2_sameGroupIf 1 = .ok (.iload_n 3, 1) := by decide +kernel
theorem dX2_sameGroupIf_2 : decode cX2_sameGroupIf 2 = .ok (.iload 4, 2) := by decide +kernel
theorem dX2_sameGroupIf_4 : decode cX2_sameGroupIf 4 = .ok (.invokevirtual 19, 3) := by decide +kernel
theorem dX2_sameGroupIf_7 : decode cX2_sameGroupIf 7 = .ok (.ifCond .ne 41, 3) := by decide +kernel
theorem dX2_sameGroupIf_10 : decode cX2_sameGroupIf 10 = .ok (.aload_n 0, 1) := by decide +kernel
theorem dX2_sameGroupIf_11 : decode cX2_sameGroupIf 11 = .ok (.iload_n 3, 1) := by decide +kernel
theorem dX2_sameGroupIf_12 : decode cX2_sameGroupIf 12 = .ok (.iload_n 1, 1) := by decide +kernel
theorem dX2_sameGroupIf_13 : decode cX2_sameGroupIf 13 = .ok (.invokevirtual 19, 3) := by decide +kernel
theorem dX2_sameGroupIf_16 : decode cX2_sameGroupIf 16 = .ok (.ifCond .eq 13, 3) := by decide +kernel
theorem dX2_sameGroupIf_19 : decode cX2_sameGroupIf 19 = .ok (.aload_n 0, 1) := by decide +kernel
theorem dX2_sameGroupIf_20 : decode cX2_sameGroupIf 20 = .ok (.iload 4, 2) := by decide +kernel
theorem dX2_sameGroupIf_22 : decode cX2_sameGroupIf 22 = .ok (.iload_n 2, 1) := by decide +kernel
theorem dX2_sameGroupIf_23 : decode cX2_sameGroupIf 23 = .ok (.invokevirtual 19, 3) := by decide +kernel
theorem dX2_sameGroupIf_26 : decode cX2_sameGroupIf 26 = .ok (.ifCond .ne 22, 3) := by decide +kernel
theorem dX2_sameGroupIf_29 : decode cX2_sameGroupIf 29 = .ok (.aload_n 0, 1) := by decide +kernel
theorem dX2_sameGroupIf_30 : decode cX2_sameGroupIf 30 = .ok (.iload_n 3, 1) := by decide +kernel
theorem dX2_sameGroupIf_31 : decode cX2_sameGroupIf 31 = .ok (.iload_n 2, 1) := by decide +kernel
theorem dX2_sameGroupIf_32 : decode cX2_sameGroupIf 32 = .ok (.invokevirtual 19, 3) := by decide +kernel
theorem dX2_sameGroupIf_35 : decode cX2_sameGroupIf 35 = .ok (.ifCond .eq 17, 3) := by decide +kernel
theorem dX2_sameGroupIf_38 : decode cX2_sameGroupIf 38 = .ok (.aload_n 0, 1) := by decide +kernel
theorem dX2_sameGroupIf_39 : decode cX2_sameGroupIf 39 = .ok (.iload 4, 2) := by decide +kernel
theorem dX2_sameGroupIf_41 : decode cX2_sameGroupIf 41 = .ok (.iload_n 1, 1) := by decide +kernel
theorem dX2_sameGroupIf_42 : decode cX2_sameGroupIf 42 = .ok (.invokevirtual 19, 3) := by decide +kernel
theorem dX2_sameGroupIf_45 : decode cX2_sameGroupIf 45 = .ok (.ifCond .eq 7, 3) := by decide +kernel
theorem dX2_sameGroupIf_48 : decode cX2_sameGroupIf 48 = .ok (.iconst 1, 1) := by decide +kernel
theorem dX2_sameGroupIf_49 : decode cX2_sameGroupIf 49 = .ok (.goto 4, 3) := by decide +kernel
theorem dX2_sameGroupIf_52 : decode cX2_sameGroupIf 52 = .ok (.iconst 0, 1) := by decide +kernel
theorem dX2_sameGroupIf_53 : decode cX2_sameGroupIf 53 = .ok (.ireturn, 1) := by decide +kernel
theorem dX2_stepsBetween_0 : decode cX2_stepsBetween 0 = .ok (.aload_n 0, 1) := by decide +kernel
theorem dX2_stepsBetween_1 : decode cX2_stepsBetween 1 = .ok (.iload_n 1, 1) := by decide +kernel
theorem dX2_stepsBetween_2 : decode cX2_stepsBetween 2 = .ok (.iload_n 2, 1) := by decide +kernel
theorem dX2_stepsBetween_3 : decode cX2_stepsBetween 3 = .ok (.invokevirtual 19, 3) := by decide +kernel
theorem dX2_stepsBetween_6 : decode cX2_stepsBetween 6 = .ok (.ifCond .eq 5, 3) := by decide +kernel
theorem dX2_stepsBetween_9 : decode cX2_stepsBetween 9 = .ok (.iconst 0, 1) := by decide +kernel
theorem dX2_stepsBetween_10 : decode cX2_stepsBetween 10 = .ok (.ireturn, 1) := by decide +kernel
theorem dX2_stepsBetween_11 : decode cX2_stepsBetween 11 = .ok (.iload_n 1, 1) := by decide +kernel
theorem dX2_stepsBetween_12 : decode cX2_stepsBetween 12 = .ok (.iconst 3, 1) := by decide +kernel
theorem dX2_stepsBetween_13 : decode cX2_stepsBetween 13 = .ok (.idiv, 1) := by decide +kernel
theorem dX2_stepsBetween_14 : decode cX2_stepsBetween 14 = .ok (.iload_n 2, 1) := by decide +kernel
theorem dX2_stepsBetween_15 : decode cX2_stepsBetween 15 = .ok (.iconst 3, 1) := by decide +kernel
theorem dX2_stepsBetween_16 : decode cX2_stepsBetween 16 = .ok (.idiv, 1) := by decide +kernel
theorem dX2_stepsBetween_17 : decode cX2_stepsBetween 17 = .ok (.isub, 1) := by decide +kernel
theorem dX2_stepsBetween_18 : decode cX2_stepsBetween 18 = .ok (.invokestatic 23, 3) := by decide +kernel
theorem dX2_stepsBetween_21 : decode cX2_stepsBetween 21 = .ok (.istore_n 3, 1) := by decide +kernel
theorem dX2_stepsBetween_22 : decode cX2_stepsBetween 22 = .ok (.iload_n 1, 1) := by decide +kernel
theorem dX2_stepsBetween_23 : decode cX2_stepsBetween 23 = .ok (.iconst 3, 1) := by decide +kernel
theorem dX2_stepsBetween_24 : decode cX2_stepsBetween 24 = .ok (.irem, 1) := by decide +kernel
theorem dX2_stepsBetween_25 : decode cX2_stepsBetween 25 = .ok (.iload_n 2, 1) := by decide +kernel
theorem dX2_stepsBetween_26 : decode cX2_stepsBetween 26 = .ok (.iconst 3, 1) := by decide +kernel
theorem dX2_stepsBetween_27 : decode cX2_stepsBetween 27 = .ok (.irem, 1) := by decide +kernel
theorem dX2_stepsBetween_28 : decode cX2_stepsBetween 28 = .ok (.isub, 1) := by decide +kernel
theorem dX2_stepsBetween_29 : decode cX2_stepsBetween 29 = .ok (.invokestatic 23, 3) := by decide +kernel
theorem dX2_stepsBetween_32 : decode cX2_stepsBetween 32 = .ok (.istore 4, 2) := by decide +kernel
theorem dX2_stepsBetween_34 : decode cX2_stepsBetween 34 = .ok (.iload_n 3, 1) := by decide +kernel
theorem dX2_stepsBetween_35 : decode cX2_stepsBetween 35 = .ok (.iload 4, 2) := by decide +kernel
theorem dX2_stepsBetween_37 : decode cX2_stepsBetween 37 = .ok (.iadd, 1) := by decide +kernel
theorem dX2_stepsBetween_38 : decode cX2_stepsBetween 38 = .ok (.ireturn, 1) := by decide +kernel
theorem dX2_alike_0 : decode cX2_alike 0 = .ok (.iload_n 1, 1) := by decide +kernel
theorem dX2_alike_1 : decode cX2_alike 1 = .ok (.iload_n 2, 1) := by decide +kernel
theorem dX2_alike_2 : decode cX2_alike 2 = .ok (.invokestatic 29, 3) := by decide +kernel
theorem dX2_alike_5 : decode cX2_alike 5 = .ok (.ifCond .eq 22, 3) := by decide +kernel
theorem dX2_alike_8 : decode cX2_alike 8 = .ok (.aload_n 0, 1) := by decide +kernel
theorem dX2_alike_9 : decode cX2_alike 9 = .ok (.iload_n 1, 1) := by decide +kernel
theorem dX2_alike_10 : decode cX2_alike 10 = .ok (.invokestatic 34, 3) := by decide +kernel
theorem dX2_alike_13 : decode cX2_alike 13 = .ok (.iload_n 2, 1) := by decide +kernel
theorem dX2_alike_14 : decode cX2_alike 14 = .ok (.invokestatic 34, 3) := by decide +kernel
theorem dX2_alike_17 : decode cX2_alike 17 = .ok (.invokevirtual 19, 3) := by decide +kernel
theorem dX2_alike_20 : decode cX2_alike 20 = .ok (.ifCond .eq 7, 3) := by decide +kernel
theorem dX2_alike_23 : decode cX2_alike 23 = .ok (.iconst 1, 1) := by decide +kernel
theorem dX2_alike_24 : decode cX2_alike 24 = .ok (.goto 4, 3) := by decide +kernel
theorem dX2_alike_27 : decode cX2_alike 27 = .ok (.iconst 0, 1) := by decide +kernel
theorem dX2_alike_28 : decode cX2_alike 28 = .ok (.ireturn, 1) := by decide +kernel
theorem dX2_alikeIf_0 : decode cX2_alikeIf 0 = .ok (.iload_n 3, 1) := by decide +kernel
theorem dX2_alikeIf_1 : decode cX2_alikeIf 1 = .ok (.iload 4, 2) := by decide +kernel
theorem dX2_alikeIf_3 : decode cX2_alikeIf 3 = .ok (.invokestatic 29, 3) := by decide +kernel
theorem dX2_alikeIf_6 : decode cX2_alikeIf 6 = .ok (.ifCond .eq 25, 3) := by decide +kernel
theorem dX2_alikeIf_9 : decode cX2_alikeIf 9 = .ok (.aload_n 0, 1) := by decide +kernel
theorem dX2_alikeIf_10 : decode cX2_alikeIf 10 = .ok (.iload_n 1, 1) := by decide +kernel
theorem dX2_alikeIf_11 : decode cX2_alikeIf 11 = .ok (.iload_n 2, 1) := by decide +kernel
theorem dX2_alikeIf_12 : decode cX2_alikeIf 12 = .ok (.iload_n 3, 1) := by decide +kernel
theorem dX2_alikeIf_13 : decode cX2_alikeIf 13 = .ok (.invokestatic 34, 3) := by decide +kernel
theorem dX2_alikeIf_16 : decode cX2_alikeIf 16 = .ok (.iload 4, 2) := by decide +kernel
theorem dX2_alikeIf_18 : decode cX2_alikeIf 18 = .ok (.invokestatic 34, 3) := by decide +kernel
theorem dX2_alikeIf_21 : decode cX2_alikeIf 21 = .ok (.invokevirtual 37, 3) := by decide +kernel
theorem dX2_alikeIf_24 : decode cX2_alikeIf 24 = .ok (.ifCond .eq 7, 3) := by decide +kernel
theorem dX2_alikeIf_27 : decode cX2_alikeIf 27 = .ok (.iconst 1, 1) := by decide +kernel
theorem dX2_alikeIf_28 : decode cX2_alikeIf 28 = .ok (.goto 4, 3) := by decide +kernel
theorem dX2_alikeIf_31 : decode cX2_alikeIf 31 = .ok (.iconst 0, 1) := by decide +kernel
theorem dX2_alikeIf_32 : decode cX2_alikeIf 32 = .ok (.ireturn, 1) := by decide +kernel
theorem dX2_distance_0 : decode cX2_distance 0 = .ok (.iload_n 1, 1) := by decide +kernel
theorem dX2_distance_1 : decode cX2_distance 1 = .ok (.invokestatic 41, 3) := by decide +kernel
theorem dX2_distance_4 : decode cX2_distance 4 = .ok (.iload_n 2, 1) := by decide +kernel
theorem dX2_distance_5 : decode cX2_distance 5 = .ok (.invokestatic 41, 3) := by decide +kernel
theorem dX2_distance_8 : decode cX2_distance 8 = .ok (.ixor, 1) := by decide +kernel
theorem dX2_distance_9 : decode cX2_distance 9 = .ok (.invokestatic 44, 3) := by decide +kernel
theorem dX2_distance_12 : decode cX2_distance 12 = .ok (.istore_n 3, 1) := by decide +kernel
theorem dX2_distance_13 : decode cX2_distance 13 = .ok (.iload_n 1, 1) := by decide +kernel
theorem dX2_distance_14 : decode cX2_distance 14 = .ok (.invokestatic 49, 3) := by decide +kernel
theorem dX2_distance_17 : decode cX2_distance 17 = .ok (.iload_n 2, 1) := by decide +kernel
theorem dX2_distance_18 : decode cX2_distance 18 = .ok (.invokestatic 49, 3) := by decide +kernel
theorem dX2_distance_21 : decode cX2_distance 21 = .ok (.if_icmp .ne 7, 3) := by decide +kernel
theorem dX2_distance_24 : decode cX2_distance 24 = .ok (.iconst 0, 1) := by decide +kernel
theorem dX2_distance_25 : decode cX2_distance 25 = .ok (.goto 4, 3) := by decide +kernel
theorem dX2_distance_28 : decode cX2_distance 28 = .ok (.iconst 1, 1) := by decide +kernel
theorem dX2_distance_29 : decode cX2_distance 29 = .ok (.istore 4, 2) := by decide +kernel
theorem dX2_distance_31 : decode cX2_distance 31 = .ok (.iload_n 1, 1) := by decide +kernel
theorem dX2_distance_32 : decode cX2_distance 32 = .ok (.invokestatic 52, 3) := by decide +kernel
theorem dX2_distance_35 : decode cX2_distance 35 = .ok (.iload_n 2, 1) := by decide +kernel
theorem dX2_distance_36 : decode cX2_distance 36 = .ok (.invokestatic 52, 3) := by decide +kernel
theorem dX2_distance_39 : decode cX2_distance 39 = .ok (.if_icmp .ne 7, 3) := by decide +kernel
theorem dX2_distance_42 : decode cX2_distance 42 = .ok (.iconst 0, 1) := by decide +kernel
theorem dX2_distance_43 : decode cX2_distance 43 = .ok (.goto 4, 3) := by decide +kernel
theorem dX2_distance_46 : decode cX2_distance 46 = .ok (.iconst 2, 1) := by decide +kernel
theorem dX2_distance_47 : decode cX2_distance 47 = .ok (.istore 5, 2) := by decide +kernel
theorem dX2_distance_49 : decode cX2_distance 49 = .ok (.iload_n 3, 1) := by decide +kernel
theorem dX2_distance_50 : decode cX2_distance 50 = .ok (.iload 4, 2) := by decide +kernel
theorem dX2_distance_52 : decode cX2_distance 52 = .ok (.iadd, 1) := by decide +kernel
theorem dX2_distance_53 : decode cX2_distance 53 = .ok (.iload 5, 2) := by decide +kernel
theorem dX2_distance_55 : decode cX2_distance 55 = .ok (.iadd, 1) := by decide +kernel
theorem dX2_distance_56 : decode cX2_distance 56 = .ok (.aload_n 0, 1) := by decide +kernel
theorem dX2_distance_57 : decode cX2_distance 57 = .ok (.iload_n 1, 1) := by decide +kernel
theorem dX2_distance_58 : decode cX2_distance 58 = .ok (.invokestatic 34, 3) := by decide +kernel
theorem dX2_distance_61 : decode cX2_distance 61 = .ok (.iload_n 2, 1) := by decide +kernel
theorem dX2_distance_62 : decode cX2_distance 62 = .ok (.invokestatic 34, 3) := by decide +kernel
theorem dX2_distance_65 : decode cX2_distance 65 = .ok (.invokevirtual 55, 3) := by decide +kernel
theorem dX2_distance_68 : decode cX2_distance 68 = .ok (.iadd, 1) := by decide +kernel
theorem dX2_distance_69 : decode cX2_distance 69 = .ok (.ireturn, 1) := by decide +kernel
theorem dX3_init_0 : decode cX3_init 0 = .ok (.aload_n 0, 1) := by decide +kernel
theorem dX3_init_1 : decode cX3_init 1 = .ok (.invokespecial 1, 3) := by decide +kernel
theorem dX3_init_4 : decode cX3_init 4 = .ok (.aload_n 0, 1) := by decide +kernel
theorem dX3_init_5 : decode cX3_init 5 = .ok (.new 7, 3) := by decide +kernel
theorem dX3_init_8 : decode cX3_init 8 = .ok (.dup, 1) := by decide +kernel
theorem dX3_init_9 : decode cX3_init 9 = .ok (.invokespecial 9, 3) := by decide +kernel
theorem dX3_init_12 : decode cX3_init 12 = .ok (.putfield 10, 3) := by decide +kernel
theorem dX3_init_15 : decode cX3_init 15 = .ok (.aload_n 0, 1) := by decide +kernel
theorem dX3_init_16 : decode cX3_init 16 = .ok (.iconst 4, 1) := by decide +kernel
theorem dX3_init_17 : decode cX3_init 17 = .ok (.anewarray 16, 3) := by decide +kernel
theorem dX3_init_20 : decode cX3_init 20 = .ok (.putfield 18, 3) := by decide +kernel
theorem dX3_init_23 : decode cX3_init 23 = .ok (.iconst 0, 1) := by decide +kernel
theorem dX3_init_24 : decode cX3_init 24 = .ok (.istore_n 1, 1) := by decide +kernel
theorem dX3_init_25 : decode cX3_init 25 = .ok (.iload_n 1, 1) := by decide +kernel
theorem dX3_init_26 : decode cX3_init 26 = .ok (.iconst 4, 1) := by decide +kernel
theorem dX3_init_27 : decode cX3_init 27 = .ok (.if_icmp .ge 26, 3) := by decide +kernel
theorem dX3_init_30 : decode cX3_init 30 = .ok (.aload_n 0, 1) := by decide +kernel
theorem dX3_init_31 : decode cX3_init 31 = .ok (.getfield 18, 3) := by decide +kernel
theorem dX3_init_34 : decode cX3_init 34 = .ok (.iload_n 1, 1) := by decide +kernel
theorem dX3_init_35 : decode cX3_init 35 = .ok (.new 16, 3) := by decide +kernel
theorem dX3_init_38 : decode cX3_init 38 = .ok (.dup, 1) := by decide +kernel
theorem dX3_init_39 : decode cX3_init 39 = .ok (.aload_n 0, 1) := by decide +kernel
theorem dX3_init_40 : decode cX3_init 40 = .ok (.getfield 10, 3) := by decide +kernel
theorem dX3_init_43 : decode cX3_init 43 = .ok (.invokespecial 22, 3) := by decide +kernel
theorem dX3_init_46 : decode cX3_init 46 = .ok (.aastore, 1) := by decide +kernel
theorem dX3_init_47 : decode cX3_init 47 = .ok (.iinc 1 1, 3) := by decide +kernel
theorem dX3_init_50 : decode cX3_init 50 = .ok (.goto (-25), 3) := by decide +kernel
theorem dX3_init_53 : decode cX3_init 53 = .ok (.aload_n 0, 1) := by decide +kernel
theorem dX3_init_54 : decode cX3_init 54 = .ok (.new 16, 3) := by decide +kernel
theorem dX3_init_57 : decode cX3_init 57 = .ok (.dup, 1) := by decide +kernel
theorem dX3_init_58 : decode cX3_init 58 = .ok (.aload_n 0, 1) := by decide +kernel
theorem dX3_init_59 : decode cX3_init 59 = .ok (.getfield 10, 3) := by decide +kernel
theorem dX3_init_62 : decode cX3_init 62 = .ok (.invokespecial 22, 3) := by decide +kernel
theorem dX3_init_65 : decode cX3_init 65 = .ok (.putfield 25, 3) := by decide +kernel
theorem dX3_init_68 : decode cX3_init 68 = .ok (.aload_n 0, 1) := by decide +kernel
theorem dX3_init_69 : decode cX3_init 69 = .ok (.iconst 0, 1) := by decide +kernel
theorem dX3_init_70 : decode cX3_init 70 = .ok (.putfield 29, 3) := by decide +kernel
theorem dX3_init_73 : decode cX3_init 73 = .ok (.return_, 1) := by decide +kernel
theorem dX3_addLodge_0 : decode cX3_addLodge 0 = .ok (.aload_n 0, 1) := by decide +kernel
theorem dX3_addLodge_1 : decode cX3_addLodge 1 = .ok (.getfield 29, 3) := by decide +kernel
theorem dX3_addLodge_4 : decode cX3_addLodge 4 = .ok (.iconst 4, 1) := by decide +kernel
theorem dX3_addLodge_5 : decode cX3_addLodge 5 = .ok (.if_icmp .lt 13, 3) := by decide +kernel
theorem dX3_addLodge_8 : decode cX3_addLodge 8 = .ok (.new 33, 3) := by decide +kernel
theorem dX3_addLodge_11 : decode cX3_addLodge 11 = .ok (.dup, 1) := by decide +kernel
theorem dX3_addLodge_12 : decode cX3_addLodge 12 = .ok (.ldc 35, 2) := by decide +kernel
theorem dX3_addLodge_14 : decode cX3_addLodge 14 = .ok (.invokespecial 37, 3) := by decide +kernel
theorem dX3_addLodge_17 : decode cX3_addLodge 17 = .ok (.athrow, 1) := by decide +kernel
theorem dX3_addLodge_18 : decode cX3_addLodge 18 = .ok (.aload_n 0, 1) := by decide +kernel
theorem dX3_addLodge_19 : decode cX3_addLodge 19 = .ok (.dup, 1) := by decide +kernel
theorem dX3_addLodge_20 : decode cX3_addLodge 20 = .ok (.getfield 29, 3) := by decide +kernel
theorem dX3_addLodge_23 : decode cX3_addLodge 23 = .ok (.iconst 1, 1) := by decide +kernel
theorem dX3_addLodge_24 : decode cX3_addLodge 24 = .ok (.iadd, 1) := by decide +kernel
theorem dX3_addLodge_25 : decode cX3_addLodge 25 = .ok (.putfield 29, 3) := by decide +kernel
theorem dX3_addLodge_28 : decode cX3_addLodge 28 = .ok (.aload_n 0, 1) := by decide +kernel
theorem dX3_addLodge_29 : decode cX3_addLodge 29 = .ok (.getfield 29, 3) := by decide +kernel
theorem dX3_addLodge_32 : decode cX3_addLodge 32 = .ok (.iconst 1, 1) := by decide +kernel
theorem dX3_addLodge_33 : decode cX3_addLodge 33 = .ok (.isub, 1) := by decide +kernel
theorem dX3_addLodge_34 : decode cX3_addLodge 34 = .ok (.ireturn, 1) := by decide +kernel
theorem dX3_addSign_0 : decode cX3_addSign 0 = .ok (.aload_n 0, 1) := by decide +kernel
theorem dX3_addSign_1 : decode cX3_addSign 1 = .ok (.iload_n 1, 1) := by decide +kernel
theorem dX3_addSign_2 : decode cX3_addSign 2 = .ok (.invokevirtual 40, 3) := by decide +kernel
theorem dX3_addSign_5 : decode cX3_addSign 5 = .ok (.astore 7, 2) := by decide +kernel
theorem dX3_addSign_7 : decode cX3_addSign 7 = .ok (.iload_n 2, 1) := by decide +kernel
theorem dX3_addSign_8 : decode cX3_addSign 8 = .ok (.iload_n 3, 1) := by decide +kernel
theorem dX3_addSign_9 : decode cX3_addSign 9 = .ok (.iload 4, 2) := by decide +kernel
theorem dX3_addSign_11 : decode cX3_addSign 11 = .ok (.iload 5, 2) := by decide +kernel
theorem dX3_addSign_13 : decode cX3_addSign 13 = .ok (.invokestatic 44, 3) := by decide +kernel
theorem dX3_addSign_16 : decode cX3_addSign 16 = .ok (.iload 6, 2) := by decide +kernel
theorem dX3_addSign_18 : decode cX3_addSign 18 = .ok (.bipush 30, 2) := by decide +kernel
theorem dX3_addSign_20 : decode cX3_addSign 20 = .ok (.invokestatic 48, 3) := by decide +kernel
theorem dX3_addSign_23 : decode cX3_addSign 23 = .ok (.ifCond .ne 13, 3) := by decide +kernel
theorem dX3_addSign_26 : decode cX3_addSign 26 = .ok (.new 52, 3) := by decide +kernel
theorem dX3_addSign_29 : decode cX3_addSign 29 = .ok (.dup, 1) := by decide +kernel
theorem dX3_addSign_30 : decode cX3_addSign 30 = .ok (.ldc 54, 2) := by decide +kernel
theorem dX3_addSign_32 : decode cX3_addSign 32 = .ok (.invokespecial 56, 3) := by decide +kernel
theorem dX3_addSign_35 : decode cX3_addSign 35 = .ok (.athrow, 1) := by decide +kernel
theorem dX3_addSign_36 : decode cX3_addSign 36 = .ok (.aload 7, 2) := by decide +kernel
theorem dX3_addSign_38 : decode cX3_addSign 38 = .ok (.iload 6, 2) := by decide +kernel
theorem dX3_addSign_40 : decode cX3_addSign 40 = .ok (.invokevirtual 57, 3) := by decide +kernel
theorem dX3_addSign_43 : decode cX3_addSign 43 = .ok (.ifCond .ne 13, 3) := by decide +kernel
theorem dX3_addSign_46 : decode cX3_addSign 46 = .ok (.new 33, 3) := by decide +kernel
theorem dX3_addSign_49 : decode cX3_addSign 49 = .ok (.dup, 1) := by decide +kernel
theorem dX3_addSign_50 : decode cX3_addSign 50 = .ok (.ldc 61, 2) := by decide +kernel
theorem dX3_addSign_52 : decode cX3_addSign 52 = .ok (.invokespecial 37, 3) := by decide +kernel
theorem dX3_addSign_55 : decode cX3_addSign 55 = .ok (.athrow, 1) := by decide +kernel
theorem dX3_addSign_56 : decode cX3_addSign 56 = .ok (.aload 7, 2) := by decide +kernel
theorem dX3_addSign_58 : decode cX3_addSign 58 = .ok (.iload_n 2, 1) := by decide +kernel
theorem dX3_addSign_59 : decode cX3_addSign 59 = .ok (.iload_n 3, 1) := by decide +kernel
theorem dX3_addSign_60 : decode cX3_addSign 60 = .ok (.iload 4, 2) := by decide +kernel
theorem dX3_addSign_62 : decode cX3_addSign 62 = .ok (.iload 5, 2) := by decide +kernel
theorem dX3_addSign_64 : decode cX3_addSign 64 = .ok (.invokestatic 63, 3) := by decide +kernel
theorem dX3_addSign_67 : decode cX3_addSign 67 = .ok (.iload 6, 2) := by decide +kernel
theorem dX3_addSign_69 : decode cX3_addSign 69 = .ok (.invokevirtual 69, 3) := by decide +kernel
theorem dX3_addSign_72 : decode cX3_addSign 72 = .ok (.ireturn, 1) := by decide +kernel
theorem dX3_forget_0 : decode cX3_forget 0 = .ok (.aload_n 0, 1) := by decide +kernel
theorem dX3_forget_1 : decode cX3_forget 1 = .ok (.iload_n 1, 1) := by decide +kernel
theorem dX3_forget_2 : decode cX3_forget 2 = .ok (.invokevirtual 40, 3) := by decide +kernel
theorem dX3_forget_5 : decode cX3_forget 5 = .ok (.astore_n 3, 1) := by decide +kernel
theorem dX3_forget_6 : decode cX3_forget 6 = .ok (.aload_n 3, 1) := by decide +kernel
theorem dX3_forget_7 : decode cX3_forget 7 = .ok (.iload_n 2, 1) := by decide +kernel
theorem dX3_forget_8 : decode cX3_forget 8 = .ok (.invokestatic 73, 3) := by decide +kernel
theorem dX3_forget_11 : decode cX3_forget 11 = .ok (.aload_n 3, 1) := by decide +kernel
theorem dX3_forget_12 : decode cX3_forget 12 = .ok (.iload_n 2, 1) := by decide +kernel
theorem dX3_forget_13 : decode cX3_forget 13 = .ok (.invokevirtual 77, 3) := by decide +kernel
theorem dX3_forget_16 : decode cX3_forget 16 = .ok (.ireturn, 1) := by decide +kernel
theorem dX3_setThumb_0 : decode cX3_setThumb 0 = .ok (.aload_n 0, 1) := by decide +kernel
theorem dX3_setThumb_1 : decode cX3_setThumb 1 = .ok (.iload_n 1, 1) := by decide +kernel
theorem dX3_setThumb_2 : decode cX3_setThumb 2 = .ok (.invokevirtual 40, 3) := by decide +kernel
theorem dX3_setThumb_5 : decode cX3_setThumb 5 = .ok (.astore 4, 2) := by decide +kernel
theorem dX3_setThumb_7 : decode cX3_setThumb 7 = .ok (.aload 4, 2) := by decide +kernel
theorem dX3_setThumb_9 : decode cX3_setThumb 9 = .ok (.iload_n 2, 1) := by decide +kernel
theorem dX3_setThumb_10 : decode cX3_setThumb 10 = .ok (.invokestatic 73, 3) := by decide +kernel
theorem dX3_setThumb_13 : decode cX3_setThumb 13 = .ok (.iload_n 3, 1) := by decide +kernel
theorem dX3_setThumb_14 : decode cX3_setThumb 14 = .ok (.iconst 4, 1) := by decide +kernel
theorem dX3_setThumb_15 : decode cX3_setThumb 15 = .ok (.invokestatic 48, 3) := by decide +kernel
theorem dX3_setThumb_18 : decode cX3_setThumb 18 = .ok (.ifCond .ne 13, 3) := by decide +kernel
theorem dX3_setThumb_21 : decode cX3_setThumb 21 = .ok (.new 52, 3) := by decide +kernel
theorem dX3_setThumb_24 : decode cX3_setThumb 24 = .ok (.dup, 1) := by decide +kernel
theorem dX3_setThumb_25 : decode cX3_setThumb 25 = .ok (.ldc 81, 2) := by decide +kernel
theorem dX3_setThumb_27 : decode cX3_setThumb 27 = .ok (.invokespecial 56, 3) := by decide +kernel
theorem dX3_setThumb_30 : decode cX3_setThumb 30 = .ok (.athrow, 1) := by decide +kernel
theorem dX3_setThumb_31 : decode cX3_setThumb 31 = .ok (.aload 4, 2) := by decide +kernel
theorem dX3_setThumb_33 : decode cX3_setThumb 33 = .ok (.getfield 83, 3) := by decide +kernel
theorem dX3_setThumb_36 : decode cX3_setThumb 36 = .ok (.iload_n 2, 1) := by decide +kernel
theorem dX3_setThumb_37 : decode cX3_setThumb 37 = .ok (.iaload, 1) := by decide +kernel
theorem dX3_setThumb_38 : decode cX3_setThumb 38 = .ok (.invokestatic 87, 3) := by decide +kernel
theorem dX3_setThumb_41 : decode cX3_setThumb 41 = .ok (.istore 5, 2) := by decide +kernel
theorem dX3_setThumb_43 : decode cX3_setThumb 43 = .ok (.aload 4, 2) := by decide +kernel
theorem dX3_setThumb_45 : decode cX3_setThumb 45 = .ok (.getfield 83, 3) := by decide +kernel
theorem dX3_setThumb_48 : decode cX3_setThumb 48 = .ok (.iload_n 2, 1) := by decide +kernel
theorem dX3_setThumb_49 : decode cX3_setThumb 49 = .ok (.aload 4, 2) := by decide +kernel
theorem dX3_setThumb_51 : decode cX3_setThumb 51 = .ok (.getfield 83, 3) := by decide +kernel
theorem dX3_setThumb_54 : decode cX3_setThumb 54 = .ok (.iload_n 2, 1) := by decide +kernel
theorem dX3_setThumb_55 : decode cX3_setThumb 55 = .ok (.iaload, 1) := by decide +kernel
theorem dX3_setThumb_56 : decode cX3_setThumb 56 = .ok (.iload_n 3, 1) := by decide +kernel
theorem dX3_setThumb_57 : decode cX3_setThumb 57 = .ok (.invokestatic 90, 3) := by decide +kernel
theorem dX3_setThumb_60 : decode cX3_setThumb 60 = .ok (.iastore, 1) := by decide +kernel
theorem dX3_setThumb_61 : decode cX3_setThumb 61 = .ok (.iload 5, 2) := by decide +kernel
theorem dX3_setThumb_63 : decode cX3_setThumb 63 = .ok (.ireturn, 1) := by decide +kernel
theorem dX3_join_0 : decode cX3_join 0 = .ok (.iload_n 1, 1) := by decide +kernel
theorem dX3_join_1 : decode cX3_join 1 = .ok (.invokestatic 93, 3) := by decide +kernel
theorem dX3_join_4 : decode cX3_join 4 = .ok (.iload_n 2, 1) := by decide +kernel
theorem dX3_join_5 : decode cX3_join 5 = .ok (.invokestatic 93, 3) := by decide +kernel
theorem dX3_join_8 : decode cX3_join 8 = .ok (.aload_n 0, 1) := by decide +kernel
theorem dX3_join_9 : decode cX3_join 9 = .ok (.getfield 10, 3) := by decide +kernel
theorem dX3_join_12 : decode cX3_join 12 = .ok (.iload_n 1, 1) := by decide +kernel
theorem dX3_join_13 : decode cX3_join 13 = .ok (.iload_n 2, 1) := by decide +kernel
theorem dX3_join_14 : decode cX3_join 14 = .ok (.invokevirtual 97, 3) := by decide +kernel
theorem dX3_join_17 : decode cX3_join 17 = .ok (.aload_n 0, 1) := by decide +kernel
theorem dX3_join_18 : decode cX3_join 18 = .ok (.getfield 10, 3) := by decide +kernel
theorem dX3_join_21 : decode cX3_join 21 = .ok (.getfield 101, 3) := by decide +kernel
theorem dX3_join_24 : decode cX3_join 24 = .ok (.ireturn, 1) := by decide +kernel
theorem dX3_borrow_0 : decode cX3_borrow 0 = .ok (.aload_n 0, 1) := by decide +kernel
theorem dX3_borrow_1 : decode cX3_borrow 1 = .ok (.iload_n 1, 1) := by decide +kernel
theorem dX3_borrow_2 : decode cX3_borrow 2 = .ok (.invokevirtual 40, 3) := by decide +kernel
theorem dX3_borrow_5 : decode cX3_borrow 5 = .ok (.astore 4, 2) := by decide +kernel
theorem dX3_borrow_7 : decode cX3_borrow 7 = .ok (.aload_n 0, 1) := by decide +kernel
theorem dX3_borrow_8 : decode cX3_borrow 8 = .ok (.iload_n 3, 1) := by decide +kernel
theorem dX3_borrow_9 : decode cX3_borrow 9 = .ok (.invokevirtual 40, 3) := by decide +kernel
theorem dX3_borrow_12 : decode cX3_borrow 12 = .ok (.astore 5, 2) := by decide +kernel
theorem dX3_borrow_14 : decode cX3_borrow 14 = .ok (.aload 4, 2) := by decide +kernel
theorem dX3_borrow_16 : decode cX3_borrow 16 = .ok (.iload_n 2, 1) := by decide +kernel
theorem dX3_borrow_17 : decode cX3_borrow 17 = .ok (.invokestatic 73, 3) := by decide +kernel
theorem dX3_borrow_20 : decode cX3_borrow 20 = .ok (.iload_n 1, 1) := by decide +kernel
theorem dX3_borrow_21 : decode cX3_borrow 21 = .ok (.iload_n 3, 1) := by decide +kernel
theorem dX3_borrow_22 : decode cX3_borrow 22 = .ok (.if_icmp .ne 13, 3) := by decide +kernel
theorem dX3_borrow_25 : decode cX3_borrow 25 = .ok (.new 52, 3) := by decide +kernel
theorem dX3_borrow_28 : decode cX3_borrow 28 = .ok (.dup, 1) := by decide +kernel
theorem dX3_borrow_29 : decode cX3_borrow 29 = .ok (.ldc 104, 2) := by decide +kernel
theorem dX3_borrow_31 : decode cX3_borrow 31 = .ok (.invokespecial 56, 3) := by decide +kernel
theorem dX3_borrow_34 : decode cX3_borrow 34 = .ok (.athrow, 1) := by decide +kernel
theorem dX3_borrow_35 : decode cX3_borrow 35 = .ok (.aload 4, 2) := by decide +kernel
theorem dX3_borrow_37 : decode cX3_borrow 37 = .ok (.getfield 106, 3) := by decide +kernel
theorem dX3_borrow_40 : decode cX3_borrow 40 = .ok (.iload_n 2, 1) := by decide +kernel
theorem dX3_borrow_41 : decode cX3_borrow 41 = .ok (.iaload, 1) := by decide +kernel
theorem dX3_borrow_42 : decode cX3_borrow 42 = .ok (.istore 6, 2) := by decide +kernel
theorem dX3_borrow_44 : decode cX3_borrow 44 = .ok (.aload 5, 2) := by decide +kernel
theorem dX3_borrow_46 : decode cX3_borrow 46 = .ok (.iload 6, 2) := by decide +kernel
theorem dX3_borrow_48 : decode cX3_borrow 48 = .ok (.invokevirtual 57, 3) := by decide +kernel
theorem dX3_borrow_51 : decode cX3_borrow 51 = .ok (.ifCond .ne 13, 3) := by decide +kernel
theorem dX3_borrow_54 : decode cX3_borrow 54 = .ok (.new 33, 3) := by decide +kernel
theorem dX3_borrow_57 : decode cX3_borrow 57 = .ok (.dup, 1) := by decide +kernel
theorem dX3_borrow_58 : decode cX3_borrow 58 = .ok (.ldc 61, 2) := by decide +kernel
theorem dX3_borrow_60 : decode cX3_borrow 60 = .ok (.invokespecial 37, 3) := by decide +kernel
theorem dX3_borrow_63 : decode cX3_borrow 63 = .ok (.athrow, 1) := by decide +kernel
theorem dX3_borrow_64 : decode cX3_borrow 64 = .ok (.aload 5, 2) := by decide +kernel
theorem dX3_borrow_66 : decode cX3_borrow 66 = .ok (.aload 4, 2) := by decide +kernel
theorem dX3_borrow_68 : decode cX3_borrow 68 = .ok (.getfield 83, 3) := by decide +kernel
theorem dX3_borrow_71 : decode cX3_borrow 71 = .ok (.iload_n 2, 1) := by decide +kernel
theorem dX3_borrow_72 : decode cX3_borrow 72 = .ok (.iaload, 1) := by decide +kernel
theorem dX3_borrow_73 : decode cX3_borrow 73 = .ok (.invokevirtual 109, 3) := by decide +kernel
theorem dX3_borrow_76 : decode cX3_borrow 76 = .ok (.istore 7, 2) := by decide +kernel
theorem dX3_borrow_78 : decode cX3_borrow 78 = .ok (.iload 7, 2) := by decide +kernel
theorem dX3_borrow_80 : decode cX3_borrow 80 = .ok (.iconst (-1), 1) := by decide +kernel
theorem dX3_borrow_81 : decode cX3_borrow 81 = .ok (.if_icmp .ne 13, 3) := by decide +kernel
theorem dX3_borrow_84 : decode cX3_borrow 84 = .ok (.new 33, 3) := by decide +kernel
theorem dX3_borrow_87 : decode cX3_borrow 87 = .ok (.dup, 1) := by decide +kernel
theorem dX3_borrow_88 : decode cX3_borrow 88 = .ok (.ldc 112, 2) := by decide +kernel
theorem dX3_borrow_90 : decode cX3_borrow 90 = .ok (.invokespecial 37, 3) := by decide +kernel
theorem dX3_borrow_93 : decode cX3_borrow 93 = .ok (.athrow, 1) := by decide +kernel
theorem dX3_borrow_94 : decode cX3_borrow 94 = .ok (.aload 5, 2) := by decide +kernel
theorem dX3_borrow_96 : decode cX3_borrow 96 = .ok (.iload 7, 2) := by decide +kernel
theorem dX3_borrow_98 : decode cX3_borrow 98 = .ok (.iload 6, 2) := by decide +kernel
theorem dX3_borrow_100 : decode cX3_borrow 100 = .ok (.invokevirtual 69, 3) := by decide +kernel
theorem dX3_borrow_103 : decode cX3_borrow 103 = .ok (.ireturn, 1) := by decide +kernel
theorem dX3_groups_0 : decode cX3_groups 0 = .ok (.aload_n 0, 1) := by decide +kernel
theorem dX3_groups_1 : decode cX3_groups 1 = .ok (.getfield 10, 3) := by decide +kernel
theorem dX3_groups_4 : decode cX3_groups 4 = .ok (.getfield 101, 3) := by decide +kernel
theorem dX3_groups_7 : decode cX3_groups 7 = .ok (.ireturn, 1) := by decide +kernel
theorem dX3_areJoined_0 : decode cX3_areJoined 0 = .ok (.iload_n 1, 1) := by decide +kernel
theorem dX3_areJoined_1 : decode cX3_areJoined 1 = .ok (.invokestatic 93, 3) := by decide +kernel
theorem dX3_areJoined_4 : decode cX3_areJoined 4 = .ok (.iload_n 2, 1) := by decide +kernel
theorem dX3_areJoined_5 : decode cX3_areJoined 5 = .ok (.invokestatic 93, 3) := by decide +kernel
theorem dX3_areJoined_8 : decode cX3_areJoined 8 = .ok (.aload_n 0, 1) := by decide +kernel
theorem dX3_areJoined_9 : decode cX3_areJoined 9 = .ok (.getfield 10, 3) := by decide +kernel
theorem dX3_areJoined_12 : decode cX3_areJoined 12 = .ok (.iload_n 1, 1) := by decide +kernel
theorem dX3_areJoined_13 : decode cX3_areJoined 13 = .ok (.iload_n 2, 1) := by decide +kernel
theorem dX3_areJoined_14 : decode cX3_areJoined 14 = .ok (.invokevirtual 114, 3) := by decide +kernel
theorem dX3_areJoined_17 : decode cX3_areJoined 17 = .ok (.ireturn, 1) := by decide +kernel
theorem dX3_steps_0 : decode cX3_steps 0 = .ok (.iload_n 1, 1) := by decide +kernel
theorem dX3_steps_1 : decode cX3_steps 1 = .ok (.invokestatic 93, 3) := by decide +kernel
theorem dX3_steps_4 : decode cX3_steps 4 = .ok (.iload_n 2, 1) := by decide +kernel
theorem dX3_steps_5 : decode cX3_steps 5 = .ok (.invokestatic 93, 3) := by decide +kernel
theorem dX3_steps_8 : decode cX3_steps 8 = .ok (.aload_n 0, 1) := by decide +kernel
theorem dX3_steps_9 : decode cX3_steps 9 = .ok (.getfield 10, 3) := by decide +kernel
theorem dX3_steps_12 : decode cX3_steps 12 = .ok (.iload_n 1, 1) := by decide +kernel
theorem dX3_steps_13 : decode cX3_steps 13 = .ok (.iload_n 2, 1) := by decide +kernel
theorem dX3_steps_14 : decode cX3_steps 14 = .ok (.invokevirtual 117, 3) := by decide +kernel
theorem dX3_steps_17 : decode cX3_steps 17 = .ok (.ireturn, 1) := by decide +kernel
theorem dX3_lodges_0 : decode cX3_lodges 0 = .ok (.aload_n 0, 1) := by decide +kernel
theorem dX3_lodges_1 : decode cX3_lodges 1 = .ok (.getfield 29, 3) := by decide +kernel
theorem dX3_lodges_4 : decode cX3_lodges 4 = .ok (.ireturn, 1) := by decide +kernel
theorem dX3_signsOf_0 : decode cX3_signsOf 0 = .ok (.aload_n 0, 1) := by decide +kernel
theorem dX3_signsOf_1 : decode cX3_signsOf 1 = .ok (.iload_n 1, 1) := by decide +kernel
theorem dX3_signsOf_2 : decode cX3_signsOf 2 = .ok (.invokevirtual 40, 3) := by decide +kernel
theorem dX3_signsOf_5 : decode cX3_signsOf 5 = .ok (.getfield 120, 3) := by decide +kernel
theorem dX3_signsOf_8 : decode cX3_signsOf 8 = .ok (.ireturn, 1) := by decide +kernel
theorem dX3_shapeOf_0 : decode cX3_shapeOf 0 = .ok (.aload_n 0, 1) := by decide +kernel
theorem dX3_shapeOf_1 : decode cX3_shapeOf 1 = .ok (.iload_n 1, 1) := by decide +kernel
theorem dX3_shapeOf_2 : decode cX3_shapeOf 2 = .ok (.iload_n 2, 1) := by decide +kernel
theorem dX3_shapeOf_3 : decode cX3_shapeOf 3 = .ok (.invokevirtual 123, 3) := by decide +kernel
theorem dX3_shapeOf_6 : decode cX3_shapeOf 6 = .ok (.invokestatic 126, 3) := by decide +kernel
theorem dX3_shapeOf_9 : decode cX3_shapeOf 9 = .ok (.ireturn, 1) := by decide +kernel
theorem dX3_thumbOf_0 : decode cX3_thumbOf 0 = .ok (.aload_n 0, 1) := by decide +kernel
theorem dX3_thumbOf_1 : decode cX3_thumbOf 1 = .ok (.iload_n 1, 1) := by decide +kernel
theorem dX3_thumbOf_2 : decode cX3_thumbOf 2 = .ok (.iload_n 2, 1) := by decide +kernel
theorem dX3_thumbOf_3 : decode cX3_thumbOf 3 = .ok (.invokevirtual 123, 3) := by decide +kernel
theorem dX3_thumbOf_6 : decode cX3_thumbOf 6 = .ok (.invokestatic 87, 3) := by decide +kernel
theorem dX3_thumbOf_9 : decode cX3_thumbOf 9 = .ok (.ireturn, 1) := by decide +kernel
theorem dX3_placeOf_0 : decode cX3_placeOf 0 = .ok (.aload_n 0, 1) := by decide +kernel
theorem dX3_placeOf_1 : decode cX3_placeOf 1 = .ok (.iload_n 1, 1) := by decide +kernel
theorem dX3_placeOf_2 : decode cX3_placeOf 2 = .ok (.iload_n 2, 1) := by decide +kernel
theorem dX3_placeOf_3 : decode cX3_placeOf 3 = .ok (.invokevirtual 123, 3) := by decide +kernel
theorem dX3_placeOf_6 : decode cX3_placeOf 6 = .ok (.invokestatic 129, 3) := by decide +kernel
theorem dX3_placeOf_9 : decode cX3_placeOf 9 = .ok (.ireturn, 1) := by decide +kernel
theorem dX3_meaningOf_0 : decode cX3_meaningOf 0 = .ok (.aload_n 0, 1) := by decide +kernel
theorem dX3_meaningOf_1 : decode cX3_meaningOf 1 = .ok (.iload_n 1, 1) := by decide +kernel
theorem dX3_meaningOf_2 : decode cX3_meaningOf 2 = .ok (.invokevirtual 40, 3) := by decide +kernel
theorem dX3_meaningOf_5 : decode cX3_meaningOf 5 = .ok (.astore_n 3, 1) := by decide +kernel
theorem dX3_meaningOf_6 : decode cX3_meaningOf 6 = .ok (.aload_n 3, 1) := by decide +kernel
theorem dX3_meaningOf_7 : decode cX3_meaningOf 7 = .ok (.iload_n 2, 1) := by decide +kernel
theorem dX3_meaningOf_8 : decode cX3_meaningOf 8 = .ok (.invokestatic 73, 3) := by decide +kernel
theorem dX3_meaningOf_11 : decode cX3_meaningOf 11 = .ok (.aload_n 3, 1) := by decide +kernel
theorem dX3_meaningOf_12 : decode cX3_meaningOf 12 = .ok (.getfield 106, 3) := by decide +kernel
theorem dX3_meaningOf_15 : decode cX3_meaningOf 15 = .ok (.iload_n 2, 1) := by decide +kernel
theorem dX3_meaningOf_16 : decode cX3_meaningOf 16 = .ok (.iaload, 1) := by decide +kernel
theorem dX3_meaningOf_17 : decode cX3_meaningOf 17 = .ok (.ireturn, 1) := by decide +kernel
theorem dX3_signFor_0 : decode cX3_signFor 0 = .ok (.aload_n 0, 1) := by decide +kernel
theorem dX3_signFor_1 : decode cX3_signFor 1 = .ok (.iload_n 1, 1) := by decide +kernel
theorem dX3_signFor_2 : decode cX3_signFor 2 = .ok (.invokevirtual 40, 3) := by decide +kernel
theorem dX3_signFor_5 : decode cX3_signFor 5 = .ok (.astore_n 3, 1) := by decide +kernel
theorem dX3_signFor_6 : decode cX3_signFor 6 = .ok (.iload_n 2, 1) := by decide +kernel
theorem dX3_signFor_7 : decode cX3_signFor 7 = .ok (.bipush 30, 2) := by decide +kernel
theorem dX3_signFor_9 : decode cX3_signFor 9 = .ok (.invokestatic 48, 3) := by decide +kernel
theorem dX3_signFor_12 : decode cX3_signFor 12 = .ok (.ifCond .ne 13, 3) := by decide +kernel
theorem dX3_signFor_15 : decode cX3_signFor 15 = .ok (.new 132, 3) := by decide +kernel
theorem dX3_signFor_18 : decode cX3_signFor 18 = .ok (.dup, 1) := by decide +kernel
theorem dX3_signFor_19 : decode cX3_signFor 19 = .ok (.ldc 54, 2) := by decide +kernel
theorem dX3_signFor_21 : decode cX3_signFor 21 = .ok (.invokespecial 134, 3) := by decide +kernel
theorem dX3_signFor_24 : decode cX3_signFor 24 = .ok (.athrow, 1) := by decide +kernel
theorem dX3_signFor_25 : decode cX3_signFor 25 = .ok (.aload_n 3, 1) := by decide +kernel
theorem dX3_signFor_26 : decode cX3_signFor 26 = .ok (.iload_n 2, 1) := by decide +kernel
theorem dX3_signFor_27 : decode cX3_signFor 27 = .ok (.invokevirtual 135, 3) := by decide +kernel
theorem dX3_signFor_30 : decode cX3_signFor 30 = .ok (.ireturn, 1) := by decide +kernel
theorem dX3_apart_0 : decode cX3_apart 0 = .ok (.aload_n 0, 1) := by decide +kernel
theorem dX3_apart_1 : decode cX3_apart 1 = .ok (.iload_n 1, 1) := by decide +kernel
theorem dX3_apart_2 : decode cX3_apart 2 = .ok (.invokevirtual 40, 3) := by decide +kernel
theorem dX3_apart_5 : decode cX3_apart 5 = .ok (.astore 4, 2) := by decide +kernel
theorem dX3_apart_7 : decode cX3_apart 7 = .ok (.aload 4, 2) := by decide +kernel
theorem dX3_apart_9 : decode cX3_apart 9 = .ok (.iload_n 2, 1) := by decide +kernel
theorem dX3_apart_10 : decode cX3_apart 10 = .ok (.invokestatic 73, 3) := by decide +kernel
theorem dX3_apart_13 : decode cX3_apart 13 = .ok (.aload 4, 2) := by decide +kernel
theorem dX3_apart_15 : decode cX3_apart 15 = .ok (.iload_n 3, 1) := by decide +kernel
theorem dX3_apart_16 : decode cX3_apart 16 = .ok (.invokestatic 73, 3) := by decide +kernel
theorem dX3_apart_19 : decode cX3_apart 19 = .ok (.aload_n 0, 1) := by decide +kernel
theorem dX3_apart_20 : decode cX3_apart 20 = .ok (.getfield 10, 3) := by decide +kernel
theorem dX3_apart_23 : decode cX3_apart 23 = .ok (.aload 4, 2) := by decide +kernel
theorem dX3_apart_25 : decode cX3_apart 25 = .ok (.getfield 83, 3) := by decide +kernel
theorem dX3_apart_28 : decode cX3_apart 28 = .ok (.iload_n 2, 1) := by decide +kernel
theorem dX3_apart_29 : decode cX3_apart 29 = .ok (.iaload, 1) := by decide +kernel
theorem dX3_apart_30 : decode cX3_apart 30 = .ok (.aload 4, 2) := by decide +kernel
theorem dX3_apart_32 : decode cX3_apart 32 = .ok (.getfield 83, 3) := by decide +kernel
theorem dX3_apart_35 : decode cX3_apart 35 = .ok (.iload_n 3, 1) := by decide +kernel
theorem dX3_apart_36 : decode cX3_apart 36 = .ok (.iaload, 1) := by decide +kernel
theorem dX3_apart_37 : decode cX3_apart 37 = .ok (.invokevirtual 138, 3) := by decide +kernel
theorem dX3_apart_40 : decode cX3_apart 40 = .ok (.ireturn, 1) := by decide +kernel
theorem dX3_alikePairs_0 : decode cX3_alikePairs 0 = .ok (.aload_n 0, 1) := by decide +kernel
theorem dX3_alikePairs_1 : decode cX3_alikePairs 1 = .ok (.iload_n 1, 1) := by decide +kernel
theorem dX3_alikePairs_2 : decode cX3_alikePairs 2 = .ok (.invokevirtual 40, 3) := by decide +kernel
theorem dX3_alikePairs_5 : decode cX3_alikePairs 5 = .ok (.invokevirtual 141, 3) := by decide +kernel
theorem dX3_alikePairs_8 : decode cX3_alikePairs 8 = .ok (.ireturn, 1) := by decide +kernel
theorem dX3_thumbPairs_0 : decode cX3_thumbPairs 0 = .ok (.aload_n 0, 1) := by decide +kernel
theorem dX3_thumbPairs_1 : decode cX3_thumbPairs 1 = .ok (.iload_n 1, 1) := by decide +kernel
theorem dX3_thumbPairs_2 : decode cX3_thumbPairs 2 = .ok (.invokevirtual 40, 3) := by decide +kernel
theorem dX3_thumbPairs_5 : decode cX3_thumbPairs 5 = .ok (.invokevirtual 145, 3) := by decide +kernel
theorem dX3_thumbPairs_8 : decode cX3_thumbPairs 8 = .ok (.ireturn, 1) := by decide +kernel
theorem dX3_closest_0 : decode cX3_closest 0 = .ok (.aload_n 0, 1) := by decide +kernel
theorem dX3_closest_1 : decode cX3_closest 1 = .ok (.iload_n 1, 1) := by decide +kernel
theorem dX3_closest_2 : decode cX3_closest 2 = .ok (.invokevirtual 40, 3) := by decide +kernel
theorem dX3_closest_5 : decode cX3_closest 5 = .ok (.invokevirtual 148, 3) := by decide +kernel
theorem dX3_closest_8 : decode cX3_closest 8 = .ok (.ireturn, 1) := by decide +kernel
theorem dX3_mostMistaken_0 : decode cX3_mostMistaken 0 = .ok (.aload_n 0, 1) := by decide +kernel
theorem dX3_mostMistaken_1 : decode cX3_mostMistaken 1 = .ok (.iload_n 1, 1) := by decide +kernel
theorem dX3_mostMistaken_2 : decode cX3_mostMistaken 2 = .ok (.invokevirtual 40, 3) := by decide +kernel
theorem dX3_mostMistaken_5 : decode cX3_mostMistaken 5 = .ok (.invokevirtual 151, 3) := by decide +kernel
theorem dX3_mostMistaken_8 : decode cX3_mostMistaken 8 = .ok (.ireturn, 1) := by decide +kernel
theorem dX3_read_0 : decode cX3_read 0 = .ok (.aload_n 0, 1) := by decide +kernel
theorem dX3_read_1 : decode cX3_read 1 = .ok (.iload_n 3, 1) := by decide +kernel
theorem dX3_read_2 : decode cX3_read 2 = .ok (.invokevirtual 40, 3) := by decide +kernel
theorem dX3_read_5 : decode cX3_read 5 = .ok (.astore 4, 2) := by decide +kernel
theorem dX3_read_7 : decode cX3_read 7 = .ok (.aload 4, 2) := by decide +kernel
theorem dX3_read_9 : decode cX3_read 9 = .ok (.aload_n 0, 1) := by decide +kernel
theorem dX3_read_10 : decode cX3_read 10 = .ok (.iload_n 1, 1) := by decide +kernel
theorem dX3_read_11 : decode cX3_read 11 = .ok (.iload_n 2, 1) := by decide +kernel
theorem dX3_read_12 : decode cX3_read 12 = .ok (.invokevirtual 123, 3) := by decide +kernel
theorem dX3_read_15 : decode cX3_read 15 = .ok (.invokevirtual 154, 3) := by decide +kernel
theorem dX3_read_18 : decode cX3_read 18 = .ok (.ireturn, 1) := by decide +kernel
theorem dX3_readShown_0 : decode cX3_readShown 0 = .ok (.aload_n 0, 1) := by decide +kernel
theorem dX3_readShown_1 : decode cX3_readShown 1 = .ok (.iload 5, 2) := by decide +kernel
theorem dX3_readShown_3 : decode cX3_readShown 3 = .ok (.invokevirtual 40, 3) := by decide +kernel
theorem dX3_readShown_6 : decode cX3_readShown 6 = .ok (.astore 6, 2) := by decide +kernel
theorem dX3_readShown_8 : decode cX3_readShown 8 = .ok (.iload_n 1, 1) := by decide +kernel
theorem dX3_readShown_9 : decode cX3_readShown 9 = .ok (.iload_n 2, 1) := by decide +kernel
theorem dX3_readShown_10 : decode cX3_readShown 10 = .ok (.iload_n 3, 1) := by decide +kernel
theorem dX3_readShown_11 : decode cX3_readShown 11 = .ok (.iload 4, 2) := by decide +kernel
theorem dX3_readShown_13 : decode cX3_readShown 13 = .ok (.invokestatic 44, 3) := by decide +kernel
theorem dX3_readShown_16 : decode cX3_readShown 16 = .ok (.aload 6, 2) := by decide +kernel
theorem dX3_readShown_18 : decode cX3_readShown 18 = .ok (.iload_n 1, 1) := by decide +kernel
theorem dX3_readShown_19 : decode cX3_readShown 19 = .ok (.iload_n 2, 1) := by decide +kernel
theorem dX3_readShown_20 : decode cX3_readShown 20 = .ok (.iload_n 3, 1) := by decide +kernel
theorem dX3_readShown_21 : decode cX3_readShown 21 = .ok (.iload 4, 2) := by decide +kernel
theorem dX3_readShown_23 : decode cX3_readShown 23 = .ok (.invokestatic 63, 3) := by decide +kernel
theorem dX3_readShown_26 : decode cX3_readShown 26 = .ok (.invokevirtual 154, 3) := by decide +kernel
theorem dX3_readShown_29 : decode cX3_readShown 29 = .ok (.ireturn, 1) := by decide +kernel
theorem dX3_understood_0 : decode cX3_understood 0 = .ok (.aload_n 0, 1) := by decide +kernel
theorem dX3_understood_1 : decode cX3_understood 1 = .ok (.iload_n 1, 1) := by decide +kernel
theorem dX3_understood_2 : decode cX3_understood 2 = .ok (.invokevirtual 40, 3) := by decide +kernel
theorem dX3_understood_5 : decode cX3_understood 5 = .ok (.astore_n 3, 1) := by decide +kernel
theorem dX3_understood_6 : decode cX3_understood 6 = .ok (.aload_n 0, 1) := by decide +kernel
theorem dX3_understood_7 : decode cX3_understood 7 = .ok (.iload_n 2, 1) := by decide +kernel
theorem dX3_understood_8 : decode cX3_understood 8 = .ok (.invokevirtual 40, 3) := by decide +kernel
theorem dX3_understood_11 : decode cX3_understood 11 = .ok (.aload_n 3, 1) := by decide +kernel
theorem dX3_understood_12 : decode cX3_understood 12 = .ok (.invokevirtual 157, 3) := by decide +kernel
theorem dX3_understood_15 : decode cX3_understood 15 = .ok (.ireturn, 1) := by decide +kernel
theorem dX3_misread_0 : decode cX3_misread 0 = .ok (.aload_n 0, 1) := by decide +kernel
theorem dX3_misread_1 : decode cX3_misread 1 = .ok (.iload_n 1, 1) := by decide +kernel
theorem dX3_misread_2 : decode cX3_misread 2 = .ok (.invokevirtual 40, 3) := by decide +kernel
theorem dX3_misread_5 : decode cX3_misread 5 = .ok (.astore_n 3, 1) := by decide +kernel
theorem dX3_misread_6 : decode cX3_misread 6 = .ok (.aload_n 0, 1) := by decide +kernel
theorem dX3_misread_7 : decode cX3_misread 7 = .ok (.iload_n 2, 1) := by decide +kernel
theorem dX3_misread_8 : decode cX3_misread 8 = .ok (.invokevirtual 40, 3) := by decide +kernel
theorem dX3_misread_11 : decode cX3_misread 11 = .ok (.aload_n 3, 1) := by decide +kernel
theorem dX3_misread_12 : decode cX3_misread 12 = .ok (.invokevirtual 161, 3) := by decide +kernel
theorem dX3_misread_15 : decode cX3_misread 15 = .ok (.ireturn, 1) := by decide +kernel
theorem dX3_common_0 : decode cX3_common 0 = .ok (.aload_n 0, 1) := by decide +kernel
theorem dX3_common_1 : decode cX3_common 1 = .ok (.iload_n 1, 1) := by decide +kernel
theorem dX3_common_2 : decode cX3_common 2 = .ok (.invokevirtual 40, 3) := by decide +kernel
theorem dX3_common_5 : decode cX3_common 5 = .ok (.astore_n 3, 1) := by decide +kernel
theorem dX3_common_6 : decode cX3_common 6 = .ok (.aload_n 0, 1) := by decide +kernel
theorem dX3_common_7 : decode cX3_common 7 = .ok (.iload_n 2, 1) := by decide +kernel
theorem dX3_common_8 : decode cX3_common 8 = .ok (.invokevirtual 40, 3) := by decide +kernel
theorem dX3_common_11 : decode cX3_common 11 = .ok (.aload_n 3, 1) := by decide +kernel
theorem dX3_common_12 : decode cX3_common 12 = .ok (.invokevirtual 164, 3) := by decide +kernel
theorem dX3_common_15 : decode cX3_common 15 = .ok (.ireturn, 1) := by decide +kernel
theorem dX3_bestThumb_0 : decode cX3_bestThumb 0 = .ok (.aload_n 0, 1) := by decide +kernel
theorem dX3_bestThumb_1 : decode cX3_bestThumb 1 = .ok (.iload_n 1, 1) := by decide +kernel
theorem dX3_bestThumb_2 : decode cX3_bestThumb 2 = .ok (.invokevirtual 40, 3) := by decide +kernel
theorem dX3_bestThumb_5 : decode cX3_bestThumb 5 = .ok (.astore_n 3, 1) := by decide +kernel
theorem dX3_bestThumb_6 : decode cX3_bestThumb 6 = .ok (.aload_n 3, 1) := by decide +kernel
theorem dX3_bestThumb_7 : decode cX3_bestThumb 7 = .ok (.iload_n 2, 1) := by decide +kernel
theorem dX3_bestThumb_8 : decode cX3_bestThumb 8 = .ok (.invokestatic 73, 3) := by decide +kernel
theorem dX3_bestThumb_11 : decode cX3_bestThumb 11 = .ok (.aload_n 3, 1) := by decide +kernel
theorem dX3_bestThumb_12 : decode cX3_bestThumb 12 = .ok (.iload_n 2, 1) := by decide +kernel
theorem dX3_bestThumb_13 : decode cX3_bestThumb 13 = .ok (.invokevirtual 167, 3) := by decide +kernel
theorem dX3_bestThumb_16 : decode cX3_bestThumb 16 = .ok (.ireturn, 1) := by decide +kernel
theorem dX3_bestToBorrow_0 : decode cX3_bestToBorrow 0 = .ok (.aload_n 0, 1) := by decide +kernel
theorem dX3_bestToBorrow_1 : decode cX3_bestToBorrow 1 = .ok (.iload_n 1, 1) := by decide +kernel
theorem dX3_bestToBorrow_2 : decode cX3_bestToBorrow 2 = .ok (.invokevirtual 40, 3) := by decide +kernel
theorem dX3_bestToBorrow_5 : decode cX3_bestToBorrow 5 = .ok (.astore_n 3, 1) := by decide +kernel
theorem dX3_bestToBorrow_6 : decode cX3_bestToBorrow 6 = .ok (.aload_n 0, 1) := by decide +kernel
theorem dX3_bestToBorrow_7 : decode cX3_bestToBorrow 7 = .ok (.iload_n 2, 1) := by decide +kernel
theorem dX3_bestToBorrow_8 : decode cX3_bestToBorrow 8 = .ok (.invokevirtual 40, 3) := by decide +kernel
theorem dX3_bestToBorrow_11 : decode cX3_bestToBorrow 11 = .ok (.astore 4, 2) := by decide +kernel
theorem dX3_bestToBorrow_13 : decode cX3_bestToBorrow 13 = .ok (.iload_n 1, 1) := by decide +kernel
theorem dX3_bestToBorrow_14 : decode cX3_bestToBorrow 14 = .ok (.iload_n 2, 1) := by decide +kernel
theorem dX3_bestToBorrow_15 : decode cX3_bestToBorrow 15 = .ok (.if_icmp .ne 5, 3) := by decide +kernel
theorem dX3_bestToBorrow_18 : decode cX3_bestToBorrow 18 = .ok (.iconst (-1), 1) := by decide +kernel
theorem dX3_bestToBorrow_19 : decode cX3_bestToBorrow 19 = .ok (.ireturn, 1) := by decide +kernel
theorem dX3_bestToBorrow_20 : decode cX3_bestToBorrow 20 = .ok (.iconst (-1), 1) := by decide +kernel
theorem dX3_bestToBorrow_21 : decode cX3_bestToBorrow 21 = .ok (.istore 5, 2) := by decide +kernel
theorem dX3_bestToBorrow_23 : decode cX3_bestToBorrow 23 = .ok (.iconst (-1), 1) := by decide +kernel
theorem dX3_bestToBorrow_24 : decode cX3_bestToBorrow 24 = .ok (.istore 6, 2) := by decide +kernel
theorem dX3_bestToBorrow_26 : decode cX3_bestToBorrow 26 = .ok (.iconst 0, 1) := by decide +kernel
theorem dX3_bestToBorrow_27 : decode cX3_bestToBorrow 27 = .ok (.istore 7, 2) := by decide +kernel
theorem dX3_bestToBorrow_29 : decode cX3_bestToBorrow 29 = .ok (.iload 7, 2) := by decide +kernel
theorem dX3_bestToBorrow_31 : decode cX3_bestToBorrow 31 = .ok (.aload_n 3, 1) := by decide +kernel
theorem dX3_bestToBorrow_32 : decode cX3_bestToBorrow 32 = .ok (.getfield 120, 3) := by decide +kernel
theorem dX3_bestToBorrow_35 : decode cX3_bestToBorrow 35 = .ok (.if_icmp .ge 46, 3) := by decide +kernel
theorem dX3_bestToBorrow_38 : decode cX3_bestToBorrow 38 = .ok (.aload_n 0, 1) := by decide +kernel
theorem dX3_bestToBorrow_39 : decode cX3_bestToBorrow 39 = .ok (.aload_n 3, 1) := by decide +kernel
theorem dX3_bestToBorrow_40 : decode cX3_bestToBorrow 40 = .ok (.iload 7, 2) := by decide +kernel
theorem dX3_bestToBorrow_42 : decode cX3_bestToBorrow 42 = .ok (.aload 4, 2) := by decide +kernel
theorem dX3_bestToBorrow_44 : decode cX3_bestToBorrow 44 = .ok (.invokevirtual 170, 3) := by decide +kernel
theorem dX3_bestToBorrow_47 : decode cX3_bestToBorrow 47 = .ok (.ifCond .eq 28, 3) := by decide +kernel
theorem dX3_bestToBorrow_50 : decode cX3_bestToBorrow 50 = .ok (.aload_n 0, 1) := by decide +kernel
theorem dX3_bestToBorrow_51 : decode cX3_bestToBorrow 51 = .ok (.getfield 25, 3) := by decide +kernel
theorem dX3_bestToBorrow_54 : decode cX3_bestToBorrow 54 = .ok (.aload_n 3, 1) := by decide +kernel
theorem dX3_bestToBorrow_55 : decode cX3_bestToBorrow 55 = .ok (.invokevirtual 157, 3) := by decide +kernel
theorem dX3_bestToBorrow_58 : decode cX3_bestToBorrow 58 = .ok (.istore 8, 2) := by decide +kernel
theorem dX3_bestToBorrow_60 : decode cX3_bestToBorrow 60 = .ok (.iload 8, 2) := by decide +kernel
theorem dX3_bestToBorrow_62 : decode cX3_bestToBorrow 62 = .ok (.iload 6, 2) := by decide +kernel
theorem dX3_bestToBorrow_64 : decode cX3_bestToBorrow 64 = .ok (.if_icmp .le 11, 3) := by decide +kernel
theorem dX3_bestToBorrow_67 : decode cX3_bestToBorrow 67 = .ok (.iload 8, 2) := by decide +kernel
theorem dX3_bestToBorrow_69 : decode cX3_bestToBorrow 69 = .ok (.istore 6, 2) := by decide +kernel
theorem dX3_bestToBorrow_71 : decode cX3_bestToBorrow 71 = .ok (.iload 7, 2) := by decide +kernel
theorem dX3_bestToBorrow_73 : decode cX3_bestToBorrow 73 = .ok (.istore 5, 2) := by decide +kernel
theorem dX3_bestToBorrow_75 : decode cX3_bestToBorrow 75 = .ok (.iinc 7 1, 3) := by decide +kernel
theorem dX3_bestToBorrow_78 : decode cX3_bestToBorrow 78 = .ok (.goto (-49), 3) := by decide +kernel
theorem dX3_bestToBorrow_81 : decode cX3_bestToBorrow 81 = .ok (.iload 5, 2) := by decide +kernel
theorem dX3_bestToBorrow_83 : decode cX3_bestToBorrow 83 = .ok (.ireturn, 1) := by decide +kernel
theorem dX3_alikeIfJoined_0 : decode cX3_alikeIfJoined 0 = .ok (.iload_n 1, 1) := by decide +kernel
theorem dX3_alikeIfJoined_1 : decode cX3_alikeIfJoined 1 = .ok (.invokestatic 93, 3) := by decide +kernel
theorem dX3_alikeIfJoined_4 : decode cX3_alikeIfJoined 4 = .ok (.iload_n 2, 1) := by decide +kernel
theorem dX3_alikeIfJoined_5 : decode cX3_alikeIfJoined 5 = .ok (.invokestatic 93, 3) := by decide +kernel
theorem dX3_alikeIfJoined_8 : decode cX3_alikeIfJoined 8 = .ok (.iconst 0, 1) := by decide +kernel
theorem dX3_alikeIfJoined_9 : decode cX3_alikeIfJoined 9 = .ok (.istore_n 3, 1) := by decide +kernel
theorem dX3_alikeIfJoined_10 : decode cX3_alikeIfJoined 10 = .ok (.iconst 0, 1) := by decide +kernel
theorem dX3_alikeIfJoined_11 : decode cX3_alikeIfJoined 11 = .ok (.istore 4, 2) := by decide +kernel
theorem dX3_alikeIfJoined_13 : decode cX3_alikeIfJoined 13 = .ok (.iload 4, 2) := by decide +kernel
theorem dX3_alikeIfJoined_15 : decode cX3_alikeIfJoined 15 = .ok (.aload_n 0, 1) := by decide +kernel
theorem dX3_alikeIfJoined_16 : decode cX3_alikeIfJoined 16 = .ok (.getfield 29, 3) := by decide +kernel
theorem dX3_alikeIfJoined_19 : decode cX3_alikeIfJoined 19 = .ok (.if_icmp .ge 24, 3) := by decide +kernel
theorem dX3_alikeIfJoined_22 : decode cX3_alikeIfJoined 22 = .ok (.iload_n 3, 1) := by decide +kernel
theorem dX3_alikeIfJoined_23 : decode cX3_alikeIfJoined 23 = .ok (.aload_n 0, 1) := by decide +kernel
theorem dX3_alikeIfJoined_24 : decode cX3_alikeIfJoined 24 = .ok (.getfield 18, 3) := by decide +kernel
theorem dX3_alikeIfJoined_27 : decode cX3_alikeIfJoined 27 = .ok (.iload 4, 2) := by decide +kernel
theorem dX3_alikeIfJoined_29 : decode cX3_alikeIfJoined 29 = .ok (.aaload, 1) := by decide +kernel
theorem dX3_alikeIfJoined_30 : decode cX3_alikeIfJoined 30 = .ok (.iload_n 1, 1) := by decide +kernel
theorem dX3_alikeIfJoined_31 : decode cX3_alikeIfJoined 31 = .ok (.iload_n 2, 1) := by decide +kernel
theorem dX3_alikeIfJoined_32 : decode cX3_alikeIfJoined 32 = .ok (.invokevirtual 174, 3) := by decide +kernel
theorem dX3_alikeIfJoined_35 : decode cX3_alikeIfJoined 35 = .ok (.iadd, 1) := by decide +kernel
theorem dX3_alikeIfJoined_36 : decode cX3_alikeIfJoined 36 = .ok (.istore_n 3, 1) := by decide +kernel
theorem dX3_alikeIfJoined_37 : decode cX3_alikeIfJoined 37 = .ok (.iinc 4 1, 3) := by decide +kernel
theorem dX3_alikeIfJoined_40 : decode cX3_alikeIfJoined 40 = .ok (.goto (-27), 3) := by decide +kernel
theorem dX3_alikeIfJoined_43 : decode cX3_alikeIfJoined 43 = .ok (.iload_n 3, 1) := by decide +kernel
theorem dX3_alikeIfJoined_44 : decode cX3_alikeIfJoined 44 = .ok (.ireturn, 1) := by decide +kernel
theorem dX3_meanSigns_0 : decode cX3_meanSigns 0 = .ok (.aload_n 0, 1) := by decide +kernel
theorem dX3_meanSigns_1 : decode cX3_meanSigns 1 = .ok (.getfield 29, 3) := by decide +kernel
theorem dX3_meanSigns_4 : decode cX3_meanSigns 4 = .ok (.ifCond .ne 5, 3) := by decide +kernel
theorem dX3_meanSigns_7 : decode cX3_meanSigns 7 = .ok (.dconst 0, 1) := by decide +kernel
theorem dX3_meanSigns_8 : decode cX3_meanSigns 8 = .ok (.dreturn, 1) := by decide +kernel
theorem dX3_meanSigns_9 : decode cX3_meanSigns 9 = .ok (.iconst 0, 1) := by decide +kernel
theorem dX3_meanSigns_10 : decode cX3_meanSigns 10 = .ok (.istore_n 1, 1) := by decide +kernel
theorem dX3_meanSigns_11 : decode cX3_meanSigns 11 = .ok (.iconst 0, 1) := by decide +kernel
theorem dX3_meanSigns_12 : decode cX3_meanSigns 12 = .ok (.istore_n 2, 1) := by decide +kernel
theorem dX3_meanSigns_13 : decode cX3_meanSigns 13 = .ok (.iload_n 2, 1) := by decide +kernel
theorem dX3_meanSigns_14 : decode cX3_meanSigns 14 = .ok (.aload_n 0, 1) := by decide +kernel
theorem dX3_meanSigns_15 : decode cX3_meanSigns 15 = .ok (.getfield 29, 3) := by decide +kernel
theorem dX3_meanSigns_18 : decode cX3_meanSigns 18 = .ok (.if_icmp .ge 21, 3) := by decide +kernel
theorem dX3_meanSigns_21 : decode cX3_meanSigns 21 = .ok (.iload_n 1, 1) := by decide +kernel
theorem dX3_meanSigns_22 : decode cX3_meanSigns 22 = .ok (.aload_n 0, 1) := by decide +kernel
theorem dX3_meanSigns_23 : decode cX3_meanSigns 23 = .ok (.getfield 18, 3) := by decide +kernel
theorem dX3_meanSigns_26 : decode cX3_meanSigns 26 = .ok (.iload_n 2, 1) := by decide +kernel
theorem dX3_meanSigns_27 : decode cX3_meanSigns 27 = .ok (.aaload, 1) := by decide +kernel
theorem dX3_meanSigns_28 : decode cX3_meanSigns 28 = .ok (.getfield 120, 3) := by decide +kernel
theorem dX3_meanSigns_31 : decode cX3_meanSigns 31 = .ok (.iadd, 1) := by decide +kernel
theorem dX3_meanSigns_32 : decode cX3_meanSigns 32 = .ok (.istore_n 1, 1) := by decide +kernel
theorem dX3_meanSigns_33 : decode cX3_meanSigns 33 = .ok (.iinc 2 1, 3) := by decide +kernel
theorem dX3_meanSigns_36 : decode cX3_meanSigns 36 = .ok (.goto (-23), 3) := by decide +kernel
theorem dX3_meanSigns_39 : decode cX3_meanSigns 39 = .ok (.iload_n 1, 1) := by decide +kernel
theorem dX3_meanSigns_40 : decode cX3_meanSigns 40 = .ok (.i2d, 1) := by decide +kernel
theorem dX3_meanSigns_41 : decode cX3_meanSigns 41 = .ok (.aload_n 0, 1) := by decide +kernel
theorem dX3_meanSigns_42 : decode cX3_meanSigns 42 = .ok (.getfield 29, 3) := by decide +kernel
theorem dX3_meanSigns_45 : decode cX3_meanSigns 45 = .ok (.i2d, 1) := by decide +kernel
theorem dX3_meanSigns_46 : decode cX3_meanSigns 46 = .ok (.ddiv, 1) := by decide +kernel
theorem dX3_meanSigns_47 : decode cX3_meanSigns 47 = .ok (.dreturn, 1) := by decide +kernel
theorem dX3_digest_0 : decode cX3_digest 0 = .ok (.ldc2_w 177, 3) := by decide +kernel
theorem dX3_digest_3 : decode cX3_digest 3 = .ok (.lstore_n 1, 1) := by decide +kernel
theorem dX3_digest_4 : decode cX3_digest 4 = .ok (.lload_n 1, 1) := by decide +kernel
theorem dX3_digest_5 : decode cX3_digest 5 = .ok (.aload_n 0, 1) := by decide +kernel
theorem dX3_digest_6 : decode cX3_digest 6 = .ok (.getfield 29, 3) := by decide +kernel
theorem dX3_digest_9 : decode cX3_digest 9 = .ok (.i2l, 1) := by decide +kernel
theorem dX3_digest_10 : decode cX3_digest 10 = .ok (.invokestatic 179, 3) := by decide +kernel
theorem dX3_digest_13 : decode cX3_digest 13 = .ok (.lstore_n 1, 1) := by decide +kernel
theorem dX3_digest_14 : decode cX3_digest 14 = .ok (.lload_n 1, 1) := by decide +kernel
theorem dX3_digest_15 : decode cX3_digest 15 = .ok (.aload_n 0, 1) := by decide +kernel
theorem dX3_digest_16 : decode cX3_digest 16 = .ok (.getfield 10, 3) := by decide +kernel
theorem dX3_digest_19 : decode cX3_digest 19 = .ok (.getfield 101, 3) := by decide +kernel
theorem dX3_digest_22 : decode cX3_digest 22 = .ok (.i2l, 1) := by decide +kernel
theorem dX3_digest_23 : decode cX3_digest 23 = .ok (.invokestatic 179, 3) := by decide +kernel
theorem dX3_digest_26 : decode cX3_digest 26 = .ok (.lstore_n 1, 1) := by decide +kernel
theorem dX3_digest_27 : decode cX3_digest 27 = .ok (.iconst 0, 1) := by decide +kernel
theorem dX3_digest_28 : decode cX3_digest 28 = .ok (.istore_n 3, 1) := by decide +kernel
theorem dX3_digest_29 : decode cX3_digest 29 = .ok (.iload_n 3, 1) := by decide +kernel
theorem dX3_digest_30 : decode cX3_digest 30 = .ok (.aload_n 0, 1) := by decide +kernel
theorem dX3_digest_31 : decode cX3_digest 31 = .ok (.getfield 29, 3) := by decide +kernel
theorem dX3_digest_34 : decode cX3_digest 34 = .ok (.if_icmp .ge 106, 3) := by decide +kernel
theorem dX3_digest_37 : decode cX3_digest 37 = .ok (.lload_n 1, 1) := by decide +kernel
theorem dX3_digest_38 : decode cX3_digest 38 = .ok (.aload_n 0, 1) := by decide +kernel
theorem dX3_digest_39 : decode cX3_digest 39 = .ok (.getfield 18, 3) := by decide +kernel
theorem dX3_digest_42 : decode cX3_digest 42 = .ok (.iload_n 3, 1) := by decide +kernel
theorem dX3_digest_43 : decode cX3_digest 43 = .ok (.aaload, 1) := by decide +kernel
theorem dX3_digest_44 : decode cX3_digest 44 = .ok (.invokestatic 183, 3) := by decide +kernel
theorem dX3_digest_47 : decode cX3_digest 47 = .ok (.lstore_n 1, 1) := by decide +kernel
theorem dX3_digest_48 : decode cX3_digest 48 = .ok (.iconst 0, 1) := by decide +kernel
theorem dX3_digest_49 : decode cX3_digest 49 = .ok (.istore 4, 2) := by decide +kernel
theorem dX3_digest_51 : decode cX3_digest 51 = .ok (.iload 4, 2) := by decide +kernel
theorem dX3_digest_53 : decode cX3_digest 53 = .ok (.aload_n 0, 1) := by decide +kernel
theorem dX3_digest_54 : decode cX3_digest 54 = .ok (.getfield 29, 3) := by decide +kernel
theorem dX3_digest_57 : decode cX3_digest 57 = .ok (.if_icmp .ge 66, 3) := by decide +kernel
theorem dX3_digest_60 : decode cX3_digest 60 = .ok (.lload_n 1, 1) := by decide +kernel
theorem dX3_digest_61 : decode cX3_digest 61 = .ok (.aload_n 0, 1) := by decide +kernel
theorem dX3_digest_62 : decode cX3_digest 62 = .ok (.getfield 18, 3) := by decide +kernel
theorem dX3_digest_65 : decode cX3_digest 65 = .ok (.iload 4, 2) := by decide +kernel
theorem dX3_digest_67 : decode cX3_digest 67 = .ok (.aaload, 1) := by decide +kernel
theorem dX3_digest_68 : decode cX3_digest 68 = .ok (.aload_n 0, 1) := by decide +kernel
theorem dX3_digest_69 : decode cX3_digest 69 = .ok (.getfield 18, 3) := by decide +kernel
theorem dX3_digest_72 : decode cX3_digest 72 = .ok (.iload_n 3, 1) := by decide +kernel
theorem dX3_digest_73 : decode cX3_digest 73 = .ok (.aaload, 1) := by decide +kernel
theorem dX3_digest_74 : decode cX3_digest 74 = .ok (.invokevirtual 157, 3) := by decide +kernel
theorem dX3_digest_77 : decode cX3_digest 77 = .ok (.i2l, 1) := by decide +kernel
theorem dX3_digest_78 : decode cX3_digest 78 = .ok (.invokestatic 179, 3) := by decide +kernel
theorem dX3_digest_81 : decode cX3_digest 81 = .ok (.lstore_n 1, 1) := by decide +kernel
theorem dX3_digest_82 : decode cX3_digest 82 = .ok (.lload_n 1, 1) := by decide +kernel
theorem dX3_digest_83 : decode cX3_digest 83 = .ok (.aload_n 0, 1) := by decide +kernel
theorem dX3_digest_84 : decode cX3_digest 84 = .ok (.getfield 18, 3) := by decide +kernel
theorem dX3_digest_87 : decode cX3_digest 87 = .ok (.iload 4, 2) := by decide +kernel
theorem dX3_digest_89 : decode cX3_digest 89 = .ok (.aaload, 1) := by decide +kernel
theorem dX3_digest_90 : decode cX3_digest 90 = .ok (.aload_n 0, 1) := by decide +kernel
theorem dX3_digest_91 : decode cX3_digest 91 = .ok (.getfield 18, 3) := by decide +kernel
theorem dX3_digest_94 : decode cX3_digest 94 = .ok (.iload_n 3, 1) := by decide +kernel
theorem dX3_digest_95 : decode cX3_digest 95 = .ok (.aaload, 1) := by decide +kernel
theorem dX3_digest_96 : decode cX3_digest 96 = .ok (.invokevirtual 161, 3) := by decide +kernel
theorem dX3_digest_99 : decode cX3_digest 99 = .ok (.i2l, 1) := by decide +kernel
theorem dX3_digest_100 : decode cX3_digest 100 = .ok (.invokestatic 179, 3) := by decide +kernel
theorem dX3_digest_103 : decode cX3_digest 103 = .ok (.lstore_n 1, 1) := by decide +kernel
theorem dX3_digest_104 : decode cX3_digest 104 = .ok (.lload_n 1, 1) := by decide +kernel
theorem dX3_digest_105 : decode cX3_digest 105 = .ok (.aload_n 0, 1) := by decide +kernel
theorem dX3_digest_106 : decode cX3_digest 106 = .ok (.iload_n 3, 1) := by decide +kernel
theorem dX3_digest_107 : decode cX3_digest 107 = .ok (.iload 4, 2) := by decide +kernel
theorem dX3_digest_109 : decode cX3_digest 109 = .ok (.invokevirtual 187, 3) := by decide +kernel
theorem dX3_digest_112 : decode cX3_digest 112 = .ok (.i2l, 1) := by decide +kernel
theorem dX3_digest_113 : decode cX3_digest 113 = .ok (.invokestatic 179, 3) := by decide +kernel
theorem dX3_digest_116 : decode cX3_digest 116 = .ok (.lstore_n 1, 1) := by decide +kernel
theorem dX3_digest_117 : decode cX3_digest 117 = .ok (.iinc 4 1, 3) := by decide +kernel
theorem dX3_digest_120 : decode cX3_digest 120 = .ok (.goto (-69), 3) := by decide +kernel
theorem dX3_digest_123 : decode cX3_digest 123 = .ok (.lload_n 1, 1) := by decide +kernel
theorem dX3_digest_124 : decode cX3_digest 124 = .ok (.aload_n 0, 1) := by decide +kernel
theorem dX3_digest_125 : decode cX3_digest 125 = .ok (.getfield 18, 3) := by decide +kernel
theorem dX3_digest_128 : decode cX3_digest 128 = .ok (.iload_n 3, 1) := by decide +kernel
theorem dX3_digest_129 : decode cX3_digest 129 = .ok (.aaload, 1) := by decide +kernel
theorem dX3_digest_130 : decode cX3_digest 130 = .ok (.invokestatic 190, 3) := by decide +kernel
theorem dX3_digest_133 : decode cX3_digest 133 = .ok (.lstore_n 1, 1) := by decide +kernel
theorem dX3_digest_134 : decode cX3_digest 134 = .ok (.iinc 3 1, 3) := by decide +kernel
theorem dX3_digest_137 : decode cX3_digest 137 = .ok (.goto (-108), 3) := by decide +kernel
theorem dX3_digest_140 : decode cX3_digest 140 = .ok (.lload_n 1, 1) := by decide +kernel
theorem dX3_digest_141 : decode cX3_digest 141 = .ok (.lreturn, 1) := by decide +kernel
theorem dX3_mix_0 : decode cX3_mix 0 = .ok (.lload_n 0, 1) := by decide +kernel
theorem dX3_mix_1 : decode cX3_mix 1 = .ok (.ldc2_w 193, 3) := by decide +kernel
theorem dX3_mix_4 : decode cX3_mix 4 = .ok (.lmul, 1) := by decide +kernel
theorem dX3_mix_5 : decode cX3_mix 5 = .ok (.lload_n 2, 1) := by decide +kernel
theorem dX3_mix_6 : decode cX3_mix 6 = .ok (.ladd, 1) := by decide +kernel
theorem dX3_mix_7 : decode cX3_mix 7 = .ok (.lreturn, 1) := by decide +kernel
theorem dX3_mixBook_0 : decode cX3_mixBook 0 = .ok (.lload_n 0, 1) := by decide +kernel
theorem dX3_mixBook_1 : decode cX3_mixBook 1 = .ok (.aload_n 2, 1) := by decide +kernel
theorem dX3_mixBook_2 : decode cX3_mixBook 2 = .ok (.getfield 120, 3) := by decide +kernel
theorem dX3_mixBook_5 : decode cX3_mixBook 5 = .ok (.i2l, 1) := by decide +kernel
theorem dX3_mixBook_6 : decode cX3_mixBook 6 = .ok (.invokestatic 179, 3) := by decide +kernel
theorem dX3_mixBook_9 : decode cX3_mixBook 9 = .ok (.lstore_n 3, 1) := by decide +kernel
theorem dX3_mixBook_10 : decode cX3_mixBook 10 = .ok (.lload_n 3, 1) := by decide +kernel
theorem dX3_mixBook_11 : decode cX3_mixBook 11 = .ok (.aload_n 2, 1) := by decide +kernel
theorem dX3_mixBook_12 : decode cX3_mixBook 12 = .ok (.invokevirtual 141, 3) := by decide +kernel
theorem dX3_mixBook_15 : decode cX3_mixBook 15 = .ok (.i2l, 1) := by decide +kernel
theorem dX3_mixBook_16 : decode cX3_mixBook 16 = .ok (.invokestatic 179, 3) := by decide +kernel
theorem dX3_mixBook_19 : decode cX3_mixBook 19 = .ok (.lstore_n 3, 1) := by decide +kernel
theorem dX3_mixBook_20 : decode cX3_mixBook 20 = .ok (.lload_n 3, 1) := by decide +kernel
theorem dX3_mixBook_21 : decode cX3_mixBook 21 = .ok (.aload_n 2, 1) := by decide +kernel
theorem dX3_mixBook_22 : decode cX3_mixBook 22 = .ok (.invokevirtual 145, 3) := by decide +kernel
theorem dX3_mixBook_25 : decode cX3_mixBook 25 = .ok (.i2l, 1) := by decide +kernel
theorem dX3_mixBook_26 : decode cX3_mixBook 26 = .ok (.invokestatic 179, 3) := by decide +kernel
theorem dX3_mixBook_29 : decode cX3_mixBook 29 = .ok (.lstore_n 3, 1) := by decide +kernel
theorem dX3_mixBook_30 : decode cX3_mixBook 30 = .ok (.lload_n 3, 1) := by decide +kernel
theorem dX3_mixBook_31 : decode cX3_mixBook 31 = .ok (.aload_n 2, 1) := by decide +kernel
theorem dX3_mixBook_32 : decode cX3_mixBook 32 = .ok (.invokevirtual 148, 3) := by decide +kernel
theorem dX3_mixBook_35 : decode cX3_mixBook 35 = .ok (.i2l, 1) := by decide +kernel
theorem dX3_mixBook_36 : decode cX3_mixBook 36 = .ok (.invokestatic 179, 3) := by decide +kernel
theorem dX3_mixBook_39 : decode cX3_mixBook 39 = .ok (.lstore_n 3, 1) := by decide +kernel
theorem dX3_mixBook_40 : decode cX3_mixBook 40 = .ok (.lload_n 3, 1) := by decide +kernel
theorem dX3_mixBook_41 : decode cX3_mixBook 41 = .ok (.aload_n 2, 1) := by decide +kernel
theorem dX3_mixBook_42 : decode cX3_mixBook 42 = .ok (.invokevirtual 151, 3) := by decide +kernel
theorem dX3_mixBook_45 : decode cX3_mixBook 45 = .ok (.i2l, 1) := by decide +kernel
theorem dX3_mixBook_46 : decode cX3_mixBook 46 = .ok (.invokestatic 179, 3) := by decide +kernel
theorem dX3_mixBook_49 : decode cX3_mixBook 49 = .ok (.lreturn, 1) := by decide +kernel
theorem dX3_mixSigns_0 : decode cX3_mixSigns 0 = .ok (.lload_n 0, 1) := by decide +kernel
theorem dX3_mixSigns_1 : decode cX3_mixSigns 1 = .ok (.lstore_n 3, 1) := by decide +kernel
theorem dX3_mixSigns_2 : decode cX3_mixSigns 2 = .ok (.iconst 0, 1) := by decide +kernel
theorem dX3_mixSigns_3 : decode cX3_mixSigns 3 = .ok (.istore 5, 2) := by decide +kernel
theorem dX3_mixSigns_5 : decode cX3_mixSigns 5 = .ok (.iload 5, 2) := by decide +kernel
theorem dX3_mixSigns_7 : decode cX3_mixSigns 7 = .ok (.aload_n 2, 1) := by decide +kernel
theorem dX3_mixSigns_8 : decode cX3_mixSigns 8 = .ok (.getfield 120, 3) := by decide +kernel
theorem dX3_mixSigns_11 : decode cX3_mixSigns 11 = .ok (.if_icmp .ge 76, 3) := by decide +kernel
theorem dX3_mixSigns_14 : decode cX3_mixSigns 14 = .ok (.aload_n 2, 1) := by decide +kernel
theorem dX3_mixSigns_15 : decode cX3_mixSigns 15 = .ok (.getfield 83, 3) := by decide +kernel
theorem dX3_mixSigns_18 : decode cX3_mixSigns 18 = .ok (.iload 5, 2) := by decide +kernel
theorem dX3_mixSigns_20 : decode cX3_mixSigns 20 = .ok (.iaload, 1) := by decide +kernel
theorem dX3_mixSigns_21 : decode cX3_mixSigns 21 = .ok (.istore 6, 2) := by decide +kernel
theorem dX3_mixSigns_23 : decode cX3_mixSigns 23 = .ok (.lload_n 3, 1) := by decide +kernel
theorem dX3_mixSigns_24 : decode cX3_mixSigns 24 = .ok (.iload 6, 2) := by decide +kernel
theorem dX3_mixSigns_26 : decode cX3_mixSigns 26 = .ok (.invokestatic 126, 3) := by decide +kernel
theorem dX3_mixSigns_29 : decode cX3_mixSigns 29 = .ok (.i2l, 1) := by decide +kernel
theorem dX3_mixSigns_30 : decode cX3_mixSigns 30 = .ok (.invokestatic 179, 3) := by decide +kernel
theorem dX3_mixSigns_33 : decode cX3_mixSigns 33 = .ok (.lstore_n 3, 1) := by decide +kernel
theorem dX3_mixSigns_34 : decode cX3_mixSigns 34 = .ok (.lload_n 3, 1) := by decide +kernel
theorem dX3_mixSigns_35 : decode cX3_mixSigns 35 = .ok (.iload 6, 2) := by decide +kernel
theorem dX3_mixSigns_37 : decode cX3_mixSigns 37 = .ok (.invokestatic 87, 3) := by decide +kernel
theorem dX3_mixSigns_40 : decode cX3_mixSigns 40 = .ok (.i2l, 1) := by decide +kernel
theorem dX3_mixSigns_41 : decode cX3_mixSigns 41 = .ok (.invokestatic 179, 3) := by decide +kernel
theorem dX3_mixSigns_44 : decode cX3_mixSigns 44 = .ok (.lstore_n 3, 1) := by decide +kernel
theorem dX3_mixSigns_45 : decode cX3_mixSigns 45 = .ok (.lload_n 3, 1) := by decide +kernel
theorem dX3_mixSigns_46 : decode cX3_mixSigns 46 = .ok (.iload 6, 2) := by decide +kernel
theorem dX3_mixSigns_48 : decode cX3_mixSigns 48 = .ok (.invokestatic 129, 3) := by decide +kernel
theorem dX3_mixSigns_51 : decode cX3_mixSigns 51 = .ok (.i2l, 1) := by decide +kernel
theorem dX3_mixSigns_52 : decode cX3_mixSigns 52 = .ok (.invokestatic 179, 3) := by decide +kernel
theorem dX3_mixSigns_55 : decode cX3_mixSigns 55 = .ok (.lstore_n 3, 1) := by decide +kernel
theorem dX3_mixSigns_56 : decode cX3_mixSigns 56 = .ok (.lload_n 3, 1) := by decide +kernel
theorem dX3_mixSigns_57 : decode cX3_mixSigns 57 = .ok (.aload_n 2, 1) := by decide +kernel
theorem dX3_mixSigns_58 : decode cX3_mixSigns 58 = .ok (.getfield 106, 3) := by decide +kernel
theorem dX3_mixSigns_61 : decode cX3_mixSigns 61 = .ok (.iload 5, 2) := by decide +kernel
theorem dX3_mixSigns_63 : decode cX3_mixSigns 63 = .ok (.iaload, 1) := by decide +kernel
theorem dX3_mixSigns_64 : decode cX3_mixSigns 64 = .ok (.i2l, 1) := by decide +kernel
theorem dX3_mixSigns_65 : decode cX3_mixSigns 65 = .ok (.invokestatic 179, 3) := by decide +kernel
theorem dX3_mixSigns_68 : decode cX3_mixSigns 68 = .ok (.lstore_n 3, 1) := by decide +kernel
theorem dX3_mixSigns_69 : decode cX3_mixSigns 69 = .ok (.lload_n 3, 1) := by decide +kernel
theorem dX3_mixSigns_70 : decode cX3_mixSigns 70 = .ok (.aload_n 2, 1) := by decide +kernel
theorem dX3_mixSigns_71 : decode cX3_mixSigns 71 = .ok (.iload 5, 2) := by decide +kernel
theorem dX3_mixSigns_73 : decode cX3_mixSigns 73 = .ok (.invokevirtual 167, 3) := by decide +kernel
theorem dX3_mixSigns_76 : decode cX3_mixSigns 76 = .ok (.i2l, 1) := by decide +kernel
theorem dX3_mixSigns_77 : decode cX3_mixSigns 77 = .ok (.invokestatic 179, 3) := by decide +kernel
theorem dX3_mixSigns_80 : decode cX3_mixSigns 80 = .ok (.lstore_n 3, 1) := by decide +kernel
theorem dX3_mixSigns_81 : decode cX3_mixSigns 81 = .ok (.iinc 5 1, 3) := by decide +kernel
theorem dX3_mixSigns_84 : decode cX3_mixSigns 84 = .ok (.goto (-79), 3) := by decide +kernel
theorem dX3_mixSigns_87 : decode cX3_mixSigns 87 = .ok (.lload_n 3, 1) := by decide +kernel
theorem dX3_mixSigns_88 : decode cX3_mixSigns 88 = .ok (.lreturn, 1) := by decide +kernel
theorem dX3_tryLoan_0 : decode cX3_tryLoan 0 = .ok (.aload_n 1, 1) := by decide +kernel
theorem dX3_tryLoan_1 : decode cX3_tryLoan 1 = .ok (.getfield 106, 3) := by decide +kernel
theorem dX3_tryLoan_4 : decode cX3_tryLoan 4 = .ok (.iload_n 2, 1) := by decide +kernel
theorem dX3_tryLoan_5 : decode cX3_tryLoan 5 = .ok (.iaload, 1) := by decide +kernel
theorem dX3_tryLoan_6 : decode cX3_tryLoan 6 = .ok (.istore 4, 2) := by decide +kernel
theorem dX3_tryLoan_8 : decode cX3_tryLoan 8 = .ok (.aload_n 3, 1) := by decide +kernel
theorem dX3_tryLoan_9 : decode cX3_tryLoan 9 = .ok (.iload 4, 2) := by decide +kernel
theorem dX3_tryLoan_11 : decode cX3_tryLoan 11 = .ok (.invokevirtual 57, 3) := by decide +kernel
theorem dX3_tryLoan_14 : decode cX3_tryLoan 14 = .ok (.ifCond .ne 5, 3) := by decide +kernel
theorem dX3_tryLoan_17 : decode cX3_tryLoan 17 = .ok (.iconst 0, 1) := by decide +kernel
theorem dX3_tryLoan_18 : decode cX3_tryLoan 18 = .ok (.ireturn, 1) := by decide +kernel
theorem dX3_tryLoan_19 : decode cX3_tryLoan 19 = .ok (.aload_n 3, 1) := by decide +kernel
theorem dX3_tryLoan_20 : decode cX3_tryLoan 20 = .ok (.aload_n 1, 1) := by decide +kernel
theorem dX3_tryLoan_21 : decode cX3_tryLoan 21 = .ok (.getfield 83, 3) := by decide +kernel
theorem dX3_tryLoan_24 : decode cX3_tryLoan 24 = .ok (.iload_n 2, 1) := by decide +kernel
theorem dX3_tryLoan_25 : decode cX3_tryLoan 25 = .ok (.iaload, 1) := by decide +kernel
theorem dX3_tryLoan_26 : decode cX3_tryLoan 26 = .ok (.invokevirtual 109, 3) := by decide +kernel
theorem dX3_tryLoan_29 : decode cX3_tryLoan 29 = .ok (.istore 5, 2) := by decide +kernel
theorem dX3_tryLoan_31 : decode cX3_tryLoan 31 = .ok (.iload 5, 2) := by decide +kernel
theorem dX3_tryLoan_33 : decode cX3_tryLoan 33 = .ok (.iconst (-1), 1) := by decide +kernel
theorem dX3_tryLoan_34 : decode cX3_tryLoan 34 = .ok (.if_icmp .ne 5, 3) := by decide +kernel
theorem dX3_tryLoan_37 : decode cX3_tryLoan 37 = .ok (.iconst 0, 1) := by decide +kernel
theorem dX3_tryLoan_38 : decode cX3_tryLoan 38 = .ok (.ireturn, 1) := by decide +kernel
theorem dX3_tryLoan_39 : decode cX3_tryLoan 39 = .ok (.aload_n 0, 1) := by decide +kernel
theorem dX3_tryLoan_40 : decode cX3_tryLoan 40 = .ok (.getfield 25, 3) := by decide +kernel
theorem dX3_tryLoan_43 : decode cX3_tryLoan 43 = .ok (.aload_n 3, 1) := by decide +kernel
theorem dX3_tryLoan_44 : decode cX3_tryLoan 44 = .ok (.invokevirtual 195, 3) := by decide +kernel
theorem dX3_tryLoan_47 : decode cX3_tryLoan 47 = .ok (.aload_n 0, 1) := by decide +kernel
theorem dX3_tryLoan_48 : decode cX3_tryLoan 48 = .ok (.getfield 25, 3) := by decide +kernel
theorem dX3_tryLoan_51 : decode cX3_tryLoan 51 = .ok (.iload 5, 2) := by decide +kernel
theorem dX3_tryLoan_53 : decode cX3_tryLoan 53 = .ok (.iload 4, 2) := by decide +kernel
theorem dX3_tryLoan_55 : decode cX3_tryLoan 55 = .ok (.invokevirtual 69, 3) := by decide +kernel
theorem dX3_tryLoan_58 : decode cX3_tryLoan 58 = .ok (.pop, 1) := by decide +kernel
theorem dX3_tryLoan_59 : decode cX3_tryLoan 59 = .ok (.iconst 1, 1) := by decide +kernel
theorem dX3_tryLoan_60 : decode cX3_tryLoan 60 = .ok (.ireturn, 1) := by decide +kernel
theorem dX3_isBelow_0 : decode cX3_isBelow 0 = .ok (.iload_n 0, 1) := by decide +kernel
theorem dX3_isBelow_1 : decode cX3_isBelow 1 = .ok (.ifCond .lt 12, 3) := by decide +kernel
theorem dX3_isBelow_4 : decode cX3_isBelow 4 = .ok (.iload_n 0, 1) := by decide +kernel
theorem dX3_isBelow_5 : decode cX3_isBelow 5 = .ok (.iload_n 1, 1) := by decide +kernel
theorem dX3_isBelow_6 : decode cX3_isBelow 6 = .ok (.if_icmp .ge 7, 3) := by decide +kernel
theorem dX3_isBelow_9 : decode cX3_isBelow 9 = .ok (.iconst 1, 1) := by decide +kernel
theorem dX3_isBelow_10 : decode cX3_isBelow 10 = .ok (.goto 4, 3) := by decide +kernel
theorem dX3_isBelow_13 : decode cX3_isBelow 13 = .ok (.iconst 0, 1) := by decide +kernel
theorem dX3_isBelow_14 : decode cX3_isBelow 14 = .ok (.ireturn, 1) := by decide +kernel
theorem dX3_bookOf_0 : decode cX3_bookOf 0 = .ok (.iload_n 1, 1) := by decide +kernel
theorem dX3_bookOf_1 : decode cX3_bookOf 1 = .ok (.aload_n 0, 1) := by decide +kernel
theorem dX3_bookOf_2 : decode cX3_bookOf 2 = .ok (.getfield 29, 3) := by decide +kernel
theorem dX3_bookOf_5 : decode cX3_bookOf 5 = .ok (.invokestatic 48, 3) := by decide +kernel
theorem dX3_bookOf_8 : decode cX3_bookOf 8 = .ok (.ifCond .ne 13, 3) := by decide +kernel
theorem dX3_bookOf_11 : decode cX3_bookOf 11 = .ok (.new 132, 3) := by decide +kernel
theorem dX3_bookOf_14 : decode cX3_bookOf 14 = .ok (.dup, 1) := by decide +kernel
theorem dX3_bookOf_15 : decode cX3_bookOf 15 = .ok (.ldc 199, 2) := by decide +kernel
theorem dX3_bookOf_17 : decode cX3_bookOf 17 = .ok (.invokespecial 134, 3) := by decide +kernel
theorem dX3_bookOf_20 : decode cX3_bookOf 20 = .ok (.athrow, 1) := by decide +kernel
theorem dX3_bookOf_21 : decode cX3_bookOf 21 = .ok (.aload_n 0, 1) := by decide +kernel
theorem dX3_bookOf_22 : decode cX3_bookOf 22 = .ok (.getfield 18, 3) := by decide +kernel
theorem dX3_bookOf_25 : decode cX3_bookOf 25 = .ok (.iload_n 1, 1) := by decide +kernel
theorem dX3_bookOf_26 : decode cX3_bookOf 26 = .ok (.aaload, 1) := by decide +kernel
theorem dX3_bookOf_27 : decode cX3_bookOf 27 = .ok (.areturn, 1) := by decide +kernel
theorem dX3_lookOf_0 : decode cX3_lookOf 0 = .ok (.aload_n 0, 1) := by decide +kernel
theorem dX3_lookOf_1 : decode cX3_lookOf 1 = .ok (.iload_n 1, 1) := by decide +kernel
theorem dX3_lookOf_2 : decode cX3_lookOf 2 = .ok (.invokevirtual 40, 3) := by decide +kernel
theorem dX3_lookOf_5 : decode cX3_lookOf 5 = .ok (.astore_n 3, 1) := by decide +kernel
theorem dX3_lookOf_6 : decode cX3_lookOf 6 = .ok (.aload_n 3, 1) := by decide +kernel
theorem dX3_lookOf_7 : decode cX3_lookOf 7 = .ok (.iload_n 2, 1) := by decide +kernel
theorem dX3_lookOf_8 : decode cX3_lookOf 8 = .ok (.invokestatic 73, 3) := by decide +kernel
theorem dX3_lookOf_11 : decode cX3_lookOf 11 = .ok (.aload_n 3, 1) := by decide +kernel
theorem dX3_lookOf_12 : decode cX3_lookOf 12 = .ok (.getfield 83, 3) := by decide +kernel
theorem dX3_lookOf_15 : decode cX3_lookOf 15 = .ok (.iload_n 2, 1) := by decide +kernel
theorem dX3_lookOf_16 : decode cX3_lookOf 16 = .ok (.iaload, 1) := by decide +kernel
theorem dX3_lookOf_17 : decode cX3_lookOf 17 = .ok (.ireturn, 1) := by decide +kernel
theorem dX3_checkSign_0 : decode cX3_checkSign 0 = .ok (.iload_n 1, 1) := by decide +kernel
theorem dX3_checkSign_1 : decode cX3_checkSign 1 = .ok (.aload_n 0, 1) := by decide +kernel
theorem dX3_checkSign_2 : decode cX3_checkSign 2 = .ok (.getfield 120, 3) := by decide +kernel
theorem dX3_checkSign_5 : decode cX3_checkSign 5 = .ok (.invokestatic 48, 3) := by decide +kernel
theorem dX3_checkSign_8 : decode cX3_checkSign 8 = .ok (.ifCond .ne 13, 3) := by decide +kernel
theorem dX3_checkSign_11 : decode cX3_checkSign 11 = .ok (.new 132, 3) := by decide +kernel
theorem dX3_checkSign_14 : decode cX3_checkSign 14 = .ok (.dup, 1) := by decide +kernel
theorem dX3_checkSign_15 : decode cX3_checkSign 15 = .ok (.ldc 201, 2) := by decide +kernel
theorem dX3_checkSign_17 : decode cX3_checkSign 17 = .ok (.invokespecial 134, 3) := by decide +kernel
theorem dX3_checkSign_20 : decode cX3_checkSign 20 = .ok (.athrow, 1) := by decide +kernel
theorem dX3_checkSign_21 : decode cX3_checkSign 21 = .ok (.return_, 1) := by decide +kernel
theorem dX3_checkPlace_0 : decode cX3_checkPlace 0 = .ok (.iload_n 0, 1) := by decide +kernel
theorem dX3_checkPlace_1 : decode cX3_checkPlace 1 = .ok (.bipush 9, 2) := by decide +kernel
theorem dX3_checkPlace_3 : decode cX3_checkPlace 3 = .ok (.invokestatic 48, 3) := by decide +kernel
theorem dX3_checkPlace_6 : decode cX3_checkPlace 6 = .ok (.ifCond .ne 13, 3) := by decide +kernel
theorem dX3_checkPlace_9 : decode cX3_checkPlace 9 = .ok (.new 132, 3) := by decide +kernel
theorem dX3_checkPlace_12 : decode cX3_checkPlace 12 = .ok (.dup, 1) := by decide +kernel
theorem dX3_checkPlace_13 : decode cX3_checkPlace 13 = .ok (.ldc 203, 2) := by decide +kernel
theorem dX3_checkPlace_15 : decode cX3_checkPlace 15 = .ok (.invokespecial 134, 3) := by decide +kernel
theorem dX3_checkPlace_18 : decode cX3_checkPlace 18 = .ok (.athrow, 1) := by decide +kernel
theorem dX3_checkPlace_19 : decode cX3_checkPlace 19 = .ok (.return_, 1) := by decide +kernel
theorem dX3_checkLook_0 : decode cX3_checkLook 0 = .ok (.iload_n 0, 1) := by decide +kernel
theorem dX3_checkLook_1 : decode cX3_checkLook 1 = .ok (.bipush 16, 2) := by decide +kernel
theorem dX3_checkLook_3 : decode cX3_checkLook 3 = .ok (.invokestatic 48, 3) := by decide +kernel
theorem dX3_checkLook_6 : decode cX3_checkLook 6 = .ok (.ifCond .ne 13, 3) := by decide +kernel
theorem dX3_checkLook_9 : decode cX3_checkLook 9 = .ok (.new 52, 3) := by decide +kernel
theorem dX3_checkLook_12 : decode cX3_checkLook 12 = .ok (.dup, 1) := by decide +kernel
theorem dX3_checkLook_13 : decode cX3_checkLook 13 = .ok (.ldc 205, 2) := by decide +kernel
theorem dX3_checkLook_15 : decode cX3_checkLook 15 = .ok (.invokespecial 56, 3) := by decide +kernel
theorem dX3_checkLook_18 : decode cX3_checkLook 18 = .ok (.athrow, 1) := by decide +kernel
theorem dX3_checkLook_19 : decode cX3_checkLook 19 = .ok (.iload_n 1, 1) := by decide +kernel
theorem dX3_checkLook_20 : decode cX3_checkLook 20 = .ok (.iconst 4, 1) := by decide +kernel
theorem dX3_checkLook_21 : decode cX3_checkLook 21 = .ok (.invokestatic 48, 3) := by decide +kernel
theorem dX3_checkLook_24 : decode cX3_checkLook 24 = .ok (.ifCond .ne 13, 3) := by decide +kernel
theorem dX3_checkLook_27 : decode cX3_checkLook 27 = .ok (.new 52, 3) := by decide +kernel
theorem dX3_checkLook_30 : decode cX3_checkLook 30 = .ok (.dup, 1) := by decide +kernel
theorem dX3_checkLook_31 : decode cX3_checkLook 31 = .ok (.ldc 81, 2) := by decide +kernel
theorem dX3_checkLook_33 : decode cX3_checkLook 33 = .ok (.invokespecial 56, 3) := by decide +kernel
theorem dX3_checkLook_36 : decode cX3_checkLook 36 = .ok (.athrow, 1) := by decide +kernel
theorem dX3_checkLook_37 : decode cX3_checkLook 37 = .ok (.iload_n 2, 1) := by decide +kernel
theorem dX3_checkLook_38 : decode cX3_checkLook 38 = .ok (.bipush 9, 2) := by decide +kernel
theorem dX3_checkLook_40 : decode cX3_checkLook 40 = .ok (.invokestatic 48, 3) := by decide +kernel
theorem dX3_checkLook_43 : decode cX3_checkLook 43 = .ok (.ifCond .ne 13, 3) := by decide +kernel
theorem dX3_checkLook_46 : decode cX3_checkLook 46 = .ok (.new 52, 3) := by decide +kernel
theorem dX3_checkLook_49 : decode cX3_checkLook 49 = .ok (.dup, 1) := by decide +kernel
theorem dX3_checkLook_50 : decode cX3_checkLook 50 = .ok (.ldc 203, 2) := by decide +kernel
theorem dX3_checkLook_52 : decode cX3_checkLook 52 = .ok (.invokespecial 56, 3) := by decide +kernel
theorem dX3_checkLook_55 : decode cX3_checkLook 55 = .ok (.athrow, 1) := by decide +kernel
theorem dX3_checkLook_56 : decode cX3_checkLook 56 = .ok (.iload_n 3, 1) := by decide +kernel
theorem dX3_checkLook_57 : decode cX3_checkLook 57 = .ok (.iconst 4, 1) := by decide +kernel
theorem dX3_checkLook_58 : decode cX3_checkLook 58 = .ok (.invokestatic 48, 3) := by decide +kernel
theorem dX3_checkLook_61 : decode cX3_checkLook 61 = .ok (.ifCond .ne 13, 3) := by decide +kernel
theorem dX3_checkLook_64 : decode cX3_checkLook 64 = .ok (.new 52, 3) := by decide +kernel
theorem dX3_checkLook_67 : decode cX3_checkLook 67 = .ok (.dup, 1) := by decide +kernel
theorem dX3_checkLook_68 : decode cX3_checkLook 68 = .ok (.ldc 207, 2) := by decide +kernel
theorem dX3_checkLook_70 : decode cX3_checkLook 70 = .ok (.invokespecial 56, 3) := by decide +kernel
theorem dX3_checkLook_73 : decode cX3_checkLook 73 = .ok (.athrow, 1) := by decide +kernel
theorem dX3_checkLook_74 : decode cX3_checkLook 74 = .ok (.return_, 1) := by decide +kernel
theorem dJ6_bitCount_0f7a4_0 : decode cJ6_bitCount_0f7a4 0 = .ok (.iload_n 0, 1) := by decide +kernel
theorem dJ6_bitCount_0f7a4_1 : decode cJ6_bitCount_0f7a4 1 = .ok (.iload_n 0, 1) := by decide +kernel
theorem dJ6_bitCount_0f7a4_2 : decode cJ6_bitCount_0f7a4 2 = .ok (.iconst 1, 1) := by decide +kernel
theorem dJ6_bitCount_0f7a4_3 : decode cJ6_bitCount_0f7a4 3 = .ok (.iushr, 1) := by decide +kernel
theorem dJ6_bitCount_0f7a4_4 : decode cJ6_bitCount_0f7a4 4 = .ok (.ldc_w 265, 3) := by decide +kernel
theorem dJ6_bitCount_0f7a4_7 : decode cJ6_bitCount_0f7a4 7 = .ok (.iand, 1) := by decide +kernel
theorem dJ6_bitCount_0f7a4_8 : decode cJ6_bitCount_0f7a4 8 = .ok (.isub, 1) := by decide +kernel
theorem dJ6_bitCount_0f7a4_9 : decode cJ6_bitCount_0f7a4 9 = .ok (.istore_n 0, 1) := by decide +kernel
theorem dJ6_bitCount_0f7a4_10 : decode cJ6_bitCount_0f7a4 10 = .ok (.iload_n 0, 1) := by decide +kernel
theorem dJ6_bitCount_0f7a4_11 : decode cJ6_bitCount_0f7a4 11 = .ok (.ldc_w 266, 3) := by decide +kernel
theorem dJ6_bitCount_0f7a4_14 : decode cJ6_bitCount_0f7a4 14 = .ok (.iand, 1) := by decide +kernel
theorem dJ6_bitCount_0f7a4_15 : decode cJ6_bitCount_0f7a4 15 = .ok (.iload_n 0, 1) := by decide +kernel
theorem dJ6_bitCount_0f7a4_16 : decode cJ6_bitCount_0f7a4 16 = .ok (.iconst 2, 1) := by decide +kernel
theorem dJ6_bitCount_0f7a4_17 : decode cJ6_bitCount_0f7a4 17 = .ok (.iushr, 1) := by decide +kernel
theorem dJ6_bitCount_0f7a4_18 : decode cJ6_bitCount_0f7a4 18 = .ok (.ldc_w 266, 3) := by decide +kernel
theorem dJ6_bitCount_0f7a4_21 : decode cJ6_bitCount_0f7a4 21 = .ok (.iand, 1) := by decide +kernel
theorem dJ6_bitCount_0f7a4_22 : decode cJ6_bitCount_0f7a4 22 = .ok (.iadd, 1) := by decide +kernel
theorem dJ6_bitCount_0f7a4_23 : decode cJ6_bitCount_0f7a4 23 = .ok (.istore_n 0, 1) := by decide +kernel
theorem dJ6_bitCount_0f7a4_24 : decode cJ6_bitCount_0f7a4 24 = .ok (.iload_n 0, 1) := by decide +kernel
theorem dJ6_bitCount_0f7a4_25 : decode cJ6_bitCount_0f7a4 25 = .ok (.iload_n 0, 1) := by decide +kernel
theorem dJ6_bitCount_0f7a4_26 : decode cJ6_bitCount_0f7a4 26 = .ok (.iconst 4, 1) := by decide +kernel
theorem dJ6_bitCount_0f7a4_27 : decode cJ6_bitCount_0f7a4 27 = .ok (.iushr, 1) := by decide +kernel
theorem dJ6_bitCount_0f7a4_28 : decode cJ6_bitCount_0f7a4 28 = .ok (.iadd, 1) := by decide +kernel
theorem dJ6_bitCount_0f7a4_29 : decode cJ6_bitCount_0f7a4 29 = .ok (.ldc_w 267, 3) := by decide +kernel
theorem dJ6_bitCount_0f7a4_32 : decode cJ6_bitCount_0f7a4 32 = .ok (.iand, 1) := by decide +kernel
theorem dJ6_bitCount_0f7a4_33 : decode cJ6_bitCount_0f7a4 33 = .ok (.istore_n 0, 1) := by decide +kernel
theorem dJ6_bitCount_0f7a4_34 : decode cJ6_bitCount_0f7a4 34 = .ok (.iload_n 0, 1) := by decide +kernel
theorem dJ6_bitCount_0f7a4_35 : decode cJ6_bitCount_0f7a4 35 = .ok (.iload_n 0, 1) := by decide +kernel
theorem dJ6_bitCount_0f7a4_36 : decode cJ6_bitCount_0f7a4 36 = .ok (.bipush 8, 2) := by decide +kernel
theorem dJ6_bitCount_0f7a4_38 : decode cJ6_bitCount_0f7a4 38 = .ok (.iushr, 1) := by decide +kernel
theorem dJ6_bitCount_0f7a4_39 : decode cJ6_bitCount_0f7a4 39 = .ok (.iadd, 1) := by decide +kernel
theorem dJ6_bitCount_0f7a4_40 : decode cJ6_bitCount_0f7a4 40 = .ok (.istore_n 0, 1) := by decide +kernel
theorem dJ6_bitCount_0f7a4_41 : decode cJ6_bitCount_0f7a4 41 = .ok (.iload_n 0, 1) := by decide +kernel
theorem dJ6_bitCount_0f7a4_42 : decode cJ6_bitCount_0f7a4 42 = .ok (.iload_n 0, 1) := by decide +kernel
theorem dJ6_bitCount_0f7a4_43 : decode cJ6_bitCount_0f7a4 43 = .ok (.bipush 16, 2) := by decide +kernel
theorem dJ6_bitCount_0f7a4_45 : decode cJ6_bitCount_0f7a4 45 = .ok (.iushr, 1) := by decide +kernel
theorem dJ6_bitCount_0f7a4_46 : decode cJ6_bitCount_0f7a4 46 = .ok (.iadd, 1) := by decide +kernel
theorem dJ6_bitCount_0f7a4_47 : decode cJ6_bitCount_0f7a4 47 = .ok (.istore_n 0, 1) := by decide +kernel
theorem dJ6_bitCount_0f7a4_48 : decode cJ6_bitCount_0f7a4 48 = .ok (.iload_n 0, 1) := by decide +kernel
theorem dJ6_bitCount_0f7a4_49 : decode cJ6_bitCount_0f7a4 49 = .ok (.bipush 63, 2) := by decide +kernel
theorem dJ6_bitCount_0f7a4_51 : decode cJ6_bitCount_0f7a4 51 = .ok (.iand, 1) := by decide +kernel
theorem dJ6_bitCount_0f7a4_52 : decode cJ6_bitCount_0f7a4 52 = .ok (.ireturn, 1) := by decide +kernel
theorem dJ9_abs_0f7a4_0 : decode cJ9_abs_0f7a4 0 = .ok (.iload_n 0, 1) := by decide +kernel
theorem dJ9_abs_0f7a4_1 : decode cJ9_abs_0f7a4 1 = .ok (.ifCond .ge 8, 3) := by decide +kernel
theorem dJ9_abs_0f7a4_4 : decode cJ9_abs_0f7a4 4 = .ok (.iload_n 0, 1) := by decide +kernel
theorem dJ9_abs_0f7a4_5 : decode cJ9_abs_0f7a4 5 = .ok (.ineg, 1) := by decide +kernel
theorem dJ9_abs_0f7a4_6 : decode cJ9_abs_0f7a4 6 = .ok (.goto 4, 3) := by decide +kernel
theorem dJ9_abs_0f7a4_9 : decode cJ9_abs_0f7a4 9 = .ok (.iload_n 0, 1) := by decide +kernel
theorem dJ9_abs_0f7a4_10 : decode cJ9_abs_0f7a4 10 = .ok (.ireturn, 1) := by decide +kernel
theorem dJ9_max_7cf53_0 : decode cJ9_max_7cf53 0 = .ok (.iload_n 0, 1) := by decide +kernel
theorem dJ9_max_7cf53_1 : decode cJ9_max_7cf53 1 = .ok (.iload_n 1, 1) := by decide +kernel
theorem dJ9_max_7cf53_2 : decode cJ9_max_7cf53 2 = .ok (.if_icmp .lt 7, 3) := by decide +kernel
theorem dJ9_max_7cf53_5 : decode cJ9_max_7cf53 5 = .ok (.iload_n 0, 1) := by decide +kernel
theorem dJ9_max_7cf53_6 : decode cJ9_max_7cf53 6 = .ok (.goto 4, 3) := by decide +kernel
theorem dJ9_max_7cf53_9 : decode cJ9_max_7cf53 9 = .ok (.iload_n 1, 1) := by decide +kernel
theorem dJ9_max_7cf53_10 : decode cJ9_max_7cf53 10 = .ok (.ireturn, 1) := by decide +kernel
theorem dJ9_min_7cf53_0 : decode cJ9_min_7cf53 0 = .ok (.iload_n 0, 1) := by decide +kernel
theorem dJ9_min_7cf53_1 : decode cJ9_min_7cf53 1 = .ok (.iload_n 1, 1) := by decide +kernel
theorem dJ9_min_7cf53_2 : decode cJ9_min_7cf53 2 = .ok (.if_icmp .gt 7, 3) := by decide +kernel
theorem dJ9_min_7cf53_5 : decode cJ9_min_7cf53 5 = .ok (.iload_n 0, 1) := by decide +kernel
theorem dJ9_min_7cf53_6 : decode cJ9_min_7cf53 6 = .ok (.goto 4, 3) := by decide +kernel
theorem dJ9_min_7cf53_9 : decode cJ9_min_7cf53 9 = .ok (.iload_n 1, 1) := by decide +kernel
theorem dJ9_min_7cf53_10 : decode cJ9_min_7cf53 10 = .ok (.ireturn, 1) := by decide +kernel
end
section
/-- the tables' good words, and the nest words -/
def wsA : List Cond := lw_tbl.filter goodWord
def isNest : Cond → Bool
  | .fieldLinkNest _ _ _ _ _ _ => true
  | .methodLinkNest _ _ _ _ => true
  | .castable _ _ => true
  | .declares _ => true
  | _ => false
def nwA : List Cond := tables_1.filter isNest
theorem wA_of (i : Nat) {w : Cond} (h : tables_1[i]? = some w) (hg : goodWord w = true) : w ∈ wsA := List.mem_filter.mpr ⟨List.mem_append_right _ (List.mem_of_getElem? h), hg⟩
theorem wS_of (i : Nat) {w : Cond} (h : (k2_sels lw_privs)[i]? = some w) (hg : goodWord w = true) : w ∈ wsA := List.mem_filter.mpr ⟨List.mem_append_left _ (List.mem_of_getElem? h), hg⟩
theorem nA_of (i : Nat) {w : Cond} (h : tables_1[i]? = some w) (hg : isNest w = true) : w ∈ nwA := List.mem_filter.mpr ⟨List.mem_of_getElem? h, hg⟩
theorem goodA {ws : List Cond} (h : ∀ w ∈ ws, w ∈ wsA) : GoodIn wsA ws := fun w hw => ⟨h w hw, good_of_word (List.mem_filter.mp (h w hw)).2⟩
theorem wd0 : (Jvm.Cond.initialized "SignMasonsLaw") ∈ wsA := wA_of 0 (by decide +kernel) (by decide +kernel)
theorem wd1 : (Jvm.Cond.initialized "SignMasons") ∈ wsA := wA_of 1 (by decide +kernel) (by decide +kernel)
theorem wd2 : (Jvm.Cond.initialized "SignMasons$Places") ∈ wsA := wA_of 2 (by decide +kernel) (by decide +kernel)
theorem wd3 : (Jvm.Cond.initialized "SignMasons$Book") ∈ wsA := wA_of 3 (by decide +kernel) (by decide +kernel)
theorem wd4 : (Jvm.Cond.initialized "SignMasonsModel") ∈ wsA := wA_of 4 (by decide +kernel) (by decide +kernel)
theorem wd5 : (Jvm.Cond.initialized "java/lang/Throwable") ∈ wsA := wA_of 5 (by decide +kernel) (by decide +kernel)
theorem wd6 : (Jvm.Cond.initialized "java/lang/Exception") ∈ wsA := wA_of 6 (by decide +kernel) (by decide +kernel)
theorem wd7 : (Jvm.Cond.initialized "java/lang/RuntimeException") ∈ wsA := wA_of 7 (by decide +kernel) (by decide +kernel)
theorem wd8 : (Jvm.Cond.initialized "java/lang/IllegalStateException") ∈ wsA := wA_of 8 (by decide +kernel) (by decide +kernel)
theorem wd9 : (Jvm.Cond.initialized "java/lang/IndexOutOfBoundsException") ∈ wsA := wA_of 9 (by decide +kernel) (by decide +kernel)
theorem wd10 : (Jvm.Cond.initialized "java/lang/IllegalArgumentException") ∈ wsA := wA_of 10 (by decide +kernel) (by decide +kernel)
theorem wd11 : (Jvm.Cond.initialized "SignMasons$Look") ∈ wsA := wA_of 11 (by decide +kernel) (by decide +kernel)
theorem wd12 : (Jvm.Cond.initialized "java/lang/Math") ∈ wsA := wA_of 12 (by decide +kernel) (by decide +kernel)
theorem wd13 : (Jvm.Cond.initialized "java/lang/Integer") ∈ wsA := wA_of 13 (by decide +kernel) (by decide +kernel)
theorem wd14 : (Jvm.Cond.initialized "java/lang/System") ∈ wsA := wA_of 14 (by decide +kernel) (by decide +kernel)
theorem wd15 : (Jvm.Cond.classLink "SignMasonsLaw" (8 : Nat) "SignMasons") ∈ wsA := wA_of 15 (by decide +kernel) (by decide +kernel)
theorem wd16 : (Jvm.Cond.instantiable "SignMasons" (4 : Nat)) ∈ wsA := wA_of 16 (by decide +kernel) (by decide +kernel)
theorem wd17 : (Jvm.Cond.methodLink "SignMasonsLaw" (103 : Nat) ({ cls := "SignMasons", name := "<init>", desc := "()V" } : Jvm.MethodName)) ∈ wsA := wA_of 17 (by decide +kernel) (by decide +kernel)
theorem wd18 : (Jvm.Cond.instanceMethod ({ cls := "SignMasons", name := "<init>", desc := "()V" } : Jvm.MethodName)) ∈ wsA := wA_of 18 (by decide +kernel) (by decide +kernel)
theorem wd19 : (Jvm.Cond.code ({ cls := "SignMasons", name := "<init>", desc := "()V" } : Jvm.MethodName) prog_1_method_1_code (2 : Nat) (Option.none : Option Jvm.ClassFile.FieldType)) ∈ wsA := wA_of 19 (by decide +kernel) (by decide +kernel)
theorem wd20 : (Jvm.Cond.methodLink "SignMasons" (1 : Nat) ({ cls := "java/lang/Object", name := "<init>", desc := "()V" } : Jvm.MethodName)) ∈ wsA := wA_of 20 (by decide +kernel) (by decide +kernel)
theorem wd21 : (Jvm.Cond.instanceMethod ({ cls := "java/lang/Object", name := "<init>", desc := "()V" } : Jvm.MethodName)) ∈ wsA := wA_of 21 (by decide +kernel) (by decide +kernel)
theorem wd22 : (Jvm.Cond.code ({ cls := "java/lang/Object", name := "<init>", desc := "()V" } : Jvm.MethodName) object_method_1_code (1 : Nat) (Option.none : Option Jvm.ClassFile.FieldType)) ∈ wsA := wA_of 22 (by decide +kernel) (by decide +kernel)
theorem wd23 : (Jvm.Cond.classLink "SignMasons" (7 : Nat) "SignMasons$Places") ∈ wsA := wA_of 23 (by decide +kernel) (by decide +kernel)
theorem wd24 : (Jvm.Cond.instantiable "SignMasons$Places" (2 : Nat)) ∈ wsA := wA_of 24 (by decide +kernel) (by decide +kernel)
theorem wd25 : (Jvm.Cond.methodLinkNest "SignMasons" (9 : Nat) ({ cls := "SignMasons$Places", name := "<init>", desc := "()V" } : Jvm.MethodName) "SignMasons") ∈ nwA := nA_of 25 (by decide +kernel) (by decide +kernel)
theorem wd26 : (Jvm.Cond.instanceMethod ({ cls := "SignMasons$Places", name := "<init>", desc := "()V" } : Jvm.MethodName)) ∈ wsA := wA_of 26 (by decide +kernel) (by decide +kernel)
theorem wd27 : (Jvm.Cond.code ({ cls := "SignMasons$Places", name := "<init>", desc := "()V" } : Jvm.MethodName) prog_4_method_1_code (2 : Nat) (Option.none : Option Jvm.ClassFile.FieldType)) ∈ wsA := wA_of 27 (by decide +kernel) (by decide +kernel)
theorem wd28 : (Jvm.Cond.methodLink "SignMasons$Places" (3 : Nat) ({ cls := "java/lang/Object", name := "<init>", desc := "()V" } : Jvm.MethodName)) ∈ wsA := wA_of 28 (by decide +kernel) (by decide +kernel)
theorem wd29 : (Jvm.Cond.fieldLink "SignMasons$Places" (9 : Nat) "SignMasons$Places" "groupAt" "[I") ∈ wsA := wA_of 29 (by decide +kernel) (by decide +kernel)
theorem wd30 : (Jvm.Cond.fieldLink "SignMasons$Places" (15 : Nat) "SignMasons$Places" "groupCount" "I") ∈ wsA := wA_of 30 (by decide +kernel) (by decide +kernel)
theorem wd31 : (Jvm.Cond.fieldLinkNest "SignMasons" (101 : Nat) "SignMasons$Places" "groupCount" "I" "SignMasons") ∈ nwA := nA_of 31 (by decide +kernel) (by decide +kernel)
theorem wd32 : (Jvm.Cond.laysFinal "SignMasons$Places" "SignMasons$Places" "groupAt" "[I") ∈ wsA := wA_of 32 (by decide +kernel) (by decide +kernel)
theorem wd34 : (Jvm.Cond.lays "SignMasons$Places" "SignMasons$Places" "groupCount" "I") ∈ wsA := wA_of 34 (by decide +kernel) (by decide +kernel)
theorem wd37 : (Jvm.Cond.arrayClass Jvm.ClassFile.FieldType.int) ∈ wsA := wA_of 37 (by decide +kernel) (by decide +kernel)
theorem wd38 : (Jvm.Cond.classLink "SignMasons" (16 : Nat) "SignMasons$Book") ∈ wsA := wA_of 38 (by decide +kernel) (by decide +kernel)
theorem wd40 : (Jvm.Cond.instantiable "SignMasons$Book" (4 : Nat)) ∈ wsA := wA_of 40 (by decide +kernel) (by decide +kernel)
theorem wd41 : (Jvm.Cond.methodLinkNest "SignMasons" (22 : Nat) ({ cls := "SignMasons$Book", name := "<init>", desc := "(LSignMasons$Places;)V" } : Jvm.MethodName) "SignMasons") ∈ nwA := nA_of 41 (by decide +kernel) (by decide +kernel)
theorem wd42 : (Jvm.Cond.instanceMethod ({ cls := "SignMasons$Book", name := "<init>", desc := "(LSignMasons$Places;)V" } : Jvm.MethodName)) ∈ wsA := wA_of 42 (by decide +kernel) (by decide +kernel)
theorem wd43 : (Jvm.Cond.code ({ cls := "SignMasons$Book", name := "<init>", desc := "(LSignMasons$Places;)V" } : Jvm.MethodName) prog_2_method_1_code (2 : Nat) (Option.none : Option Jvm.ClassFile.FieldType)) ∈ wsA := wA_of 43 (by decide +kernel) (by decide +kernel)
theorem wd44 : (Jvm.Cond.methodLink "SignMasons$Book" (3 : Nat) ({ cls := "java/lang/Object", name := "<init>", desc := "()V" } : Jvm.MethodName)) ∈ wsA := wA_of 44 (by decide +kernel) (by decide +kernel)
theorem wd45 : (Jvm.Cond.fieldLink "SignMasons$Book" (9 : Nat) "SignMasons$Book" "places" "LSignMasons$Places;") ∈ wsA := wA_of 45 (by decide +kernel) (by decide +kernel)
theorem wd46 : (Jvm.Cond.fieldLink "SignMasons$Book" (15 : Nat) "SignMasons$Book" "looks" "[I") ∈ wsA := wA_of 46 (by decide +kernel) (by decide +kernel)
theorem wd47 : (Jvm.Cond.fieldLinkNest "SignMasons" (83 : Nat) "SignMasons$Book" "looks" "[I" "SignMasons") ∈ nwA := nA_of 47 (by decide +kernel) (by decide +kernel)
theorem wd48 : (Jvm.Cond.fieldLink "SignMasons$Book" (19 : Nat) "SignMasons$Book" "meanings" "[I") ∈ wsA := wA_of 48 (by decide +kernel) (by decide +kernel)
theorem wd49 : (Jvm.Cond.fieldLinkNest "SignMasons" (106 : Nat) "SignMasons$Book" "meanings" "[I" "SignMasons") ∈ nwA := nA_of 49 (by decide +kernel) (by decide +kernel)
theorem wd50 : (Jvm.Cond.fieldLink "SignMasons$Book" (22 : Nat) "SignMasons$Book" "count" "I") ∈ wsA := wA_of 50 (by decide +kernel) (by decide +kernel)
theorem wd51 : (Jvm.Cond.fieldLinkNest "SignMasons" (120 : Nat) "SignMasons$Book" "count" "I" "SignMasons") ∈ nwA := nA_of 51 (by decide +kernel) (by decide +kernel)
theorem wd52 : (Jvm.Cond.laysFinal "SignMasons$Book" "SignMasons$Book" "places" "LSignMasons$Places;") ∈ wsA := wA_of 52 (by decide +kernel) (by decide +kernel)
theorem wd54 : (Jvm.Cond.laysFinal "SignMasons$Book" "SignMasons$Book" "looks" "[I") ∈ wsA := wA_of 54 (by decide +kernel) (by decide +kernel)
theorem wd56 : (Jvm.Cond.laysFinal "SignMasons$Book" "SignMasons$Book" "meanings" "[I") ∈ wsA := wA_of 56 (by decide +kernel) (by decide +kernel)
theorem wd58 : (Jvm.Cond.lays "SignMasons$Book" "SignMasons$Book" "count" "I") ∈ wsA := wA_of 58 (by decide +kernel) (by decide +kernel)
theorem wd61 : (Jvm.Cond.fieldLink "SignMasons" (10 : Nat) "SignMasons" "places" "LSignMasons$Places;") ∈ wsA := wA_of 61 (by decide +kernel) (by decide +kernel)
theorem wd62 : (Jvm.Cond.fieldLink "SignMasons" (18 : Nat) "SignMasons" "books" "[LSignMasons$Book;") ∈ wsA := wA_of 62 (by decide +kernel) (by decide +kernel)
theorem wd63 : (Jvm.Cond.fieldLink "SignMasons" (25 : Nat) "SignMasons" "trial" "LSignMasons$Book;") ∈ wsA := wA_of 63 (by decide +kernel) (by decide +kernel)
theorem wd64 : (Jvm.Cond.fieldLink "SignMasons" (29 : Nat) "SignMasons" "lodgeCount" "I") ∈ wsA := wA_of 64 (by decide +kernel) (by decide +kernel)
theorem wd65 : (Jvm.Cond.laysFinal "SignMasons" "SignMasons" "places" "LSignMasons$Places;") ∈ wsA := wA_of 65 (by decide +kernel) (by decide +kernel)
theorem wd67 : (Jvm.Cond.laysFinal "SignMasons" "SignMasons" "books" "[LSignMasons$Book;") ∈ wsA := wA_of 67 (by decide +kernel) (by decide +kernel)
theorem wd69 : (Jvm.Cond.laysFinal "SignMasons" "SignMasons" "trial" "LSignMasons$Book;") ∈ wsA := wA_of 69 (by decide +kernel) (by decide +kernel)
theorem wd71 : (Jvm.Cond.lays "SignMasons" "SignMasons" "lodgeCount" "I") ∈ wsA := wA_of 71 (by decide +kernel) (by decide +kernel)
theorem wd74 : (Jvm.Cond.methodLink "SignMasonsLaw" (134 : Nat) ({ cls := "SignMasons", name := "groups", desc := "()I" } : Jvm.MethodName)) ∈ wsA := wA_of 74 (by decide +kernel) (by decide +kernel)
theorem wd75 : (Jvm.Cond.instanceMethod ({ cls := "SignMasons", name := "groups", desc := "()I" } : Jvm.MethodName)) ∈ wsA := wA_of 75 (by decide +kernel) (by decide +kernel)
theorem wd76 : (Jvm.Cond.selects "SignMasons" ({ cls := "SignMasons", name := "groups", desc := "()I" } : Jvm.MethodName) ({ cls := "SignMasons", name := "groups", desc := "()I" } : Jvm.MethodName)) ∈ wsA := wA_of 76 (by decide +kernel) (by decide +kernel)
theorem wd77 : (Jvm.Cond.code ({ cls := "SignMasons", name := "groups", desc := "()I" } : Jvm.MethodName) prog_1_method_8_code (1 : Nat) (Option.some Jvm.ClassFile.FieldType.int)) ∈ wsA := wA_of 77 (by decide +kernel) (by decide +kernel)
theorem wd78 : (Jvm.Cond.methodLink "SignMasonsLaw" (144 : Nat) ({ cls := "SignMasons", name := "lodges", desc := "()I" } : Jvm.MethodName)) ∈ wsA := wA_of 78 (by decide +kernel) (by decide +kernel)
theorem wd79 : (Jvm.Cond.instanceMethod ({ cls := "SignMasons", name := "lodges", desc := "()I" } : Jvm.MethodName)) ∈ wsA := wA_of 79 (by decide +kernel) (by decide +kernel)
theorem wd80 : (Jvm.Cond.selects "SignMasons" ({ cls := "SignMasons", name := "lodges", desc := "()I" } : Jvm.MethodName) ({ cls := "SignMasons", name := "lodges", desc := "()I" } : Jvm.MethodName)) ∈ wsA := wA_of 80 (by decide +kernel) (by decide +kernel)
theorem wd81 : (Jvm.Cond.code ({ cls := "SignMasons", name := "lodges", desc := "()I" } : Jvm.MethodName) prog_1_method_11_code (1 : Nat) (Option.some Jvm.ClassFile.FieldType.int)) ∈ wsA := wA_of 81 (by decide +kernel) (by decide +kernel)
theorem wd82 : (Jvm.Cond.methodLink "SignMasonsLaw" (207 : Nat) ({ cls := "SignMasons", name := "meanSigns", desc := "()D" } : Jvm.MethodName)) ∈ wsA := wA_of 82 (by decide +kernel) (by decide +kernel)
theorem wd83 : (Jvm.Cond.instanceMethod ({ cls := "SignMasons", name := "meanSigns", desc := "()D" } : Jvm.MethodName)) ∈ wsA := wA_of 83 (by decide +kernel) (by decide +kernel)
theorem wd84 : (Jvm.Cond.selects "SignMasons" ({ cls := "SignMasons", name := "meanSigns", desc := "()D" } : Jvm.MethodName) ({ cls := "SignMasons", name := "meanSigns", desc := "()D" } : Jvm.MethodName)) ∈ wsA := wA_of 84 (by decide +kernel) (by decide +kernel)
theorem wd85 : (Jvm.Cond.code ({ cls := "SignMasons", name := "meanSigns", desc := "()D" } : Jvm.MethodName) prog_1_method_31_code (3 : Nat) (Option.some Jvm.ClassFile.FieldType.double)) ∈ wsA := wA_of 85 (by decide +kernel) (by decide +kernel)
theorem wd86 : (Jvm.Cond.methodLink "SignMasonsLaw" (212 : Nat) ({ cls := "SignMasons", name := "digest", desc := "()J" } : Jvm.MethodName)) ∈ wsA := wA_of 86 (by decide +kernel) (by decide +kernel)
theorem wd87 : (Jvm.Cond.instanceMethod ({ cls := "SignMasons", name := "digest", desc := "()J" } : Jvm.MethodName)) ∈ wsA := wA_of 87 (by decide +kernel) (by decide +kernel)
theorem wd88 : (Jvm.Cond.selects "SignMasons" ({ cls := "SignMasons", name := "digest", desc := "()J" } : Jvm.MethodName) ({ cls := "SignMasons", name := "digest", desc := "()J" } : Jvm.MethodName)) ∈ wsA := wA_of 88 (by decide +kernel) (by decide +kernel)
theorem wd89 : (Jvm.Cond.code ({ cls := "SignMasons", name := "digest", desc := "()J" } : Jvm.MethodName) prog_1_method_32_code (5 : Nat) (Option.some Jvm.ClassFile.FieldType.long)) ∈ wsA := wA_of 89 (by decide +kernel) (by decide +kernel)
theorem wd90 : (Jvm.Cond.constantLong "SignMasons" (177 : Nat) (2099 : Int64)) ∈ wsA := wA_of 90 (by decide +kernel) (by decide +kernel)
theorem wd91 : (Jvm.Cond.methodLink "SignMasons" (179 : Nat) ({ cls := "SignMasons", name := "mix", desc := "(JJ)J" } : Jvm.MethodName)) ∈ wsA := wA_of 91 (by decide +kernel) (by decide +kernel)
theorem wd92 : (Jvm.Cond.static ({ cls := "SignMasons", name := "mix", desc := "(JJ)J" } : Jvm.MethodName)) ∈ wsA := wA_of 92 (by decide +kernel) (by decide +kernel)
theorem wd93 : (Jvm.Cond.code ({ cls := "SignMasons", name := "mix", desc := "(JJ)J" } : Jvm.MethodName) prog_1_method_33_code (4 : Nat) (Option.some Jvm.ClassFile.FieldType.long)) ∈ wsA := wA_of 93 (by decide +kernel) (by decide +kernel)
theorem wd94 : (Jvm.Cond.constantLong "SignMasons" (193 : Nat) (31 : Int64)) ∈ wsA := wA_of 94 (by decide +kernel) (by decide +kernel)
theorem wd95 : (Jvm.Cond.methodLink "SignMasons" (183 : Nat) ({ cls := "SignMasons", name := "mixBook", desc := "(JLSignMasons$Book;)J" } : Jvm.MethodName)) ∈ wsA := wA_of 95 (by decide +kernel) (by decide +kernel)
theorem wd96 : (Jvm.Cond.static ({ cls := "SignMasons", name := "mixBook", desc := "(JLSignMasons$Book;)J" } : Jvm.MethodName)) ∈ wsA := wA_of 96 (by decide +kernel) (by decide +kernel)
theorem wd97 : (Jvm.Cond.code ({ cls := "SignMasons", name := "mixBook", desc := "(JLSignMasons$Book;)J" } : Jvm.MethodName) prog_1_method_34_code (5 : Nat) (Option.some Jvm.ClassFile.FieldType.long)) ∈ wsA := wA_of 97 (by decide +kernel) (by decide +kernel)
theorem wd98 : (Jvm.Cond.methodLinkNest "SignMasons" (141 : Nat) ({ cls := "SignMasons$Book", name := "countAlike", desc := "()I" } : Jvm.MethodName) "SignMasons") ∈ nwA := nA_of 98 (by decide +kernel) (by decide +kernel)
theorem wd100 : (Jvm.Cond.instanceMethod ({ cls := "SignMasons$Book", name := "countAlike", desc := "()I" } : Jvm.MethodName)) ∈ wsA := wA_of 100 (by decide +kernel) (by decide +kernel)
theorem wd101 : (Jvm.Cond.code ({ cls := "SignMasons$Book", name := "countAlike", desc := "()I" } : Jvm.MethodName) prog_2_method_9_code (4 : Nat) (Option.some Jvm.ClassFile.FieldType.int)) ∈ wsA := wA_of 101 (by decide +kernel) (by decide +kernel)
theorem wd102 : (Jvm.Cond.methodLinkNest "SignMasons$Book" (36 : Nat) ({ cls := "SignMasons$Places", name := "alike", desc := "(II)Z" } : Jvm.MethodName) "SignMasons") ∈ nwA := nA_of 102 (by decide +kernel) (by decide +kernel)
theorem wd104 : (Jvm.Cond.instanceMethod ({ cls := "SignMasons$Places", name := "alike", desc := "(II)Z" } : Jvm.MethodName)) ∈ wsA := wA_of 104 (by decide +kernel) (by decide +kernel)
theorem wd105 : (Jvm.Cond.code ({ cls := "SignMasons$Places", name := "alike", desc := "(II)Z" } : Jvm.MethodName) prog_4_method_6_code (3 : Nat) (Option.some Jvm.ClassFile.FieldType.boolean)) ∈ wsA := wA_of 105 (by decide +kernel) (by decide +kernel)
theorem wd106 : (Jvm.Cond.methodLinkNest "SignMasons$Places" (29 : Nat) ({ cls := "SignMasons$Look", name := "sameButForPlace", desc := "(II)Z" } : Jvm.MethodName) "SignMasons") ∈ nwA := nA_of 106 (by decide +kernel) (by decide +kernel)
theorem wd107 : (Jvm.Cond.static ({ cls := "SignMasons$Look", name := "sameButForPlace", desc := "(II)Z" } : Jvm.MethodName)) ∈ wsA := wA_of 107 (by decide +kernel) (by decide +kernel)
theorem wd108 : (Jvm.Cond.code ({ cls := "SignMasons$Look", name := "sameButForPlace", desc := "(II)Z" } : Jvm.MethodName) prog_3_method_8_code (2 : Nat) (Option.some Jvm.ClassFile.FieldType.boolean)) ∈ wsA := wA_of 108 (by decide +kernel) (by decide +kernel)
theorem wd109 : (Jvm.Cond.methodLinkNest "SignMasons$Places" (34 : Nat) ({ cls := "SignMasons$Look", name := "place", desc := "(I)I" } : Jvm.MethodName) "SignMasons") ∈ nwA := nA_of 109 (by decide +kernel) (by decide +kernel)
theorem wd110 : (Jvm.Cond.static ({ cls := "SignMasons$Look", name := "place", desc := "(I)I" } : Jvm.MethodName)) ∈ wsA := wA_of 110 (by decide +kernel) (by decide +kernel)
theorem wd111 : (Jvm.Cond.code ({ cls := "SignMasons$Look", name := "place", desc := "(I)I" } : Jvm.MethodName) prog_3_method_6_code (1 : Nat) (Option.some Jvm.ClassFile.FieldType.int)) ∈ wsA := wA_of 111 (by decide +kernel) (by decide +kernel)
theorem wd112 : (Jvm.Cond.methodLink "SignMasons$Places" (19 : Nat) ({ cls := "SignMasons$Places", name := "sameGroup", desc := "(II)Z" } : Jvm.MethodName)) ∈ wsA := wA_of 112 (by decide +kernel) (by decide +kernel)
theorem wd114 : (Jvm.Cond.instanceMethod ({ cls := "SignMasons$Places", name := "sameGroup", desc := "(II)Z" } : Jvm.MethodName)) ∈ wsA := wA_of 114 (by decide +kernel) (by decide +kernel)
theorem wd115 : (Jvm.Cond.code ({ cls := "SignMasons$Places", name := "sameGroup", desc := "(II)Z" } : Jvm.MethodName) prog_4_method_3_code (3 : Nat) (Option.some Jvm.ClassFile.FieldType.boolean)) ∈ wsA := wA_of 115 (by decide +kernel) (by decide +kernel)
theorem wd116 : (Jvm.Cond.methodLinkNest "SignMasons" (145 : Nat) ({ cls := "SignMasons$Book", name := "countThumbApart", desc := "()I" } : Jvm.MethodName) "SignMasons") ∈ nwA := nA_of 116 (by decide +kernel) (by decide +kernel)
theorem wd118 : (Jvm.Cond.instanceMethod ({ cls := "SignMasons$Book", name := "countThumbApart", desc := "()I" } : Jvm.MethodName)) ∈ wsA := wA_of 118 (by decide +kernel) (by decide +kernel)
theorem wd119 : (Jvm.Cond.code ({ cls := "SignMasons$Book", name := "countThumbApart", desc := "()I" } : Jvm.MethodName) prog_2_method_11_code (4 : Nat) (Option.some Jvm.ClassFile.FieldType.int)) ∈ wsA := wA_of 119 (by decide +kernel) (by decide +kernel)
theorem wd120 : (Jvm.Cond.methodLinkNest "SignMasons$Book" (42 : Nat) ({ cls := "SignMasons$Look", name := "thumb", desc := "(I)I" } : Jvm.MethodName) "SignMasons") ∈ nwA := nA_of 120 (by decide +kernel) (by decide +kernel)
theorem wd121 : (Jvm.Cond.static ({ cls := "SignMasons$Look", name := "thumb", desc := "(I)I" } : Jvm.MethodName)) ∈ wsA := wA_of 121 (by decide +kernel) (by decide +kernel)
theorem wd122 : (Jvm.Cond.code ({ cls := "SignMasons$Look", name := "thumb", desc := "(I)I" } : Jvm.MethodName) prog_3_method_4_code (1 : Nat) (Option.some Jvm.ClassFile.FieldType.int)) ∈ wsA := wA_of 122 (by decide +kernel) (by decide +kernel)
theorem wd123 : (Jvm.Cond.methodLinkNest "SignMasons$Book" (59 : Nat) ({ cls := "SignMasons$Places", name := "distance", desc := "(II)I" } : Jvm.MethodName) "SignMasons") ∈ nwA := nA_of 123 (by decide +kernel) (by decide +kernel)
theorem wd125 : (Jvm.Cond.instanceMethod ({ cls := "SignMasons$Places", name := "distance", desc := "(II)I" } : Jvm.MethodName)) ∈ wsA := wA_of 125 (by decide +kernel) (by decide +kernel)
theorem wd126 : (Jvm.Cond.code ({ cls := "SignMasons$Places", name := "distance", desc := "(II)I" } : Jvm.MethodName) prog_4_method_8_code (6 : Nat) (Option.some Jvm.ClassFile.FieldType.int)) ∈ wsA := wA_of 126 (by decide +kernel) (by decide +kernel)
theorem wd127 : (Jvm.Cond.methodLinkNest "SignMasons$Places" (41 : Nat) ({ cls := "SignMasons$Look", name := "shape", desc := "(I)I" } : Jvm.MethodName) "SignMasons") ∈ nwA := nA_of 127 (by decide +kernel) (by decide +kernel)
theorem wd128 : (Jvm.Cond.static ({ cls := "SignMasons$Look", name := "shape", desc := "(I)I" } : Jvm.MethodName)) ∈ wsA := wA_of 128 (by decide +kernel) (by decide +kernel)
theorem wd129 : (Jvm.Cond.code ({ cls := "SignMasons$Look", name := "shape", desc := "(I)I" } : Jvm.MethodName) prog_3_method_3_code (1 : Nat) (Option.some Jvm.ClassFile.FieldType.int)) ∈ wsA := wA_of 129 (by decide +kernel) (by decide +kernel)
theorem wd130 : (Jvm.Cond.methodLink "SignMasons$Places" (44 : Nat) ({ cls := "java/lang/Integer", name := "bitCount", desc := "(I)I" } : Jvm.MethodName)) ∈ wsA := wA_of 130 (by decide +kernel) (by decide +kernel)
theorem wd131 : (Jvm.Cond.static ({ cls := "java/lang/Integer", name := "bitCount", desc := "(I)I" } : Jvm.MethodName)) ∈ wsA := wA_of 131 (by decide +kernel) (by decide +kernel)
theorem wd132 : (Jvm.Cond.code ({ cls := "java/lang/Integer", name := "bitCount", desc := "(I)I" } : Jvm.MethodName) prog_11_method_49_code (1 : Nat) (Option.some Jvm.ClassFile.FieldType.int)) ∈ wsA := wA_of 132 (by decide +kernel) (by decide +kernel)
theorem wd133 : (Jvm.Cond.constant "java/lang/Integer" (265 : Nat) (1431655765 : Int32)) ∈ wsA := wA_of 133 (by decide +kernel) (by decide +kernel)
theorem wd134 : (Jvm.Cond.constant "java/lang/Integer" (266 : Nat) (858993459 : Int32)) ∈ wsA := wA_of 134 (by decide +kernel) (by decide +kernel)
theorem wd135 : (Jvm.Cond.constant "java/lang/Integer" (267 : Nat) (252645135 : Int32)) ∈ wsA := wA_of 135 (by decide +kernel) (by decide +kernel)
theorem wd136 : (Jvm.Cond.methodLinkNest "SignMasons$Places" (49 : Nat) ({ cls := "SignMasons$Look", name := "thumb", desc := "(I)I" } : Jvm.MethodName) "SignMasons") ∈ nwA := nA_of 136 (by decide +kernel) (by decide +kernel)
theorem wd137 : (Jvm.Cond.methodLinkNest "SignMasons$Places" (52 : Nat) ({ cls := "SignMasons$Look", name := "movement", desc := "(I)I" } : Jvm.MethodName) "SignMasons") ∈ nwA := nA_of 137 (by decide +kernel) (by decide +kernel)
theorem wd138 : (Jvm.Cond.static ({ cls := "SignMasons$Look", name := "movement", desc := "(I)I" } : Jvm.MethodName)) ∈ wsA := wA_of 138 (by decide +kernel) (by decide +kernel)
theorem wd139 : (Jvm.Cond.code ({ cls := "SignMasons$Look", name := "movement", desc := "(I)I" } : Jvm.MethodName) prog_3_method_5_code (1 : Nat) (Option.some Jvm.ClassFile.FieldType.int)) ∈ wsA := wA_of 139 (by decide +kernel) (by decide +kernel)
theorem wd140 : (Jvm.Cond.methodLink "SignMasons$Places" (55 : Nat) ({ cls := "SignMasons$Places", name := "stepsBetween", desc := "(II)I" } : Jvm.MethodName)) ∈ wsA := wA_of 140 (by decide +kernel) (by decide +kernel)
theorem wd142 : (Jvm.Cond.instanceMethod ({ cls := "SignMasons$Places", name := "stepsBetween", desc := "(II)I" } : Jvm.MethodName)) ∈ wsA := wA_of 142 (by decide +kernel) (by decide +kernel)
theorem wd143 : (Jvm.Cond.code ({ cls := "SignMasons$Places", name := "stepsBetween", desc := "(II)I" } : Jvm.MethodName) prog_4_method_5_code (5 : Nat) (Option.some Jvm.ClassFile.FieldType.int)) ∈ wsA := wA_of 143 (by decide +kernel) (by decide +kernel)
theorem wd144 : (Jvm.Cond.methodLink "SignMasons$Places" (23 : Nat) ({ cls := "java/lang/Math", name := "abs", desc := "(I)I" } : Jvm.MethodName)) ∈ wsA := wA_of 144 (by decide +kernel) (by decide +kernel)
theorem wd145 : (Jvm.Cond.static ({ cls := "java/lang/Math", name := "abs", desc := "(I)I" } : Jvm.MethodName)) ∈ wsA := wA_of 145 (by decide +kernel) (by decide +kernel)
theorem wd146 : (Jvm.Cond.code ({ cls := "java/lang/Math", name := "abs", desc := "(I)I" } : Jvm.MethodName) prog_12_method_59_code (1 : Nat) (Option.some Jvm.ClassFile.FieldType.int)) ∈ wsA := wA_of 146 (by decide +kernel) (by decide +kernel)
theorem wd147 : (Jvm.Cond.methodLinkNest "SignMasons" (148 : Nat) ({ cls := "SignMasons$Book", name := "fewestApart", desc := "()I" } : Jvm.MethodName) "SignMasons") ∈ nwA := nA_of 147 (by decide +kernel) (by decide +kernel)
theorem wd149 : (Jvm.Cond.instanceMethod ({ cls := "SignMasons$Book", name := "fewestApart", desc := "()I" } : Jvm.MethodName)) ∈ wsA := wA_of 149 (by decide +kernel) (by decide +kernel)
theorem wd150 : (Jvm.Cond.code ({ cls := "SignMasons$Book", name := "fewestApart", desc := "()I" } : Jvm.MethodName) prog_2_method_13_code (3 : Nat) (Option.some Jvm.ClassFile.FieldType.int)) ∈ wsA := wA_of 150 (by decide +kernel) (by decide +kernel)
theorem wd151 : (Jvm.Cond.methodLink "SignMasons$Book" (67 : Nat) ({ cls := "SignMasons$Book", name := "nearestBut", desc := "(II)I" } : Jvm.MethodName)) ∈ wsA := wA_of 151 (by decide +kernel) (by decide +kernel)
theorem wd153 : (Jvm.Cond.instanceMethod ({ cls := "SignMasons$Book", name := "nearestBut", desc := "(II)I" } : Jvm.MethodName)) ∈ wsA := wA_of 153 (by decide +kernel) (by decide +kernel)
theorem wd154 : (Jvm.Cond.code ({ cls := "SignMasons$Book", name := "nearestBut", desc := "(II)I" } : Jvm.MethodName) prog_2_method_12_code (5 : Nat) (Option.some Jvm.ClassFile.FieldType.int)) ∈ wsA := wA_of 154 (by decide +kernel) (by decide +kernel)
theorem wd155 : (Jvm.Cond.methodLink "SignMasons$Book" (62 : Nat) ({ cls := "java/lang/Math", name := "min", desc := "(II)I" } : Jvm.MethodName)) ∈ wsA := wA_of 155 (by decide +kernel) (by decide +kernel)
theorem wd156 : (Jvm.Cond.static ({ cls := "java/lang/Math", name := "min", desc := "(II)I" } : Jvm.MethodName)) ∈ wsA := wA_of 156 (by decide +kernel) (by decide +kernel)
theorem wd157 : (Jvm.Cond.code ({ cls := "java/lang/Math", name := "min", desc := "(II)I" } : Jvm.MethodName) prog_12_method_69_code (2 : Nat) (Option.some Jvm.ClassFile.FieldType.int)) ∈ wsA := wA_of 157 (by decide +kernel) (by decide +kernel)
theorem wd158 : (Jvm.Cond.methodLinkNest "SignMasons" (151 : Nat) ({ cls := "SignMasons$Book", name := "signNearMost", desc := "()I" } : Jvm.MethodName) "SignMasons") ∈ nwA := nA_of 158 (by decide +kernel) (by decide +kernel)
theorem wd160 : (Jvm.Cond.instanceMethod ({ cls := "SignMasons$Book", name := "signNearMost", desc := "()I" } : Jvm.MethodName)) ∈ wsA := wA_of 160 (by decide +kernel) (by decide +kernel)
theorem wd161 : (Jvm.Cond.code ({ cls := "SignMasons$Book", name := "signNearMost", desc := "()I" } : Jvm.MethodName) prog_2_method_15_code (5 : Nat) (Option.some Jvm.ClassFile.FieldType.int)) ∈ wsA := wA_of 161 (by decide +kernel) (by decide +kernel)
theorem wd162 : (Jvm.Cond.methodLink "SignMasons$Book" (70 : Nat) ({ cls := "SignMasons$Book", name := "countNear", desc := "(I)I" } : Jvm.MethodName)) ∈ wsA := wA_of 162 (by decide +kernel) (by decide +kernel)
theorem wd164 : (Jvm.Cond.instanceMethod ({ cls := "SignMasons$Book", name := "countNear", desc := "(I)I" } : Jvm.MethodName)) ∈ wsA := wA_of 164 (by decide +kernel) (by decide +kernel)
theorem wd165 : (Jvm.Cond.code ({ cls := "SignMasons$Book", name := "countNear", desc := "(I)I" } : Jvm.MethodName) prog_2_method_14_code (4 : Nat) (Option.some Jvm.ClassFile.FieldType.int)) ∈ wsA := wA_of 165 (by decide +kernel) (by decide +kernel)
theorem wd166 : (Jvm.Cond.methodLinkNest "SignMasons" (157 : Nat) ({ cls := "SignMasons$Book", name := "countUnderstood", desc := "(LSignMasons$Book;)I" } : Jvm.MethodName) "SignMasons") ∈ nwA := nA_of 166 (by decide +kernel) (by decide +kernel)
theorem wd168 : (Jvm.Cond.instanceMethod ({ cls := "SignMasons$Book", name := "countUnderstood", desc := "(LSignMasons$Book;)I" } : Jvm.MethodName)) ∈ wsA := wA_of 168 (by decide +kernel) (by decide +kernel)
theorem wd169 : (Jvm.Cond.code ({ cls := "SignMasons$Book", name := "countUnderstood", desc := "(LSignMasons$Book;)I" } : Jvm.MethodName) prog_2_method_18_code (4 : Nat) (Option.some Jvm.ClassFile.FieldType.int)) ∈ wsA := wA_of 169 (by decide +kernel) (by decide +kernel)
theorem wd170 : (Jvm.Cond.methodLink "SignMasons$Book" (73 : Nat) ({ cls := "SignMasons$Book", name := "meaningRead", desc := "(I)I" } : Jvm.MethodName)) ∈ wsA := wA_of 170 (by decide +kernel) (by decide +kernel)
theorem wd172 : (Jvm.Cond.instanceMethod ({ cls := "SignMasons$Book", name := "meaningRead", desc := "(I)I" } : Jvm.MethodName)) ∈ wsA := wA_of 172 (by decide +kernel) (by decide +kernel)
theorem wd173 : (Jvm.Cond.code ({ cls := "SignMasons$Book", name := "meaningRead", desc := "(I)I" } : Jvm.MethodName) prog_2_method_17_code (6 : Nat) (Option.some Jvm.ClassFile.FieldType.int)) ∈ wsA := wA_of 173 (by decide +kernel) (by decide +kernel)
theorem wd174 : (Jvm.Cond.methodLinkNest "SignMasons" (161 : Nat) ({ cls := "SignMasons$Book", name := "countMisread", desc := "(LSignMasons$Book;)I" } : Jvm.MethodName) "SignMasons") ∈ nwA := nA_of 174 (by decide +kernel) (by decide +kernel)
theorem wd176 : (Jvm.Cond.instanceMethod ({ cls := "SignMasons$Book", name := "countMisread", desc := "(LSignMasons$Book;)I" } : Jvm.MethodName)) ∈ wsA := wA_of 176 (by decide +kernel) (by decide +kernel)
theorem wd177 : (Jvm.Cond.code ({ cls := "SignMasons$Book", name := "countMisread", desc := "(LSignMasons$Book;)I" } : Jvm.MethodName) prog_2_method_19_code (5 : Nat) (Option.some Jvm.ClassFile.FieldType.int)) ∈ wsA := wA_of 177 (by decide +kernel) (by decide +kernel)
theorem wd178 : (Jvm.Cond.methodLink "SignMasons" (187 : Nat) ({ cls := "SignMasons", name := "bestToBorrow", desc := "(II)I" } : Jvm.MethodName)) ∈ wsA := wA_of 178 (by decide +kernel) (by decide +kernel)
theorem wd179 : (Jvm.Cond.instanceMethod ({ cls := "SignMasons", name := "bestToBorrow", desc := "(II)I" } : Jvm.MethodName)) ∈ wsA := wA_of 179 (by decide +kernel) (by decide +kernel)
theorem wd180 : (Jvm.Cond.selects "SignMasons" ({ cls := "SignMasons", name := "bestToBorrow", desc := "(II)I" } : Jvm.MethodName) ({ cls := "SignMasons", name := "bestToBorrow", desc := "(II)I" } : Jvm.MethodName)) ∈ wsA := wA_of 180 (by decide +kernel) (by decide +kernel)
theorem wd181 : (Jvm.Cond.code ({ cls := "SignMasons", name := "bestToBorrow", desc := "(II)I" } : Jvm.MethodName) prog_1_method_29_code (9 : Nat) (Option.some Jvm.ClassFile.FieldType.int)) ∈ wsA := wA_of 181 (by decide +kernel) (by decide +kernel)
theorem wd182 : (Jvm.Cond.methodLink "SignMasons" (40 : Nat) ({ cls := "SignMasons", name := "bookOf", desc := "(I)LSignMasons$Book;" } : Jvm.MethodName)) ∈ wsA := wA_of 182 (by decide +kernel) (by decide +kernel)
theorem wd184 : (Jvm.Cond.instanceMethod ({ cls := "SignMasons", name := "bookOf", desc := "(I)LSignMasons$Book;" } : Jvm.MethodName)) ∈ wsA := wA_of 184 (by decide +kernel) (by decide +kernel)
theorem wd185 : (Jvm.Cond.code ({ cls := "SignMasons", name := "bookOf", desc := "(I)LSignMasons$Book;" } : Jvm.MethodName) prog_1_method_38_code (2 : Nat) (Option.some (Jvm.ClassFile.FieldType.object "SignMasons$Book"))) ∈ wsA := wA_of 185 (by decide +kernel) (by decide +kernel)
theorem wd186 : (Jvm.Cond.methodLink "SignMasons" (48 : Nat) ({ cls := "SignMasons", name := "isBelow", desc := "(II)Z" } : Jvm.MethodName)) ∈ wsA := wA_of 186 (by decide +kernel) (by decide +kernel)
theorem wd187 : (Jvm.Cond.static ({ cls := "SignMasons", name := "isBelow", desc := "(II)Z" } : Jvm.MethodName)) ∈ wsA := wA_of 187 (by decide +kernel) (by decide +kernel)
theorem wd188 : (Jvm.Cond.code ({ cls := "SignMasons", name := "isBelow", desc := "(II)Z" } : Jvm.MethodName) prog_1_method_37_code (2 : Nat) (Option.some Jvm.ClassFile.FieldType.boolean)) ∈ wsA := wA_of 188 (by decide +kernel) (by decide +kernel)
theorem wd189 : (Jvm.Cond.classLink "SignMasons" (132 : Nat) "java/lang/IndexOutOfBoundsException") ∈ wsA := wA_of 189 (by decide +kernel) (by decide +kernel)
theorem wd190 : (Jvm.Cond.instantiable "java/lang/IndexOutOfBoundsException" (6 : Nat)) ∈ wsA := wA_of 190 (by decide +kernel) (by decide +kernel)
theorem wd191 : (Jvm.Cond.castable "java/lang/IndexOutOfBoundsException" "java/lang/IndexOutOfBoundsException") ∈ nwA := nA_of 191 (by decide +kernel) (by decide +kernel)
theorem wd192 : (Jvm.Cond.declares ({ cls := "java/lang/RuntimeException", name := "<init>", desc := "()V" } : Jvm.MethodName)) ∈ nwA := nA_of 192 (by decide +kernel) (by decide +kernel)
theorem wd193 : (Jvm.Cond.declares ({ cls := "java/lang/RuntimeException", name := "<init>", desc := "(Ljava/lang/String;)V" } : Jvm.MethodName)) ∈ nwA := nA_of 193 (by decide +kernel) (by decide +kernel)
theorem wd194 : (Jvm.Cond.declares ({ cls := "java/lang/Exception", name := "<init>", desc := "()V" } : Jvm.MethodName)) ∈ nwA := nA_of 194 (by decide +kernel) (by decide +kernel)
theorem wd195 : (Jvm.Cond.declares ({ cls := "java/lang/Exception", name := "<init>", desc := "(Ljava/lang/String;)V" } : Jvm.MethodName)) ∈ nwA := nA_of 195 (by decide +kernel) (by decide +kernel)
theorem wd196 : (Jvm.Cond.declares ({ cls := "java/lang/Throwable", name := "<init>", desc := "()V" } : Jvm.MethodName)) ∈ nwA := nA_of 196 (by decide +kernel) (by decide +kernel)
theorem wd197 : (Jvm.Cond.declares ({ cls := "java/lang/Throwable", name := "<init>", desc := "(Ljava/lang/String;)V" } : Jvm.MethodName)) ∈ nwA := nA_of 197 (by decide +kernel) (by decide +kernel)
theorem wd198 : (Jvm.Cond.selects "java/lang/IndexOutOfBoundsException" ({ cls := "java/lang/Throwable", name := "fillInStackTrace", desc := "(I)Ljava/lang/Throwable;" } : Jvm.MethodName) ({ cls := "java/lang/Throwable", name := "fillInStackTrace", desc := "(I)Ljava/lang/Throwable;" } : Jvm.MethodName)) ∈ wsA := wA_of 198 (by decide +kernel) (by decide +kernel)
theorem wd199 : (Jvm.Cond.selects "java/lang/IndexOutOfBoundsException" ({ cls := "java/lang/Throwable", name := "fillInStackTrace", desc := "()Ljava/lang/Throwable;" } : Jvm.MethodName) ({ cls := "java/lang/Throwable", name := "fillInStackTrace", desc := "()Ljava/lang/Throwable;" } : Jvm.MethodName)) ∈ wsA := wA_of 199 (by decide +kernel) (by decide +kernel)
theorem wd200 : (Jvm.Cond.lays "java/lang/IndexOutOfBoundsException" "java/lang/Throwable" "cause" "Ljava/lang/Throwable;") ∈ wsA := wA_of 200 (by decide +kernel) (by decide +kernel)
theorem wd201 : (Jvm.Cond.lays "java/lang/Throwable" "java/lang/Throwable" "cause" "Ljava/lang/Throwable;") ∈ wsA := wA_of 201 (by decide +kernel) (by decide +kernel)
theorem wd202 : (Jvm.Cond.lays "java/lang/IndexOutOfBoundsException" "java/lang/Throwable" "stackTrace" "[Ljava/lang/StackTraceElement;") ∈ wsA := wA_of 202 (by decide +kernel) (by decide +kernel)
theorem wd203 : (Jvm.Cond.lays "java/lang/Throwable" "java/lang/Throwable" "stackTrace" "[Ljava/lang/StackTraceElement;") ∈ wsA := wA_of 203 (by decide +kernel) (by decide +kernel)
theorem wd204 : (Jvm.Cond.lays "java/lang/IndexOutOfBoundsException" "java/lang/Throwable" "suppressedExceptions" "Ljava/util/List;") ∈ wsA := wA_of 204 (by decide +kernel) (by decide +kernel)
theorem wd205 : (Jvm.Cond.lays "java/lang/Throwable" "java/lang/Throwable" "suppressedExceptions" "Ljava/util/List;") ∈ wsA := wA_of 205 (by decide +kernel) (by decide +kernel)
theorem wd206 : (Jvm.Cond.lays "java/lang/IndexOutOfBoundsException" "java/lang/Throwable" "detailMessage" "Ljava/lang/String;") ∈ wsA := wA_of 206 (by decide +kernel) (by decide +kernel)
theorem wd207 : (Jvm.Cond.lays "java/lang/Throwable" "java/lang/Throwable" "detailMessage" "Ljava/lang/String;") ∈ wsA := wA_of 207 (by decide +kernel) (by decide +kernel)
theorem wd208 : (Jvm.Cond.lays "java/lang/IndexOutOfBoundsException" "java/lang/Throwable" "backtrace" "Ljava/lang/Object;") ∈ wsA := wA_of 208 (by decide +kernel) (by decide +kernel)
theorem wd209 : (Jvm.Cond.lays "java/lang/Throwable" "java/lang/Throwable" "backtrace" "Ljava/lang/Object;") ∈ wsA := wA_of 209 (by decide +kernel) (by decide +kernel)
theorem wd210 : (Jvm.Cond.fieldLink "java/lang/Throwable" (198 : Nat) "java/lang/Throwable" "backtrace" "Ljava/lang/Object;") ∈ wsA := wA_of 210 (by decide +kernel) (by decide +kernel)
theorem wd212 : (Jvm.Cond.instanceMethod ({ cls := "java/lang/Throwable", name := "<init>", desc := "()V" } : Jvm.MethodName)) ∈ wsA := wA_of 212 (by decide +kernel) (by decide +kernel)
theorem wd213 : (Jvm.Cond.code ({ cls := "java/lang/Throwable", name := "<init>", desc := "()V" } : Jvm.MethodName) prog_16_method_1_code (1 : Nat) (Option.none : Option Jvm.ClassFile.FieldType)) ∈ wsA := wA_of 213 (by decide +kernel) (by decide +kernel)
theorem wd214 : (Jvm.Cond.methodLink "java/lang/Throwable" (1 : Nat) ({ cls := "java/lang/Object", name := "<init>", desc := "()V" } : Jvm.MethodName)) ∈ wsA := wA_of 214 (by decide +kernel) (by decide +kernel)
theorem wd215 : (Jvm.Cond.fieldLink "java/lang/Throwable" (13 : Nat) "java/lang/Throwable" "UNASSIGNED_STACK" "[Ljava/lang/StackTraceElement;") ∈ wsA := wA_of 215 (by decide +kernel) (by decide +kernel)
theorem wd217 : (Jvm.Cond.fieldLink "java/lang/Throwable" (20 : Nat) "java/lang/Throwable" "SUPPRESSED_SENTINEL" "Ljava/util/List;") ∈ wsA := wA_of 217 (by decide +kernel) (by decide +kernel)
theorem wd219 : (Jvm.Cond.methodLink "java/lang/Throwable" (27 : Nat) ({ cls := "java/lang/Throwable", name := "fillInStackTrace", desc := "()Ljava/lang/Throwable;" } : Jvm.MethodName)) ∈ wsA := wA_of 219 (by decide +kernel) (by decide +kernel)
theorem wd220 : (Jvm.Cond.instanceMethod ({ cls := "java/lang/Throwable", name := "fillInStackTrace", desc := "()Ljava/lang/Throwable;" } : Jvm.MethodName)) ∈ wsA := wA_of 220 (by decide +kernel) (by decide +kernel)
theorem wd222 : (Jvm.Cond.selects "java/lang/IllegalArgumentException" ({ cls := "java/lang/Throwable", name := "fillInStackTrace", desc := "()Ljava/lang/Throwable;" } : Jvm.MethodName) ({ cls := "java/lang/Throwable", name := "fillInStackTrace", desc := "()Ljava/lang/Throwable;" } : Jvm.MethodName)) ∈ wsA := wA_of 222 (by decide +kernel) (by decide +kernel)
theorem wd223 : (Jvm.Cond.selects "java/lang/IllegalStateException" ({ cls := "java/lang/Throwable", name := "fillInStackTrace", desc := "()Ljava/lang/Throwable;" } : Jvm.MethodName) ({ cls := "java/lang/Throwable", name := "fillInStackTrace", desc := "()Ljava/lang/Throwable;" } : Jvm.MethodName)) ∈ wsA := wA_of 223 (by decide +kernel) (by decide +kernel)
theorem wd225 : (Jvm.Cond.methodLink "java/lang/Throwable" (202 : Nat) ({ cls := "java/lang/Throwable", name := "fillInStackTrace", desc := "(I)Ljava/lang/Throwable;" } : Jvm.MethodName)) ∈ wsA := wA_of 225 (by decide +kernel) (by decide +kernel)
theorem wd227 : (Jvm.Cond.instanceMethod ({ cls := "java/lang/Throwable", name := "fillInStackTrace", desc := "(I)Ljava/lang/Throwable;" } : Jvm.MethodName)) ∈ wsA := wA_of 227 (by decide +kernel) (by decide +kernel)
theorem wd228 : (Jvm.Cond.instantiable "java/lang/Throwable" (6 : Nat)) ∈ wsA := wA_of 228 (by decide +kernel) (by decide +kernel)
theorem wd229 : (Jvm.Cond.native ({ cls := "java/lang/Throwable", name := "fillInStackTrace", desc := "(I)Ljava/lang/Throwable;" } : Jvm.MethodName)) ∈ wsA := wA_of 229 (by decide +kernel) (by decide +kernel)
theorem wd231 : (Jvm.Cond.methodLink "SignMasons" (134 : Nat) ({ cls := "java/lang/IndexOutOfBoundsException", name := "<init>", desc := "(Ljava/lang/String;)V" } : Jvm.MethodName)) ∈ wsA := wA_of 231 (by decide +kernel) (by decide +kernel)
theorem wd232 : (Jvm.Cond.instanceMethod ({ cls := "java/lang/IndexOutOfBoundsException", name := "<init>", desc := "(Ljava/lang/String;)V" } : Jvm.MethodName)) ∈ wsA := wA_of 232 (by decide +kernel) (by decide +kernel)
theorem wd233 : (Jvm.Cond.code ({ cls := "java/lang/IndexOutOfBoundsException", name := "<init>", desc := "(Ljava/lang/String;)V" } : Jvm.MethodName) prog_10_method_2_code (2 : Nat) (Option.none : Option Jvm.ClassFile.FieldType)) ∈ wsA := wA_of 233 (by decide +kernel) (by decide +kernel)
theorem wd234 : (Jvm.Cond.methodLink "java/lang/IndexOutOfBoundsException" (7 : Nat) ({ cls := "java/lang/RuntimeException", name := "<init>", desc := "(Ljava/lang/String;)V" } : Jvm.MethodName)) ∈ wsA := wA_of 234 (by decide +kernel) (by decide +kernel)
theorem wd235 : (Jvm.Cond.instanceMethod ({ cls := "java/lang/RuntimeException", name := "<init>", desc := "(Ljava/lang/String;)V" } : Jvm.MethodName)) ∈ wsA := wA_of 235 (by decide +kernel) (by decide +kernel)
theorem wd236 : (Jvm.Cond.code ({ cls := "java/lang/RuntimeException", name := "<init>", desc := "(Ljava/lang/String;)V" } : Jvm.MethodName) prog_13_method_2_code (2 : Nat) (Option.none : Option Jvm.ClassFile.FieldType)) ∈ wsA := wA_of 236 (by decide +kernel) (by decide +kernel)
theorem wd237 : (Jvm.Cond.methodLink "java/lang/RuntimeException" (7 : Nat) ({ cls := "java/lang/Exception", name := "<init>", desc := "(Ljava/lang/String;)V" } : Jvm.MethodName)) ∈ wsA := wA_of 237 (by decide +kernel) (by decide +kernel)
theorem wd238 : (Jvm.Cond.instanceMethod ({ cls := "java/lang/Exception", name := "<init>", desc := "(Ljava/lang/String;)V" } : Jvm.MethodName)) ∈ wsA := wA_of 238 (by decide +kernel) (by decide +kernel)
theorem wd239 : (Jvm.Cond.code ({ cls := "java/lang/Exception", name := "<init>", desc := "(Ljava/lang/String;)V" } : Jvm.MethodName) prog_7_method_2_code (2 : Nat) (Option.none : Option Jvm.ClassFile.FieldType)) ∈ wsA := wA_of 239 (by decide +kernel) (by decide +kernel)
theorem wd240 : (Jvm.Cond.methodLink "java/lang/Exception" (7 : Nat) ({ cls := "java/lang/Throwable", name := "<init>", desc := "(Ljava/lang/String;)V" } : Jvm.MethodName)) ∈ wsA := wA_of 240 (by decide +kernel) (by decide +kernel)
theorem wd241 : (Jvm.Cond.instanceMethod ({ cls := "java/lang/Throwable", name := "<init>", desc := "(Ljava/lang/String;)V" } : Jvm.MethodName)) ∈ wsA := wA_of 241 (by decide +kernel) (by decide +kernel)
theorem wd242 : (Jvm.Cond.code ({ cls := "java/lang/Throwable", name := "<init>", desc := "(Ljava/lang/String;)V" } : Jvm.MethodName) prog_16_method_2_code (2 : Nat) (Option.none : Option Jvm.ClassFile.FieldType)) ∈ wsA := wA_of 242 (by decide +kernel) (by decide +kernel)
theorem wd243 : (Jvm.Cond.fieldLink "java/lang/Throwable" (198 : Nat) "java/lang/Throwable" "backtrace" "Ljava/lang/Object;") ∈ wsA := wA_of 243 (by decide +kernel) (by decide +kernel)
theorem wd244 : (Jvm.Cond.fieldLink "java/lang/Throwable" (31 : Nat) "java/lang/Throwable" "detailMessage" "Ljava/lang/String;") ∈ wsA := wA_of 244 (by decide +kernel) (by decide +kernel)
theorem wd245 : (Jvm.Cond.fieldLink "java/lang/Throwable" (7 : Nat) "java/lang/Throwable" "cause" "Ljava/lang/Throwable;") ∈ wsA := wA_of 245 (by decide +kernel) (by decide +kernel)
theorem wd246 : (Jvm.Cond.fieldLink "java/lang/Throwable" (17 : Nat) "java/lang/Throwable" "stackTrace" "[Ljava/lang/StackTraceElement;") ∈ wsA := wA_of 246 (by decide +kernel) (by decide +kernel)
theorem wd247 : (Jvm.Cond.fieldLink "java/lang/Throwable" (24 : Nat) "java/lang/Throwable" "suppressedExceptions" "Ljava/util/List;") ∈ wsA := wA_of 247 (by decide +kernel) (by decide +kernel)
theorem wd252 : (Jvm.Cond.lays "java/lang/IndexOutOfBoundsException" "java/lang/Throwable" "depth" "I") ∈ wsA := wA_of 252 (by decide +kernel) (by decide +kernel)
theorem wd256 : (Jvm.Cond.arrayClass Jvm.ClassFile.FieldType.byte) ∈ wsA := wA_of 256 (by decide +kernel) (by decide +kernel)
theorem wd257 : (Jvm.Cond.methodLink "SignMasons" (170 : Nat) ({ cls := "SignMasons", name := "tryLoan", desc := "(LSignMasons$Book;ILSignMasons$Book;)Z" } : Jvm.MethodName)) ∈ wsA := wA_of 257 (by decide +kernel) (by decide +kernel)
theorem wd259 : (Jvm.Cond.instanceMethod ({ cls := "SignMasons", name := "tryLoan", desc := "(LSignMasons$Book;ILSignMasons$Book;)Z" } : Jvm.MethodName)) ∈ wsA := wA_of 259 (by decide +kernel) (by decide +kernel)
theorem wd260 : (Jvm.Cond.code ({ cls := "SignMasons", name := "tryLoan", desc := "(LSignMasons$Book;ILSignMasons$Book;)Z" } : Jvm.MethodName) prog_1_method_36_code (6 : Nat) (Option.some Jvm.ClassFile.FieldType.boolean)) ∈ wsA := wA_of 260 (by decide +kernel) (by decide +kernel)
theorem wd261 : (Jvm.Cond.methodLinkNest "SignMasons" (57 : Nat) ({ cls := "SignMasons$Book", name := "hasRoomFor", desc := "(I)Z" } : Jvm.MethodName) "SignMasons") ∈ nwA := nA_of 261 (by decide +kernel) (by decide +kernel)
theorem wd263 : (Jvm.Cond.instanceMethod ({ cls := "SignMasons$Book", name := "hasRoomFor", desc := "(I)Z" } : Jvm.MethodName)) ∈ wsA := wA_of 263 (by decide +kernel) (by decide +kernel)
theorem wd264 : (Jvm.Cond.code ({ cls := "SignMasons$Book", name := "hasRoomFor", desc := "(I)Z" } : Jvm.MethodName) prog_2_method_3_code (2 : Nat) (Option.some Jvm.ClassFile.FieldType.boolean)) ∈ wsA := wA_of 264 (by decide +kernel) (by decide +kernel)
theorem wd265 : (Jvm.Cond.methodLink "SignMasons$Book" (32 : Nat) ({ cls := "SignMasons$Book", name := "find", desc := "(I)I" } : Jvm.MethodName)) ∈ wsA := wA_of 265 (by decide +kernel) (by decide +kernel)
theorem wd267 : (Jvm.Cond.instanceMethod ({ cls := "SignMasons$Book", name := "find", desc := "(I)I" } : Jvm.MethodName)) ∈ wsA := wA_of 267 (by decide +kernel) (by decide +kernel)
theorem wd268 : (Jvm.Cond.code ({ cls := "SignMasons$Book", name := "find", desc := "(I)I" } : Jvm.MethodName) prog_2_method_6_code (3 : Nat) (Option.some Jvm.ClassFile.FieldType.int)) ∈ wsA := wA_of 268 (by decide +kernel) (by decide +kernel)
theorem wd269 : (Jvm.Cond.methodLinkNest "SignMasons" (109 : Nat) ({ cls := "SignMasons$Book", name := "firstUnlike", desc := "(I)I" } : Jvm.MethodName) "SignMasons") ∈ nwA := nA_of 269 (by decide +kernel) (by decide +kernel)
theorem wd271 : (Jvm.Cond.instanceMethod ({ cls := "SignMasons$Book", name := "firstUnlike", desc := "(I)I" } : Jvm.MethodName)) ∈ wsA := wA_of 271 (by decide +kernel) (by decide +kernel)
theorem wd272 : (Jvm.Cond.code ({ cls := "SignMasons$Book", name := "firstUnlike", desc := "(I)I" } : Jvm.MethodName) prog_2_method_8_code (5 : Nat) (Option.some Jvm.ClassFile.FieldType.int)) ∈ wsA := wA_of 272 (by decide +kernel) (by decide +kernel)
theorem wd273 : (Jvm.Cond.methodLinkNest "SignMasons$Book" (47 : Nat) ({ cls := "SignMasons$Look", name := "withThumb", desc := "(II)I" } : Jvm.MethodName) "SignMasons") ∈ nwA := nA_of 273 (by decide +kernel) (by decide +kernel)
theorem wd274 : (Jvm.Cond.static ({ cls := "SignMasons$Look", name := "withThumb", desc := "(II)I" } : Jvm.MethodName)) ∈ wsA := wA_of 274 (by decide +kernel) (by decide +kernel)
theorem wd275 : (Jvm.Cond.code ({ cls := "SignMasons$Look", name := "withThumb", desc := "(II)I" } : Jvm.MethodName) prog_3_method_7_code (2 : Nat) (Option.some Jvm.ClassFile.FieldType.int)) ∈ wsA := wA_of 275 (by decide +kernel) (by decide +kernel)
theorem wd276 : (Jvm.Cond.methodLink "SignMasons$Book" (51 : Nat) ({ cls := "SignMasons$Book", name := "hasAlike", desc := "(I)Z" } : Jvm.MethodName)) ∈ wsA := wA_of 276 (by decide +kernel) (by decide +kernel)
theorem wd278 : (Jvm.Cond.instanceMethod ({ cls := "SignMasons$Book", name := "hasAlike", desc := "(I)Z" } : Jvm.MethodName)) ∈ wsA := wA_of 278 (by decide +kernel) (by decide +kernel)
theorem wd279 : (Jvm.Cond.code ({ cls := "SignMasons$Book", name := "hasAlike", desc := "(I)Z" } : Jvm.MethodName) prog_2_method_7_code (3 : Nat) (Option.some Jvm.ClassFile.FieldType.boolean)) ∈ wsA := wA_of 279 (by decide +kernel) (by decide +kernel)
theorem wd280 : (Jvm.Cond.methodLinkNest "SignMasons" (195 : Nat) ({ cls := "SignMasons$Book", name := "copyFrom", desc := "(LSignMasons$Book;)V" } : Jvm.MethodName) "SignMasons") ∈ nwA := nA_of 280 (by decide +kernel) (by decide +kernel)
theorem wd282 : (Jvm.Cond.instanceMethod ({ cls := "SignMasons$Book", name := "copyFrom", desc := "(LSignMasons$Book;)V" } : Jvm.MethodName)) ∈ wsA := wA_of 282 (by decide +kernel) (by decide +kernel)
theorem wd283 : (Jvm.Cond.code ({ cls := "SignMasons$Book", name := "copyFrom", desc := "(LSignMasons$Book;)V" } : Jvm.MethodName) prog_2_method_2_code (2 : Nat) (Option.none : Option Jvm.ClassFile.FieldType)) ∈ wsA := wA_of 283 (by decide +kernel) (by decide +kernel)
theorem wd284 : (Jvm.Cond.methodLink "SignMasons$Book" (26 : Nat) ({ cls := "java/lang/System", name := "arraycopy", desc := "(Ljava/lang/Object;ILjava/lang/Object;II)V" } : Jvm.MethodName)) ∈ wsA := wA_of 284 (by decide +kernel) (by decide +kernel)
theorem wd285 : (Jvm.Cond.static ({ cls := "java/lang/System", name := "arraycopy", desc := "(Ljava/lang/Object;ILjava/lang/Object;II)V" } : Jvm.MethodName)) ∈ wsA := wA_of 285 (by decide +kernel) (by decide +kernel)
theorem wd286 : (Jvm.Cond.native ({ cls := "java/lang/System", name := "arraycopy", desc := "(Ljava/lang/Object;ILjava/lang/Object;II)V" } : Jvm.MethodName)) ∈ wsA := wA_of 286 (by decide +kernel) (by decide +kernel)
theorem wd287 : (Jvm.Cond.methodLinkNest "SignMasons" (69 : Nat) ({ cls := "SignMasons$Book", name := "append", desc := "(II)I" } : Jvm.MethodName) "SignMasons") ∈ nwA := nA_of 287 (by decide +kernel) (by decide +kernel)
theorem wd289 : (Jvm.Cond.instanceMethod ({ cls := "SignMasons$Book", name := "append", desc := "(II)I" } : Jvm.MethodName)) ∈ wsA := wA_of 289 (by decide +kernel) (by decide +kernel)
theorem wd290 : (Jvm.Cond.code ({ cls := "SignMasons$Book", name := "append", desc := "(II)I" } : Jvm.MethodName) prog_2_method_4_code (4 : Nat) (Option.some Jvm.ClassFile.FieldType.int)) ∈ wsA := wA_of 290 (by decide +kernel) (by decide +kernel)
theorem wd291 : (Jvm.Cond.methodLink "SignMasons" (190 : Nat) ({ cls := "SignMasons", name := "mixSigns", desc := "(JLSignMasons$Book;)J" } : Jvm.MethodName)) ∈ wsA := wA_of 291 (by decide +kernel) (by decide +kernel)
theorem wd292 : (Jvm.Cond.static ({ cls := "SignMasons", name := "mixSigns", desc := "(JLSignMasons$Book;)J" } : Jvm.MethodName)) ∈ wsA := wA_of 292 (by decide +kernel) (by decide +kernel)
theorem wd293 : (Jvm.Cond.code ({ cls := "SignMasons", name := "mixSigns", desc := "(JLSignMasons$Book;)J" } : Jvm.MethodName) prog_1_method_35_code (7 : Nat) (Option.some Jvm.ClassFile.FieldType.long)) ∈ wsA := wA_of 293 (by decide +kernel) (by decide +kernel)
theorem wd294 : (Jvm.Cond.methodLinkNest "SignMasons" (126 : Nat) ({ cls := "SignMasons$Look", name := "shape", desc := "(I)I" } : Jvm.MethodName) "SignMasons") ∈ nwA := nA_of 294 (by decide +kernel) (by decide +kernel)
theorem wd295 : (Jvm.Cond.methodLinkNest "SignMasons" (87 : Nat) ({ cls := "SignMasons$Look", name := "thumb", desc := "(I)I" } : Jvm.MethodName) "SignMasons") ∈ nwA := nA_of 295 (by decide +kernel) (by decide +kernel)
theorem wd296 : (Jvm.Cond.methodLinkNest "SignMasons" (129 : Nat) ({ cls := "SignMasons$Look", name := "place", desc := "(I)I" } : Jvm.MethodName) "SignMasons") ∈ nwA := nA_of 296 (by decide +kernel) (by decide +kernel)
theorem wd297 : (Jvm.Cond.methodLinkNest "SignMasons" (167 : Nat) ({ cls := "SignMasons$Book", name := "thumbFarthest", desc := "(I)I" } : Jvm.MethodName) "SignMasons") ∈ nwA := nA_of 297 (by decide +kernel) (by decide +kernel)
theorem wd299 : (Jvm.Cond.instanceMethod ({ cls := "SignMasons$Book", name := "thumbFarthest", desc := "(I)I" } : Jvm.MethodName)) ∈ wsA := wA_of 299 (by decide +kernel) (by decide +kernel)
theorem wd300 : (Jvm.Cond.code ({ cls := "SignMasons$Book", name := "thumbFarthest", desc := "(I)I" } : Jvm.MethodName) prog_2_method_16_code (7 : Nat) (Option.some Jvm.ClassFile.FieldType.int)) ∈ wsA := wA_of 300 (by decide +kernel) (by decide +kernel)
theorem wd301 : (Jvm.Cond.methodLink "SignMasonsLaw" (107 : Nat) ({ cls := "SignMasonsLaw", name := "addLodge", desc := "(LSignMasons;[J)I" } : Jvm.MethodName)) ∈ wsA := wA_of 301 (by decide +kernel) (by decide +kernel)
theorem wd302 : (Jvm.Cond.static ({ cls := "SignMasonsLaw", name := "addLodge", desc := "(LSignMasons;[J)I" } : Jvm.MethodName)) ∈ wsA := wA_of 302 (by decide +kernel) (by decide +kernel)
theorem wd303 : (Jvm.Cond.codeWith ({ cls := "SignMasonsLaw", name := "addLodge", desc := "(LSignMasons;[J)I" } : Jvm.MethodName) method_3_code (3 : Nat) (Option.some Jvm.ClassFile.FieldType.int) [((0 : Nat), (8 : Nat), (11 : Nat), (13 : Nat))]) ∈ wsA := wA_of 303 (by decide +kernel) (by decide +kernel)
theorem wd304 : (Jvm.Cond.classLink "SignMasonsLaw" (13 : Nat) "java/lang/IllegalStateException") ∈ wsA := wA_of 304 (by decide +kernel) (by decide +kernel)
theorem wd305 : (Jvm.Cond.methodLink "SignMasonsLaw" (7 : Nat) ({ cls := "SignMasons", name := "addLodge", desc := "()I" } : Jvm.MethodName)) ∈ wsA := wA_of 305 (by decide +kernel) (by decide +kernel)
theorem wd306 : (Jvm.Cond.instanceMethod ({ cls := "SignMasons", name := "addLodge", desc := "()I" } : Jvm.MethodName)) ∈ wsA := wA_of 306 (by decide +kernel) (by decide +kernel)
theorem wd307 : (Jvm.Cond.selects "SignMasons" ({ cls := "SignMasons", name := "addLodge", desc := "()I" } : Jvm.MethodName) ({ cls := "SignMasons", name := "addLodge", desc := "()I" } : Jvm.MethodName)) ∈ wsA := wA_of 307 (by decide +kernel) (by decide +kernel)
theorem wd308 : (Jvm.Cond.code ({ cls := "SignMasons", name := "addLodge", desc := "()I" } : Jvm.MethodName) prog_1_method_2_code (1 : Nat) (Option.some Jvm.ClassFile.FieldType.int)) ∈ wsA := wA_of 308 (by decide +kernel) (by decide +kernel)
theorem wd309 : (Jvm.Cond.classLink "SignMasons" (33 : Nat) "java/lang/IllegalStateException") ∈ wsA := wA_of 309 (by decide +kernel) (by decide +kernel)
theorem wd310 : (Jvm.Cond.instantiable "java/lang/IllegalStateException" (6 : Nat)) ∈ wsA := wA_of 310 (by decide +kernel) (by decide +kernel)
theorem wd311 : (Jvm.Cond.castable "java/lang/IllegalStateException" "java/lang/IllegalStateException") ∈ nwA := nA_of 311 (by decide +kernel) (by decide +kernel)
theorem wd312 : (Jvm.Cond.selects "java/lang/IllegalStateException" ({ cls := "java/lang/Throwable", name := "fillInStackTrace", desc := "(I)Ljava/lang/Throwable;" } : Jvm.MethodName) ({ cls := "java/lang/Throwable", name := "fillInStackTrace", desc := "(I)Ljava/lang/Throwable;" } : Jvm.MethodName)) ∈ wsA := wA_of 312 (by decide +kernel) (by decide +kernel)
theorem wd313 : (Jvm.Cond.lays "java/lang/IllegalStateException" "java/lang/Throwable" "cause" "Ljava/lang/Throwable;") ∈ wsA := wA_of 313 (by decide +kernel) (by decide +kernel)
theorem wd314 : (Jvm.Cond.lays "java/lang/IllegalStateException" "java/lang/Throwable" "stackTrace" "[Ljava/lang/StackTraceElement;") ∈ wsA := wA_of 314 (by decide +kernel) (by decide +kernel)
theorem wd315 : (Jvm.Cond.lays "java/lang/IllegalStateException" "java/lang/Throwable" "suppressedExceptions" "Ljava/util/List;") ∈ wsA := wA_of 315 (by decide +kernel) (by decide +kernel)
theorem wd316 : (Jvm.Cond.lays "java/lang/IllegalStateException" "java/lang/Throwable" "detailMessage" "Ljava/lang/String;") ∈ wsA := wA_of 316 (by decide +kernel) (by decide +kernel)
theorem wd317 : (Jvm.Cond.lays "java/lang/IllegalStateException" "java/lang/Throwable" "backtrace" "Ljava/lang/Object;") ∈ wsA := wA_of 317 (by decide +kernel) (by decide +kernel)
theorem wd319 : (Jvm.Cond.methodLink "SignMasons" (37 : Nat) ({ cls := "java/lang/IllegalStateException", name := "<init>", desc := "(Ljava/lang/String;)V" } : Jvm.MethodName)) ∈ wsA := wA_of 319 (by decide +kernel) (by decide +kernel)
theorem wd320 : (Jvm.Cond.instanceMethod ({ cls := "java/lang/IllegalStateException", name := "<init>", desc := "(Ljava/lang/String;)V" } : Jvm.MethodName)) ∈ wsA := wA_of 320 (by decide +kernel) (by decide +kernel)
theorem wd321 : (Jvm.Cond.code ({ cls := "java/lang/IllegalStateException", name := "<init>", desc := "(Ljava/lang/String;)V" } : Jvm.MethodName) prog_9_method_2_code (2 : Nat) (Option.none : Option Jvm.ClassFile.FieldType)) ∈ wsA := wA_of 321 (by decide +kernel) (by decide +kernel)
theorem wd322 : (Jvm.Cond.methodLink "java/lang/IllegalStateException" (7 : Nat) ({ cls := "java/lang/RuntimeException", name := "<init>", desc := "(Ljava/lang/String;)V" } : Jvm.MethodName)) ∈ wsA := wA_of 322 (by decide +kernel) (by decide +kernel)
theorem wd323 : (Jvm.Cond.lays "java/lang/IllegalStateException" "java/lang/Throwable" "depth" "I") ∈ wsA := wA_of 323 (by decide +kernel) (by decide +kernel)
theorem wd325 : (Jvm.Cond.methodLink "SignMasonsLaw" (116 : Nat) ({ cls := "SignMasonsLaw", name := "addSign", desc := "(LSignMasons;IIIIII[J)I" } : Jvm.MethodName)) ∈ wsA := wA_of 325 (by decide +kernel) (by decide +kernel)
theorem wd326 : (Jvm.Cond.static ({ cls := "SignMasonsLaw", name := "addSign", desc := "(LSignMasons;IIIIII[J)I" } : Jvm.MethodName)) ∈ wsA := wA_of 326 (by decide +kernel) (by decide +kernel)
theorem wd327 : (Jvm.Cond.codeWith ({ cls := "SignMasonsLaw", name := "addSign", desc := "(LSignMasons;IIIIII[J)I" } : Jvm.MethodName) method_4_code (9 : Nat) (Option.some Jvm.ClassFile.FieldType.int) [((0 : Nat), (18 : Nat), (21 : Nat), (19 : Nat)), ((0 : Nat), (18 : Nat), (25 : Nat), (21 : Nat)), ((0 : Nat), (18 : Nat), (29 : Nat), (13 : Nat))]) ∈ wsA := wA_of 327 (by decide +kernel) (by decide +kernel)
theorem wd328 : (Jvm.Cond.classLink "SignMasonsLaw" (19 : Nat) "java/lang/IndexOutOfBoundsException") ∈ wsA := wA_of 328 (by decide +kernel) (by decide +kernel)
theorem wd329 : (Jvm.Cond.classLink "SignMasonsLaw" (21 : Nat) "java/lang/IllegalArgumentException") ∈ wsA := wA_of 329 (by decide +kernel) (by decide +kernel)
theorem wd330 : (Jvm.Cond.methodLink "SignMasonsLaw" (15 : Nat) ({ cls := "SignMasons", name := "addSign", desc := "(IIIIII)I" } : Jvm.MethodName)) ∈ wsA := wA_of 330 (by decide +kernel) (by decide +kernel)
theorem wd331 : (Jvm.Cond.instanceMethod ({ cls := "SignMasons", name := "addSign", desc := "(IIIIII)I" } : Jvm.MethodName)) ∈ wsA := wA_of 331 (by decide +kernel) (by decide +kernel)
theorem wd332 : (Jvm.Cond.selects "SignMasons" ({ cls := "SignMasons", name := "addSign", desc := "(IIIIII)I" } : Jvm.MethodName) ({ cls := "SignMasons", name := "addSign", desc := "(IIIIII)I" } : Jvm.MethodName)) ∈ wsA := wA_of 332 (by decide +kernel) (by decide +kernel)
theorem wd333 : (Jvm.Cond.code ({ cls := "SignMasons", name := "addSign", desc := "(IIIIII)I" } : Jvm.MethodName) prog_1_method_3_code (8 : Nat) (Option.some Jvm.ClassFile.FieldType.int)) ∈ wsA := wA_of 333 (by decide +kernel) (by decide +kernel)
theorem wd334 : (Jvm.Cond.methodLink "SignMasons" (44 : Nat) ({ cls := "SignMasons", name := "checkLook", desc := "(IIII)V" } : Jvm.MethodName)) ∈ wsA := wA_of 334 (by decide +kernel) (by decide +kernel)
theorem wd335 : (Jvm.Cond.static ({ cls := "SignMasons", name := "checkLook", desc := "(IIII)V" } : Jvm.MethodName)) ∈ wsA := wA_of 335 (by decide +kernel) (by decide +kernel)
theorem wd336 : (Jvm.Cond.code ({ cls := "SignMasons", name := "checkLook", desc := "(IIII)V" } : Jvm.MethodName) prog_1_method_42_code (4 : Nat) (Option.none : Option Jvm.ClassFile.FieldType)) ∈ wsA := wA_of 336 (by decide +kernel) (by decide +kernel)
theorem wd337 : (Jvm.Cond.classLink "SignMasons" (52 : Nat) "java/lang/IllegalArgumentException") ∈ wsA := wA_of 337 (by decide +kernel) (by decide +kernel)
theorem wd338 : (Jvm.Cond.instantiable "java/lang/IllegalArgumentException" (6 : Nat)) ∈ wsA := wA_of 338 (by decide +kernel) (by decide +kernel)
theorem wd339 : (Jvm.Cond.castable "java/lang/IllegalArgumentException" "java/lang/IllegalArgumentException") ∈ nwA := nA_of 339 (by decide +kernel) (by decide +kernel)
theorem wd340 : (Jvm.Cond.selects "java/lang/IllegalArgumentException" ({ cls := "java/lang/Throwable", name := "fillInStackTrace", desc := "(I)Ljava/lang/Throwable;" } : Jvm.MethodName) ({ cls := "java/lang/Throwable", name := "fillInStackTrace", desc := "(I)Ljava/lang/Throwable;" } : Jvm.MethodName)) ∈ wsA := wA_of 340 (by decide +kernel) (by decide +kernel)
theorem wd341 : (Jvm.Cond.lays "java/lang/IllegalArgumentException" "java/lang/Throwable" "cause" "Ljava/lang/Throwable;") ∈ wsA := wA_of 341 (by decide +kernel) (by decide +kernel)
theorem wd342 : (Jvm.Cond.lays "java/lang/IllegalArgumentException" "java/lang/Throwable" "stackTrace" "[Ljava/lang/StackTraceElement;") ∈ wsA := wA_of 342 (by decide +kernel) (by decide +kernel)
theorem wd343 : (Jvm.Cond.lays "java/lang/IllegalArgumentException" "java/lang/Throwable" "suppressedExceptions" "Ljava/util/List;") ∈ wsA := wA_of 343 (by decide +kernel) (by decide +kernel)
theorem wd344 : (Jvm.Cond.lays "java/lang/IllegalArgumentException" "java/lang/Throwable" "detailMessage" "Ljava/lang/String;") ∈ wsA := wA_of 344 (by decide +kernel) (by decide +kernel)
theorem wd345 : (Jvm.Cond.lays "java/lang/IllegalArgumentException" "java/lang/Throwable" "backtrace" "Ljava/lang/Object;") ∈ wsA := wA_of 345 (by decide +kernel) (by decide +kernel)
theorem wd347 : (Jvm.Cond.methodLink "SignMasons" (56 : Nat) ({ cls := "java/lang/IllegalArgumentException", name := "<init>", desc := "(Ljava/lang/String;)V" } : Jvm.MethodName)) ∈ wsA := wA_of 347 (by decide +kernel) (by decide +kernel)
theorem wd348 : (Jvm.Cond.instanceMethod ({ cls := "java/lang/IllegalArgumentException", name := "<init>", desc := "(Ljava/lang/String;)V" } : Jvm.MethodName)) ∈ wsA := wA_of 348 (by decide +kernel) (by decide +kernel)
theorem wd349 : (Jvm.Cond.code ({ cls := "java/lang/IllegalArgumentException", name := "<init>", desc := "(Ljava/lang/String;)V" } : Jvm.MethodName) prog_8_method_2_code (2 : Nat) (Option.none : Option Jvm.ClassFile.FieldType)) ∈ wsA := wA_of 349 (by decide +kernel) (by decide +kernel)
theorem wd350 : (Jvm.Cond.methodLink "java/lang/IllegalArgumentException" (7 : Nat) ({ cls := "java/lang/RuntimeException", name := "<init>", desc := "(Ljava/lang/String;)V" } : Jvm.MethodName)) ∈ wsA := wA_of 350 (by decide +kernel) (by decide +kernel)
theorem wd351 : (Jvm.Cond.lays "java/lang/IllegalArgumentException" "java/lang/Throwable" "depth" "I") ∈ wsA := wA_of 351 (by decide +kernel) (by decide +kernel)
theorem wd358 : (Jvm.Cond.methodLinkNest "SignMasons" (63 : Nat) ({ cls := "SignMasons$Look", name := "of", desc := "(IIII)I" } : Jvm.MethodName) "SignMasons") ∈ nwA := nA_of 358 (by decide +kernel) (by decide +kernel)
theorem wd359 : (Jvm.Cond.static ({ cls := "SignMasons$Look", name := "of", desc := "(IIII)I" } : Jvm.MethodName)) ∈ wsA := wA_of 359 (by decide +kernel) (by decide +kernel)
theorem wd360 : (Jvm.Cond.code ({ cls := "SignMasons$Look", name := "of", desc := "(IIII)I" } : Jvm.MethodName) prog_3_method_2_code (4 : Nat) (Option.some Jvm.ClassFile.FieldType.int)) ∈ wsA := wA_of 360 (by decide +kernel) (by decide +kernel)
theorem wd361 : (Jvm.Cond.methodLink "SignMasonsLaw" (120 : Nat) ({ cls := "SignMasonsLaw", name := "forget", desc := "(LSignMasons;II[J)I" } : Jvm.MethodName)) ∈ wsA := wA_of 361 (by decide +kernel) (by decide +kernel)
theorem wd362 : (Jvm.Cond.static ({ cls := "SignMasonsLaw", name := "forget", desc := "(LSignMasons;II[J)I" } : Jvm.MethodName)) ∈ wsA := wA_of 362 (by decide +kernel) (by decide +kernel)
theorem wd363 : (Jvm.Cond.codeWith ({ cls := "SignMasonsLaw", name := "forget", desc := "(LSignMasons;II[J)I" } : Jvm.MethodName) method_5_code (5 : Nat) (Option.some Jvm.ClassFile.FieldType.int) [((0 : Nat), (10 : Nat), (13 : Nat), (19 : Nat))]) ∈ wsA := wA_of 363 (by decide +kernel) (by decide +kernel)
theorem wd364 : (Jvm.Cond.methodLink "SignMasonsLaw" (23 : Nat) ({ cls := "SignMasons", name := "forget", desc := "(II)I" } : Jvm.MethodName)) ∈ wsA := wA_of 364 (by decide +kernel) (by decide +kernel)
theorem wd365 : (Jvm.Cond.instanceMethod ({ cls := "SignMasons", name := "forget", desc := "(II)I" } : Jvm.MethodName)) ∈ wsA := wA_of 365 (by decide +kernel) (by decide +kernel)
theorem wd366 : (Jvm.Cond.selects "SignMasons" ({ cls := "SignMasons", name := "forget", desc := "(II)I" } : Jvm.MethodName) ({ cls := "SignMasons", name := "forget", desc := "(II)I" } : Jvm.MethodName)) ∈ wsA := wA_of 366 (by decide +kernel) (by decide +kernel)
theorem wd367 : (Jvm.Cond.code ({ cls := "SignMasons", name := "forget", desc := "(II)I" } : Jvm.MethodName) prog_1_method_4_code (4 : Nat) (Option.some Jvm.ClassFile.FieldType.int)) ∈ wsA := wA_of 367 (by decide +kernel) (by decide +kernel)
theorem wd368 : (Jvm.Cond.methodLink "SignMasons" (73 : Nat) ({ cls := "SignMasons", name := "checkSign", desc := "(LSignMasons$Book;I)V" } : Jvm.MethodName)) ∈ wsA := wA_of 368 (by decide +kernel) (by decide +kernel)
theorem wd369 : (Jvm.Cond.static ({ cls := "SignMasons", name := "checkSign", desc := "(LSignMasons$Book;I)V" } : Jvm.MethodName)) ∈ wsA := wA_of 369 (by decide +kernel) (by decide +kernel)
theorem wd370 : (Jvm.Cond.code ({ cls := "SignMasons", name := "checkSign", desc := "(LSignMasons$Book;I)V" } : Jvm.MethodName) prog_1_method_40_code (2 : Nat) (Option.none : Option Jvm.ClassFile.FieldType)) ∈ wsA := wA_of 370 (by decide +kernel) (by decide +kernel)
theorem wd372 : (Jvm.Cond.methodLinkNest "SignMasons" (77 : Nat) ({ cls := "SignMasons$Book", name := "remove", desc := "(I)I" } : Jvm.MethodName) "SignMasons") ∈ nwA := nA_of 372 (by decide +kernel) (by decide +kernel)
theorem wd374 : (Jvm.Cond.instanceMethod ({ cls := "SignMasons$Book", name := "remove", desc := "(I)I" } : Jvm.MethodName)) ∈ wsA := wA_of 374 (by decide +kernel) (by decide +kernel)
theorem wd375 : (Jvm.Cond.code ({ cls := "SignMasons$Book", name := "remove", desc := "(I)I" } : Jvm.MethodName) prog_2_method_5_code (4 : Nat) (Option.some Jvm.ClassFile.FieldType.int)) ∈ wsA := wA_of 375 (by decide +kernel) (by decide +kernel)
theorem wd376 : (Jvm.Cond.methodLink "SignMasonsLaw" (124 : Nat) ({ cls := "SignMasonsLaw", name := "setThumb", desc := "(LSignMasons;III[J)I" } : Jvm.MethodName)) ∈ wsA := wA_of 376 (by decide +kernel) (by decide +kernel)
theorem wd377 : (Jvm.Cond.static ({ cls := "SignMasonsLaw", name := "setThumb", desc := "(LSignMasons;III[J)I" } : Jvm.MethodName)) ∈ wsA := wA_of 377 (by decide +kernel) (by decide +kernel)
theorem wd378 : (Jvm.Cond.codeWith ({ cls := "SignMasonsLaw", name := "setThumb", desc := "(LSignMasons;III[J)I" } : Jvm.MethodName) method_6_code (6 : Nat) (Option.some Jvm.ClassFile.FieldType.int) [((0 : Nat), (12 : Nat), (15 : Nat), (19 : Nat)), ((0 : Nat), (12 : Nat), (19 : Nat), (21 : Nat))]) ∈ wsA := wA_of 378 (by decide +kernel) (by decide +kernel)
theorem wd379 : (Jvm.Cond.methodLink "SignMasonsLaw" (27 : Nat) ({ cls := "SignMasons", name := "setThumb", desc := "(III)I" } : Jvm.MethodName)) ∈ wsA := wA_of 379 (by decide +kernel) (by decide +kernel)
theorem wd380 : (Jvm.Cond.instanceMethod ({ cls := "SignMasons", name := "setThumb", desc := "(III)I" } : Jvm.MethodName)) ∈ wsA := wA_of 380 (by decide +kernel) (by decide +kernel)
theorem wd381 : (Jvm.Cond.selects "SignMasons" ({ cls := "SignMasons", name := "setThumb", desc := "(III)I" } : Jvm.MethodName) ({ cls := "SignMasons", name := "setThumb", desc := "(III)I" } : Jvm.MethodName)) ∈ wsA := wA_of 381 (by decide +kernel) (by decide +kernel)
theorem wd382 : (Jvm.Cond.code ({ cls := "SignMasons", name := "setThumb", desc := "(III)I" } : Jvm.MethodName) prog_1_method_5_code (6 : Nat) (Option.some Jvm.ClassFile.FieldType.int)) ∈ wsA := wA_of 382 (by decide +kernel) (by decide +kernel)
theorem wd383 : (Jvm.Cond.methodLinkNest "SignMasons" (90 : Nat) ({ cls := "SignMasons$Look", name := "withThumb", desc := "(II)I" } : Jvm.MethodName) "SignMasons") ∈ nwA := nA_of 383 (by decide +kernel) (by decide +kernel)
theorem wd384 : (Jvm.Cond.methodLink "SignMasonsLaw" (128 : Nat) ({ cls := "SignMasonsLaw", name := "join", desc := "(LSignMasons;II[J)I" } : Jvm.MethodName)) ∈ wsA := wA_of 384 (by decide +kernel) (by decide +kernel)
theorem wd385 : (Jvm.Cond.static ({ cls := "SignMasonsLaw", name := "join", desc := "(LSignMasons;II[J)I" } : Jvm.MethodName)) ∈ wsA := wA_of 385 (by decide +kernel) (by decide +kernel)
theorem wd386 : (Jvm.Cond.codeWith ({ cls := "SignMasonsLaw", name := "join", desc := "(LSignMasons;II[J)I" } : Jvm.MethodName) method_7_code (5 : Nat) (Option.some Jvm.ClassFile.FieldType.int) [((0 : Nat), (10 : Nat), (13 : Nat), (19 : Nat))]) ∈ wsA := wA_of 386 (by decide +kernel) (by decide +kernel)
theorem wd387 : (Jvm.Cond.methodLink "SignMasonsLaw" (31 : Nat) ({ cls := "SignMasons", name := "join", desc := "(II)I" } : Jvm.MethodName)) ∈ wsA := wA_of 387 (by decide +kernel) (by decide +kernel)
theorem wd388 : (Jvm.Cond.instanceMethod ({ cls := "SignMasons", name := "join", desc := "(II)I" } : Jvm.MethodName)) ∈ wsA := wA_of 388 (by decide +kernel) (by decide +kernel)
theorem wd389 : (Jvm.Cond.selects "SignMasons" ({ cls := "SignMasons", name := "join", desc := "(II)I" } : Jvm.MethodName) ({ cls := "SignMasons", name := "join", desc := "(II)I" } : Jvm.MethodName)) ∈ wsA := wA_of 389 (by decide +kernel) (by decide +kernel)
theorem wd390 : (Jvm.Cond.code ({ cls := "SignMasons", name := "join", desc := "(II)I" } : Jvm.MethodName) prog_1_method_6_code (3 : Nat) (Option.some Jvm.ClassFile.FieldType.int)) ∈ wsA := wA_of 390 (by decide +kernel) (by decide +kernel)
theorem wd391 : (Jvm.Cond.methodLink "SignMasons" (93 : Nat) ({ cls := "SignMasons", name := "checkPlace", desc := "(I)V" } : Jvm.MethodName)) ∈ wsA := wA_of 391 (by decide +kernel) (by decide +kernel)
theorem wd392 : (Jvm.Cond.static ({ cls := "SignMasons", name := "checkPlace", desc := "(I)V" } : Jvm.MethodName)) ∈ wsA := wA_of 392 (by decide +kernel) (by decide +kernel)
theorem wd393 : (Jvm.Cond.code ({ cls := "SignMasons", name := "checkPlace", desc := "(I)V" } : Jvm.MethodName) prog_1_method_41_code (1 : Nat) (Option.none : Option Jvm.ClassFile.FieldType)) ∈ wsA := wA_of 393 (by decide +kernel) (by decide +kernel)
theorem wd394 : (Jvm.Cond.methodLinkNest "SignMasons" (97 : Nat) ({ cls := "SignMasons$Places", name := "unite", desc := "(II)V" } : Jvm.MethodName) "SignMasons") ∈ nwA := nA_of 394 (by decide +kernel) (by decide +kernel)
theorem wd396 : (Jvm.Cond.instanceMethod ({ cls := "SignMasons$Places", name := "unite", desc := "(II)V" } : Jvm.MethodName)) ∈ wsA := wA_of 396 (by decide +kernel) (by decide +kernel)
theorem wd397 : (Jvm.Cond.code ({ cls := "SignMasons$Places", name := "unite", desc := "(II)V" } : Jvm.MethodName) prog_4_method_2_code (6 : Nat) (Option.none : Option Jvm.ClassFile.FieldType)) ∈ wsA := wA_of 397 (by decide +kernel) (by decide +kernel)
theorem wd398 : (Jvm.Cond.methodLink "SignMasonsLaw" (131 : Nat) ({ cls := "SignMasonsLaw", name := "borrow", desc := "(LSignMasons;III[J)I" } : Jvm.MethodName)) ∈ wsA := wA_of 398 (by decide +kernel) (by decide +kernel)
theorem wd399 : (Jvm.Cond.static ({ cls := "SignMasonsLaw", name := "borrow", desc := "(LSignMasons;III[J)I" } : Jvm.MethodName)) ∈ wsA := wA_of 399 (by decide +kernel) (by decide +kernel)
theorem wd400 : (Jvm.Cond.codeWith ({ cls := "SignMasonsLaw", name := "borrow", desc := "(LSignMasons;III[J)I" } : Jvm.MethodName) method_8_code (6 : Nat) (Option.some Jvm.ClassFile.FieldType.int) [((0 : Nat), (12 : Nat), (15 : Nat), (19 : Nat)), ((0 : Nat), (12 : Nat), (19 : Nat), (21 : Nat)), ((0 : Nat), (12 : Nat), (23 : Nat), (13 : Nat))]) ∈ wsA := wA_of 400 (by decide +kernel) (by decide +kernel)
theorem wd401 : (Jvm.Cond.methodLink "SignMasonsLaw" (34 : Nat) ({ cls := "SignMasons", name := "borrow", desc := "(III)I" } : Jvm.MethodName)) ∈ wsA := wA_of 401 (by decide +kernel) (by decide +kernel)
theorem wd402 : (Jvm.Cond.instanceMethod ({ cls := "SignMasons", name := "borrow", desc := "(III)I" } : Jvm.MethodName)) ∈ wsA := wA_of 402 (by decide +kernel) (by decide +kernel)
theorem wd403 : (Jvm.Cond.selects "SignMasons" ({ cls := "SignMasons", name := "borrow", desc := "(III)I" } : Jvm.MethodName) ({ cls := "SignMasons", name := "borrow", desc := "(III)I" } : Jvm.MethodName)) ∈ wsA := wA_of 403 (by decide +kernel) (by decide +kernel)
theorem wd404 : (Jvm.Cond.code ({ cls := "SignMasons", name := "borrow", desc := "(III)I" } : Jvm.MethodName) prog_1_method_7_code (8 : Nat) (Option.some Jvm.ClassFile.FieldType.int)) ∈ wsA := wA_of 404 (by decide +kernel) (by decide +kernel)
theorem wd407 : (Jvm.Cond.methodLink "SignMasonsLaw" (138 : Nat) ({ cls := "SignMasonsLaw", name := "areJoined", desc := "(LSignMasons;II[J)I" } : Jvm.MethodName)) ∈ wsA := wA_of 407 (by decide +kernel) (by decide +kernel)
theorem wd408 : (Jvm.Cond.static ({ cls := "SignMasonsLaw", name := "areJoined", desc := "(LSignMasons;II[J)I" } : Jvm.MethodName)) ∈ wsA := wA_of 408 (by decide +kernel) (by decide +kernel)
theorem wd409 : (Jvm.Cond.codeWith ({ cls := "SignMasonsLaw", name := "areJoined", desc := "(LSignMasons;II[J)I" } : Jvm.MethodName) method_9_code (5 : Nat) (Option.some Jvm.ClassFile.FieldType.int) [((0 : Nat), (17 : Nat), (20 : Nat), (19 : Nat))]) ∈ wsA := wA_of 409 (by decide +kernel) (by decide +kernel)
theorem wd410 : (Jvm.Cond.methodLink "SignMasonsLaw" (37 : Nat) ({ cls := "SignMasons", name := "areJoined", desc := "(II)Z" } : Jvm.MethodName)) ∈ wsA := wA_of 410 (by decide +kernel) (by decide +kernel)
theorem wd411 : (Jvm.Cond.instanceMethod ({ cls := "SignMasons", name := "areJoined", desc := "(II)Z" } : Jvm.MethodName)) ∈ wsA := wA_of 411 (by decide +kernel) (by decide +kernel)
theorem wd412 : (Jvm.Cond.selects "SignMasons" ({ cls := "SignMasons", name := "areJoined", desc := "(II)Z" } : Jvm.MethodName) ({ cls := "SignMasons", name := "areJoined", desc := "(II)Z" } : Jvm.MethodName)) ∈ wsA := wA_of 412 (by decide +kernel) (by decide +kernel)
theorem wd413 : (Jvm.Cond.code ({ cls := "SignMasons", name := "areJoined", desc := "(II)Z" } : Jvm.MethodName) prog_1_method_9_code (3 : Nat) (Option.some Jvm.ClassFile.FieldType.boolean)) ∈ wsA := wA_of 413 (by decide +kernel) (by decide +kernel)
theorem wd414 : (Jvm.Cond.methodLinkNest "SignMasons" (114 : Nat) ({ cls := "SignMasons$Places", name := "sameGroup", desc := "(II)Z" } : Jvm.MethodName) "SignMasons") ∈ nwA := nA_of 414 (by decide +kernel) (by decide +kernel)
theorem wd415 : (Jvm.Cond.methodLink "SignMasonsLaw" (141 : Nat) ({ cls := "SignMasonsLaw", name := "steps", desc := "(LSignMasons;II[J)I" } : Jvm.MethodName)) ∈ wsA := wA_of 415 (by decide +kernel) (by decide +kernel)
theorem wd416 : (Jvm.Cond.static ({ cls := "SignMasonsLaw", name := "steps", desc := "(LSignMasons;II[J)I" } : Jvm.MethodName)) ∈ wsA := wA_of 416 (by decide +kernel) (by decide +kernel)
theorem wd417 : (Jvm.Cond.codeWith ({ cls := "SignMasonsLaw", name := "steps", desc := "(LSignMasons;II[J)I" } : Jvm.MethodName) method_10_code (5 : Nat) (Option.some Jvm.ClassFile.FieldType.int) [((0 : Nat), (10 : Nat), (13 : Nat), (19 : Nat))]) ∈ wsA := wA_of 417 (by decide +kernel) (by decide +kernel)
theorem wd418 : (Jvm.Cond.methodLink "SignMasonsLaw" (41 : Nat) ({ cls := "SignMasons", name := "steps", desc := "(II)I" } : Jvm.MethodName)) ∈ wsA := wA_of 418 (by decide +kernel) (by decide +kernel)
theorem wd419 : (Jvm.Cond.instanceMethod ({ cls := "SignMasons", name := "steps", desc := "(II)I" } : Jvm.MethodName)) ∈ wsA := wA_of 419 (by decide +kernel) (by decide +kernel)
theorem wd420 : (Jvm.Cond.selects "SignMasons" ({ cls := "SignMasons", name := "steps", desc := "(II)I" } : Jvm.MethodName) ({ cls := "SignMasons", name := "steps", desc := "(II)I" } : Jvm.MethodName)) ∈ wsA := wA_of 420 (by decide +kernel) (by decide +kernel)
theorem wd421 : (Jvm.Cond.code ({ cls := "SignMasons", name := "steps", desc := "(II)I" } : Jvm.MethodName) prog_1_method_10_code (3 : Nat) (Option.some Jvm.ClassFile.FieldType.int)) ∈ wsA := wA_of 421 (by decide +kernel) (by decide +kernel)
theorem wd422 : (Jvm.Cond.methodLinkNest "SignMasons" (117 : Nat) ({ cls := "SignMasons$Places", name := "stepsBetween", desc := "(II)I" } : Jvm.MethodName) "SignMasons") ∈ nwA := nA_of 422 (by decide +kernel) (by decide +kernel)
theorem wd423 : (Jvm.Cond.methodLink "SignMasonsLaw" (148 : Nat) ({ cls := "SignMasonsLaw", name := "signsOf", desc := "(LSignMasons;I[J)I" } : Jvm.MethodName)) ∈ wsA := wA_of 423 (by decide +kernel) (by decide +kernel)
theorem wd424 : (Jvm.Cond.static ({ cls := "SignMasonsLaw", name := "signsOf", desc := "(LSignMasons;I[J)I" } : Jvm.MethodName)) ∈ wsA := wA_of 424 (by decide +kernel) (by decide +kernel)
theorem wd425 : (Jvm.Cond.codeWith ({ cls := "SignMasonsLaw", name := "signsOf", desc := "(LSignMasons;I[J)I" } : Jvm.MethodName) method_11_code (4 : Nat) (Option.some Jvm.ClassFile.FieldType.int) [((0 : Nat), (9 : Nat), (12 : Nat), (19 : Nat))]) ∈ wsA := wA_of 425 (by decide +kernel) (by decide +kernel)
theorem wd426 : (Jvm.Cond.methodLink "SignMasonsLaw" (44 : Nat) ({ cls := "SignMasons", name := "signsOf", desc := "(I)I" } : Jvm.MethodName)) ∈ wsA := wA_of 426 (by decide +kernel) (by decide +kernel)
theorem wd427 : (Jvm.Cond.instanceMethod ({ cls := "SignMasons", name := "signsOf", desc := "(I)I" } : Jvm.MethodName)) ∈ wsA := wA_of 427 (by decide +kernel) (by decide +kernel)
theorem wd428 : (Jvm.Cond.selects "SignMasons" ({ cls := "SignMasons", name := "signsOf", desc := "(I)I" } : Jvm.MethodName) ({ cls := "SignMasons", name := "signsOf", desc := "(I)I" } : Jvm.MethodName)) ∈ wsA := wA_of 428 (by decide +kernel) (by decide +kernel)
theorem wd429 : (Jvm.Cond.code ({ cls := "SignMasons", name := "signsOf", desc := "(I)I" } : Jvm.MethodName) prog_1_method_12_code (2 : Nat) (Option.some Jvm.ClassFile.FieldType.int)) ∈ wsA := wA_of 429 (by decide +kernel) (by decide +kernel)
theorem wd430 : (Jvm.Cond.methodLink "SignMasonsLaw" (152 : Nat) ({ cls := "SignMasonsLaw", name := "shapeOf", desc := "(LSignMasons;II[J)I" } : Jvm.MethodName)) ∈ wsA := wA_of 430 (by decide +kernel) (by decide +kernel)
theorem wd431 : (Jvm.Cond.static ({ cls := "SignMasonsLaw", name := "shapeOf", desc := "(LSignMasons;II[J)I" } : Jvm.MethodName)) ∈ wsA := wA_of 431 (by decide +kernel) (by decide +kernel)
theorem wd432 : (Jvm.Cond.codeWith ({ cls := "SignMasonsLaw", name := "shapeOf", desc := "(LSignMasons;II[J)I" } : Jvm.MethodName) method_12_code (5 : Nat) (Option.some Jvm.ClassFile.FieldType.int) [((0 : Nat), (10 : Nat), (13 : Nat), (19 : Nat))]) ∈ wsA := wA_of 432 (by decide +kernel) (by decide +kernel)
theorem wd433 : (Jvm.Cond.methodLink "SignMasonsLaw" (48 : Nat) ({ cls := "SignMasons", name := "shapeOf", desc := "(II)I" } : Jvm.MethodName)) ∈ wsA := wA_of 433 (by decide +kernel) (by decide +kernel)
theorem wd434 : (Jvm.Cond.instanceMethod ({ cls := "SignMasons", name := "shapeOf", desc := "(II)I" } : Jvm.MethodName)) ∈ wsA := wA_of 434 (by decide +kernel) (by decide +kernel)
theorem wd435 : (Jvm.Cond.selects "SignMasons" ({ cls := "SignMasons", name := "shapeOf", desc := "(II)I" } : Jvm.MethodName) ({ cls := "SignMasons", name := "shapeOf", desc := "(II)I" } : Jvm.MethodName)) ∈ wsA := wA_of 435 (by decide +kernel) (by decide +kernel)
theorem wd436 : (Jvm.Cond.code ({ cls := "SignMasons", name := "shapeOf", desc := "(II)I" } : Jvm.MethodName) prog_1_method_13_code (3 : Nat) (Option.some Jvm.ClassFile.FieldType.int)) ∈ wsA := wA_of 436 (by decide +kernel) (by decide +kernel)
theorem wd437 : (Jvm.Cond.methodLink "SignMasons" (123 : Nat) ({ cls := "SignMasons", name := "lookOf", desc := "(II)I" } : Jvm.MethodName)) ∈ wsA := wA_of 437 (by decide +kernel) (by decide +kernel)
theorem wd439 : (Jvm.Cond.instanceMethod ({ cls := "SignMasons", name := "lookOf", desc := "(II)I" } : Jvm.MethodName)) ∈ wsA := wA_of 439 (by decide +kernel) (by decide +kernel)
theorem wd440 : (Jvm.Cond.code ({ cls := "SignMasons", name := "lookOf", desc := "(II)I" } : Jvm.MethodName) prog_1_method_39_code (4 : Nat) (Option.some Jvm.ClassFile.FieldType.int)) ∈ wsA := wA_of 440 (by decide +kernel) (by decide +kernel)
theorem wd441 : (Jvm.Cond.methodLink "SignMasonsLaw" (155 : Nat) ({ cls := "SignMasonsLaw", name := "thumbOf", desc := "(LSignMasons;II[J)I" } : Jvm.MethodName)) ∈ wsA := wA_of 441 (by decide +kernel) (by decide +kernel)
theorem wd442 : (Jvm.Cond.static ({ cls := "SignMasonsLaw", name := "thumbOf", desc := "(LSignMasons;II[J)I" } : Jvm.MethodName)) ∈ wsA := wA_of 442 (by decide +kernel) (by decide +kernel)
theorem wd443 : (Jvm.Cond.codeWith ({ cls := "SignMasonsLaw", name := "thumbOf", desc := "(LSignMasons;II[J)I" } : Jvm.MethodName) method_13_code (5 : Nat) (Option.some Jvm.ClassFile.FieldType.int) [((0 : Nat), (10 : Nat), (13 : Nat), (19 : Nat))]) ∈ wsA := wA_of 443 (by decide +kernel) (by decide +kernel)
theorem wd444 : (Jvm.Cond.methodLink "SignMasonsLaw" (51 : Nat) ({ cls := "SignMasons", name := "thumbOf", desc := "(II)I" } : Jvm.MethodName)) ∈ wsA := wA_of 444 (by decide +kernel) (by decide +kernel)
theorem wd445 : (Jvm.Cond.instanceMethod ({ cls := "SignMasons", name := "thumbOf", desc := "(II)I" } : Jvm.MethodName)) ∈ wsA := wA_of 445 (by decide +kernel) (by decide +kernel)
theorem wd446 : (Jvm.Cond.selects "SignMasons" ({ cls := "SignMasons", name := "thumbOf", desc := "(II)I" } : Jvm.MethodName) ({ cls := "SignMasons", name := "thumbOf", desc := "(II)I" } : Jvm.MethodName)) ∈ wsA := wA_of 446 (by decide +kernel) (by decide +kernel)
theorem wd447 : (Jvm.Cond.code ({ cls := "SignMasons", name := "thumbOf", desc := "(II)I" } : Jvm.MethodName) prog_1_method_14_code (3 : Nat) (Option.some Jvm.ClassFile.FieldType.int)) ∈ wsA := wA_of 447 (by decide +kernel) (by decide +kernel)
theorem wd448 : (Jvm.Cond.methodLink "SignMasonsLaw" (158 : Nat) ({ cls := "SignMasonsLaw", name := "placeOf", desc := "(LSignMasons;II[J)I" } : Jvm.MethodName)) ∈ wsA := wA_of 448 (by decide +kernel) (by decide +kernel)
theorem wd449 : (Jvm.Cond.static ({ cls := "SignMasonsLaw", name := "placeOf", desc := "(LSignMasons;II[J)I" } : Jvm.MethodName)) ∈ wsA := wA_of 449 (by decide +kernel) (by decide +kernel)
theorem wd450 : (Jvm.Cond.codeWith ({ cls := "SignMasonsLaw", name := "placeOf", desc := "(LSignMasons;II[J)I" } : Jvm.MethodName) method_14_code (5 : Nat) (Option.some Jvm.ClassFile.FieldType.int) [((0 : Nat), (10 : Nat), (13 : Nat), (19 : Nat))]) ∈ wsA := wA_of 450 (by decide +kernel) (by decide +kernel)
theorem wd451 : (Jvm.Cond.methodLink "SignMasonsLaw" (54 : Nat) ({ cls := "SignMasons", name := "placeOf", desc := "(II)I" } : Jvm.MethodName)) ∈ wsA := wA_of 451 (by decide +kernel) (by decide +kernel)
theorem wd452 : (Jvm.Cond.instanceMethod ({ cls := "SignMasons", name := "placeOf", desc := "(II)I" } : Jvm.MethodName)) ∈ wsA := wA_of 452 (by decide +kernel) (by decide +kernel)
theorem wd453 : (Jvm.Cond.selects "SignMasons" ({ cls := "SignMasons", name := "placeOf", desc := "(II)I" } : Jvm.MethodName) ({ cls := "SignMasons", name := "placeOf", desc := "(II)I" } : Jvm.MethodName)) ∈ wsA := wA_of 453 (by decide +kernel) (by decide +kernel)
theorem wd454 : (Jvm.Cond.code ({ cls := "SignMasons", name := "placeOf", desc := "(II)I" } : Jvm.MethodName) prog_1_method_15_code (3 : Nat) (Option.some Jvm.ClassFile.FieldType.int)) ∈ wsA := wA_of 454 (by decide +kernel) (by decide +kernel)
theorem wd455 : (Jvm.Cond.methodLink "SignMasonsLaw" (161 : Nat) ({ cls := "SignMasonsLaw", name := "meaningOf", desc := "(LSignMasons;II[J)I" } : Jvm.MethodName)) ∈ wsA := wA_of 455 (by decide +kernel) (by decide +kernel)
theorem wd456 : (Jvm.Cond.static ({ cls := "SignMasonsLaw", name := "meaningOf", desc := "(LSignMasons;II[J)I" } : Jvm.MethodName)) ∈ wsA := wA_of 456 (by decide +kernel) (by decide +kernel)
theorem wd457 : (Jvm.Cond.codeWith ({ cls := "SignMasonsLaw", name := "meaningOf", desc := "(LSignMasons;II[J)I" } : Jvm.MethodName) method_15_code (5 : Nat) (Option.some Jvm.ClassFile.FieldType.int) [((0 : Nat), (10 : Nat), (13 : Nat), (19 : Nat))]) ∈ wsA := wA_of 457 (by decide +kernel) (by decide +kernel)
theorem wd458 : (Jvm.Cond.methodLink "SignMasonsLaw" (57 : Nat) ({ cls := "SignMasons", name := "meaningOf", desc := "(II)I" } : Jvm.MethodName)) ∈ wsA := wA_of 458 (by decide +kernel) (by decide +kernel)
theorem wd459 : (Jvm.Cond.instanceMethod ({ cls := "SignMasons", name := "meaningOf", desc := "(II)I" } : Jvm.MethodName)) ∈ wsA := wA_of 459 (by decide +kernel) (by decide +kernel)
theorem wd460 : (Jvm.Cond.selects "SignMasons" ({ cls := "SignMasons", name := "meaningOf", desc := "(II)I" } : Jvm.MethodName) ({ cls := "SignMasons", name := "meaningOf", desc := "(II)I" } : Jvm.MethodName)) ∈ wsA := wA_of 460 (by decide +kernel) (by decide +kernel)
theorem wd461 : (Jvm.Cond.code ({ cls := "SignMasons", name := "meaningOf", desc := "(II)I" } : Jvm.MethodName) prog_1_method_16_code (4 : Nat) (Option.some Jvm.ClassFile.FieldType.int)) ∈ wsA := wA_of 461 (by decide +kernel) (by decide +kernel)
theorem wd462 : (Jvm.Cond.methodLink "SignMasonsLaw" (164 : Nat) ({ cls := "SignMasonsLaw", name := "signFor", desc := "(LSignMasons;II[J)I" } : Jvm.MethodName)) ∈ wsA := wA_of 462 (by decide +kernel) (by decide +kernel)
theorem wd463 : (Jvm.Cond.static ({ cls := "SignMasonsLaw", name := "signFor", desc := "(LSignMasons;II[J)I" } : Jvm.MethodName)) ∈ wsA := wA_of 463 (by decide +kernel) (by decide +kernel)
theorem wd464 : (Jvm.Cond.codeWith ({ cls := "SignMasonsLaw", name := "signFor", desc := "(LSignMasons;II[J)I" } : Jvm.MethodName) method_16_code (5 : Nat) (Option.some Jvm.ClassFile.FieldType.int) [((0 : Nat), (10 : Nat), (13 : Nat), (19 : Nat))]) ∈ wsA := wA_of 464 (by decide +kernel) (by decide +kernel)
theorem wd465 : (Jvm.Cond.methodLink "SignMasonsLaw" (60 : Nat) ({ cls := "SignMasons", name := "signFor", desc := "(II)I" } : Jvm.MethodName)) ∈ wsA := wA_of 465 (by decide +kernel) (by decide +kernel)
theorem wd466 : (Jvm.Cond.instanceMethod ({ cls := "SignMasons", name := "signFor", desc := "(II)I" } : Jvm.MethodName)) ∈ wsA := wA_of 466 (by decide +kernel) (by decide +kernel)
theorem wd467 : (Jvm.Cond.selects "SignMasons" ({ cls := "SignMasons", name := "signFor", desc := "(II)I" } : Jvm.MethodName) ({ cls := "SignMasons", name := "signFor", desc := "(II)I" } : Jvm.MethodName)) ∈ wsA := wA_of 467 (by decide +kernel) (by decide +kernel)
theorem wd468 : (Jvm.Cond.code ({ cls := "SignMasons", name := "signFor", desc := "(II)I" } : Jvm.MethodName) prog_1_method_17_code (4 : Nat) (Option.some Jvm.ClassFile.FieldType.int)) ∈ wsA := wA_of 468 (by decide +kernel) (by decide +kernel)
theorem wd469 : (Jvm.Cond.methodLinkNest "SignMasons" (135 : Nat) ({ cls := "SignMasons$Book", name := "find", desc := "(I)I" } : Jvm.MethodName) "SignMasons") ∈ nwA := nA_of 469 (by decide +kernel) (by decide +kernel)
theorem wd470 : (Jvm.Cond.methodLink "SignMasonsLaw" (167 : Nat) ({ cls := "SignMasonsLaw", name := "apart", desc := "(LSignMasons;III[J)I" } : Jvm.MethodName)) ∈ wsA := wA_of 470 (by decide +kernel) (by decide +kernel)
theorem wd471 : (Jvm.Cond.static ({ cls := "SignMasonsLaw", name := "apart", desc := "(LSignMasons;III[J)I" } : Jvm.MethodName)) ∈ wsA := wA_of 471 (by decide +kernel) (by decide +kernel)
theorem wd472 : (Jvm.Cond.codeWith ({ cls := "SignMasonsLaw", name := "apart", desc := "(LSignMasons;III[J)I" } : Jvm.MethodName) method_17_code (6 : Nat) (Option.some Jvm.ClassFile.FieldType.int) [((0 : Nat), (12 : Nat), (15 : Nat), (19 : Nat))]) ∈ wsA := wA_of 472 (by decide +kernel) (by decide +kernel)
theorem wd473 : (Jvm.Cond.methodLink "SignMasonsLaw" (63 : Nat) ({ cls := "SignMasons", name := "apart", desc := "(III)I" } : Jvm.MethodName)) ∈ wsA := wA_of 473 (by decide +kernel) (by decide +kernel)
theorem wd474 : (Jvm.Cond.instanceMethod ({ cls := "SignMasons", name := "apart", desc := "(III)I" } : Jvm.MethodName)) ∈ wsA := wA_of 474 (by decide +kernel) (by decide +kernel)
theorem wd475 : (Jvm.Cond.selects "SignMasons" ({ cls := "SignMasons", name := "apart", desc := "(III)I" } : Jvm.MethodName) ({ cls := "SignMasons", name := "apart", desc := "(III)I" } : Jvm.MethodName)) ∈ wsA := wA_of 475 (by decide +kernel) (by decide +kernel)
theorem wd476 : (Jvm.Cond.code ({ cls := "SignMasons", name := "apart", desc := "(III)I" } : Jvm.MethodName) prog_1_method_18_code (5 : Nat) (Option.some Jvm.ClassFile.FieldType.int)) ∈ wsA := wA_of 476 (by decide +kernel) (by decide +kernel)
theorem wd477 : (Jvm.Cond.methodLinkNest "SignMasons" (138 : Nat) ({ cls := "SignMasons$Places", name := "distance", desc := "(II)I" } : Jvm.MethodName) "SignMasons") ∈ nwA := nA_of 477 (by decide +kernel) (by decide +kernel)
theorem wd478 : (Jvm.Cond.methodLink "SignMasonsLaw" (170 : Nat) ({ cls := "SignMasonsLaw", name := "alikePairs", desc := "(LSignMasons;I[J)I" } : Jvm.MethodName)) ∈ wsA := wA_of 478 (by decide +kernel) (by decide +kernel)
theorem wd479 : (Jvm.Cond.static ({ cls := "SignMasonsLaw", name := "alikePairs", desc := "(LSignMasons;I[J)I" } : Jvm.MethodName)) ∈ wsA := wA_of 479 (by decide +kernel) (by decide +kernel)
theorem wd480 : (Jvm.Cond.codeWith ({ cls := "SignMasonsLaw", name := "alikePairs", desc := "(LSignMasons;I[J)I" } : Jvm.MethodName) method_18_code (4 : Nat) (Option.some Jvm.ClassFile.FieldType.int) [((0 : Nat), (9 : Nat), (12 : Nat), (19 : Nat))]) ∈ wsA := wA_of 480 (by decide +kernel) (by decide +kernel)
theorem wd481 : (Jvm.Cond.methodLink "SignMasonsLaw" (66 : Nat) ({ cls := "SignMasons", name := "alikePairs", desc := "(I)I" } : Jvm.MethodName)) ∈ wsA := wA_of 481 (by decide +kernel) (by decide +kernel)
theorem wd482 : (Jvm.Cond.instanceMethod ({ cls := "SignMasons", name := "alikePairs", desc := "(I)I" } : Jvm.MethodName)) ∈ wsA := wA_of 482 (by decide +kernel) (by decide +kernel)
theorem wd483 : (Jvm.Cond.selects "SignMasons" ({ cls := "SignMasons", name := "alikePairs", desc := "(I)I" } : Jvm.MethodName) ({ cls := "SignMasons", name := "alikePairs", desc := "(I)I" } : Jvm.MethodName)) ∈ wsA := wA_of 483 (by decide +kernel) (by decide +kernel)
theorem wd484 : (Jvm.Cond.code ({ cls := "SignMasons", name := "alikePairs", desc := "(I)I" } : Jvm.MethodName) prog_1_method_19_code (2 : Nat) (Option.some Jvm.ClassFile.FieldType.int)) ∈ wsA := wA_of 484 (by decide +kernel) (by decide +kernel)
theorem wd485 : (Jvm.Cond.methodLink "SignMasonsLaw" (173 : Nat) ({ cls := "SignMasonsLaw", name := "thumbPairs", desc := "(LSignMasons;I[J)I" } : Jvm.MethodName)) ∈ wsA := wA_of 485 (by decide +kernel) (by decide +kernel)
theorem wd486 : (Jvm.Cond.static ({ cls := "SignMasonsLaw", name := "thumbPairs", desc := "(LSignMasons;I[J)I" } : Jvm.MethodName)) ∈ wsA := wA_of 486 (by decide +kernel) (by decide +kernel)
theorem wd487 : (Jvm.Cond.codeWith ({ cls := "SignMasonsLaw", name := "thumbPairs", desc := "(LSignMasons;I[J)I" } : Jvm.MethodName) method_19_code (4 : Nat) (Option.some Jvm.ClassFile.FieldType.int) [((0 : Nat), (9 : Nat), (12 : Nat), (19 : Nat))]) ∈ wsA := wA_of 487 (by decide +kernel) (by decide +kernel)
theorem wd488 : (Jvm.Cond.methodLink "SignMasonsLaw" (69 : Nat) ({ cls := "SignMasons", name := "thumbPairs", desc := "(I)I" } : Jvm.MethodName)) ∈ wsA := wA_of 488 (by decide +kernel) (by decide +kernel)
theorem wd489 : (Jvm.Cond.instanceMethod ({ cls := "SignMasons", name := "thumbPairs", desc := "(I)I" } : Jvm.MethodName)) ∈ wsA := wA_of 489 (by decide +kernel) (by decide +kernel)
theorem wd490 : (Jvm.Cond.selects "SignMasons" ({ cls := "SignMasons", name := "thumbPairs", desc := "(I)I" } : Jvm.MethodName) ({ cls := "SignMasons", name := "thumbPairs", desc := "(I)I" } : Jvm.MethodName)) ∈ wsA := wA_of 490 (by decide +kernel) (by decide +kernel)
theorem wd491 : (Jvm.Cond.code ({ cls := "SignMasons", name := "thumbPairs", desc := "(I)I" } : Jvm.MethodName) prog_1_method_20_code (2 : Nat) (Option.some Jvm.ClassFile.FieldType.int)) ∈ wsA := wA_of 491 (by decide +kernel) (by decide +kernel)
theorem wd492 : (Jvm.Cond.methodLink "SignMasonsLaw" (176 : Nat) ({ cls := "SignMasonsLaw", name := "closest", desc := "(LSignMasons;I[J)I" } : Jvm.MethodName)) ∈ wsA := wA_of 492 (by decide +kernel) (by decide +kernel)
theorem wd493 : (Jvm.Cond.static ({ cls := "SignMasonsLaw", name := "closest", desc := "(LSignMasons;I[J)I" } : Jvm.MethodName)) ∈ wsA := wA_of 493 (by decide +kernel) (by decide +kernel)
theorem wd494 : (Jvm.Cond.codeWith ({ cls := "SignMasonsLaw", name := "closest", desc := "(LSignMasons;I[J)I" } : Jvm.MethodName) method_20_code (4 : Nat) (Option.some Jvm.ClassFile.FieldType.int) [((0 : Nat), (9 : Nat), (12 : Nat), (19 : Nat))]) ∈ wsA := wA_of 494 (by decide +kernel) (by decide +kernel)
theorem wd495 : (Jvm.Cond.methodLink "SignMasonsLaw" (72 : Nat) ({ cls := "SignMasons", name := "closest", desc := "(I)I" } : Jvm.MethodName)) ∈ wsA := wA_of 495 (by decide +kernel) (by decide +kernel)
theorem wd496 : (Jvm.Cond.instanceMethod ({ cls := "SignMasons", name := "closest", desc := "(I)I" } : Jvm.MethodName)) ∈ wsA := wA_of 496 (by decide +kernel) (by decide +kernel)
theorem wd497 : (Jvm.Cond.selects "SignMasons" ({ cls := "SignMasons", name := "closest", desc := "(I)I" } : Jvm.MethodName) ({ cls := "SignMasons", name := "closest", desc := "(I)I" } : Jvm.MethodName)) ∈ wsA := wA_of 497 (by decide +kernel) (by decide +kernel)
theorem wd498 : (Jvm.Cond.code ({ cls := "SignMasons", name := "closest", desc := "(I)I" } : Jvm.MethodName) prog_1_method_21_code (2 : Nat) (Option.some Jvm.ClassFile.FieldType.int)) ∈ wsA := wA_of 498 (by decide +kernel) (by decide +kernel)
theorem wd499 : (Jvm.Cond.methodLink "SignMasonsLaw" (179 : Nat) ({ cls := "SignMasonsLaw", name := "mostMistaken", desc := "(LSignMasons;I[J)I" } : Jvm.MethodName)) ∈ wsA := wA_of 499 (by decide +kernel) (by decide +kernel)
theorem wd500 : (Jvm.Cond.static ({ cls := "SignMasonsLaw", name := "mostMistaken", desc := "(LSignMasons;I[J)I" } : Jvm.MethodName)) ∈ wsA := wA_of 500 (by decide +kernel) (by decide +kernel)
theorem wd501 : (Jvm.Cond.codeWith ({ cls := "SignMasonsLaw", name := "mostMistaken", desc := "(LSignMasons;I[J)I" } : Jvm.MethodName) method_21_code (4 : Nat) (Option.some Jvm.ClassFile.FieldType.int) [((0 : Nat), (9 : Nat), (12 : Nat), (19 : Nat))]) ∈ wsA := wA_of 501 (by decide +kernel) (by decide +kernel)
theorem wd502 : (Jvm.Cond.methodLink "SignMasonsLaw" (75 : Nat) ({ cls := "SignMasons", name := "mostMistaken", desc := "(I)I" } : Jvm.MethodName)) ∈ wsA := wA_of 502 (by decide +kernel) (by decide +kernel)
theorem wd503 : (Jvm.Cond.instanceMethod ({ cls := "SignMasons", name := "mostMistaken", desc := "(I)I" } : Jvm.MethodName)) ∈ wsA := wA_of 503 (by decide +kernel) (by decide +kernel)
theorem wd504 : (Jvm.Cond.selects "SignMasons" ({ cls := "SignMasons", name := "mostMistaken", desc := "(I)I" } : Jvm.MethodName) ({ cls := "SignMasons", name := "mostMistaken", desc := "(I)I" } : Jvm.MethodName)) ∈ wsA := wA_of 504 (by decide +kernel) (by decide +kernel)
theorem wd505 : (Jvm.Cond.code ({ cls := "SignMasons", name := "mostMistaken", desc := "(I)I" } : Jvm.MethodName) prog_1_method_22_code (2 : Nat) (Option.some Jvm.ClassFile.FieldType.int)) ∈ wsA := wA_of 505 (by decide +kernel) (by decide +kernel)
theorem wd506 : (Jvm.Cond.methodLink "SignMasonsLaw" (182 : Nat) ({ cls := "SignMasonsLaw", name := "read", desc := "(LSignMasons;III[J)I" } : Jvm.MethodName)) ∈ wsA := wA_of 506 (by decide +kernel) (by decide +kernel)
theorem wd507 : (Jvm.Cond.static ({ cls := "SignMasonsLaw", name := "read", desc := "(LSignMasons;III[J)I" } : Jvm.MethodName)) ∈ wsA := wA_of 507 (by decide +kernel) (by decide +kernel)
theorem wd508 : (Jvm.Cond.codeWith ({ cls := "SignMasonsLaw", name := "read", desc := "(LSignMasons;III[J)I" } : Jvm.MethodName) method_22_code (6 : Nat) (Option.some Jvm.ClassFile.FieldType.int) [((0 : Nat), (12 : Nat), (15 : Nat), (19 : Nat))]) ∈ wsA := wA_of 508 (by decide +kernel) (by decide +kernel)
theorem wd509 : (Jvm.Cond.methodLink "SignMasonsLaw" (78 : Nat) ({ cls := "SignMasons", name := "read", desc := "(III)I" } : Jvm.MethodName)) ∈ wsA := wA_of 509 (by decide +kernel) (by decide +kernel)
theorem wd510 : (Jvm.Cond.instanceMethod ({ cls := "SignMasons", name := "read", desc := "(III)I" } : Jvm.MethodName)) ∈ wsA := wA_of 510 (by decide +kernel) (by decide +kernel)
theorem wd511 : (Jvm.Cond.selects "SignMasons" ({ cls := "SignMasons", name := "read", desc := "(III)I" } : Jvm.MethodName) ({ cls := "SignMasons", name := "read", desc := "(III)I" } : Jvm.MethodName)) ∈ wsA := wA_of 511 (by decide +kernel) (by decide +kernel)
theorem wd512 : (Jvm.Cond.code ({ cls := "SignMasons", name := "read", desc := "(III)I" } : Jvm.MethodName) prog_1_method_23_code (5 : Nat) (Option.some Jvm.ClassFile.FieldType.int)) ∈ wsA := wA_of 512 (by decide +kernel) (by decide +kernel)
theorem wd513 : (Jvm.Cond.methodLinkNest "SignMasons" (154 : Nat) ({ cls := "SignMasons$Book", name := "meaningRead", desc := "(I)I" } : Jvm.MethodName) "SignMasons") ∈ nwA := nA_of 513 (by decide +kernel) (by decide +kernel)
theorem wd514 : (Jvm.Cond.methodLink "SignMasonsLaw" (185 : Nat) ({ cls := "SignMasonsLaw", name := "readShown", desc := "(LSignMasons;IIIII[J)I" } : Jvm.MethodName)) ∈ wsA := wA_of 514 (by decide +kernel) (by decide +kernel)
theorem wd515 : (Jvm.Cond.static ({ cls := "SignMasonsLaw", name := "readShown", desc := "(LSignMasons;IIIII[J)I" } : Jvm.MethodName)) ∈ wsA := wA_of 515 (by decide +kernel) (by decide +kernel)
theorem wd516 : (Jvm.Cond.codeWith ({ cls := "SignMasonsLaw", name := "readShown", desc := "(LSignMasons;IIIII[J)I" } : Jvm.MethodName) method_23_code (8 : Nat) (Option.some Jvm.ClassFile.FieldType.int) [((0 : Nat), (16 : Nat), (19 : Nat), (19 : Nat)), ((0 : Nat), (16 : Nat), (23 : Nat), (21 : Nat))]) ∈ wsA := wA_of 516 (by decide +kernel) (by decide +kernel)
theorem wd517 : (Jvm.Cond.methodLink "SignMasonsLaw" (81 : Nat) ({ cls := "SignMasons", name := "readShown", desc := "(IIIII)I" } : Jvm.MethodName)) ∈ wsA := wA_of 517 (by decide +kernel) (by decide +kernel)
theorem wd518 : (Jvm.Cond.instanceMethod ({ cls := "SignMasons", name := "readShown", desc := "(IIIII)I" } : Jvm.MethodName)) ∈ wsA := wA_of 518 (by decide +kernel) (by decide +kernel)
theorem wd519 : (Jvm.Cond.selects "SignMasons" ({ cls := "SignMasons", name := "readShown", desc := "(IIIII)I" } : Jvm.MethodName) ({ cls := "SignMasons", name := "readShown", desc := "(IIIII)I" } : Jvm.MethodName)) ∈ wsA := wA_of 519 (by decide +kernel) (by decide +kernel)
theorem wd520 : (Jvm.Cond.code ({ cls := "SignMasons", name := "readShown", desc := "(IIIII)I" } : Jvm.MethodName) prog_1_method_24_code (7 : Nat) (Option.some Jvm.ClassFile.FieldType.int)) ∈ wsA := wA_of 520 (by decide +kernel) (by decide +kernel)
theorem wd521 : (Jvm.Cond.methodLink "SignMasonsLaw" (189 : Nat) ({ cls := "SignMasonsLaw", name := "understood", desc := "(LSignMasons;II[J)I" } : Jvm.MethodName)) ∈ wsA := wA_of 521 (by decide +kernel) (by decide +kernel)
theorem wd522 : (Jvm.Cond.static ({ cls := "SignMasonsLaw", name := "understood", desc := "(LSignMasons;II[J)I" } : Jvm.MethodName)) ∈ wsA := wA_of 522 (by decide +kernel) (by decide +kernel)
theorem wd523 : (Jvm.Cond.codeWith ({ cls := "SignMasonsLaw", name := "understood", desc := "(LSignMasons;II[J)I" } : Jvm.MethodName) method_24_code (5 : Nat) (Option.some Jvm.ClassFile.FieldType.int) [((0 : Nat), (10 : Nat), (13 : Nat), (19 : Nat))]) ∈ wsA := wA_of 523 (by decide +kernel) (by decide +kernel)
theorem wd524 : (Jvm.Cond.methodLink "SignMasonsLaw" (85 : Nat) ({ cls := "SignMasons", name := "understood", desc := "(II)I" } : Jvm.MethodName)) ∈ wsA := wA_of 524 (by decide +kernel) (by decide +kernel)
theorem wd525 : (Jvm.Cond.instanceMethod ({ cls := "SignMasons", name := "understood", desc := "(II)I" } : Jvm.MethodName)) ∈ wsA := wA_of 525 (by decide +kernel) (by decide +kernel)
theorem wd526 : (Jvm.Cond.selects "SignMasons" ({ cls := "SignMasons", name := "understood", desc := "(II)I" } : Jvm.MethodName) ({ cls := "SignMasons", name := "understood", desc := "(II)I" } : Jvm.MethodName)) ∈ wsA := wA_of 526 (by decide +kernel) (by decide +kernel)
theorem wd527 : (Jvm.Cond.code ({ cls := "SignMasons", name := "understood", desc := "(II)I" } : Jvm.MethodName) prog_1_method_25_code (4 : Nat) (Option.some Jvm.ClassFile.FieldType.int)) ∈ wsA := wA_of 527 (by decide +kernel) (by decide +kernel)
theorem wd528 : (Jvm.Cond.methodLink "SignMasonsLaw" (192 : Nat) ({ cls := "SignMasonsLaw", name := "misread", desc := "(LSignMasons;II[J)I" } : Jvm.MethodName)) ∈ wsA := wA_of 528 (by decide +kernel) (by decide +kernel)
theorem wd529 : (Jvm.Cond.static ({ cls := "SignMasonsLaw", name := "misread", desc := "(LSignMasons;II[J)I" } : Jvm.MethodName)) ∈ wsA := wA_of 529 (by decide +kernel) (by decide +kernel)
theorem wd530 : (Jvm.Cond.codeWith ({ cls := "SignMasonsLaw", name := "misread", desc := "(LSignMasons;II[J)I" } : Jvm.MethodName) method_25_code (5 : Nat) (Option.some Jvm.ClassFile.FieldType.int) [((0 : Nat), (10 : Nat), (13 : Nat), (19 : Nat))]) ∈ wsA := wA_of 530 (by decide +kernel) (by decide +kernel)
theorem wd531 : (Jvm.Cond.methodLink "SignMasonsLaw" (88 : Nat) ({ cls := "SignMasons", name := "misread", desc := "(II)I" } : Jvm.MethodName)) ∈ wsA := wA_of 531 (by decide +kernel) (by decide +kernel)
theorem wd532 : (Jvm.Cond.instanceMethod ({ cls := "SignMasons", name := "misread", desc := "(II)I" } : Jvm.MethodName)) ∈ wsA := wA_of 532 (by decide +kernel) (by decide +kernel)
theorem wd533 : (Jvm.Cond.selects "SignMasons" ({ cls := "SignMasons", name := "misread", desc := "(II)I" } : Jvm.MethodName) ({ cls := "SignMasons", name := "misread", desc := "(II)I" } : Jvm.MethodName)) ∈ wsA := wA_of 533 (by decide +kernel) (by decide +kernel)
theorem wd534 : (Jvm.Cond.code ({ cls := "SignMasons", name := "misread", desc := "(II)I" } : Jvm.MethodName) prog_1_method_26_code (4 : Nat) (Option.some Jvm.ClassFile.FieldType.int)) ∈ wsA := wA_of 534 (by decide +kernel) (by decide +kernel)
theorem wd535 : (Jvm.Cond.methodLink "SignMasonsLaw" (195 : Nat) ({ cls := "SignMasonsLaw", name := "common", desc := "(LSignMasons;II[J)I" } : Jvm.MethodName)) ∈ wsA := wA_of 535 (by decide +kernel) (by decide +kernel)
theorem wd536 : (Jvm.Cond.static ({ cls := "SignMasonsLaw", name := "common", desc := "(LSignMasons;II[J)I" } : Jvm.MethodName)) ∈ wsA := wA_of 536 (by decide +kernel) (by decide +kernel)
theorem wd537 : (Jvm.Cond.codeWith ({ cls := "SignMasonsLaw", name := "common", desc := "(LSignMasons;II[J)I" } : Jvm.MethodName) method_26_code (5 : Nat) (Option.some Jvm.ClassFile.FieldType.int) [((0 : Nat), (10 : Nat), (13 : Nat), (19 : Nat))]) ∈ wsA := wA_of 537 (by decide +kernel) (by decide +kernel)
theorem wd538 : (Jvm.Cond.methodLink "SignMasonsLaw" (91 : Nat) ({ cls := "SignMasons", name := "common", desc := "(II)I" } : Jvm.MethodName)) ∈ wsA := wA_of 538 (by decide +kernel) (by decide +kernel)
theorem wd539 : (Jvm.Cond.instanceMethod ({ cls := "SignMasons", name := "common", desc := "(II)I" } : Jvm.MethodName)) ∈ wsA := wA_of 539 (by decide +kernel) (by decide +kernel)
theorem wd540 : (Jvm.Cond.selects "SignMasons" ({ cls := "SignMasons", name := "common", desc := "(II)I" } : Jvm.MethodName) ({ cls := "SignMasons", name := "common", desc := "(II)I" } : Jvm.MethodName)) ∈ wsA := wA_of 540 (by decide +kernel) (by decide +kernel)
theorem wd541 : (Jvm.Cond.code ({ cls := "SignMasons", name := "common", desc := "(II)I" } : Jvm.MethodName) prog_1_method_27_code (4 : Nat) (Option.some Jvm.ClassFile.FieldType.int)) ∈ wsA := wA_of 541 (by decide +kernel) (by decide +kernel)
theorem wd542 : (Jvm.Cond.methodLinkNest "SignMasons" (164 : Nat) ({ cls := "SignMasons$Book", name := "countCommon", desc := "(LSignMasons$Book;)I" } : Jvm.MethodName) "SignMasons") ∈ nwA := nA_of 542 (by decide +kernel) (by decide +kernel)
theorem wd544 : (Jvm.Cond.instanceMethod ({ cls := "SignMasons$Book", name := "countCommon", desc := "(LSignMasons$Book;)I" } : Jvm.MethodName)) ∈ wsA := wA_of 544 (by decide +kernel) (by decide +kernel)
theorem wd545 : (Jvm.Cond.code ({ cls := "SignMasons$Book", name := "countCommon", desc := "(LSignMasons$Book;)I" } : Jvm.MethodName) prog_2_method_20_code (6 : Nat) (Option.some Jvm.ClassFile.FieldType.int)) ∈ wsA := wA_of 545 (by decide +kernel) (by decide +kernel)
theorem wd546 : (Jvm.Cond.methodLink "SignMasonsLaw" (198 : Nat) ({ cls := "SignMasonsLaw", name := "bestThumb", desc := "(LSignMasons;II[J)I" } : Jvm.MethodName)) ∈ wsA := wA_of 546 (by decide +kernel) (by decide +kernel)
theorem wd547 : (Jvm.Cond.static ({ cls := "SignMasonsLaw", name := "bestThumb", desc := "(LSignMasons;II[J)I" } : Jvm.MethodName)) ∈ wsA := wA_of 547 (by decide +kernel) (by decide +kernel)
theorem wd548 : (Jvm.Cond.codeWith ({ cls := "SignMasonsLaw", name := "bestThumb", desc := "(LSignMasons;II[J)I" } : Jvm.MethodName) method_27_code (5 : Nat) (Option.some Jvm.ClassFile.FieldType.int) [((0 : Nat), (10 : Nat), (13 : Nat), (19 : Nat))]) ∈ wsA := wA_of 548 (by decide +kernel) (by decide +kernel)
theorem wd549 : (Jvm.Cond.methodLink "SignMasonsLaw" (94 : Nat) ({ cls := "SignMasons", name := "bestThumb", desc := "(II)I" } : Jvm.MethodName)) ∈ wsA := wA_of 549 (by decide +kernel) (by decide +kernel)
theorem wd550 : (Jvm.Cond.instanceMethod ({ cls := "SignMasons", name := "bestThumb", desc := "(II)I" } : Jvm.MethodName)) ∈ wsA := wA_of 550 (by decide +kernel) (by decide +kernel)
theorem wd551 : (Jvm.Cond.selects "SignMasons" ({ cls := "SignMasons", name := "bestThumb", desc := "(II)I" } : Jvm.MethodName) ({ cls := "SignMasons", name := "bestThumb", desc := "(II)I" } : Jvm.MethodName)) ∈ wsA := wA_of 551 (by decide +kernel) (by decide +kernel)
theorem wd552 : (Jvm.Cond.code ({ cls := "SignMasons", name := "bestThumb", desc := "(II)I" } : Jvm.MethodName) prog_1_method_28_code (4 : Nat) (Option.some Jvm.ClassFile.FieldType.int)) ∈ wsA := wA_of 552 (by decide +kernel) (by decide +kernel)
theorem wd553 : (Jvm.Cond.methodLink "SignMasonsLaw" (201 : Nat) ({ cls := "SignMasonsLaw", name := "bestToBorrow", desc := "(LSignMasons;II[J)I" } : Jvm.MethodName)) ∈ wsA := wA_of 553 (by decide +kernel) (by decide +kernel)
theorem wd554 : (Jvm.Cond.static ({ cls := "SignMasonsLaw", name := "bestToBorrow", desc := "(LSignMasons;II[J)I" } : Jvm.MethodName)) ∈ wsA := wA_of 554 (by decide +kernel) (by decide +kernel)
theorem wd555 : (Jvm.Cond.codeWith ({ cls := "SignMasonsLaw", name := "bestToBorrow", desc := "(LSignMasons;II[J)I" } : Jvm.MethodName) method_28_code (5 : Nat) (Option.some Jvm.ClassFile.FieldType.int) [((0 : Nat), (10 : Nat), (13 : Nat), (19 : Nat))]) ∈ wsA := wA_of 555 (by decide +kernel) (by decide +kernel)
theorem wd556 : (Jvm.Cond.methodLink "SignMasonsLaw" (97 : Nat) ({ cls := "SignMasons", name := "bestToBorrow", desc := "(II)I" } : Jvm.MethodName)) ∈ wsA := wA_of 556 (by decide +kernel) (by decide +kernel)
theorem wd557 : (Jvm.Cond.methodLink "SignMasonsLaw" (204 : Nat) ({ cls := "SignMasonsLaw", name := "alikeIfJoined", desc := "(LSignMasons;II[J)I" } : Jvm.MethodName)) ∈ wsA := wA_of 557 (by decide +kernel) (by decide +kernel)
theorem wd558 : (Jvm.Cond.static ({ cls := "SignMasonsLaw", name := "alikeIfJoined", desc := "(LSignMasons;II[J)I" } : Jvm.MethodName)) ∈ wsA := wA_of 558 (by decide +kernel) (by decide +kernel)
theorem wd559 : (Jvm.Cond.codeWith ({ cls := "SignMasonsLaw", name := "alikeIfJoined", desc := "(LSignMasons;II[J)I" } : Jvm.MethodName) method_29_code (5 : Nat) (Option.some Jvm.ClassFile.FieldType.int) [((0 : Nat), (10 : Nat), (13 : Nat), (19 : Nat))]) ∈ wsA := wA_of 559 (by decide +kernel) (by decide +kernel)
theorem wd560 : (Jvm.Cond.methodLink "SignMasonsLaw" (100 : Nat) ({ cls := "SignMasons", name := "alikeIfJoined", desc := "(II)I" } : Jvm.MethodName)) ∈ wsA := wA_of 560 (by decide +kernel) (by decide +kernel)
theorem wd561 : (Jvm.Cond.instanceMethod ({ cls := "SignMasons", name := "alikeIfJoined", desc := "(II)I" } : Jvm.MethodName)) ∈ wsA := wA_of 561 (by decide +kernel) (by decide +kernel)
theorem wd562 : (Jvm.Cond.selects "SignMasons" ({ cls := "SignMasons", name := "alikeIfJoined", desc := "(II)I" } : Jvm.MethodName) ({ cls := "SignMasons", name := "alikeIfJoined", desc := "(II)I" } : Jvm.MethodName)) ∈ wsA := wA_of 562 (by decide +kernel) (by decide +kernel)
theorem wd563 : (Jvm.Cond.code ({ cls := "SignMasons", name := "alikeIfJoined", desc := "(II)I" } : Jvm.MethodName) prog_1_method_30_code (5 : Nat) (Option.some Jvm.ClassFile.FieldType.int)) ∈ wsA := wA_of 563 (by decide +kernel) (by decide +kernel)
theorem wd564 : (Jvm.Cond.methodLinkNest "SignMasons" (174 : Nat) ({ cls := "SignMasons$Book", name := "countAlikeIfJoined", desc := "(II)I" } : Jvm.MethodName) "SignMasons") ∈ nwA := nA_of 564 (by decide +kernel) (by decide +kernel)
theorem wd566 : (Jvm.Cond.instanceMethod ({ cls := "SignMasons$Book", name := "countAlikeIfJoined", desc := "(II)I" } : Jvm.MethodName)) ∈ wsA := wA_of 566 (by decide +kernel) (by decide +kernel)
theorem wd567 : (Jvm.Cond.code ({ cls := "SignMasons$Book", name := "countAlikeIfJoined", desc := "(II)I" } : Jvm.MethodName) prog_2_method_10_code (6 : Nat) (Option.some Jvm.ClassFile.FieldType.int)) ∈ wsA := wA_of 567 (by decide +kernel) (by decide +kernel)
theorem wd568 : (Jvm.Cond.methodLinkNest "SignMasons$Book" (55 : Nat) ({ cls := "SignMasons$Places", name := "alikeIf", desc := "(IIII)Z" } : Jvm.MethodName) "SignMasons") ∈ nwA := nA_of 568 (by decide +kernel) (by decide +kernel)
theorem wd570 : (Jvm.Cond.instanceMethod ({ cls := "SignMasons$Places", name := "alikeIf", desc := "(IIII)Z" } : Jvm.MethodName)) ∈ wsA := wA_of 570 (by decide +kernel) (by decide +kernel)
theorem wd571 : (Jvm.Cond.code ({ cls := "SignMasons$Places", name := "alikeIf", desc := "(IIII)Z" } : Jvm.MethodName) prog_4_method_7_code (5 : Nat) (Option.some Jvm.ClassFile.FieldType.boolean)) ∈ wsA := wA_of 571 (by decide +kernel) (by decide +kernel)
theorem wd572 : (Jvm.Cond.methodLink "SignMasons$Places" (37 : Nat) ({ cls := "SignMasons$Places", name := "sameGroupIf", desc := "(IIII)Z" } : Jvm.MethodName)) ∈ wsA := wA_of 572 (by decide +kernel) (by decide +kernel)
theorem wd574 : (Jvm.Cond.instanceMethod ({ cls := "SignMasons$Places", name := "sameGroupIf", desc := "(IIII)Z" } : Jvm.MethodName)) ∈ wsA := wA_of 574 (by decide +kernel) (by decide +kernel)
theorem wd575 : (Jvm.Cond.code ({ cls := "SignMasons$Places", name := "sameGroupIf", desc := "(IIII)Z" } : Jvm.MethodName) prog_4_method_4_code (5 : Nat) (Option.some Jvm.ClassFile.FieldType.boolean)) ∈ wsA := wA_of 575 (by decide +kernel) (by decide +kernel)
theorem wd576 : (Jvm.Cond.classLink "SignMasonsLaw" (104 : Nat) "SignMasonsModel") ∈ wsA := wA_of 576 (by decide +kernel) (by decide +kernel)
theorem wd577 : (Jvm.Cond.instantiable "SignMasonsModel" (9 : Nat)) ∈ wsA := wA_of 577 (by decide +kernel) (by decide +kernel)
theorem wd578 : (Jvm.Cond.methodLink "SignMasonsLaw" (106 : Nat) ({ cls := "SignMasonsModel", name := "<init>", desc := "()V" } : Jvm.MethodName)) ∈ wsA := wA_of 578 (by decide +kernel) (by decide +kernel)
theorem wd579 : (Jvm.Cond.instanceMethod ({ cls := "SignMasonsModel", name := "<init>", desc := "()V" } : Jvm.MethodName)) ∈ wsA := wA_of 579 (by decide +kernel) (by decide +kernel)
theorem wd580 : (Jvm.Cond.code ({ cls := "SignMasonsModel", name := "<init>", desc := "()V" } : Jvm.MethodName) prog_6_method_1_code (2 : Nat) (Option.none : Option Jvm.ClassFile.FieldType)) ∈ wsA := wA_of 580 (by decide +kernel) (by decide +kernel)
theorem wd581 : (Jvm.Cond.methodLink "SignMasonsModel" (1 : Nat) ({ cls := "java/lang/Object", name := "<init>", desc := "()V" } : Jvm.MethodName)) ∈ wsA := wA_of 581 (by decide +kernel) (by decide +kernel)
theorem wd582 : (Jvm.Cond.fieldLink "SignMasonsModel" (31 : Nat) "SignMasonsModel" "thrown" "I") ∈ wsA := wA_of 582 (by decide +kernel) (by decide +kernel)
theorem wd583 : (Jvm.Cond.fieldLink "SignMasonsModel" (35 : Nat) "SignMasonsModel" "lodges" "I") ∈ wsA := wA_of 583 (by decide +kernel) (by decide +kernel)
theorem wd584 : (Jvm.Cond.fieldLink "SignMasonsModel" (9 : Nat) "SignMasonsModel" "many" "[I") ∈ wsA := wA_of 584 (by decide +kernel) (by decide +kernel)
theorem wd585 : (Jvm.Cond.fieldLink "SignMasonsModel" (13 : Nat) "SignMasonsModel" "shape" "[I") ∈ wsA := wA_of 585 (by decide +kernel) (by decide +kernel)
theorem wd586 : (Jvm.Cond.fieldLink "SignMasonsModel" (16 : Nat) "SignMasonsModel" "thumb" "[I") ∈ wsA := wA_of 586 (by decide +kernel) (by decide +kernel)
theorem wd587 : (Jvm.Cond.fieldLink "SignMasonsModel" (19 : Nat) "SignMasonsModel" "place" "[I") ∈ wsA := wA_of 587 (by decide +kernel) (by decide +kernel)
theorem wd588 : (Jvm.Cond.fieldLink "SignMasonsModel" (22 : Nat) "SignMasonsModel" "move" "[I") ∈ wsA := wA_of 588 (by decide +kernel) (by decide +kernel)
theorem wd589 : (Jvm.Cond.fieldLink "SignMasonsModel" (25 : Nat) "SignMasonsModel" "means" "[I") ∈ wsA := wA_of 589 (by decide +kernel) (by decide +kernel)
theorem wd590 : (Jvm.Cond.fieldLink "SignMasonsModel" (28 : Nat) "SignMasonsModel" "group" "[I") ∈ wsA := wA_of 590 (by decide +kernel) (by decide +kernel)
theorem wd591 : (Jvm.Cond.lays "SignMasonsModel" "SignMasonsModel" "thrown" "I") ∈ wsA := wA_of 591 (by decide +kernel) (by decide +kernel)
theorem wd593 : (Jvm.Cond.lays "SignMasonsModel" "SignMasonsModel" "lodges" "I") ∈ wsA := wA_of 593 (by decide +kernel) (by decide +kernel)
theorem wd595 : (Jvm.Cond.laysFinal "SignMasonsModel" "SignMasonsModel" "many" "[I") ∈ wsA := wA_of 595 (by decide +kernel) (by decide +kernel)
theorem wd597 : (Jvm.Cond.laysFinal "SignMasonsModel" "SignMasonsModel" "shape" "[I") ∈ wsA := wA_of 597 (by decide +kernel) (by decide +kernel)
theorem wd599 : (Jvm.Cond.laysFinal "SignMasonsModel" "SignMasonsModel" "thumb" "[I") ∈ wsA := wA_of 599 (by decide +kernel) (by decide +kernel)
theorem wd601 : (Jvm.Cond.laysFinal "SignMasonsModel" "SignMasonsModel" "place" "[I") ∈ wsA := wA_of 601 (by decide +kernel) (by decide +kernel)
theorem wd603 : (Jvm.Cond.laysFinal "SignMasonsModel" "SignMasonsModel" "move" "[I") ∈ wsA := wA_of 603 (by decide +kernel) (by decide +kernel)
theorem wd605 : (Jvm.Cond.laysFinal "SignMasonsModel" "SignMasonsModel" "means" "[I") ∈ wsA := wA_of 605 (by decide +kernel) (by decide +kernel)
theorem wd607 : (Jvm.Cond.laysFinal "SignMasonsModel" "SignMasonsModel" "group" "[I") ∈ wsA := wA_of 607 (by decide +kernel) (by decide +kernel)
theorem wd610 : (Jvm.Cond.methodLink "SignMasonsLaw" (113 : Nat) ({ cls := "SignMasonsModel", name := "thrown", desc := "()I" } : Jvm.MethodName)) ∈ wsA := wA_of 610 (by decide +kernel) (by decide +kernel)
theorem wd611 : (Jvm.Cond.instanceMethod ({ cls := "SignMasonsModel", name := "thrown", desc := "()I" } : Jvm.MethodName)) ∈ wsA := wA_of 611 (by decide +kernel) (by decide +kernel)
theorem wd612 : (Jvm.Cond.selects "SignMasonsModel" ({ cls := "SignMasonsModel", name := "thrown", desc := "()I" } : Jvm.MethodName) ({ cls := "SignMasonsModel", name := "thrown", desc := "()I" } : Jvm.MethodName)) ∈ wsA := wA_of 612 (by decide +kernel) (by decide +kernel)
theorem wd613 : (Jvm.Cond.code ({ cls := "SignMasonsModel", name := "thrown", desc := "()I" } : Jvm.MethodName) prog_6_method_2_code (1 : Nat) (Option.some Jvm.ClassFile.FieldType.int)) ∈ wsA := wA_of 613 (by decide +kernel) (by decide +kernel)
theorem wd614 : (Jvm.Cond.methodLink "SignMasonsLaw" (112 : Nat) ({ cls := "SignMasonsModel", name := "addLodge", desc := "()I" } : Jvm.MethodName)) ∈ wsA := wA_of 614 (by decide +kernel) (by decide +kernel)
theorem wd615 : (Jvm.Cond.instanceMethod ({ cls := "SignMasonsModel", name := "addLodge", desc := "()I" } : Jvm.MethodName)) ∈ wsA := wA_of 615 (by decide +kernel) (by decide +kernel)
theorem wd616 : (Jvm.Cond.selects "SignMasonsModel" ({ cls := "SignMasonsModel", name := "addLodge", desc := "()I" } : Jvm.MethodName) ({ cls := "SignMasonsModel", name := "addLodge", desc := "()I" } : Jvm.MethodName)) ∈ wsA := wA_of 616 (by decide +kernel) (by decide +kernel)
theorem wd617 : (Jvm.Cond.code ({ cls := "SignMasonsModel", name := "addLodge", desc := "()I" } : Jvm.MethodName) prog_6_method_21_code (1 : Nat) (Option.some Jvm.ClassFile.FieldType.int)) ∈ wsA := wA_of 617 (by decide +kernel) (by decide +kernel)
theorem wd618 : (Jvm.Cond.methodLink "SignMasonsModel" (76 : Nat) ({ cls := "SignMasonsModel", name := "fail", desc := "(I)I" } : Jvm.MethodName)) ∈ wsA := wA_of 618 (by decide +kernel) (by decide +kernel)
theorem wd620 : (Jvm.Cond.instanceMethod ({ cls := "SignMasonsModel", name := "fail", desc := "(I)I" } : Jvm.MethodName)) ∈ wsA := wA_of 620 (by decide +kernel) (by decide +kernel)
theorem wd621 : (Jvm.Cond.code ({ cls := "SignMasonsModel", name := "fail", desc := "(I)I" } : Jvm.MethodName) prog_6_method_3_code (2 : Nat) (Option.some Jvm.ClassFile.FieldType.int)) ∈ wsA := wA_of 621 (by decide +kernel) (by decide +kernel)
theorem wd622 : (Jvm.Cond.methodLink "SignMasonsLaw" (119 : Nat) ({ cls := "SignMasonsModel", name := "addSign", desc := "(IIIIII)I" } : Jvm.MethodName)) ∈ wsA := wA_of 622 (by decide +kernel) (by decide +kernel)
theorem wd623 : (Jvm.Cond.instanceMethod ({ cls := "SignMasonsModel", name := "addSign", desc := "(IIIIII)I" } : Jvm.MethodName)) ∈ wsA := wA_of 623 (by decide +kernel) (by decide +kernel)
theorem wd624 : (Jvm.Cond.selects "SignMasonsModel" ({ cls := "SignMasonsModel", name := "addSign", desc := "(IIIIII)I" } : Jvm.MethodName) ({ cls := "SignMasonsModel", name := "addSign", desc := "(IIIIII)I" } : Jvm.MethodName)) ∈ wsA := wA_of 624 (by decide +kernel) (by decide +kernel)
theorem wd625 : (Jvm.Cond.code ({ cls := "SignMasonsModel", name := "addSign", desc := "(IIIIII)I" } : Jvm.MethodName) prog_6_method_22_code (7 : Nat) (Option.some Jvm.ClassFile.FieldType.int)) ∈ wsA := wA_of 625 (by decide +kernel) (by decide +kernel)
theorem wd626 : (Jvm.Cond.methodLink "SignMasonsModel" (42 : Nat) ({ cls := "SignMasonsModel", name := "isLodge", desc := "(I)Z" } : Jvm.MethodName)) ∈ wsA := wA_of 626 (by decide +kernel) (by decide +kernel)
theorem wd628 : (Jvm.Cond.instanceMethod ({ cls := "SignMasonsModel", name := "isLodge", desc := "(I)Z" } : Jvm.MethodName)) ∈ wsA := wA_of 628 (by decide +kernel) (by decide +kernel)
theorem wd629 : (Jvm.Cond.code ({ cls := "SignMasonsModel", name := "isLodge", desc := "(I)Z" } : Jvm.MethodName) prog_6_method_6_code (2 : Nat) (Option.some Jvm.ClassFile.FieldType.boolean)) ∈ wsA := wA_of 629 (by decide +kernel) (by decide +kernel)
theorem wd630 : (Jvm.Cond.methodLink "SignMasonsModel" (38 : Nat) ({ cls := "SignMasonsModel", name := "isIn", desc := "(III)Z" } : Jvm.MethodName)) ∈ wsA := wA_of 630 (by decide +kernel) (by decide +kernel)
theorem wd631 : (Jvm.Cond.static ({ cls := "SignMasonsModel", name := "isIn", desc := "(III)Z" } : Jvm.MethodName)) ∈ wsA := wA_of 631 (by decide +kernel) (by decide +kernel)
theorem wd632 : (Jvm.Cond.code ({ cls := "SignMasonsModel", name := "isIn", desc := "(III)Z" } : Jvm.MethodName) prog_6_method_5_code (3 : Nat) (Option.some Jvm.ClassFile.FieldType.boolean)) ∈ wsA := wA_of 632 (by decide +kernel) (by decide +kernel)
theorem wd633 : (Jvm.Cond.methodLink "SignMasonsModel" (79 : Nat) ({ cls := "SignMasonsModel", name := "isShown", desc := "(IIII)Z" } : Jvm.MethodName)) ∈ wsA := wA_of 633 (by decide +kernel) (by decide +kernel)
theorem wd634 : (Jvm.Cond.static ({ cls := "SignMasonsModel", name := "isShown", desc := "(IIII)Z" } : Jvm.MethodName)) ∈ wsA := wA_of 634 (by decide +kernel) (by decide +kernel)
theorem wd635 : (Jvm.Cond.code ({ cls := "SignMasonsModel", name := "isShown", desc := "(IIII)Z" } : Jvm.MethodName) prog_6_method_9_code (4 : Nat) (Option.some Jvm.ClassFile.FieldType.boolean)) ∈ wsA := wA_of 635 (by decide +kernel) (by decide +kernel)
theorem wd636 : (Jvm.Cond.methodLink "SignMasonsModel" (46 : Nat) ({ cls := "SignMasonsModel", name := "isPlace", desc := "(I)Z" } : Jvm.MethodName)) ∈ wsA := wA_of 636 (by decide +kernel) (by decide +kernel)
theorem wd637 : (Jvm.Cond.static ({ cls := "SignMasonsModel", name := "isPlace", desc := "(I)Z" } : Jvm.MethodName)) ∈ wsA := wA_of 637 (by decide +kernel) (by decide +kernel)
theorem wd638 : (Jvm.Cond.code ({ cls := "SignMasonsModel", name := "isPlace", desc := "(I)Z" } : Jvm.MethodName) prog_6_method_8_code (1 : Nat) (Option.some Jvm.ClassFile.FieldType.boolean)) ∈ wsA := wA_of 638 (by decide +kernel) (by decide +kernel)
theorem wd639 : (Jvm.Cond.methodLink "SignMasonsModel" (69 : Nat) ({ cls := "SignMasonsModel", name := "signOf", desc := "(II)I" } : Jvm.MethodName)) ∈ wsA := wA_of 639 (by decide +kernel) (by decide +kernel)
theorem wd641 : (Jvm.Cond.instanceMethod ({ cls := "SignMasonsModel", name := "signOf", desc := "(II)I" } : Jvm.MethodName)) ∈ wsA := wA_of 641 (by decide +kernel) (by decide +kernel)
theorem wd642 : (Jvm.Cond.code ({ cls := "SignMasonsModel", name := "signOf", desc := "(II)I" } : Jvm.MethodName) prog_6_method_16_code (4 : Nat) (Option.some Jvm.ClassFile.FieldType.int)) ∈ wsA := wA_of 642 (by decide +kernel) (by decide +kernel)
theorem wd643 : (Jvm.Cond.methodLink "SignMasonsModel" (63 : Nat) ({ cls := "SignMasonsModel", name := "at", desc := "(II)I" } : Jvm.MethodName)) ∈ wsA := wA_of 643 (by decide +kernel) (by decide +kernel)
theorem wd644 : (Jvm.Cond.static ({ cls := "SignMasonsModel", name := "at", desc := "(II)I" } : Jvm.MethodName)) ∈ wsA := wA_of 644 (by decide +kernel) (by decide +kernel)
theorem wd645 : (Jvm.Cond.code ({ cls := "SignMasonsModel", name := "at", desc := "(II)I" } : Jvm.MethodName) prog_6_method_10_code (2 : Nat) (Option.some Jvm.ClassFile.FieldType.int)) ∈ wsA := wA_of 645 (by decide +kernel) (by decide +kernel)
theorem wd646 : (Jvm.Cond.methodLink "SignMasonsModel" (83 : Nat) ({ cls := "SignMasonsModel", name := "write", desc := "(IIIIII)V" } : Jvm.MethodName)) ∈ wsA := wA_of 646 (by decide +kernel) (by decide +kernel)
theorem wd648 : (Jvm.Cond.instanceMethod ({ cls := "SignMasonsModel", name := "write", desc := "(IIIIII)V" } : Jvm.MethodName)) ∈ wsA := wA_of 648 (by decide +kernel) (by decide +kernel)
theorem wd649 : (Jvm.Cond.code ({ cls := "SignMasonsModel", name := "write", desc := "(IIIIII)V" } : Jvm.MethodName) prog_6_method_17_code (8 : Nat) (Option.none : Option Jvm.ClassFile.FieldType)) ∈ wsA := wA_of 649 (by decide +kernel) (by decide +kernel)
theorem wd650 : (Jvm.Cond.methodLink "SignMasonsLaw" (123 : Nat) ({ cls := "SignMasonsModel", name := "forget", desc := "(II)I" } : Jvm.MethodName)) ∈ wsA := wA_of 650 (by decide +kernel) (by decide +kernel)
theorem wd651 : (Jvm.Cond.instanceMethod ({ cls := "SignMasonsModel", name := "forget", desc := "(II)I" } : Jvm.MethodName)) ∈ wsA := wA_of 651 (by decide +kernel) (by decide +kernel)
theorem wd652 : (Jvm.Cond.selects "SignMasonsModel" ({ cls := "SignMasonsModel", name := "forget", desc := "(II)I" } : Jvm.MethodName) ({ cls := "SignMasonsModel", name := "forget", desc := "(II)I" } : Jvm.MethodName)) ∈ wsA := wA_of 652 (by decide +kernel) (by decide +kernel)
theorem wd653 : (Jvm.Cond.code ({ cls := "SignMasonsModel", name := "forget", desc := "(II)I" } : Jvm.MethodName) prog_6_method_24_code (5 : Nat) (Option.some Jvm.ClassFile.FieldType.int)) ∈ wsA := wA_of 653 (by decide +kernel) (by decide +kernel)
theorem wd654 : (Jvm.Cond.methodLink "SignMasonsModel" (87 : Nat) ({ cls := "SignMasonsModel", name := "isSign", desc := "(II)Z" } : Jvm.MethodName)) ∈ wsA := wA_of 654 (by decide +kernel) (by decide +kernel)
theorem wd656 : (Jvm.Cond.instanceMethod ({ cls := "SignMasonsModel", name := "isSign", desc := "(II)Z" } : Jvm.MethodName)) ∈ wsA := wA_of 656 (by decide +kernel) (by decide +kernel)
theorem wd657 : (Jvm.Cond.code ({ cls := "SignMasonsModel", name := "isSign", desc := "(II)Z" } : Jvm.MethodName) prog_6_method_7_code (3 : Nat) (Option.some Jvm.ClassFile.FieldType.boolean)) ∈ wsA := wA_of 657 (by decide +kernel) (by decide +kernel)
theorem wd658 : (Jvm.Cond.methodLink "SignMasonsModel" (91 : Nat) ({ cls := "SignMasonsModel", name := "close", desc := "([III)V" } : Jvm.MethodName)) ∈ wsA := wA_of 658 (by decide +kernel) (by decide +kernel)
theorem wd659 : (Jvm.Cond.static ({ cls := "SignMasonsModel", name := "close", desc := "([III)V" } : Jvm.MethodName)) ∈ wsA := wA_of 659 (by decide +kernel) (by decide +kernel)
theorem wd660 : (Jvm.Cond.code ({ cls := "SignMasonsModel", name := "close", desc := "([III)V" } : Jvm.MethodName) prog_6_method_23_code (4 : Nat) (Option.none : Option Jvm.ClassFile.FieldType)) ∈ wsA := wA_of 660 (by decide +kernel) (by decide +kernel)
theorem wd661 : (Jvm.Cond.methodLink "SignMasonsLaw" (127 : Nat) ({ cls := "SignMasonsModel", name := "setThumb", desc := "(III)I" } : Jvm.MethodName)) ∈ wsA := wA_of 661 (by decide +kernel) (by decide +kernel)
theorem wd662 : (Jvm.Cond.instanceMethod ({ cls := "SignMasonsModel", name := "setThumb", desc := "(III)I" } : Jvm.MethodName)) ∈ wsA := wA_of 662 (by decide +kernel) (by decide +kernel)
theorem wd663 : (Jvm.Cond.selects "SignMasonsModel" ({ cls := "SignMasonsModel", name := "setThumb", desc := "(III)I" } : Jvm.MethodName) ({ cls := "SignMasonsModel", name := "setThumb", desc := "(III)I" } : Jvm.MethodName)) ∈ wsA := wA_of 663 (by decide +kernel) (by decide +kernel)
theorem wd664 : (Jvm.Cond.code ({ cls := "SignMasonsModel", name := "setThumb", desc := "(III)I" } : Jvm.MethodName) prog_6_method_25_code (5 : Nat) (Option.some Jvm.ClassFile.FieldType.int)) ∈ wsA := wA_of 664 (by decide +kernel) (by decide +kernel)
theorem wd665 : (Jvm.Cond.methodLink "SignMasonsLaw" (130 : Nat) ({ cls := "SignMasonsModel", name := "join", desc := "(II)I" } : Jvm.MethodName)) ∈ wsA := wA_of 665 (by decide +kernel) (by decide +kernel)
theorem wd666 : (Jvm.Cond.instanceMethod ({ cls := "SignMasonsModel", name := "join", desc := "(II)I" } : Jvm.MethodName)) ∈ wsA := wA_of 666 (by decide +kernel) (by decide +kernel)
theorem wd667 : (Jvm.Cond.selects "SignMasonsModel" ({ cls := "SignMasonsModel", name := "join", desc := "(II)I" } : Jvm.MethodName) ({ cls := "SignMasonsModel", name := "join", desc := "(II)I" } : Jvm.MethodName)) ∈ wsA := wA_of 667 (by decide +kernel) (by decide +kernel)
theorem wd668 : (Jvm.Cond.code ({ cls := "SignMasonsModel", name := "join", desc := "(II)I" } : Jvm.MethodName) prog_6_method_28_code (3 : Nat) (Option.some Jvm.ClassFile.FieldType.int)) ∈ wsA := wA_of 668 (by decide +kernel) (by decide +kernel)
theorem wd669 : (Jvm.Cond.methodLink "SignMasonsModel" (101 : Nat) ({ cls := "SignMasonsModel", name := "joinNow", desc := "(II)V" } : Jvm.MethodName)) ∈ wsA := wA_of 669 (by decide +kernel) (by decide +kernel)
theorem wd671 : (Jvm.Cond.instanceMethod ({ cls := "SignMasonsModel", name := "joinNow", desc := "(II)V" } : Jvm.MethodName)) ∈ wsA := wA_of 671 (by decide +kernel) (by decide +kernel)
theorem wd672 : (Jvm.Cond.code ({ cls := "SignMasonsModel", name := "joinNow", desc := "(II)V" } : Jvm.MethodName) prog_6_method_27_code (6 : Nat) (Option.none : Option Jvm.ClassFile.FieldType)) ∈ wsA := wA_of 672 (by decide +kernel) (by decide +kernel)
theorem wd673 : (Jvm.Cond.methodLink "SignMasonsModel" (95 : Nat) ({ cls := "java/lang/Math", name := "min", desc := "(II)I" } : Jvm.MethodName)) ∈ wsA := wA_of 673 (by decide +kernel) (by decide +kernel)
theorem wd674 : (Jvm.Cond.methodLink "SignMasonsModel" (98 : Nat) ({ cls := "java/lang/Math", name := "max", desc := "(II)I" } : Jvm.MethodName)) ∈ wsA := wA_of 674 (by decide +kernel) (by decide +kernel)
theorem wd675 : (Jvm.Cond.static ({ cls := "java/lang/Math", name := "max", desc := "(II)I" } : Jvm.MethodName)) ∈ wsA := wA_of 675 (by decide +kernel) (by decide +kernel)
theorem wd676 : (Jvm.Cond.code ({ cls := "java/lang/Math", name := "max", desc := "(II)I" } : Jvm.MethodName) prog_12_method_65_code (2 : Nat) (Option.some Jvm.ClassFile.FieldType.int)) ∈ wsA := wA_of 676 (by decide +kernel) (by decide +kernel)
theorem wd677 : (Jvm.Cond.methodLink "SignMasonsModel" (105 : Nat) ({ cls := "SignMasonsModel", name := "allGroups", desc := "()I" } : Jvm.MethodName)) ∈ wsA := wA_of 677 (by decide +kernel) (by decide +kernel)
theorem wd679 : (Jvm.Cond.instanceMethod ({ cls := "SignMasonsModel", name := "allGroups", desc := "()I" } : Jvm.MethodName)) ∈ wsA := wA_of 679 (by decide +kernel) (by decide +kernel)
theorem wd680 : (Jvm.Cond.code ({ cls := "SignMasonsModel", name := "allGroups", desc := "()I" } : Jvm.MethodName) prog_6_method_26_code (3 : Nat) (Option.some Jvm.ClassFile.FieldType.int)) ∈ wsA := wA_of 680 (by decide +kernel) (by decide +kernel)
theorem wd681 : (Jvm.Cond.methodLink "SignMasonsLaw" (133 : Nat) ({ cls := "SignMasonsModel", name := "borrow", desc := "(III)I" } : Jvm.MethodName)) ∈ wsA := wA_of 681 (by decide +kernel) (by decide +kernel)
theorem wd682 : (Jvm.Cond.instanceMethod ({ cls := "SignMasonsModel", name := "borrow", desc := "(III)I" } : Jvm.MethodName)) ∈ wsA := wA_of 682 (by decide +kernel) (by decide +kernel)
theorem wd683 : (Jvm.Cond.selects "SignMasonsModel" ({ cls := "SignMasonsModel", name := "borrow", desc := "(III)I" } : Jvm.MethodName) ({ cls := "SignMasonsModel", name := "borrow", desc := "(III)I" } : Jvm.MethodName)) ∈ wsA := wA_of 683 (by decide +kernel) (by decide +kernel)
theorem wd684 : (Jvm.Cond.code ({ cls := "SignMasonsModel", name := "borrow", desc := "(III)I" } : Jvm.MethodName) prog_6_method_29_code (6 : Nat) (Option.some Jvm.ClassFile.FieldType.int)) ∈ wsA := wA_of 684 (by decide +kernel) (by decide +kernel)
theorem wd685 : (Jvm.Cond.methodLink "SignMasonsModel" (109 : Nat) ({ cls := "SignMasonsModel", name := "thumbFor", desc := "(II)I" } : Jvm.MethodName)) ∈ wsA := wA_of 685 (by decide +kernel) (by decide +kernel)
theorem wd687 : (Jvm.Cond.instanceMethod ({ cls := "SignMasonsModel", name := "thumbFor", desc := "(II)I" } : Jvm.MethodName)) ∈ wsA := wA_of 687 (by decide +kernel) (by decide +kernel)
theorem wd688 : (Jvm.Cond.code ({ cls := "SignMasonsModel", name := "thumbFor", desc := "(II)I" } : Jvm.MethodName) prog_6_method_18_code (7 : Nat) (Option.some Jvm.ClassFile.FieldType.int)) ∈ wsA := wA_of 688 (by decide +kernel) (by decide +kernel)
theorem wd689 : (Jvm.Cond.methodLink "SignMasonsModel" (59 : Nat) ({ cls := "SignMasonsModel", name := "far", desc := "(IIIII)I" } : Jvm.MethodName)) ∈ wsA := wA_of 689 (by decide +kernel) (by decide +kernel)
theorem wd691 : (Jvm.Cond.instanceMethod ({ cls := "SignMasonsModel", name := "far", desc := "(IIIII)I" } : Jvm.MethodName)) ∈ wsA := wA_of 691 (by decide +kernel) (by decide +kernel)
theorem wd692 : (Jvm.Cond.code ({ cls := "SignMasonsModel", name := "far", desc := "(IIIII)I" } : Jvm.MethodName) prog_6_method_12_code (8 : Nat) (Option.some Jvm.ClassFile.FieldType.int)) ∈ wsA := wA_of 692 (by decide +kernel) (by decide +kernel)
theorem wd693 : (Jvm.Cond.methodLink "SignMasonsModel" (55 : Nat) ({ cls := "SignMasonsModel", name := "stepsOf", desc := "(II)I" } : Jvm.MethodName)) ∈ wsA := wA_of 693 (by decide +kernel) (by decide +kernel)
theorem wd695 : (Jvm.Cond.instanceMethod ({ cls := "SignMasonsModel", name := "stepsOf", desc := "(II)I" } : Jvm.MethodName)) ∈ wsA := wA_of 695 (by decide +kernel) (by decide +kernel)
theorem wd696 : (Jvm.Cond.code ({ cls := "SignMasonsModel", name := "stepsOf", desc := "(II)I" } : Jvm.MethodName) prog_6_method_11_code (3 : Nat) (Option.some Jvm.ClassFile.FieldType.int)) ∈ wsA := wA_of 696 (by decide +kernel) (by decide +kernel)
theorem wd697 : (Jvm.Cond.methodLink "SignMasonsModel" (49 : Nat) ({ cls := "java/lang/Math", name := "abs", desc := "(I)I" } : Jvm.MethodName)) ∈ wsA := wA_of 697 (by decide +kernel) (by decide +kernel)
theorem wd698 : (Jvm.Cond.methodLink "SignMasonsLaw" (137 : Nat) ({ cls := "SignMasonsModel", name := "groups", desc := "()I" } : Jvm.MethodName)) ∈ wsA := wA_of 698 (by decide +kernel) (by decide +kernel)
theorem wd699 : (Jvm.Cond.instanceMethod ({ cls := "SignMasonsModel", name := "groups", desc := "()I" } : Jvm.MethodName)) ∈ wsA := wA_of 699 (by decide +kernel) (by decide +kernel)
theorem wd700 : (Jvm.Cond.selects "SignMasonsModel" ({ cls := "SignMasonsModel", name := "groups", desc := "()I" } : Jvm.MethodName) ({ cls := "SignMasonsModel", name := "groups", desc := "()I" } : Jvm.MethodName)) ∈ wsA := wA_of 700 (by decide +kernel) (by decide +kernel)
theorem wd701 : (Jvm.Cond.code ({ cls := "SignMasonsModel", name := "groups", desc := "()I" } : Jvm.MethodName) prog_6_method_30_code (1 : Nat) (Option.some Jvm.ClassFile.FieldType.int)) ∈ wsA := wA_of 701 (by decide +kernel) (by decide +kernel)
theorem wd702 : (Jvm.Cond.methodLink "SignMasonsModel" (112 : Nat) ({ cls := "SignMasonsModel", name := "told", desc := "(I)I" } : Jvm.MethodName)) ∈ wsA := wA_of 702 (by decide +kernel) (by decide +kernel)
theorem wd704 : (Jvm.Cond.instanceMethod ({ cls := "SignMasonsModel", name := "told", desc := "(I)I" } : Jvm.MethodName)) ∈ wsA := wA_of 704 (by decide +kernel) (by decide +kernel)
theorem wd705 : (Jvm.Cond.code ({ cls := "SignMasonsModel", name := "told", desc := "(I)I" } : Jvm.MethodName) prog_6_method_4_code (2 : Nat) (Option.some Jvm.ClassFile.FieldType.int)) ∈ wsA := wA_of 705 (by decide +kernel) (by decide +kernel)
theorem wd706 : (Jvm.Cond.methodLink "SignMasonsLaw" (140 : Nat) ({ cls := "SignMasonsModel", name := "areJoined", desc := "(II)Z" } : Jvm.MethodName)) ∈ wsA := wA_of 706 (by decide +kernel) (by decide +kernel)
theorem wd707 : (Jvm.Cond.instanceMethod ({ cls := "SignMasonsModel", name := "areJoined", desc := "(II)Z" } : Jvm.MethodName)) ∈ wsA := wA_of 707 (by decide +kernel) (by decide +kernel)
theorem wd708 : (Jvm.Cond.selects "SignMasonsModel" ({ cls := "SignMasonsModel", name := "areJoined", desc := "(II)Z" } : Jvm.MethodName) ({ cls := "SignMasonsModel", name := "areJoined", desc := "(II)Z" } : Jvm.MethodName)) ∈ wsA := wA_of 708 (by decide +kernel) (by decide +kernel)
theorem wd709 : (Jvm.Cond.code ({ cls := "SignMasonsModel", name := "areJoined", desc := "(II)Z" } : Jvm.MethodName) prog_6_method_31_code (3 : Nat) (Option.some Jvm.ClassFile.FieldType.boolean)) ∈ wsA := wA_of 709 (by decide +kernel) (by decide +kernel)
theorem wd710 : (Jvm.Cond.methodLink "SignMasonsLaw" (143 : Nat) ({ cls := "SignMasonsModel", name := "steps", desc := "(II)I" } : Jvm.MethodName)) ∈ wsA := wA_of 710 (by decide +kernel) (by decide +kernel)
theorem wd711 : (Jvm.Cond.instanceMethod ({ cls := "SignMasonsModel", name := "steps", desc := "(II)I" } : Jvm.MethodName)) ∈ wsA := wA_of 711 (by decide +kernel) (by decide +kernel)
theorem wd712 : (Jvm.Cond.selects "SignMasonsModel" ({ cls := "SignMasonsModel", name := "steps", desc := "(II)I" } : Jvm.MethodName) ({ cls := "SignMasonsModel", name := "steps", desc := "(II)I" } : Jvm.MethodName)) ∈ wsA := wA_of 712 (by decide +kernel) (by decide +kernel)
theorem wd713 : (Jvm.Cond.code ({ cls := "SignMasonsModel", name := "steps", desc := "(II)I" } : Jvm.MethodName) prog_6_method_32_code (3 : Nat) (Option.some Jvm.ClassFile.FieldType.int)) ∈ wsA := wA_of 713 (by decide +kernel) (by decide +kernel)
theorem wd714 : (Jvm.Cond.methodLink "SignMasonsLaw" (147 : Nat) ({ cls := "SignMasonsModel", name := "lodges", desc := "()I" } : Jvm.MethodName)) ∈ wsA := wA_of 714 (by decide +kernel) (by decide +kernel)
theorem wd715 : (Jvm.Cond.instanceMethod ({ cls := "SignMasonsModel", name := "lodges", desc := "()I" } : Jvm.MethodName)) ∈ wsA := wA_of 715 (by decide +kernel) (by decide +kernel)
theorem wd716 : (Jvm.Cond.selects "SignMasonsModel" ({ cls := "SignMasonsModel", name := "lodges", desc := "()I" } : Jvm.MethodName) ({ cls := "SignMasonsModel", name := "lodges", desc := "()I" } : Jvm.MethodName)) ∈ wsA := wA_of 716 (by decide +kernel) (by decide +kernel)
theorem wd717 : (Jvm.Cond.code ({ cls := "SignMasonsModel", name := "lodges", desc := "()I" } : Jvm.MethodName) prog_6_method_33_code (1 : Nat) (Option.some Jvm.ClassFile.FieldType.int)) ∈ wsA := wA_of 717 (by decide +kernel) (by decide +kernel)
theorem wd718 : (Jvm.Cond.methodLink "SignMasonsLaw" (151 : Nat) ({ cls := "SignMasonsModel", name := "signsOf", desc := "(I)I" } : Jvm.MethodName)) ∈ wsA := wA_of 718 (by decide +kernel) (by decide +kernel)
theorem wd719 : (Jvm.Cond.instanceMethod ({ cls := "SignMasonsModel", name := "signsOf", desc := "(I)I" } : Jvm.MethodName)) ∈ wsA := wA_of 719 (by decide +kernel) (by decide +kernel)
theorem wd720 : (Jvm.Cond.selects "SignMasonsModel" ({ cls := "SignMasonsModel", name := "signsOf", desc := "(I)I" } : Jvm.MethodName) ({ cls := "SignMasonsModel", name := "signsOf", desc := "(I)I" } : Jvm.MethodName)) ∈ wsA := wA_of 720 (by decide +kernel) (by decide +kernel)
theorem wd721 : (Jvm.Cond.code ({ cls := "SignMasonsModel", name := "signsOf", desc := "(I)I" } : Jvm.MethodName) prog_6_method_34_code (2 : Nat) (Option.some Jvm.ClassFile.FieldType.int)) ∈ wsA := wA_of 721 (by decide +kernel) (by decide +kernel)
theorem wd722 : (Jvm.Cond.methodLink "SignMasonsLaw" (154 : Nat) ({ cls := "SignMasonsModel", name := "shapeOf", desc := "(II)I" } : Jvm.MethodName)) ∈ wsA := wA_of 722 (by decide +kernel) (by decide +kernel)
theorem wd723 : (Jvm.Cond.instanceMethod ({ cls := "SignMasonsModel", name := "shapeOf", desc := "(II)I" } : Jvm.MethodName)) ∈ wsA := wA_of 723 (by decide +kernel) (by decide +kernel)
theorem wd724 : (Jvm.Cond.selects "SignMasonsModel" ({ cls := "SignMasonsModel", name := "shapeOf", desc := "(II)I" } : Jvm.MethodName) ({ cls := "SignMasonsModel", name := "shapeOf", desc := "(II)I" } : Jvm.MethodName)) ∈ wsA := wA_of 724 (by decide +kernel) (by decide +kernel)
theorem wd725 : (Jvm.Cond.code ({ cls := "SignMasonsModel", name := "shapeOf", desc := "(II)I" } : Jvm.MethodName) prog_6_method_36_code (3 : Nat) (Option.some Jvm.ClassFile.FieldType.int)) ∈ wsA := wA_of 725 (by decide +kernel) (by decide +kernel)
theorem wd726 : (Jvm.Cond.methodLink "SignMasonsModel" (115 : Nat) ({ cls := "SignMasonsModel", name := "of", desc := "(II[I)I" } : Jvm.MethodName)) ∈ wsA := wA_of 726 (by decide +kernel) (by decide +kernel)
theorem wd728 : (Jvm.Cond.instanceMethod ({ cls := "SignMasonsModel", name := "of", desc := "(II[I)I" } : Jvm.MethodName)) ∈ wsA := wA_of 728 (by decide +kernel) (by decide +kernel)
theorem wd729 : (Jvm.Cond.code ({ cls := "SignMasonsModel", name := "of", desc := "(II[I)I" } : Jvm.MethodName) prog_6_method_35_code (4 : Nat) (Option.some Jvm.ClassFile.FieldType.int)) ∈ wsA := wA_of 729 (by decide +kernel) (by decide +kernel)
theorem wd730 : (Jvm.Cond.methodLink "SignMasonsLaw" (157 : Nat) ({ cls := "SignMasonsModel", name := "thumbOf", desc := "(II)I" } : Jvm.MethodName)) ∈ wsA := wA_of 730 (by decide +kernel) (by decide +kernel)
theorem wd731 : (Jvm.Cond.instanceMethod ({ cls := "SignMasonsModel", name := "thumbOf", desc := "(II)I" } : Jvm.MethodName)) ∈ wsA := wA_of 731 (by decide +kernel) (by decide +kernel)
theorem wd732 : (Jvm.Cond.selects "SignMasonsModel" ({ cls := "SignMasonsModel", name := "thumbOf", desc := "(II)I" } : Jvm.MethodName) ({ cls := "SignMasonsModel", name := "thumbOf", desc := "(II)I" } : Jvm.MethodName)) ∈ wsA := wA_of 732 (by decide +kernel) (by decide +kernel)
theorem wd733 : (Jvm.Cond.code ({ cls := "SignMasonsModel", name := "thumbOf", desc := "(II)I" } : Jvm.MethodName) prog_6_method_37_code (3 : Nat) (Option.some Jvm.ClassFile.FieldType.int)) ∈ wsA := wA_of 733 (by decide +kernel) (by decide +kernel)
theorem wd734 : (Jvm.Cond.methodLink "SignMasonsLaw" (160 : Nat) ({ cls := "SignMasonsModel", name := "placeOf", desc := "(II)I" } : Jvm.MethodName)) ∈ wsA := wA_of 734 (by decide +kernel) (by decide +kernel)
theorem wd735 : (Jvm.Cond.instanceMethod ({ cls := "SignMasonsModel", name := "placeOf", desc := "(II)I" } : Jvm.MethodName)) ∈ wsA := wA_of 735 (by decide +kernel) (by decide +kernel)
theorem wd736 : (Jvm.Cond.selects "SignMasonsModel" ({ cls := "SignMasonsModel", name := "placeOf", desc := "(II)I" } : Jvm.MethodName) ({ cls := "SignMasonsModel", name := "placeOf", desc := "(II)I" } : Jvm.MethodName)) ∈ wsA := wA_of 736 (by decide +kernel) (by decide +kernel)
theorem wd737 : (Jvm.Cond.code ({ cls := "SignMasonsModel", name := "placeOf", desc := "(II)I" } : Jvm.MethodName) prog_6_method_38_code (3 : Nat) (Option.some Jvm.ClassFile.FieldType.int)) ∈ wsA := wA_of 737 (by decide +kernel) (by decide +kernel)
theorem wd738 : (Jvm.Cond.methodLink "SignMasonsLaw" (163 : Nat) ({ cls := "SignMasonsModel", name := "meaningOf", desc := "(II)I" } : Jvm.MethodName)) ∈ wsA := wA_of 738 (by decide +kernel) (by decide +kernel)
theorem wd739 : (Jvm.Cond.instanceMethod ({ cls := "SignMasonsModel", name := "meaningOf", desc := "(II)I" } : Jvm.MethodName)) ∈ wsA := wA_of 739 (by decide +kernel) (by decide +kernel)
theorem wd740 : (Jvm.Cond.selects "SignMasonsModel" ({ cls := "SignMasonsModel", name := "meaningOf", desc := "(II)I" } : Jvm.MethodName) ({ cls := "SignMasonsModel", name := "meaningOf", desc := "(II)I" } : Jvm.MethodName)) ∈ wsA := wA_of 740 (by decide +kernel) (by decide +kernel)
theorem wd741 : (Jvm.Cond.code ({ cls := "SignMasonsModel", name := "meaningOf", desc := "(II)I" } : Jvm.MethodName) prog_6_method_39_code (3 : Nat) (Option.some Jvm.ClassFile.FieldType.int)) ∈ wsA := wA_of 741 (by decide +kernel) (by decide +kernel)
theorem wd742 : (Jvm.Cond.methodLink "SignMasonsLaw" (166 : Nat) ({ cls := "SignMasonsModel", name := "signFor", desc := "(II)I" } : Jvm.MethodName)) ∈ wsA := wA_of 742 (by decide +kernel) (by decide +kernel)
theorem wd743 : (Jvm.Cond.instanceMethod ({ cls := "SignMasonsModel", name := "signFor", desc := "(II)I" } : Jvm.MethodName)) ∈ wsA := wA_of 743 (by decide +kernel) (by decide +kernel)
theorem wd744 : (Jvm.Cond.selects "SignMasonsModel" ({ cls := "SignMasonsModel", name := "signFor", desc := "(II)I" } : Jvm.MethodName) ({ cls := "SignMasonsModel", name := "signFor", desc := "(II)I" } : Jvm.MethodName)) ∈ wsA := wA_of 744 (by decide +kernel) (by decide +kernel)
theorem wd745 : (Jvm.Cond.code ({ cls := "SignMasonsModel", name := "signFor", desc := "(II)I" } : Jvm.MethodName) prog_6_method_40_code (3 : Nat) (Option.some Jvm.ClassFile.FieldType.int)) ∈ wsA := wA_of 745 (by decide +kernel) (by decide +kernel)
theorem wd746 : (Jvm.Cond.methodLink "SignMasonsLaw" (169 : Nat) ({ cls := "SignMasonsModel", name := "apart", desc := "(III)I" } : Jvm.MethodName)) ∈ wsA := wA_of 746 (by decide +kernel) (by decide +kernel)
theorem wd747 : (Jvm.Cond.instanceMethod ({ cls := "SignMasonsModel", name := "apart", desc := "(III)I" } : Jvm.MethodName)) ∈ wsA := wA_of 747 (by decide +kernel) (by decide +kernel)
theorem wd748 : (Jvm.Cond.selects "SignMasonsModel" ({ cls := "SignMasonsModel", name := "apart", desc := "(III)I" } : Jvm.MethodName) ({ cls := "SignMasonsModel", name := "apart", desc := "(III)I" } : Jvm.MethodName)) ∈ wsA := wA_of 748 (by decide +kernel) (by decide +kernel)
theorem wd749 : (Jvm.Cond.code ({ cls := "SignMasonsModel", name := "apart", desc := "(III)I" } : Jvm.MethodName) prog_6_method_41_code (4 : Nat) (Option.some Jvm.ClassFile.FieldType.int)) ∈ wsA := wA_of 749 (by decide +kernel) (by decide +kernel)
theorem wd750 : (Jvm.Cond.methodLink "SignMasonsModel" (72 : Nat) ({ cls := "SignMasonsModel", name := "far", desc := "(II)I" } : Jvm.MethodName)) ∈ wsA := wA_of 750 (by decide +kernel) (by decide +kernel)
theorem wd752 : (Jvm.Cond.instanceMethod ({ cls := "SignMasonsModel", name := "far", desc := "(II)I" } : Jvm.MethodName)) ∈ wsA := wA_of 752 (by decide +kernel) (by decide +kernel)
theorem wd753 : (Jvm.Cond.code ({ cls := "SignMasonsModel", name := "far", desc := "(II)I" } : Jvm.MethodName) prog_6_method_13_code (3 : Nat) (Option.some Jvm.ClassFile.FieldType.int)) ∈ wsA := wA_of 753 (by decide +kernel) (by decide +kernel)
theorem wd754 : (Jvm.Cond.methodLink "SignMasonsLaw" (172 : Nat) ({ cls := "SignMasonsModel", name := "alikePairs", desc := "(I)I" } : Jvm.MethodName)) ∈ wsA := wA_of 754 (by decide +kernel) (by decide +kernel)
theorem wd755 : (Jvm.Cond.instanceMethod ({ cls := "SignMasonsModel", name := "alikePairs", desc := "(I)I" } : Jvm.MethodName)) ∈ wsA := wA_of 755 (by decide +kernel) (by decide +kernel)
theorem wd756 : (Jvm.Cond.selects "SignMasonsModel" ({ cls := "SignMasonsModel", name := "alikePairs", desc := "(I)I" } : Jvm.MethodName) ({ cls := "SignMasonsModel", name := "alikePairs", desc := "(I)I" } : Jvm.MethodName)) ∈ wsA := wA_of 756 (by decide +kernel) (by decide +kernel)
theorem wd757 : (Jvm.Cond.code ({ cls := "SignMasonsModel", name := "alikePairs", desc := "(I)I" } : Jvm.MethodName) prog_6_method_42_code (2 : Nat) (Option.some Jvm.ClassFile.FieldType.int)) ∈ wsA := wA_of 757 (by decide +kernel) (by decide +kernel)
theorem wd758 : (Jvm.Cond.methodLink "SignMasonsModel" (119 : Nat) ({ cls := "SignMasonsModel", name := "alike", desc := "(I)I" } : Jvm.MethodName)) ∈ wsA := wA_of 758 (by decide +kernel) (by decide +kernel)
theorem wd760 : (Jvm.Cond.instanceMethod ({ cls := "SignMasonsModel", name := "alike", desc := "(I)I" } : Jvm.MethodName)) ∈ wsA := wA_of 760 (by decide +kernel) (by decide +kernel)
theorem wd761 : (Jvm.Cond.code ({ cls := "SignMasonsModel", name := "alike", desc := "(I)I" } : Jvm.MethodName) prog_6_method_19_code (5 : Nat) (Option.some Jvm.ClassFile.FieldType.int)) ∈ wsA := wA_of 761 (by decide +kernel) (by decide +kernel)
theorem wd762 : (Jvm.Cond.methodLink "SignMasonsLaw" (175 : Nat) ({ cls := "SignMasonsModel", name := "thumbPairs", desc := "(I)I" } : Jvm.MethodName)) ∈ wsA := wA_of 762 (by decide +kernel) (by decide +kernel)
theorem wd763 : (Jvm.Cond.instanceMethod ({ cls := "SignMasonsModel", name := "thumbPairs", desc := "(I)I" } : Jvm.MethodName)) ∈ wsA := wA_of 763 (by decide +kernel) (by decide +kernel)
theorem wd764 : (Jvm.Cond.selects "SignMasonsModel" ({ cls := "SignMasonsModel", name := "thumbPairs", desc := "(I)I" } : Jvm.MethodName) ({ cls := "SignMasonsModel", name := "thumbPairs", desc := "(I)I" } : Jvm.MethodName)) ∈ wsA := wA_of 764 (by decide +kernel) (by decide +kernel)
theorem wd765 : (Jvm.Cond.code ({ cls := "SignMasonsModel", name := "thumbPairs", desc := "(I)I" } : Jvm.MethodName) prog_6_method_44_code (2 : Nat) (Option.some Jvm.ClassFile.FieldType.int)) ∈ wsA := wA_of 765 (by decide +kernel) (by decide +kernel)
theorem wd766 : (Jvm.Cond.methodLink "SignMasonsModel" (122 : Nat) ({ cls := "SignMasonsModel", name := "thumbs", desc := "(I)I" } : Jvm.MethodName)) ∈ wsA := wA_of 766 (by decide +kernel) (by decide +kernel)
theorem wd768 : (Jvm.Cond.instanceMethod ({ cls := "SignMasonsModel", name := "thumbs", desc := "(I)I" } : Jvm.MethodName)) ∈ wsA := wA_of 768 (by decide +kernel) (by decide +kernel)
theorem wd769 : (Jvm.Cond.code ({ cls := "SignMasonsModel", name := "thumbs", desc := "(I)I" } : Jvm.MethodName) prog_6_method_43_code (5 : Nat) (Option.some Jvm.ClassFile.FieldType.int)) ∈ wsA := wA_of 769 (by decide +kernel) (by decide +kernel)
theorem wd770 : (Jvm.Cond.methodLink "SignMasonsLaw" (178 : Nat) ({ cls := "SignMasonsModel", name := "closest", desc := "(I)I" } : Jvm.MethodName)) ∈ wsA := wA_of 770 (by decide +kernel) (by decide +kernel)
theorem wd771 : (Jvm.Cond.instanceMethod ({ cls := "SignMasonsModel", name := "closest", desc := "(I)I" } : Jvm.MethodName)) ∈ wsA := wA_of 771 (by decide +kernel) (by decide +kernel)
theorem wd772 : (Jvm.Cond.selects "SignMasonsModel" ({ cls := "SignMasonsModel", name := "closest", desc := "(I)I" } : Jvm.MethodName) ({ cls := "SignMasonsModel", name := "closest", desc := "(I)I" } : Jvm.MethodName)) ∈ wsA := wA_of 772 (by decide +kernel) (by decide +kernel)
theorem wd773 : (Jvm.Cond.code ({ cls := "SignMasonsModel", name := "closest", desc := "(I)I" } : Jvm.MethodName) prog_6_method_46_code (2 : Nat) (Option.some Jvm.ClassFile.FieldType.int)) ∈ wsA := wA_of 773 (by decide +kernel) (by decide +kernel)
theorem wd774 : (Jvm.Cond.methodLink "SignMasonsModel" (125 : Nat) ({ cls := "SignMasonsModel", name := "nearest", desc := "(I)I" } : Jvm.MethodName)) ∈ wsA := wA_of 774 (by decide +kernel) (by decide +kernel)
theorem wd776 : (Jvm.Cond.instanceMethod ({ cls := "SignMasonsModel", name := "nearest", desc := "(I)I" } : Jvm.MethodName)) ∈ wsA := wA_of 776 (by decide +kernel) (by decide +kernel)
theorem wd777 : (Jvm.Cond.code ({ cls := "SignMasonsModel", name := "nearest", desc := "(I)I" } : Jvm.MethodName) prog_6_method_45_code (5 : Nat) (Option.some Jvm.ClassFile.FieldType.int)) ∈ wsA := wA_of 777 (by decide +kernel) (by decide +kernel)
theorem wd778 : (Jvm.Cond.methodLink "SignMasonsLaw" (181 : Nat) ({ cls := "SignMasonsModel", name := "mostMistaken", desc := "(I)I" } : Jvm.MethodName)) ∈ wsA := wA_of 778 (by decide +kernel) (by decide +kernel)
theorem wd779 : (Jvm.Cond.instanceMethod ({ cls := "SignMasonsModel", name := "mostMistaken", desc := "(I)I" } : Jvm.MethodName)) ∈ wsA := wA_of 779 (by decide +kernel) (by decide +kernel)
theorem wd780 : (Jvm.Cond.selects "SignMasonsModel" ({ cls := "SignMasonsModel", name := "mostMistaken", desc := "(I)I" } : Jvm.MethodName) ({ cls := "SignMasonsModel", name := "mostMistaken", desc := "(I)I" } : Jvm.MethodName)) ∈ wsA := wA_of 780 (by decide +kernel) (by decide +kernel)
theorem wd781 : (Jvm.Cond.code ({ cls := "SignMasonsModel", name := "mostMistaken", desc := "(I)I" } : Jvm.MethodName) prog_6_method_48_code (2 : Nat) (Option.some Jvm.ClassFile.FieldType.int)) ∈ wsA := wA_of 781 (by decide +kernel) (by decide +kernel)
theorem wd782 : (Jvm.Cond.methodLink "SignMasonsModel" (128 : Nat) ({ cls := "SignMasonsModel", name := "mistaken", desc := "(I)I" } : Jvm.MethodName)) ∈ wsA := wA_of 782 (by decide +kernel) (by decide +kernel)
theorem wd784 : (Jvm.Cond.instanceMethod ({ cls := "SignMasonsModel", name := "mistaken", desc := "(I)I" } : Jvm.MethodName)) ∈ wsA := wA_of 784 (by decide +kernel) (by decide +kernel)
theorem wd785 : (Jvm.Cond.code ({ cls := "SignMasonsModel", name := "mistaken", desc := "(I)I" } : Jvm.MethodName) prog_6_method_47_code (7 : Nat) (Option.some Jvm.ClassFile.FieldType.int)) ∈ wsA := wA_of 785 (by decide +kernel) (by decide +kernel)
theorem wd786 : (Jvm.Cond.methodLink "SignMasonsLaw" (184 : Nat) ({ cls := "SignMasonsModel", name := "read", desc := "(III)I" } : Jvm.MethodName)) ∈ wsA := wA_of 786 (by decide +kernel) (by decide +kernel)
theorem wd787 : (Jvm.Cond.instanceMethod ({ cls := "SignMasonsModel", name := "read", desc := "(III)I" } : Jvm.MethodName)) ∈ wsA := wA_of 787 (by decide +kernel) (by decide +kernel)
theorem wd788 : (Jvm.Cond.selects "SignMasonsModel" ({ cls := "SignMasonsModel", name := "read", desc := "(III)I" } : Jvm.MethodName) ({ cls := "SignMasonsModel", name := "read", desc := "(III)I" } : Jvm.MethodName)) ∈ wsA := wA_of 788 (by decide +kernel) (by decide +kernel)
theorem wd789 : (Jvm.Cond.code ({ cls := "SignMasonsModel", name := "read", desc := "(III)I" } : Jvm.MethodName) prog_6_method_49_code (4 : Nat) (Option.some Jvm.ClassFile.FieldType.int)) ∈ wsA := wA_of 789 (by decide +kernel) (by decide +kernel)
theorem wd790 : (Jvm.Cond.methodLink "SignMasonsModel" (74 : Nat) ({ cls := "SignMasonsModel", name := "reads", desc := "(II)I" } : Jvm.MethodName)) ∈ wsA := wA_of 790 (by decide +kernel) (by decide +kernel)
theorem wd792 : (Jvm.Cond.instanceMethod ({ cls := "SignMasonsModel", name := "reads", desc := "(II)I" } : Jvm.MethodName)) ∈ wsA := wA_of 792 (by decide +kernel) (by decide +kernel)
theorem wd793 : (Jvm.Cond.code ({ cls := "SignMasonsModel", name := "reads", desc := "(II)I" } : Jvm.MethodName) prog_6_method_15_code (3 : Nat) (Option.some Jvm.ClassFile.FieldType.int)) ∈ wsA := wA_of 793 (by decide +kernel) (by decide +kernel)
theorem wd794 : (Jvm.Cond.methodLink "SignMasonsModel" (66 : Nat) ({ cls := "SignMasonsModel", name := "reads", desc := "(IIIII)I" } : Jvm.MethodName)) ∈ wsA := wA_of 794 (by decide +kernel) (by decide +kernel)
theorem wd796 : (Jvm.Cond.instanceMethod ({ cls := "SignMasonsModel", name := "reads", desc := "(IIIII)I" } : Jvm.MethodName)) ∈ wsA := wA_of 796 (by decide +kernel) (by decide +kernel)
theorem wd797 : (Jvm.Cond.code ({ cls := "SignMasonsModel", name := "reads", desc := "(IIIII)I" } : Jvm.MethodName) prog_6_method_14_code (10 : Nat) (Option.some Jvm.ClassFile.FieldType.int)) ∈ wsA := wA_of 797 (by decide +kernel) (by decide +kernel)
theorem wd798 : (Jvm.Cond.methodLink "SignMasonsLaw" (188 : Nat) ({ cls := "SignMasonsModel", name := "readShown", desc := "(IIIII)I" } : Jvm.MethodName)) ∈ wsA := wA_of 798 (by decide +kernel) (by decide +kernel)
theorem wd799 : (Jvm.Cond.instanceMethod ({ cls := "SignMasonsModel", name := "readShown", desc := "(IIIII)I" } : Jvm.MethodName)) ∈ wsA := wA_of 799 (by decide +kernel) (by decide +kernel)
theorem wd800 : (Jvm.Cond.selects "SignMasonsModel" ({ cls := "SignMasonsModel", name := "readShown", desc := "(IIIII)I" } : Jvm.MethodName) ({ cls := "SignMasonsModel", name := "readShown", desc := "(IIIII)I" } : Jvm.MethodName)) ∈ wsA := wA_of 800 (by decide +kernel) (by decide +kernel)
theorem wd801 : (Jvm.Cond.code ({ cls := "SignMasonsModel", name := "readShown", desc := "(IIIII)I" } : Jvm.MethodName) prog_6_method_50_code (6 : Nat) (Option.some Jvm.ClassFile.FieldType.int)) ∈ wsA := wA_of 801 (by decide +kernel) (by decide +kernel)
theorem wd802 : (Jvm.Cond.methodLink "SignMasonsLaw" (191 : Nat) ({ cls := "SignMasonsModel", name := "understood", desc := "(II)I" } : Jvm.MethodName)) ∈ wsA := wA_of 802 (by decide +kernel) (by decide +kernel)
theorem wd803 : (Jvm.Cond.instanceMethod ({ cls := "SignMasonsModel", name := "understood", desc := "(II)I" } : Jvm.MethodName)) ∈ wsA := wA_of 803 (by decide +kernel) (by decide +kernel)
theorem wd804 : (Jvm.Cond.selects "SignMasonsModel" ({ cls := "SignMasonsModel", name := "understood", desc := "(II)I" } : Jvm.MethodName) ({ cls := "SignMasonsModel", name := "understood", desc := "(II)I" } : Jvm.MethodName)) ∈ wsA := wA_of 804 (by decide +kernel) (by decide +kernel)
theorem wd805 : (Jvm.Cond.code ({ cls := "SignMasonsModel", name := "understood", desc := "(II)I" } : Jvm.MethodName) prog_6_method_51_code (3 : Nat) (Option.some Jvm.ClassFile.FieldType.int)) ∈ wsA := wA_of 805 (by decide +kernel) (by decide +kernel)
theorem wd806 : (Jvm.Cond.methodLink "SignMasonsModel" (131 : Nat) ({ cls := "SignMasonsModel", name := "readAs", desc := "(IIZ)I" } : Jvm.MethodName)) ∈ wsA := wA_of 806 (by decide +kernel) (by decide +kernel)
theorem wd808 : (Jvm.Cond.instanceMethod ({ cls := "SignMasonsModel", name := "readAs", desc := "(IIZ)I" } : Jvm.MethodName)) ∈ wsA := wA_of 808 (by decide +kernel) (by decide +kernel)
theorem wd809 : (Jvm.Cond.code ({ cls := "SignMasonsModel", name := "readAs", desc := "(IIZ)I" } : Jvm.MethodName) prog_6_method_20_code (7 : Nat) (Option.some Jvm.ClassFile.FieldType.int)) ∈ wsA := wA_of 809 (by decide +kernel) (by decide +kernel)
theorem wd810 : (Jvm.Cond.methodLink "SignMasonsLaw" (194 : Nat) ({ cls := "SignMasonsModel", name := "misread", desc := "(II)I" } : Jvm.MethodName)) ∈ wsA := wA_of 810 (by decide +kernel) (by decide +kernel)
theorem wd811 : (Jvm.Cond.instanceMethod ({ cls := "SignMasonsModel", name := "misread", desc := "(II)I" } : Jvm.MethodName)) ∈ wsA := wA_of 811 (by decide +kernel) (by decide +kernel)
theorem wd812 : (Jvm.Cond.selects "SignMasonsModel" ({ cls := "SignMasonsModel", name := "misread", desc := "(II)I" } : Jvm.MethodName) ({ cls := "SignMasonsModel", name := "misread", desc := "(II)I" } : Jvm.MethodName)) ∈ wsA := wA_of 812 (by decide +kernel) (by decide +kernel)
theorem wd813 : (Jvm.Cond.code ({ cls := "SignMasonsModel", name := "misread", desc := "(II)I" } : Jvm.MethodName) prog_6_method_52_code (3 : Nat) (Option.some Jvm.ClassFile.FieldType.int)) ∈ wsA := wA_of 813 (by decide +kernel) (by decide +kernel)
theorem wd814 : (Jvm.Cond.methodLink "SignMasonsLaw" (197 : Nat) ({ cls := "SignMasonsModel", name := "common", desc := "(II)I" } : Jvm.MethodName)) ∈ wsA := wA_of 814 (by decide +kernel) (by decide +kernel)
theorem wd815 : (Jvm.Cond.instanceMethod ({ cls := "SignMasonsModel", name := "common", desc := "(II)I" } : Jvm.MethodName)) ∈ wsA := wA_of 815 (by decide +kernel) (by decide +kernel)
theorem wd816 : (Jvm.Cond.selects "SignMasonsModel" ({ cls := "SignMasonsModel", name := "common", desc := "(II)I" } : Jvm.MethodName) ({ cls := "SignMasonsModel", name := "common", desc := "(II)I" } : Jvm.MethodName)) ∈ wsA := wA_of 816 (by decide +kernel) (by decide +kernel)
theorem wd817 : (Jvm.Cond.code ({ cls := "SignMasonsModel", name := "common", desc := "(II)I" } : Jvm.MethodName) prog_6_method_53_code (6 : Nat) (Option.some Jvm.ClassFile.FieldType.int)) ∈ wsA := wA_of 817 (by decide +kernel) (by decide +kernel)
theorem wd818 : (Jvm.Cond.methodLink "SignMasonsLaw" (200 : Nat) ({ cls := "SignMasonsModel", name := "bestThumb", desc := "(II)I" } : Jvm.MethodName)) ∈ wsA := wA_of 818 (by decide +kernel) (by decide +kernel)
theorem wd819 : (Jvm.Cond.instanceMethod ({ cls := "SignMasonsModel", name := "bestThumb", desc := "(II)I" } : Jvm.MethodName)) ∈ wsA := wA_of 819 (by decide +kernel) (by decide +kernel)
theorem wd820 : (Jvm.Cond.selects "SignMasonsModel" ({ cls := "SignMasonsModel", name := "bestThumb", desc := "(II)I" } : Jvm.MethodName) ({ cls := "SignMasonsModel", name := "bestThumb", desc := "(II)I" } : Jvm.MethodName)) ∈ wsA := wA_of 820 (by decide +kernel) (by decide +kernel)
theorem wd821 : (Jvm.Cond.code ({ cls := "SignMasonsModel", name := "bestThumb", desc := "(II)I" } : Jvm.MethodName) prog_6_method_55_code (3 : Nat) (Option.some Jvm.ClassFile.FieldType.int)) ∈ wsA := wA_of 821 (by decide +kernel) (by decide +kernel)
theorem wd822 : (Jvm.Cond.methodLink "SignMasonsModel" (135 : Nat) ({ cls := "SignMasonsModel", name := "bestThumbOf", desc := "(II)I" } : Jvm.MethodName)) ∈ wsA := wA_of 822 (by decide +kernel) (by decide +kernel)
theorem wd824 : (Jvm.Cond.instanceMethod ({ cls := "SignMasonsModel", name := "bestThumbOf", desc := "(II)I" } : Jvm.MethodName)) ∈ wsA := wA_of 824 (by decide +kernel) (by decide +kernel)
theorem wd825 : (Jvm.Cond.code ({ cls := "SignMasonsModel", name := "bestThumbOf", desc := "(II)I" } : Jvm.MethodName) prog_6_method_54_code (9 : Nat) (Option.some Jvm.ClassFile.FieldType.int)) ∈ wsA := wA_of 825 (by decide +kernel) (by decide +kernel)
theorem wd826 : (Jvm.Cond.methodLink "SignMasonsLaw" (203 : Nat) ({ cls := "SignMasonsModel", name := "bestToBorrow", desc := "(II)I" } : Jvm.MethodName)) ∈ wsA := wA_of 826 (by decide +kernel) (by decide +kernel)
theorem wd827 : (Jvm.Cond.instanceMethod ({ cls := "SignMasonsModel", name := "bestToBorrow", desc := "(II)I" } : Jvm.MethodName)) ∈ wsA := wA_of 827 (by decide +kernel) (by decide +kernel)
theorem wd828 : (Jvm.Cond.selects "SignMasonsModel" ({ cls := "SignMasonsModel", name := "bestToBorrow", desc := "(II)I" } : Jvm.MethodName) ({ cls := "SignMasonsModel", name := "bestToBorrow", desc := "(II)I" } : Jvm.MethodName)) ∈ wsA := wA_of 828 (by decide +kernel) (by decide +kernel)
theorem wd829 : (Jvm.Cond.code ({ cls := "SignMasonsModel", name := "bestToBorrow", desc := "(II)I" } : Jvm.MethodName) prog_6_method_57_code (3 : Nat) (Option.some Jvm.ClassFile.FieldType.int)) ∈ wsA := wA_of 829 (by decide +kernel) (by decide +kernel)
theorem wd830 : (Jvm.Cond.methodLink "SignMasonsModel" (138 : Nat) ({ cls := "SignMasonsModel", name := "toBorrow", desc := "(II)I" } : Jvm.MethodName)) ∈ wsA := wA_of 830 (by decide +kernel) (by decide +kernel)
theorem wd832 : (Jvm.Cond.instanceMethod ({ cls := "SignMasonsModel", name := "toBorrow", desc := "(II)I" } : Jvm.MethodName)) ∈ wsA := wA_of 832 (by decide +kernel) (by decide +kernel)
theorem wd833 : (Jvm.Cond.code ({ cls := "SignMasonsModel", name := "toBorrow", desc := "(II)I" } : Jvm.MethodName) prog_6_method_56_code (9 : Nat) (Option.some Jvm.ClassFile.FieldType.int)) ∈ wsA := wA_of 833 (by decide +kernel) (by decide +kernel)
theorem wd834 : (Jvm.Cond.methodLink "SignMasonsLaw" (206 : Nat) ({ cls := "SignMasonsModel", name := "alikeIfJoined", desc := "(II)I" } : Jvm.MethodName)) ∈ wsA := wA_of 834 (by decide +kernel) (by decide +kernel)
theorem wd835 : (Jvm.Cond.instanceMethod ({ cls := "SignMasonsModel", name := "alikeIfJoined", desc := "(II)I" } : Jvm.MethodName)) ∈ wsA := wA_of 835 (by decide +kernel) (by decide +kernel)
theorem wd836 : (Jvm.Cond.selects "SignMasonsModel" ({ cls := "SignMasonsModel", name := "alikeIfJoined", desc := "(II)I" } : Jvm.MethodName) ({ cls := "SignMasonsModel", name := "alikeIfJoined", desc := "(II)I" } : Jvm.MethodName)) ∈ wsA := wA_of 836 (by decide +kernel) (by decide +kernel)
theorem wd837 : (Jvm.Cond.code ({ cls := "SignMasonsModel", name := "alikeIfJoined", desc := "(II)I" } : Jvm.MethodName) prog_6_method_58_code (6 : Nat) (Option.some Jvm.ClassFile.FieldType.int)) ∈ wsA := wA_of 837 (by decide +kernel) (by decide +kernel)
theorem wd838 : (Jvm.Cond.methodLink "SignMasonsModel" (141 : Nat) ({ cls := "java/lang/System", name := "arraycopy", desc := "(Ljava/lang/Object;ILjava/lang/Object;II)V" } : Jvm.MethodName)) ∈ wsA := wA_of 838 (by decide +kernel) (by decide +kernel)
theorem wd839 : (Jvm.Cond.methodLink "SignMasonsLaw" (211 : Nat) ({ cls := "SignMasonsModel", name := "meanSigns", desc := "()D" } : Jvm.MethodName)) ∈ wsA := wA_of 839 (by decide +kernel) (by decide +kernel)
theorem wd840 : (Jvm.Cond.instanceMethod ({ cls := "SignMasonsModel", name := "meanSigns", desc := "()D" } : Jvm.MethodName)) ∈ wsA := wA_of 840 (by decide +kernel) (by decide +kernel)
theorem wd841 : (Jvm.Cond.selects "SignMasonsModel" ({ cls := "SignMasonsModel", name := "meanSigns", desc := "()D" } : Jvm.MethodName) ({ cls := "SignMasonsModel", name := "meanSigns", desc := "()D" } : Jvm.MethodName)) ∈ wsA := wA_of 841 (by decide +kernel) (by decide +kernel)
theorem wd842 : (Jvm.Cond.code ({ cls := "SignMasonsModel", name := "meanSigns", desc := "()D" } : Jvm.MethodName) prog_6_method_59_code (3 : Nat) (Option.some Jvm.ClassFile.FieldType.double)) ∈ wsA := wA_of 842 (by decide +kernel) (by decide +kernel)
theorem wd843 : (Jvm.Cond.methodLink "SignMasonsLaw" (216 : Nat) ({ cls := "SignMasonsModel", name := "digest", desc := "()J" } : Jvm.MethodName)) ∈ wsA := wA_of 843 (by decide +kernel) (by decide +kernel)
theorem wd844 : (Jvm.Cond.instanceMethod ({ cls := "SignMasonsModel", name := "digest", desc := "()J" } : Jvm.MethodName)) ∈ wsA := wA_of 844 (by decide +kernel) (by decide +kernel)
theorem wd845 : (Jvm.Cond.selects "SignMasonsModel" ({ cls := "SignMasonsModel", name := "digest", desc := "()J" } : Jvm.MethodName) ({ cls := "SignMasonsModel", name := "digest", desc := "()J" } : Jvm.MethodName)) ∈ wsA := wA_of 845 (by decide +kernel) (by decide +kernel)
theorem wd846 : (Jvm.Cond.code ({ cls := "SignMasonsModel", name := "digest", desc := "()J" } : Jvm.MethodName) prog_6_method_60_code (12 : Nat) (Option.some Jvm.ClassFile.FieldType.long)) ∈ wsA := wA_of 846 (by decide +kernel) (by decide +kernel)
theorem wd847 : (Jvm.Cond.constantLong "SignMasonsModel" (147 : Nat) (2099 : Int64)) ∈ wsA := wA_of 847 (by decide +kernel) (by decide +kernel)
theorem wd848 : (Jvm.Cond.constantLong "SignMasonsModel" (149 : Nat) (31 : Int64)) ∈ wsA := wA_of 848 (by decide +kernel) (by decide +kernel)
theorem wd849 : (Jvm.Cond.arrayClass Jvm.ClassFile.FieldType.long) ∈ wsA := wA_of 849 (by decide +kernel) (by decide +kernel)
theorem wp0 : Cond.selects "SignMasons$Book" (⟨"SignMasons$Book", "countAlike", "()I"⟩ : MethodName) (⟨"SignMasons$Book", "countAlike", "()I"⟩ : MethodName) ∈ wsA := wS_of 0 (by decide +kernel) (by decide +kernel)
theorem wp1 : Cond.selects "SignMasons$Places" (⟨"SignMasons$Places", "alike", "(II)Z"⟩ : MethodName) (⟨"SignMasons$Places", "alike", "(II)Z"⟩ : MethodName) ∈ wsA := wS_of 1 (by decide +kernel) (by decide +kernel)
theorem wp2 : Cond.selects "SignMasons$Places" (⟨"SignMasons$Places", "sameGroup", "(II)Z"⟩ : MethodName) (⟨"SignMasons$Places", "sameGroup", "(II)Z"⟩ : MethodName) ∈ wsA := wS_of 2 (by decide +kernel) (by decide +kernel)
theorem wp3 : Cond.selects "SignMasons$Book" (⟨"SignMasons$Book", "countThumbApart", "()I"⟩ : MethodName) (⟨"SignMasons$Book", "countThumbApart", "()I"⟩ : MethodName) ∈ wsA := wS_of 3 (by decide +kernel) (by decide +kernel)
theorem wp4 : Cond.selects "SignMasons$Places" (⟨"SignMasons$Places", "distance", "(II)I"⟩ : MethodName) (⟨"SignMasons$Places", "distance", "(II)I"⟩ : MethodName) ∈ wsA := wS_of 4 (by decide +kernel) (by decide +kernel)
theorem wp5 : Cond.selects "SignMasons$Places" (⟨"SignMasons$Places", "stepsBetween", "(II)I"⟩ : MethodName) (⟨"SignMasons$Places", "stepsBetween", "(II)I"⟩ : MethodName) ∈ wsA := wS_of 5 (by decide +kernel) (by decide +kernel)
theorem wp6 : Cond.selects "SignMasons$Book" (⟨"SignMasons$Book", "fewestApart", "()I"⟩ : MethodName) (⟨"SignMasons$Book", "fewestApart", "()I"⟩ : MethodName) ∈ wsA := wS_of 6 (by decide +kernel) (by decide +kernel)
theorem wp7 : Cond.selects "SignMasons$Book" (⟨"SignMasons$Book", "nearestBut", "(II)I"⟩ : MethodName) (⟨"SignMasons$Book", "nearestBut", "(II)I"⟩ : MethodName) ∈ wsA := wS_of 7 (by decide +kernel) (by decide +kernel)
theorem wp8 : Cond.selects "SignMasons$Book" (⟨"SignMasons$Book", "signNearMost", "()I"⟩ : MethodName) (⟨"SignMasons$Book", "signNearMost", "()I"⟩ : MethodName) ∈ wsA := wS_of 8 (by decide +kernel) (by decide +kernel)
theorem wp9 : Cond.selects "SignMasons$Book" (⟨"SignMasons$Book", "countNear", "(I)I"⟩ : MethodName) (⟨"SignMasons$Book", "countNear", "(I)I"⟩ : MethodName) ∈ wsA := wS_of 9 (by decide +kernel) (by decide +kernel)
theorem wp10 : Cond.selects "SignMasons$Book" (⟨"SignMasons$Book", "countUnderstood", "(LSignMasons$Book;)I"⟩ : MethodName) (⟨"SignMasons$Book", "countUnderstood", "(LSignMasons$Book;)I"⟩ : MethodName) ∈ wsA := wS_of 10 (by decide +kernel) (by decide +kernel)
theorem wp11 : Cond.selects "SignMasons$Book" (⟨"SignMasons$Book", "meaningRead", "(I)I"⟩ : MethodName) (⟨"SignMasons$Book", "meaningRead", "(I)I"⟩ : MethodName) ∈ wsA := wS_of 11 (by decide +kernel) (by decide +kernel)
theorem wp12 : Cond.selects "SignMasons$Book" (⟨"SignMasons$Book", "countMisread", "(LSignMasons$Book;)I"⟩ : MethodName) (⟨"SignMasons$Book", "countMisread", "(LSignMasons$Book;)I"⟩ : MethodName) ∈ wsA := wS_of 12 (by decide +kernel) (by decide +kernel)
theorem wp13 : Cond.selects "SignMasons" (⟨"SignMasons", "bookOf", "(I)LSignMasons$Book;"⟩ : MethodName) (⟨"SignMasons", "bookOf", "(I)LSignMasons$Book;"⟩ : MethodName) ∈ wsA := wS_of 13 (by decide +kernel) (by decide +kernel)
theorem wp14 : Cond.selects "java/lang/Throwable" (⟨"java/lang/Throwable", "fillInStackTrace", "(I)Ljava/lang/Throwable;"⟩ : MethodName) (⟨"java/lang/Throwable", "fillInStackTrace", "(I)Ljava/lang/Throwable;"⟩ : MethodName) ∈ wsA := wS_of 14 (by decide +kernel) (by decide +kernel)
theorem wp15 : Cond.selects "SignMasons" (⟨"SignMasons", "tryLoan", "(LSignMasons$Book;ILSignMasons$Book;)Z"⟩ : MethodName) (⟨"SignMasons", "tryLoan", "(LSignMasons$Book;ILSignMasons$Book;)Z"⟩ : MethodName) ∈ wsA := wS_of 15 (by decide +kernel) (by decide +kernel)
theorem wp16 : Cond.selects "SignMasons$Book" (⟨"SignMasons$Book", "hasRoomFor", "(I)Z"⟩ : MethodName) (⟨"SignMasons$Book", "hasRoomFor", "(I)Z"⟩ : MethodName) ∈ wsA := wS_of 16 (by decide +kernel) (by decide +kernel)
theorem wp17 : Cond.selects "SignMasons$Book" (⟨"SignMasons$Book", "find", "(I)I"⟩ : MethodName) (⟨"SignMasons$Book", "find", "(I)I"⟩ : MethodName) ∈ wsA := wS_of 17 (by decide +kernel) (by decide +kernel)
theorem wp18 : Cond.selects "SignMasons$Book" (⟨"SignMasons$Book", "firstUnlike", "(I)I"⟩ : MethodName) (⟨"SignMasons$Book", "firstUnlike", "(I)I"⟩ : MethodName) ∈ wsA := wS_of 18 (by decide +kernel) (by decide +kernel)
theorem wp19 : Cond.selects "SignMasons$Book" (⟨"SignMasons$Book", "hasAlike", "(I)Z"⟩ : MethodName) (⟨"SignMasons$Book", "hasAlike", "(I)Z"⟩ : MethodName) ∈ wsA := wS_of 19 (by decide +kernel) (by decide +kernel)
theorem wp20 : Cond.selects "SignMasons$Book" (⟨"SignMasons$Book", "copyFrom", "(LSignMasons$Book;)V"⟩ : MethodName) (⟨"SignMasons$Book", "copyFrom", "(LSignMasons$Book;)V"⟩ : MethodName) ∈ wsA := wS_of 20 (by decide +kernel) (by decide +kernel)
theorem wp21 : Cond.selects "SignMasons$Book" (⟨"SignMasons$Book", "append", "(II)I"⟩ : MethodName) (⟨"SignMasons$Book", "append", "(II)I"⟩ : MethodName) ∈ wsA := wS_of 21 (by decide +kernel) (by decide +kernel)
theorem wp22 : Cond.selects "SignMasons$Book" (⟨"SignMasons$Book", "thumbFarthest", "(I)I"⟩ : MethodName) (⟨"SignMasons$Book", "thumbFarthest", "(I)I"⟩ : MethodName) ∈ wsA := wS_of 22 (by decide +kernel) (by decide +kernel)
theorem wp23 : Cond.selects "SignMasons$Book" (⟨"SignMasons$Book", "remove", "(I)I"⟩ : MethodName) (⟨"SignMasons$Book", "remove", "(I)I"⟩ : MethodName) ∈ wsA := wS_of 23 (by decide +kernel) (by decide +kernel)
theorem wp24 : Cond.selects "SignMasons$Places" (⟨"SignMasons$Places", "unite", "(II)V"⟩ : MethodName) (⟨"SignMasons$Places", "unite", "(II)V"⟩ : MethodName) ∈ wsA := wS_of 24 (by decide +kernel) (by decide +kernel)
theorem wp25 : Cond.selects "SignMasons" (⟨"SignMasons", "lookOf", "(II)I"⟩ : MethodName) (⟨"SignMasons", "lookOf", "(II)I"⟩ : MethodName) ∈ wsA := wS_of 25 (by decide +kernel) (by decide +kernel)
theorem wp26 : Cond.selects "SignMasons$Book" (⟨"SignMasons$Book", "countCommon", "(LSignMasons$Book;)I"⟩ : MethodName) (⟨"SignMasons$Book", "countCommon", "(LSignMasons$Book;)I"⟩ : MethodName) ∈ wsA := wS_of 26 (by decide +kernel) (by decide +kernel)
theorem wp27 : Cond.selects "SignMasons$Book" (⟨"SignMasons$Book", "countAlikeIfJoined", "(II)I"⟩ : MethodName) (⟨"SignMasons$Book", "countAlikeIfJoined", "(II)I"⟩ : MethodName) ∈ wsA := wS_of 27 (by decide +kernel) (by decide +kernel)
theorem wp28 : Cond.selects "SignMasons$Places" (⟨"SignMasons$Places", "alikeIf", "(IIII)Z"⟩ : MethodName) (⟨"SignMasons$Places", "alikeIf", "(IIII)Z"⟩ : MethodName) ∈ wsA := wS_of 28 (by decide +kernel) (by decide +kernel)
theorem wp29 : Cond.selects "SignMasons$Places" (⟨"SignMasons$Places", "sameGroupIf", "(IIII)Z"⟩ : MethodName) (⟨"SignMasons$Places", "sameGroupIf", "(IIII)Z"⟩ : MethodName) ∈ wsA := wS_of 29 (by decide +kernel) (by decide +kernel)
theorem wp30 : Cond.selects "SignMasonsModel" (⟨"SignMasonsModel", "fail", "(I)I"⟩ : MethodName) (⟨"SignMasonsModel", "fail", "(I)I"⟩ : MethodName) ∈ wsA := wS_of 30 (by decide +kernel) (by decide +kernel)
theorem wp31 : Cond.selects "SignMasonsModel" (⟨"SignMasonsModel", "isLodge", "(I)Z"⟩ : MethodName) (⟨"SignMasonsModel", "isLodge", "(I)Z"⟩ : MethodName) ∈ wsA := wS_of 31 (by decide +kernel) (by decide +kernel)
theorem wp32 : Cond.selects "SignMasonsModel" (⟨"SignMasonsModel", "signOf", "(II)I"⟩ : MethodName) (⟨"SignMasonsModel", "signOf", "(II)I"⟩ : MethodName) ∈ wsA := wS_of 32 (by decide +kernel) (by decide +kernel)
theorem wp33 : Cond.selects "SignMasonsModel" (⟨"SignMasonsModel", "write", "(IIIIII)V"⟩ : MethodName) (⟨"SignMasonsModel", "write", "(IIIIII)V"⟩ : MethodName) ∈ wsA := wS_of 33 (by decide +kernel) (by decide +kernel)
theorem wp34 : Cond.selects "SignMasonsModel" (⟨"SignMasonsModel", "isSign", "(II)Z"⟩ : MethodName) (⟨"SignMasonsModel", "isSign", "(II)Z"⟩ : MethodName) ∈ wsA := wS_of 34 (by decide +kernel) (by decide +kernel)
theorem wp35 : Cond.selects "SignMasonsModel" (⟨"SignMasonsModel", "joinNow", "(II)V"⟩ : MethodName) (⟨"SignMasonsModel", "joinNow", "(II)V"⟩ : MethodName) ∈ wsA := wS_of 35 (by decide +kernel) (by decide +kernel)
theorem wp36 : Cond.selects "SignMasonsModel" (⟨"SignMasonsModel", "allGroups", "()I"⟩ : MethodName) (⟨"SignMasonsModel", "allGroups", "()I"⟩ : MethodName) ∈ wsA := wS_of 36 (by decide +kernel) (by decide +kernel)
theorem wp37 : Cond.selects "SignMasonsModel" (⟨"SignMasonsModel", "thumbFor", "(II)I"⟩ : MethodName) (⟨"SignMasonsModel", "thumbFor", "(II)I"⟩ : MethodName) ∈ wsA := wS_of 37 (by decide +kernel) (by decide +kernel)
theorem wp38 : Cond.selects "SignMasonsModel" (⟨"SignMasonsModel", "far", "(IIIII)I"⟩ : MethodName) (⟨"SignMasonsModel", "far", "(IIIII)I"⟩ : MethodName) ∈ wsA := wS_of 38 (by decide +kernel) (by decide +kernel)
theorem wp39 : Cond.selects "SignMasonsModel" (⟨"SignMasonsModel", "stepsOf", "(II)I"⟩ : MethodName) (⟨"SignMasonsModel", "stepsOf", "(II)I"⟩ : MethodName) ∈ wsA := wS_of 39 (by decide +kernel) (by decide +kernel)
theorem wp40 : Cond.selects "SignMasonsModel" (⟨"SignMasonsModel", "told", "(I)I"⟩ : MethodName) (⟨"SignMasonsModel", "told", "(I)I"⟩ : MethodName) ∈ wsA := wS_of 40 (by decide +kernel) (by decide +kernel)
theorem wp41 : Cond.selects "SignMasonsModel" (⟨"SignMasonsModel", "of", "(II[I)I"⟩ : MethodName) (⟨"SignMasonsModel", "of", "(II[I)I"⟩ : MethodName) ∈ wsA := wS_of 41 (by decide +kernel) (by decide +kernel)
theorem wp42 : Cond.selects "SignMasonsModel" (⟨"SignMasonsModel", "far", "(II)I"⟩ : MethodName) (⟨"SignMasonsModel", "far", "(II)I"⟩ : MethodName) ∈ wsA := wS_of 42 (by decide +kernel) (by decide +kernel)
theorem wp43 : Cond.selects "SignMasonsModel" (⟨"SignMasonsModel", "alike", "(I)I"⟩ : MethodName) (⟨"SignMasonsModel", "alike", "(I)I"⟩ : MethodName) ∈ wsA := wS_of 43 (by decide +kernel) (by decide +kernel)
theorem wp44 : Cond.selects "SignMasonsModel" (⟨"SignMasonsModel", "thumbs", "(I)I"⟩ : MethodName) (⟨"SignMasonsModel", "thumbs", "(I)I"⟩ : MethodName) ∈ wsA := wS_of 44 (by decide +kernel) (by decide +kernel)
theorem wp45 : Cond.selects "SignMasonsModel" (⟨"SignMasonsModel", "nearest", "(I)I"⟩ : MethodName) (⟨"SignMasonsModel", "nearest", "(I)I"⟩ : MethodName) ∈ wsA := wS_of 45 (by decide +kernel) (by decide +kernel)
theorem wp46 : Cond.selects "SignMasonsModel" (⟨"SignMasonsModel", "mistaken", "(I)I"⟩ : MethodName) (⟨"SignMasonsModel", "mistaken", "(I)I"⟩ : MethodName) ∈ wsA := wS_of 46 (by decide +kernel) (by decide +kernel)
theorem wp47 : Cond.selects "SignMasonsModel" (⟨"SignMasonsModel", "reads", "(II)I"⟩ : MethodName) (⟨"SignMasonsModel", "reads", "(II)I"⟩ : MethodName) ∈ wsA := wS_of 47 (by decide +kernel) (by decide +kernel)
theorem wp48 : Cond.selects "SignMasonsModel" (⟨"SignMasonsModel", "reads", "(IIIII)I"⟩ : MethodName) (⟨"SignMasonsModel", "reads", "(IIIII)I"⟩ : MethodName) ∈ wsA := wS_of 48 (by decide +kernel) (by decide +kernel)
theorem wp49 : Cond.selects "SignMasonsModel" (⟨"SignMasonsModel", "readAs", "(IIZ)I"⟩ : MethodName) (⟨"SignMasonsModel", "readAs", "(IIZ)I"⟩ : MethodName) ∈ wsA := wS_of 49 (by decide +kernel) (by decide +kernel)
theorem wp50 : Cond.selects "SignMasonsModel" (⟨"SignMasonsModel", "bestThumbOf", "(II)I"⟩ : MethodName) (⟨"SignMasonsModel", "bestThumbOf", "(II)I"⟩ : MethodName) ∈ wsA := wS_of 50 (by decide +kernel) (by decide +kernel)
theorem wp51 : Cond.selects "SignMasonsModel" (⟨"SignMasonsModel", "toBorrow", "(II)I"⟩ : MethodName) (⟨"SignMasonsModel", "toBorrow", "(II)I"⟩ : MethodName) ∈ wsA := wS_of 51 (by decide +kernel) (by decide +kernel)
end
section
abbrev MC : Type := Program × Launch × Env × Room × State × MethodId × Array Value × List Frame × Method × Code
abbrev mP (mc : MC) : Program := mc.1
abbrev mL (mc : MC) : Launch := mc.2.1
abbrev mE (mc : MC) : Env := mc.2.2.1
abbrev mR (mc : MC) : Room := mc.2.2.2.1
abbrev mS (mc : MC) : State := mc.2.2.2.2.1
abbrev mM (mc : MC) : MethodId := mc.2.2.2.2.2.1
abbrev mA (mc : MC) : Array Value := mc.2.2.2.2.2.2.1
abbrev mB (mc : MC) : List Frame := mc.2.2.2.2.2.2.2.1
abbrev mH (mc : MC) : Method := mc.2.2.2.2.2.2.2.2.1
abbrev mC (mc : MC) : Code := mc.2.2.2.2.2.2.2.2.2
/-- the pure state: numbers by their variable, rows by their number -/
abbrev Sg : Type := (Nat → Int) × (Nat → Int → Int)
/-- what stays: addresses by place, classes and slots, array classes, the first address of the law's own, what else lies in the world -/
abbrev GG : Type := (Nat → Nat) × va_G × (ClassId × ClassId × ClassId) × Nat × va_W
abbrev gd (g : GG) : Nat → Nat := g.1
abbrev gD (g : GG) : va_G := g.2.1
abbrev gI (g : GG) : ClassId := g.2.2.1.1
abbrev gL (g : GG) : ClassId := g.2.2.1.2.1
abbrev gB (g : GG) : ClassId := g.2.2.1.2.2
abbrev g0 (g : GG) : Nat := g.2.2.2.1
abbrev gX (g : GG) : va_W := g.2.2.2.2
def gA (g : GG) : Nat → Prop := fun q => g0 g ≤ q
def iI (z : Int) : Int32 := Int32.ofInt z
def jI (z : Int) : Int64 := Int64.ofInt z
abbrev vI (z : Int) : Value := .int (iI z)
def ri (g : GG) (f : Int → Int) (n : Nat) : va_E := .inl (gI g, n, .inl (fun j : Nat => iI (f (j : Int))))
def bk (g : GG) (σ : Sg) (b : Nat) : Nat × va_E := (gd g (4 + b), .inr (0, [.ref (gd g 1), .ref (gd g (9 + b)), .ref (gd g (14 + b)), vI (σ.1 (2 + b))]))
def hw (g : GG) (σ : Sg) : va_W := [
  (gd g 0, .inr (2, [.ref (gd g 1), .ref (gd g 3), .ref (gd g 8), vI (σ.1 0)])),
  (gd g 1, .inr (1, [.ref (gd g 2), vI (σ.1 1)])),
  (gd g 2, ri g (σ.2 0) 9),
  (gd g 3, .inl (gB g, 4, .inr (.inr (.inr (.inr (fun j : Nat => some (gd g (4 + j)))))))),
  bk g σ 0, bk g σ 1, bk g σ 2, bk g σ 3, bk g σ 4,
  (gd g 9, ri g (σ.2 1) 16), (gd g 10, ri g (σ.2 2) 16), (gd g 11, ri g (σ.2 3) 16), (gd g 12, ri g (σ.2 4) 16), (gd g 13, ri g (σ.2 5) 16),
  (gd g 14, ri g (σ.2 6) 16), (gd g 15, ri g (σ.2 7) 16), (gd g 16, ri g (σ.2 8) 16), (gd g 17, ri g (σ.2 9) 16), (gd g 18, ri g (σ.2 10) 16),
  (gd g 19, .inr (3, [vI (σ.1 7), vI (σ.1 8), .ref (gd g 20), .ref (gd g 21), .ref (gd g 22), .ref (gd g 23), .ref (gd g 24), .ref (gd g 25), .ref (gd g 26)])),
  (gd g 20, ri g (σ.2 11) 4), (gd g 21, ri g (σ.2 12) 64), (gd g 22, ri g (σ.2 13) 64), (gd g 23, ri g (σ.2 14) 64), (gd g 24, ri g (σ.2 15) 64), (gd g 25, ri g (σ.2 16) 64), (gd g 26, ri g (σ.2 17) 9),
  (gd g 27, .inl (gL g, 1, .inr (.inl (fun j : Nat => jI (if j = 0 then σ.1 9 else 0)))))] ++ gX g
abbrev gT (g : GG) : List (ClassId × FieldType) := [(gI g, .int), (gL g, .long), (gB g, .object "SignMasons$Book")]
/-- the texts that the class's throws load -/
def txA : List (String × Nat × String) := [("SignMasons", 199, "there is no such lodge"), ("SignMasons", 35, "there are 4 lodges"), ("SignMasons", 205, "shape is not 0 to 15"), ("SignMasons", 81, "thumb is not 0 to 3"), ("SignMasons", 203, "place is not 0 to 8"), ("SignMasons", 207, "movement is not 0 to 3"), ("SignMasons", 54, "meaning is not 0 to 29"), ("SignMasons", 61, "the book has 16 signs, or one for this meaning"), ("SignMasons", 201, "the lodge has no such sign"), ("SignMasons", 104, "both lodges are the same"), ("SignMasons", 112, "it would be alike to some sign with each thumb")]
/-- exceptions that no row for another one catches -/
def ncA : List (String × String) := [("java/lang/IllegalArgumentException", "java/lang/IndexOutOfBoundsException"), ("java/lang/IllegalStateException", "java/lang/IndexOutOfBoundsException"), ("java/lang/IllegalStateException", "java/lang/IllegalArgumentException")]
/-- what a throw needs of the heap: Throwable's statics; its texts -/
def TH (g : GG) (U : State) (H : Heap) : Prop := vx_Zq Bundle.tN "UNASSIGNED_STACK" Bundle.steD (gA g) U H ∧ vx_Zq Bundle.tN "SUPPRESSED_SENTINEL" Bundle.listD (gA g) U H ∧ (∀ q ∈ txA, ∃ a, vk_R q.1 q.2.1 q.2.2 a U) ∧ (∀ q ∈ ncA, va_Nc q.1 q.2 U) ∧ va_AO "SignMasons$Book" U
def WB (g : GG) (σ : Sg) (U : State) : Prop := g0 g ≤ U.heap.size ∧ va_P (gD g) vwCl (hw g σ) U.heap ∧ va_K (gD g) vwCl (gT g) U ∧ (∀ w ∈ nwA, va_Nw w U) ∧ TH g U U.heap ∧ ∀ τ, va_D (gA g) (hw g τ)
def Cx (mc : MC) (g : GG) (cc : ByteArray) (own : String) (nL : Nat) (ret : Option FieldType) : Prop :=
  (mP mc).tables.exec = Jvm.exec ∧ (mC mc).code = cc ∧ (mC mc).maxLocals = nL ∧ (mS mc).vm.findClass own = some (mM mc).cls ∧ (∀ w ∈ wsA, w.before (mA mc) (mS mc) = true) ∧ (mH mc).locks = false ∧ va_K (gD g) vwCl (gT g) (mS mc) ∧ (∀ w ∈ nwA, va_Nw w (mS mc)) ∧ TH g (mS mc) (mS mc).heap ∧ (∀ τ, va_D (gA g) (hw g τ)) ∧ g0 g ≤ (mS mc).heap.size ∧ (mL mc).stackTraces = false ∧ (mH mc).sig.returnType = ret
/-- at pc with these locals, this stack, this world: the method comes to Q -/
def J (mc : MC) (g : GG) (k n : Nat) (Q : State → Prop) (pc : Nat) (lv : List (Nat × Value)) (st : List Value) (σ : Sg) : Prop :=
  ∀ (H : Heap) (locs : List Loc) (ls : Array Slot), va_P (gD g) vwCl (hw g σ) H → va_S (gA g) (mS mc).heap H locs → lv_has ls (mC mc).maxLocals lv →
    W (mP mc) (mL mc) (mE mc) (mR mc) (mS mc) (mM mc) (mA mc) (mB mc) (mH mc) (mC mc) H locs k n Q (F0 (mM mc) pc ls st)
def QJ (g : GG) (post : Option Value → Sg → Prop) : Array Value → State → Outcome → State → Prop := fun _ st o t => (∃ v τ, o = .returned v ∧ post v τ ∧ va_P (gD g) vwCl (hw g τ) t.heap) ∧ va_F (gA g) st t
def XJ (g : GG) (px : String → Sg → Prop) : String → State → State → Prop := fun E st t => (∃ τ, px E τ ∧ va_P (gD g) vwCl (hw g τ) t.heap) ∧ va_F (gA g) st t
abbrev rmJ (fr lo k n : Nat) : Room := { frames := fr, cells := k, slots := n, locals := lo }
/-- a method's contract: it returns -/
def CN (l : Launch) (y : MethodName) (cc : ByteArray) (nL : Nat) (ret : Option FieldType) (fr lo k n : Nat) (g : GG) (as : List Value) (σ : Sg) (post : Option Value → Sg → Prop) : Prop :=
  Met l y (.code y cc nL ret :: wsA) (rmJ fr lo k n) (va_Pc as (WB g σ)) (QJ g post) k n (gA g)
/-- .. or throws -/
def CX (l : Launch) (y : MethodName) (cc : ByteArray) (nL : Nat) (ret : Option FieldType) (fr lo k n : Nat) (g : GG) (as : List Value) (σ : Sg) (post : Option Value → Sg → Prop) (px : String → Sg → Prop) : Prop :=
  vx_Met l y (.code y cc nL ret :: wsA) (rmJ fr lo k n) (va_Pc as (WB g σ)) (QJ g post) (XJ g px) k n (gA g)
def QN (mc : MC) (g : GG) (post : Option Value → Sg → Prop) (k n : Nat) : State → Prop := MQ (mB mc) (QJ g post) (mA mc) (mS mc) k n (gA g)
def QX (mc : MC) (g : GG) (post : Option Value → Sg → Prop) (px : String → Sg → Prop) (k n : Nat) : State → Prop := vx_MQ (mB mc) (QJ g post) (XJ g px) (mA mc) (mS mc) k n (gA g)
theorem gA_new {g : GG} {U : State} (h : g0 g ≤ U.heap.size) : ∀ q, U.heap.size ≤ q → gA g q := fun _ hq => Nat.le_trans h hq
/-! numbers -/
theorem iI_toInt {z : Int} (h1 : -2147483648 ≤ z) (h2 : z < 2147483648) : (iI z).toInt = z := Int32.toInt_ofInt_of_le (by omega) (by omega)
theorem iI_of (x : Int32) : ∃ z : Int, -2147483648 ≤ z ∧ z < 2147483648 ∧ x = iI z := ⟨x.toInt, by have := x.le_toInt; omega, by have := x.toInt_lt; omega, (Int32.ofInt_toInt x).symm⟩
theorem iI_nat (n : Nat) : iI (n : Int) = Int32.ofNat n := Int32.ofInt_eq_ofNat
theorem iI_lt {a b : Int} (ha1 : -2147483648 ≤ a) (ha2 : a < 2147483648) (hb1 : -2147483648 ≤ b) (hb2 : b < 2147483648) : iI a < iI b ↔ a < b := by
  rw [Int32.lt_iff_toInt_lt, iI_toInt ha1 ha2, iI_toInt hb1 hb2]
theorem iI_le {a b : Int} (ha1 : -2147483648 ≤ a) (ha2 : a < 2147483648) (hb1 : -2147483648 ≤ b) (hb2 : b < 2147483648) : iI a ≤ iI b ↔ a ≤ b := by
  rw [Int32.le_iff_toInt_le, iI_toInt ha1 ha2, iI_toInt hb1 hb2]
theorem iI_eq {a b : Int} (ha1 : -2147483648 ≤ a) (ha2 : a < 2147483648) (hb1 : -2147483648 ≤ b) (hb2 : b < 2147483648) : iI a = iI b ↔ a = b := by
  rw [← Int32.toInt_inj, iI_toInt ha1 ha2, iI_toInt hb1 hb2]
theorem iI_0 : iI 0 = 0 := by decide
theorem iI_clamp {z : Int} (h1 : -2147483648 ≤ z) (h2 : z < 2147483648) : (iI z).toNatClampNeg = z.toNat := Int32.toNatClampNeg_ofInt_of_le (by omega) (by omega)
theorem iI_in {z : Int} {n : Nat} (h0 : 0 ≤ z) (h1 : z < n) (hn : n ≤ 2147483647) : vp_in (iI z) n := by
  rw [vp_in_iff, iI_toInt (by omega) (by omega)]
  omega
theorem iI_rd {f : Int → Int} {z : Int} (h0 : 0 ≤ z) (h2 : z < 2147483648) : (fun j : Nat => iI (f (j : Int))) (iI z).toNatClampNeg = iI (f z) := by
  show iI (f ((iI z).toNatClampNeg : Int)) = iI (f z)
  rw [iI_clamp (by omega) h2, Int.toNat_of_nonneg h0]
theorem iI_up {f : Int → Int} {z x : Int} (h0 : 0 ≤ z) (h2 : z < 2147483648) : upd (fun j : Nat => iI (f (j : Int))) (iI z).toNatClampNeg (iI x) = fun j : Nat => iI (if (j : Int) = z then x else f (j : Int)) := by
  funext j
  rw [iI_clamp (by omega) h2]
  by_cases h : (j : Int) = z
  · have e : j = z.toNat := by omega
    simp only [upd, if_pos e, if_pos h]
  · have e : ¬ j = z.toNat := by omega
    simp only [upd, if_neg e, if_neg h]
theorem iI_add (a b : Int) : iI a + iI b = iI (a + b) := (Int32.ofInt_add a b).symm
theorem iI_sub (a b : Int) : iI a - iI b = iI (a - b) := (Int32.ofInt_sub a b).symm
theorem iI_mul (a b : Int) : iI a * iI b = iI (a * b) := (Int32.ofInt_mul a b).symm
theorem iI_neg (a : Int) : - iI a = iI (- a) := (Int32.ofInt_neg a).symm
theorem iI_div {a b : Int} (h0 : 0 ≤ a) (h1 : a < 2147483648) (h2 : 0 < b) (h3 : b < 2147483648) : iI a / iI b = iI (a / b) := by
  obtain ⟨a, rfl⟩ := Int.eq_ofNat_of_zero_le h0
  obtain ⟨b, rfl⟩ := Int.eq_ofNat_of_zero_le (show 0 ≤ b by omega)
  have h := pk_div (a := a) (d := b) (by omega) (by omega) (by omega)
  rw [iI_nat, iI_nat]
  exact h.trans (iI_nat (a / b)).symm
theorem iI_rem {a b : Int} (h0 : 0 ≤ a) (h1 : a < 2147483648) (h2 : 0 < b) (h3 : b < 2147483648) : iI a - iI a / iI b * iI b = iI (a % b) := by
  rw [iI_div h0 h1 h2 h3, iI_mul, iI_sub]
  congr 1
  have := Int.emod_add_mul_ediv a b
  rw [Int.mul_comm] at this
  omega
theorem jI_add (a b : Int) : jI a + jI b = jI (a + b) := (Int64.ofInt_add a b).symm
theorem jI_mul (a b : Int) : jI a * jI b = jI (a * b) := (Int64.ofInt_mul a b).symm
theorem iI_long {a : Int} (h1 : -2147483648 ≤ a) (h2 : a < 2147483648) : (iI a).toInt64 = jI a := by
  rw [← Int64.ofInt_int32ToInt, iI_toInt h1 h2]
  rfl
end
section
theorem cc_eq {a b : Int} (hr : -2147483648 ≤ a ∧ a < 2147483648 ∧ -2147483648 ≤ b ∧ b < 2147483648) (h : iI a = iI b) : a = b := (iI_eq hr.1 hr.2.1 hr.2.2.1 hr.2.2.2).mp h
theorem cc_ne {a b : Int} (hr : -2147483648 ≤ a ∧ a < 2147483648 ∧ -2147483648 ≤ b ∧ b < 2147483648) (h : ¬ iI a = iI b) : a ≠ b := fun q => h ((iI_eq hr.1 hr.2.1 hr.2.2.1 hr.2.2.2).mpr q)
theorem cc_lt {a b : Int} (hr : -2147483648 ≤ a ∧ a < 2147483648 ∧ -2147483648 ≤ b ∧ b < 2147483648) (h : iI a < iI b) : a < b := (iI_lt hr.1 hr.2.1 hr.2.2.1 hr.2.2.2).mp h
theorem cc_nlt {a b : Int} (hr : -2147483648 ≤ a ∧ a < 2147483648 ∧ -2147483648 ≤ b ∧ b < 2147483648) (h : ¬ iI a < iI b) : b ≤ a := Int.not_lt.mp (fun q => h ((iI_lt hr.1 hr.2.1 hr.2.2.1 hr.2.2.2).mpr q))
theorem cc_le {a b : Int} (hr : -2147483648 ≤ a ∧ a < 2147483648 ∧ -2147483648 ≤ b ∧ b < 2147483648) (h : iI a ≤ iI b) : a ≤ b := (iI_le hr.1 hr.2.1 hr.2.2.1 hr.2.2.2).mp h
theorem cc_nle {a b : Int} (hr : -2147483648 ≤ a ∧ a < 2147483648 ∧ -2147483648 ≤ b ∧ b < 2147483648) (h : ¬ iI a ≤ iI b) : b < a := Int.not_le.mp (fun q => h ((iI_le hr.1 hr.2.1 hr.2.2.1 hr.2.2.2).mpr q))
theorem cc_gt {a b : Int} (hr : -2147483648 ≤ a ∧ a < 2147483648 ∧ -2147483648 ≤ b ∧ b < 2147483648) (h : iI b < iI a) : b < a := (iI_lt hr.2.2.1 hr.2.2.2 hr.1 hr.2.1).mp h
theorem cc_ngt {a b : Int} (hr : -2147483648 ≤ a ∧ a < 2147483648 ∧ -2147483648 ≤ b ∧ b < 2147483648) (h : ¬ iI b < iI a) : a ≤ b := Int.not_lt.mp (fun q => h ((iI_lt hr.2.2.1 hr.2.2.2 hr.1 hr.2.1).mpr q))
theorem cc_ge {a b : Int} (hr : -2147483648 ≤ a ∧ a < 2147483648 ∧ -2147483648 ≤ b ∧ b < 2147483648) (h : iI b ≤ iI a) : b ≤ a := (iI_le hr.2.2.1 hr.2.2.2 hr.1 hr.2.1).mp h
theorem cc_nge {a b : Int} (hr : -2147483648 ≤ a ∧ a < 2147483648 ∧ -2147483648 ≤ b ∧ b < 2147483648) (h : ¬ iI b ≤ iI a) : a < b := Int.not_le.mp (fun q => h ((iI_le hr.2.2.1 hr.2.2.2 hr.1 hr.2.1).mpr q))
theorem cc_nne {a b : Int} (hr : -2147483648 ≤ a ∧ a < 2147483648 ∧ -2147483648 ≤ b ∧ b < 2147483648) (h : ¬ ¬ iI a = iI b) : a = b := (iI_eq hr.1 hr.2.1 hr.2.2.1 hr.2.2.2).mp (Classical.not_not.mp h)
section JJ
variable {mc : MC} {g : GG} {k n : Nat} {Q : State → Prop} {pc : Nat} {lv : List (Nat × Value)} {st : List Value} {σ : Sg} {cc : ByteArray} {own : String} {nL : Nat} {ret : Option FieldType}
theorem j_iconst {z : Int} (hC : Cx mc g cc own nL ret) (hd : decode cc pc = .ok (.iconst z, 1)) (kk : J mc g k n Q (pc + 1) lv (vI z :: st) σ) : J mc g k n Q pc lv (st) σ :=
  fun H locs ls hP hS hl => lv_iconst hC.1 hC.2.1 hd rfl (kk H locs ls hP hS hl)
theorem j_bipush {z : Int} (hC : Cx mc g cc own nL ret) (hd : decode cc pc = .ok (.bipush z, 2)) (hz : (Int8.ofInt z).toInt32 = iI z) (kk : J mc g k n Q (pc + 2) lv (vI z :: st) σ) : J mc g k n Q pc lv (st) σ :=
  fun H locs ls hP hS hl => lv_bipush hC.1 hC.2.1 hd hz (kk H locs ls hP hS hl)
theorem j_sipush {z : Int} (hC : Cx mc g cc own nL ret) (hd : decode cc pc = .ok (.sipush z, 3)) (hz : (Int16.ofInt z).toInt32 = iI z) (kk : J mc g k n Q (pc + 3) lv (vI z :: st) σ) : J mc g k n Q pc lv (st) σ :=
  fun H locs ls hP hS hl => lv_sipush hC.1 hC.2.1 hd hz (kk H locs ls hP hS hl)
theorem j_iload_n {f : Fin 4} {x : Int32} (hC : Cx mc g cc own nL ret) (hd : decode cc pc = .ok (.iload_n f, 1)) (q : Nat) (hq : lv[q]? = some ((f : Nat), .int x)) (kk : J mc g k n Q (pc + 1) lv (.int x :: st) σ) : J mc g k n Q pc lv (st) σ :=
  fun H locs ls hP hS hl => lv_iload_n hC.1 hC.2.1 hd rfl (lv_at hl q hq) (kk H locs ls hP hS hl)
theorem j_iload {f : Nat} {x : Int32} (hC : Cx mc g cc own nL ret) (hd : decode cc pc = .ok (.iload f, 2)) (q : Nat) (hq : lv[q]? = some (f, .int x)) (kk : J mc g k n Q (pc + 2) lv (.int x :: st) σ) : J mc g k n Q pc lv (st) σ :=
  fun H locs ls hP hS hl => lv_iload hC.1 hC.2.1 hd (lv_at hl q hq) (kk H locs ls hP hS hl)
theorem j_lload_n {f : Fin 4} {x : Int64} (hC : Cx mc g cc own nL ret) (hd : decode cc pc = .ok (.lload_n f, 1)) (q : Nat) (hq : lv[q]? = some ((f : Nat), .long x)) (kk : J mc g k n Q (pc + 1) lv (.long x :: st) σ) : J mc g k n Q pc lv (st) σ :=
  fun H locs ls hP hS hl => lv_lload_n hC.1 hC.2.1 hd rfl (lv_at hl q hq) (kk H locs ls hP hS hl)
theorem j_lload {f : Nat} {x : Int64} (hC : Cx mc g cc own nL ret) (hd : decode cc pc = .ok (.lload f, 2)) (q : Nat) (hq : lv[q]? = some (f, .long x)) (kk : J mc g k n Q (pc + 2) lv (.long x :: st) σ) : J mc g k n Q pc lv (st) σ :=
  fun H locs ls hP hS hl => lv_lload hC.1 hC.2.1 hd (lv_at hl q hq) (kk H locs ls hP hS hl)
theorem j_dload {f : Nat} {x : UInt64} (hC : Cx mc g cc own nL ret) (hd : decode cc pc = .ok (.dload f, 2)) (q : Nat) (hq : lv[q]? = some (f, .double x)) (kk : J mc g k n Q (pc + 2) lv (.double x :: st) σ) : J mc g k n Q pc lv (st) σ :=
  fun H locs ls hP hS hl => lv_dload hC.1 hC.2.1 hd (lv_at hl q hq) (kk H locs ls hP hS hl)
theorem j_aload_n {f : Fin 4} {x : Nat} (hC : Cx mc g cc own nL ret) (hd : decode cc pc = .ok (.aload_n f, 1)) (q : Nat) (hq : lv[q]? = some ((f : Nat), .ref x)) (kk : J mc g k n Q (pc + 1) lv (.ref x :: st) σ) : J mc g k n Q pc lv (st) σ :=
  fun H locs ls hP hS hl => lv_aload_n hC.1 hC.2.1 hd rfl (lv_at hl q hq) (kk H locs ls hP hS hl)
theorem j_aload {f : Nat} {x : Nat} (hC : Cx mc g cc own nL ret) (hd : decode cc pc = .ok (.aload f, 2)) (q : Nat) (hq : lv[q]? = some (f, .ref x)) (kk : J mc g k n Q (pc + 2) lv (.ref x :: st) σ) : J mc g k n Q pc lv (st) σ :=
  fun H locs ls hP hS hl => lv_aload hC.1 hC.2.1 hd (lv_at hl q hq) (kk H locs ls hP hS hl)
theorem j_istore_n (hC : Cx mc g cc own nL ret) {f : Fin 4} {x : Int32} (hd : decode cc pc = .ok (.istore_n f, 1)) (lv2 : List (Nat × Value)) (hn : (f : Nat) < nL) (he : ((f : Nat), Value.int x) :: lv.filter (fun q => !(q.1 == (f : Nat)) && !(q.1 + 1 == (f : Nat) && q.2.category == 2)) = lv2) (kk : J mc g k n Q (pc + 1) lv2 st σ) : J mc g k n Q pc lv (.int x :: st) σ :=
  fun H locs ls hP hS hl => lv_istore_n hC.1 hC.2.1 hd rfl hl (by rw [hC.2.2.1]; exact hn) he (fun ls2 hl2 => kk H locs ls2 hP hS hl2)
theorem j_istore (hC : Cx mc g cc own nL ret) {f : Nat} {x : Int32} (hd : decode cc pc = .ok (.istore f, 2)) (lv2 : List (Nat × Value)) (hn : f < nL) (he : (f, Value.int x) :: lv.filter (fun q => !(q.1 == f) && !(q.1 + 1 == f && q.2.category == 2)) = lv2) (kk : J mc g k n Q (pc + 2) lv2 st σ) : J mc g k n Q pc lv (.int x :: st) σ :=
  fun H locs ls hP hS hl => lv_istore hC.1 hC.2.1 hd hl (by rw [hC.2.2.1]; exact hn) he (fun ls2 hl2 => kk H locs ls2 hP hS hl2)
theorem j_lstore_n (hC : Cx mc g cc own nL ret) {f : Fin 4} {x : Int64} (hd : decode cc pc = .ok (.lstore_n f, 1)) (lv2 : List (Nat × Value)) (hn : (f : Nat) + 1 < nL) (he : ((f : Nat), Value.long x) :: lv.filter (fun q => !(q.1 == (f : Nat)) && (!(q.1 == (f : Nat) + 1) && !(q.1 + 1 == (f : Nat) && q.2.category == 2))) = lv2) (kk : J mc g k n Q (pc + 1) lv2 st σ) : J mc g k n Q pc lv (.long x :: st) σ :=
  fun H locs ls hP hS hl => lv_lstore_n hC.1 hC.2.1 hd rfl hl (by rw [hC.2.2.1]; exact hn) he (fun ls2 hl2 => kk H locs ls2 hP hS hl2)
theorem j_lstore (hC : Cx mc g cc own nL ret) {f : Nat} {x : Int64} (hd : decode cc pc = .ok (.lstore f, 2)) (lv2 : List (Nat × Value)) (hn : f + 1 < nL) (he : (f, Value.long x) :: lv.filter (fun q => !(q.1 == f) && (!(q.1 == f + 1) && !(q.1 + 1 == f && q.2.category == 2))) = lv2) (kk : J mc g k n Q (pc + 2) lv2 st σ) : J mc g k n Q pc lv (.long x :: st) σ :=
  fun H locs ls hP hS hl => lv_lstore hC.1 hC.2.1 hd hl (by rw [hC.2.2.1]; exact hn) he (fun ls2 hl2 => kk H locs ls2 hP hS hl2)
theorem j_dstore (hC : Cx mc g cc own nL ret) {f : Nat} {x : UInt64} (hd : decode cc pc = .ok (.dstore f, 2)) (lv2 : List (Nat × Value)) (hn : f + 1 < nL) (he : (f, Value.double x) :: lv.filter (fun q => !(q.1 == f) && (!(q.1 == f + 1) && !(q.1 + 1 == f && q.2.category == 2))) = lv2) (kk : J mc g k n Q (pc + 2) lv2 st σ) : J mc g k n Q pc lv (.double x :: st) σ :=
  fun H locs ls hP hS hl => lv_dstore hC.1 hC.2.1 hd hl (by rw [hC.2.2.1]; exact hn) he (fun ls2 hl2 => kk H locs ls2 hP hS hl2)
theorem j_astore_n (hC : Cx mc g cc own nL ret) {f : Fin 4} {x : Nat} (hd : decode cc pc = .ok (.astore_n f, 1)) (lv2 : List (Nat × Value)) (hn : (f : Nat) < nL) (he : ((f : Nat), Value.ref x) :: lv.filter (fun q => !(q.1 == (f : Nat)) && !(q.1 + 1 == (f : Nat) && q.2.category == 2)) = lv2) (kk : J mc g k n Q (pc + 1) lv2 st σ) : J mc g k n Q pc lv (.ref x :: st) σ :=
  fun H locs ls hP hS hl => lv_astore_n hC.1 hC.2.1 hd rfl hl (by rw [hC.2.2.1]; exact hn) he (fun ls2 hl2 => kk H locs ls2 hP hS hl2)
theorem j_astore (hC : Cx mc g cc own nL ret) {f : Nat} {x : Nat} (hd : decode cc pc = .ok (.astore f, 2)) (lv2 : List (Nat × Value)) (hn : f < nL) (he : (f, Value.ref x) :: lv.filter (fun q => !(q.1 == f) && !(q.1 + 1 == f && q.2.category == 2)) = lv2) (kk : J mc g k n Q (pc + 2) lv2 st σ) : J mc g k n Q pc lv (.ref x :: st) σ :=
  fun H locs ls hP hS hl => lv_astore hC.1 hC.2.1 hd hl (by rw [hC.2.2.1]; exact hn) he (fun ls2 hl2 => kk H locs ls2 hP hS hl2)
theorem j_iinc (hC : Cx mc g cc own nL ret) {f : Nat} {d z : Int} (hd : decode cc pc = .ok (.iinc f d, 3)) (q : Nat) (lv2 : List (Nat × Value)) (hq : lv[q]? = some (f, vI z)) (hn : f < nL) (he : (f, vI (z + d)) :: lv.filter (fun q => !(q.1 == f) && !(q.1 + 1 == f && q.2.category == 2)) = lv2) (kk : J mc g k n Q (pc + 3) lv2 st σ) : J mc g k n Q pc lv st σ :=
  fun H locs ls hP hS hl => lv_iinc (v := iI (z + d)) hC.1 hC.2.1 hd hl hq (iI_add z d) (by rw [hC.2.2.1]; exact hn) he (fun ls2 hl2 => kk H locs ls2 hP hS hl2)
theorem j_iadd {a b : Int} (hC : Cx mc g cc own nL ret) (hd : decode cc pc = .ok (.iadd, 1)) (kk : J mc g k n Q (pc + 1) lv (vI (a + b) :: st) σ) : J mc g k n Q pc lv (vI b :: vI a :: st) σ :=
  fun H locs ls hP hS hl => lv_iadd hC.1 hC.2.1 hd (by rw [iI_add]; exact (kk H locs ls hP hS hl))
theorem j_isub {a b : Int} (hC : Cx mc g cc own nL ret) (hd : decode cc pc = .ok (.isub, 1)) (kk : J mc g k n Q (pc + 1) lv (vI (a - b) :: st) σ) : J mc g k n Q pc lv (vI b :: vI a :: st) σ :=
  fun H locs ls hP hS hl => lv_isub hC.1 hC.2.1 hd (by rw [iI_sub]; exact (kk H locs ls hP hS hl))
theorem j_imul {a b : Int} (hC : Cx mc g cc own nL ret) (hd : decode cc pc = .ok (.imul, 1)) (kk : J mc g k n Q (pc + 1) lv (vI (a * b) :: st) σ) : J mc g k n Q pc lv (vI b :: vI a :: st) σ :=
  fun H locs ls hP hS hl => lv_imul hC.1 hC.2.1 hd (by rw [iI_mul]; exact (kk H locs ls hP hS hl))
theorem j_ineg {a : Int} (hC : Cx mc g cc own nL ret) (hd : decode cc pc = .ok (.ineg, 1)) (kk : J mc g k n Q (pc + 1) lv (vI (-a) :: st) σ) : J mc g k n Q pc lv (vI a :: st) σ :=
  fun H locs ls hP hS hl => lv_ineg hC.1 hC.2.1 hd (by first | (rw [iI_neg]; exact (kk H locs ls hP hS hl)) | (rw [show (0 : Int32) - iI a = iI (-a) by rw [← iI_neg]; simp]; exact (kk H locs ls hP hS hl)))
theorem j_idiv {a b : Int} (hC : Cx mc g cc own nL ret) (hd : decode cc pc = .ok (.idiv, 1)) (h : 0 ≤ a ∧ a < 2147483648 ∧ 0 < b ∧ b < 2147483648) (kk : J mc g k n Q (pc + 1) lv (vI (a / b) :: st) σ) : J mc g k n Q pc lv (vI b :: vI a :: st) σ :=
  fun H locs ls hP hS hl => lv_idiv hC.1 hC.2.1 hd (fun q => by have := (iI_eq (a := b) (b := 0) (by omega) (by omega) (by omega) (by omega)).mp (q.trans iI_0.symm); omega) (by rw [iI_div h.1 h.2.1 h.2.2.1 h.2.2.2]; exact (kk H locs ls hP hS hl))
theorem j_irem {a b : Int} (hC : Cx mc g cc own nL ret) (hd : decode cc pc = .ok (.irem, 1)) (h : 0 ≤ a ∧ a < 2147483648 ∧ 0 < b ∧ b < 2147483648) (kk : J mc g k n Q (pc + 1) lv (vI (a % b) :: st) σ) : J mc g k n Q pc lv (vI b :: vI a :: st) σ :=
  fun H locs ls hP hS hl => lv_irem hC.1 hC.2.1 hd (fun q => by have := (iI_eq (a := b) (b := 0) (by omega) (by omega) (by omega) (by omega)).mp (q.trans iI_0.symm); omega) (by rw [iI_rem h.1 h.2.1 h.2.2.1 h.2.2.2]; exact (kk H locs ls hP hS hl))
theorem j_iand {a b r : Int} (hC : Cx mc g cc own nL ret) (hd : decode cc pc = .ok (.iand, 1)) (hr : iI a &&& iI b = iI r) (kk : J mc g k n Q (pc + 1) lv (vI r :: st) σ) : J mc g k n Q pc lv (vI b :: vI a :: st) σ :=
  fun H locs ls hP hS hl => lv_iand hC.1 hC.2.1 hd (by rw [hr]; exact (kk H locs ls hP hS hl))
theorem j_ior {a b r : Int} (hC : Cx mc g cc own nL ret) (hd : decode cc pc = .ok (.ior, 1)) (hr : iI a ||| iI b = iI r) (kk : J mc g k n Q (pc + 1) lv (vI r :: st) σ) : J mc g k n Q pc lv (vI b :: vI a :: st) σ :=
  fun H locs ls hP hS hl => lv_ior hC.1 hC.2.1 hd (by rw [hr]; exact (kk H locs ls hP hS hl))
theorem j_ixor {a b r : Int} (hC : Cx mc g cc own nL ret) (hd : decode cc pc = .ok (.ixor, 1)) (hr : iI a ^^^ iI b = iI r) (kk : J mc g k n Q (pc + 1) lv (vI r :: st) σ) : J mc g k n Q pc lv (vI b :: vI a :: st) σ :=
  fun H locs ls hP hS hl => lv_ixor hC.1 hC.2.1 hd (by rw [hr]; exact (kk H locs ls hP hS hl))
theorem j_ishl {a b r : Int} (hC : Cx mc g cc own nL ret) (hd : decode cc pc = .ok (.ishl, 1)) (hr : iI a <<< (iI b &&& 31) = iI r) (kk : J mc g k n Q (pc + 1) lv (vI r :: st) σ) : J mc g k n Q pc lv (vI b :: vI a :: st) σ :=
  fun H locs ls hP hS hl => lv_ishl hC.1 hC.2.1 hd (by rw [hr]; exact (kk H locs ls hP hS hl))
theorem j_ishr {a b r : Int} (hC : Cx mc g cc own nL ret) (hd : decode cc pc = .ok (.ishr, 1)) (hr : iI a >>> (iI b &&& 31) = iI r) (kk : J mc g k n Q (pc + 1) lv (vI r :: st) σ) : J mc g k n Q pc lv (vI b :: vI a :: st) σ :=
  fun H locs ls hP hS hl => lv_ishr hC.1 hC.2.1 hd (by rw [hr]; exact (kk H locs ls hP hS hl))
theorem j_iushr {x y v : Int32} (hC : Cx mc g cc own nL ret) (hd : decode cc pc = .ok (.iushr, 1)) (hv : (x.toUInt32 >>> (y.toUInt32 &&& Int32.toUInt32 31)).toInt32 = v) (kk : J mc g k n Q (pc + 1) lv (.int v :: st) σ) : J mc g k n Q pc lv (.int y :: .int x :: st) σ :=
  fun H locs ls hP hS hl => lv_iushr hC.1 hC.2.1 hd hv (kk H locs ls hP hS hl)
theorem j_iaddR {x y : Int32} (hC : Cx mc g cc own nL ret) (hd : decode cc pc = .ok (.iadd, 1)) (kk : J mc g k n Q (pc + 1) lv (.int (x + y) :: st) σ) : J mc g k n Q pc lv (.int y :: .int x :: st) σ :=
  fun H locs ls hP hS hl => lv_iadd hC.1 hC.2.1 hd (kk H locs ls hP hS hl)
theorem j_isubR {x y : Int32} (hC : Cx mc g cc own nL ret) (hd : decode cc pc = .ok (.isub, 1)) (kk : J mc g k n Q (pc + 1) lv (.int (x - y) :: st) σ) : J mc g k n Q pc lv (.int y :: .int x :: st) σ :=
  fun H locs ls hP hS hl => lv_isub hC.1 hC.2.1 hd (kk H locs ls hP hS hl)
theorem j_iandR {x y : Int32} (hC : Cx mc g cc own nL ret) (hd : decode cc pc = .ok (.iand, 1)) (kk : J mc g k n Q (pc + 1) lv (.int (x &&& y) :: st) σ) : J mc g k n Q pc lv (.int y :: .int x :: st) σ :=
  fun H locs ls hP hS hl => lv_iand hC.1 hC.2.1 hd (kk H locs ls hP hS hl)
theorem j_i2l {a : Int} (hC : Cx mc g cc own nL ret) (hd : decode cc pc = .ok (.i2l, 1)) (h : -2147483648 ≤ a ∧ a < 2147483648) (kk : J mc g k n Q (pc + 1) lv (.long (jI a) :: st) σ) : J mc g k n Q pc lv (vI a :: st) σ :=
  fun H locs ls hP hS hl => lv_i2l hC.1 hC.2.1 hd (iI_long h.1 h.2) (kk H locs ls hP hS hl)
theorem j_ladd {a b : Int} (hC : Cx mc g cc own nL ret) (hd : decode cc pc = .ok (.ladd, 1)) (kk : J mc g k n Q (pc + 1) lv (.long (jI (a + b)) :: st) σ) : J mc g k n Q pc lv (.long (jI b) :: .long (jI a) :: st) σ :=
  fun H locs ls hP hS hl => lv_ladd hC.1 hC.2.1 hd (by rw [jI_add]; exact (kk H locs ls hP hS hl))
theorem j_lmul {a b : Int} (hC : Cx mc g cc own nL ret) (hd : decode cc pc = .ok (.lmul, 1)) (kk : J mc g k n Q (pc + 1) lv (.long (jI (a * b)) :: st) σ) : J mc g k n Q pc lv (.long (jI b) :: .long (jI a) :: st) σ :=
  fun H locs ls hP hS hl => lv_lmul hC.1 hC.2.1 hd (by rw [jI_mul]; exact (kk H locs ls hP hS hl))
theorem j_lcmp {x y : Int64} (hC : Cx mc g cc own nL ret) (hd : decode cc pc = .ok (.lcmp, 1)) (kk : J mc g k n Q (pc + 1) lv (.int (lg_cmp x y) :: st) σ) : J mc g k n Q pc lv (.long y :: .long x :: st) σ :=
  fun H locs ls hP hS hl => W.lcmp hC.1 hC.2.1 hd (kk H locs ls hP hS hl)
theorem j_i2d {x : Int32} (hC : Cx mc g cc own nL ret) (hd : decode cc pc = .ok (.i2d, 1)) (kk : J mc g k n Q (pc + 1) lv (.double (FP.i2d x) :: st) σ) : J mc g k n Q pc lv (.int x :: st) σ :=
  fun H locs ls hP hS hl => lv_i2d hC.1 hC.2.1 hd (kk H locs ls hP hS hl)
theorem j_ddiv {x y : UInt64} (hC : Cx mc g cc own nL ret) (hd : decode cc pc = .ok (.ddiv, 1)) (hn : vf_n64 (FP.ddiv x y)) (kk : J mc g k n Q (pc + 1) lv (.double (FP.ddiv x y) :: st) σ) : J mc g k n Q pc lv (.double y :: .double x :: st) σ :=
  fun H locs ls hP hS hl => lv_ddiv hC.1 hC.2.1 hd hn (kk H locs ls hP hS hl)
theorem j_dconst0 (hC : Cx mc g cc own nL ret) (hd : decode cc pc = .ok (.dconst 0, 1)) (kk : J mc g k n Q (pc + 1) lv (.double 0 :: st) σ) : J mc g k n Q pc lv (st) σ :=
  fun H locs ls hP hS hl => lv_dconst0 hC.1 hC.2.1 hd (kk H locs ls hP hS hl)
theorem j_dcmp {x y : UInt64} {op : CmpOp} (hC : Cx mc g cc own nL ret) (hd : decode cc pc = .ok (.dcmp op, 1)) (kk : J mc g k n Q (pc + 1) lv (.int (Op.cmpValue (FP.dcmp x y) op) :: st) σ) : J mc g k n Q pc lv (.double y :: .double x :: st) σ :=
  fun H locs ls hP hS hl => lv_dcmp hC.1 hC.2.1 hd (kk H locs ls hP hS hl)
theorem j_lconst {f : Fin 2} {v : Int64} (hC : Cx mc g cc own nL ret) (hd : decode cc pc = .ok (.lconst f, 1)) (hv : Int64.ofNat (f : Nat) = v) (kk : J mc g k n Q (pc + 1) lv (.long v :: st) σ) : J mc g k n Q pc lv (st) σ :=
  fun H locs ls hP hS hl => lv_lconst hC.1 hC.2.1 hd hv (kk H locs ls hP hS hl)
theorem j_dup {v : Value} (hC : Cx mc g cc own nL ret) (hd : decode cc pc = .ok (.dup, 1)) (hv : v.category = 1) (kk : J mc g k n Q (pc + 1) lv (v :: v :: st) σ) : J mc g k n Q pc lv (v :: st) σ :=
  fun H locs ls hP hS hl => lv_dup hC.1 hC.2.1 hd hv (kk H locs ls hP hS hl)
theorem j_dup2 {v w : Value} (hC : Cx mc g cc own nL ret) (hd : decode cc pc = .ok (.dup2, 1)) (hv : v.category = 1) (hw : w.category = 1) (kk : J mc g k n Q (pc + 1) lv (v :: w :: v :: w :: st) σ) : J mc g k n Q pc lv (v :: w :: st) σ :=
  fun H locs ls hP hS hl => lv_dup2_11 hC.1 hC.2.1 hd hv hw (kk H locs ls hP hS hl)
theorem j_pop {v : Value} (hC : Cx mc g cc own nL ret) (hd : decode cc pc = .ok (.pop, 1)) (hv : v.category = 1) (kk : J mc g k n Q (pc + 1) lv (st) σ) : J mc g k n Q pc lv (v :: st) σ :=
  fun H locs ls hP hS hl => lv_pop hC.1 hC.2.1 hd hv (kk H locs ls hP hS hl)
theorem j_ldc {index : Nat} {v : Int32} (hC : Cx mc g cc own nL ret) (hd : decode cc pc = .ok (.ldc index, 2)) (hw : Cond.constant own index v ∈ wsA) (kk : J mc g k n Q (pc + 2) lv (.int v :: st) σ) : J mc g k n Q pc lv (st) σ :=
  fun H locs ls hP hS hl => lv_ldc hC.1 hC.2.1 hC.2.2.2.1 (hC.2.2.2.2.1 _ hw) hd (kk H locs ls hP hS hl)
theorem j_ldc_w {index : Nat} {v : Int32} (hC : Cx mc g cc own nL ret) (hd : decode cc pc = .ok (.ldc_w index, 3)) (hw : Cond.constant own index v ∈ wsA) (kk : J mc g k n Q (pc + 3) lv (.int v :: st) σ) : J mc g k n Q pc lv (st) σ :=
  fun H locs ls hP hS hl => lv_ldcw hC.1 hC.2.1 hC.2.2.2.1 (hC.2.2.2.2.1 _ hw) hd (kk H locs ls hP hS hl)
theorem j_ldc2 {index : Nat} {v : Int64} (hC : Cx mc g cc own nL ret) (hd : decode cc pc = .ok (.ldc2_w index, 3)) (hw : Cond.constantLong own index v ∈ wsA) (kk : J mc g k n Q (pc + 3) lv (.long v :: st) σ) : J mc g k n Q pc lv (st) σ :=
  fun H locs ls hP hS hl => lv_ldc2 hC.1 hC.2.1 hC.2.2.2.1 (hC.2.2.2.2.1 _ hw) hd (kk H locs ls hP hS hl)
theorem j_icmp_eq (hC : Cx mc g cc own nL ret) {a b off : Int} {tgt : Nat} (hd : decode cc pc = .ok (.if_icmp .eq off, 3)) (ht : (pc : Int) + off = (tgt : Int)) (hr : -2147483648 ≤ a ∧ a < 2147483648 ∧ -2147483648 ≤ b ∧ b < 2147483648) (kt : a = b → J mc g k n Q tgt lv st σ) (kf : a ≠ b → J mc g k n Q (pc + 3) lv st σ) : J mc g k n Q pc lv (vI b :: vI a :: st) σ :=
  fun H locs ls hP hS hl => lv_icmp_eq hC.1 hC.2.1 hd ht (fun h => kt (cc_eq hr h) H locs ls hP hS hl) (fun h => kf (cc_ne hr h) H locs ls hP hS hl)
theorem j_icmp_ne (hC : Cx mc g cc own nL ret) {a b off : Int} {tgt : Nat} (hd : decode cc pc = .ok (.if_icmp .ne off, 3)) (ht : (pc : Int) + off = (tgt : Int)) (hr : -2147483648 ≤ a ∧ a < 2147483648 ∧ -2147483648 ≤ b ∧ b < 2147483648) (kt : a ≠ b → J mc g k n Q tgt lv st σ) (kf : a = b → J mc g k n Q (pc + 3) lv st σ) : J mc g k n Q pc lv (vI b :: vI a :: st) σ :=
  fun H locs ls hP hS hl => lv_icmp_ne hC.1 hC.2.1 hd ht (fun h => kt (cc_ne hr h) H locs ls hP hS hl) (fun h => kf (cc_eq hr h) H locs ls hP hS hl)
theorem j_icmp_lt (hC : Cx mc g cc own nL ret) {a b off : Int} {tgt : Nat} (hd : decode cc pc = .ok (.if_icmp .lt off, 3)) (ht : (pc : Int) + off = (tgt : Int)) (hr : -2147483648 ≤ a ∧ a < 2147483648 ∧ -2147483648 ≤ b ∧ b < 2147483648) (kt : a < b → J mc g k n Q tgt lv st σ) (kf : b ≤ a → J mc g k n Q (pc + 3) lv st σ) : J mc g k n Q pc lv (vI b :: vI a :: st) σ :=
  fun H locs ls hP hS hl => lv_icmp_lt hC.1 hC.2.1 hd ht (fun h => kt (cc_lt hr h) H locs ls hP hS hl) (fun h => kf (cc_nlt hr h) H locs ls hP hS hl)
theorem j_icmp_ge (hC : Cx mc g cc own nL ret) {a b off : Int} {tgt : Nat} (hd : decode cc pc = .ok (.if_icmp .ge off, 3)) (ht : (pc : Int) + off = (tgt : Int)) (hr : -2147483648 ≤ a ∧ a < 2147483648 ∧ -2147483648 ≤ b ∧ b < 2147483648) (kt : b ≤ a → J mc g k n Q tgt lv st σ) (kf : a < b → J mc g k n Q (pc + 3) lv st σ) : J mc g k n Q pc lv (vI b :: vI a :: st) σ :=
  fun H locs ls hP hS hl => lv_icmp_ge hC.1 hC.2.1 hd ht (fun h => kt (cc_ge hr h) H locs ls hP hS hl) (fun h => kf (cc_nge hr h) H locs ls hP hS hl)
theorem j_icmp_gt (hC : Cx mc g cc own nL ret) {a b off : Int} {tgt : Nat} (hd : decode cc pc = .ok (.if_icmp .gt off, 3)) (ht : (pc : Int) + off = (tgt : Int)) (hr : -2147483648 ≤ a ∧ a < 2147483648 ∧ -2147483648 ≤ b ∧ b < 2147483648) (kt : b < a → J mc g k n Q tgt lv st σ) (kf : a ≤ b → J mc g k n Q (pc + 3) lv st σ) : J mc g k n Q pc lv (vI b :: vI a :: st) σ :=
  fun H locs ls hP hS hl => lv_icmp_gt hC.1 hC.2.1 hd ht (fun h => kt (cc_gt hr h) H locs ls hP hS hl) (fun h => kf (cc_ngt hr h) H locs ls hP hS hl)
theorem j_icmp_le (hC : Cx mc g cc own nL ret) {a b off : Int} {tgt : Nat} (hd : decode cc pc = .ok (.if_icmp .le off, 3)) (ht : (pc : Int) + off = (tgt : Int)) (hr : -2147483648 ≤ a ∧ a < 2147483648 ∧ -2147483648 ≤ b ∧ b < 2147483648) (kt : a ≤ b → J mc g k n Q tgt lv st σ) (kf : b < a → J mc g k n Q (pc + 3) lv st σ) : J mc g k n Q pc lv (vI b :: vI a :: st) σ :=
  fun H locs ls hP hS hl => lv_icmp_le hC.1 hC.2.1 hd ht (fun h => kt (cc_le hr h) H locs ls hP hS hl) (fun h => kf (cc_nle hr h) H locs ls hP hS hl)
theorem j_if_eq (hC : Cx mc g cc own nL ret) {a off : Int} {tgt : Nat} (hd : decode cc pc = .ok (.ifCond .eq off, 3)) (ht : (pc : Int) + off = (tgt : Int)) (hr : -2147483648 ≤ a ∧ a < 2147483648) (kt : a = 0 → J mc g k n Q tgt lv st σ) (kf : a ≠ 0 → J mc g k n Q (pc + 3) lv st σ) : J mc g k n Q pc lv (vI a :: st) σ := by
  intro H locs ls hP hS hl
  refine lv_if_eq hC.1 hC.2.1 hd ht (fun h => ?_) (fun h => ?_) <;> rw [← iI_0] at h
  · exact kt (cc_eq (show -2147483648 ≤ a ∧ a < 2147483648 ∧ (-2147483648 : Int) ≤ 0 ∧ (0 : Int) < 2147483648 by omega) h) H locs ls hP hS hl
  · exact kf (cc_ne (show -2147483648 ≤ a ∧ a < 2147483648 ∧ (-2147483648 : Int) ≤ 0 ∧ (0 : Int) < 2147483648 by omega) h) H locs ls hP hS hl
theorem j_if_ne (hC : Cx mc g cc own nL ret) {a off : Int} {tgt : Nat} (hd : decode cc pc = .ok (.ifCond .ne off, 3)) (ht : (pc : Int) + off = (tgt : Int)) (hr : -2147483648 ≤ a ∧ a < 2147483648) (kt : a ≠ 0 → J mc g k n Q tgt lv st σ) (kf : a = 0 → J mc g k n Q (pc + 3) lv st σ) : J mc g k n Q pc lv (vI a :: st) σ := by
  intro H locs ls hP hS hl
  refine lv_if_ne hC.1 hC.2.1 hd ht (fun h => ?_) (fun h => ?_) <;> rw [← iI_0] at h
  · exact kt (cc_ne (show -2147483648 ≤ a ∧ a < 2147483648 ∧ (-2147483648 : Int) ≤ 0 ∧ (0 : Int) < 2147483648 by omega) h) H locs ls hP hS hl
  · exact kf (cc_eq (show -2147483648 ≤ a ∧ a < 2147483648 ∧ (-2147483648 : Int) ≤ 0 ∧ (0 : Int) < 2147483648 by omega) h) H locs ls hP hS hl
theorem j_if_lt (hC : Cx mc g cc own nL ret) {a off : Int} {tgt : Nat} (hd : decode cc pc = .ok (.ifCond .lt off, 3)) (ht : (pc : Int) + off = (tgt : Int)) (hr : -2147483648 ≤ a ∧ a < 2147483648) (kt : a < 0 → J mc g k n Q tgt lv st σ) (kf : 0 ≤ a → J mc g k n Q (pc + 3) lv st σ) : J mc g k n Q pc lv (vI a :: st) σ := by
  intro H locs ls hP hS hl
  refine lv_if_lt hC.1 hC.2.1 hd ht (fun h => ?_) (fun h => ?_) <;> rw [← iI_0] at h
  · exact kt (cc_lt (show -2147483648 ≤ a ∧ a < 2147483648 ∧ (-2147483648 : Int) ≤ 0 ∧ (0 : Int) < 2147483648 by omega) h) H locs ls hP hS hl
  · exact kf (cc_nlt (show -2147483648 ≤ a ∧ a < 2147483648 ∧ (-2147483648 : Int) ≤ 0 ∧ (0 : Int) < 2147483648 by omega) h) H locs ls hP hS hl
theorem j_if_ge (hC : Cx mc g cc own nL ret) {a off : Int} {tgt : Nat} (hd : decode cc pc = .ok (.ifCond .ge off, 3)) (ht : (pc : Int) + off = (tgt : Int)) (hr : -2147483648 ≤ a ∧ a < 2147483648) (kt : 0 ≤ a → J mc g k n Q tgt lv st σ) (kf : a < 0 → J mc g k n Q (pc + 3) lv st σ) : J mc g k n Q pc lv (vI a :: st) σ := by
  intro H locs ls hP hS hl
  refine lv_if_ge hC.1 hC.2.1 hd ht (fun h => ?_) (fun h => ?_) <;> rw [← iI_0] at h
  · exact kt (cc_ge (show -2147483648 ≤ a ∧ a < 2147483648 ∧ (-2147483648 : Int) ≤ 0 ∧ (0 : Int) < 2147483648 by omega) h) H locs ls hP hS hl
  · exact kf (cc_nge (show -2147483648 ≤ a ∧ a < 2147483648 ∧ (-2147483648 : Int) ≤ 0 ∧ (0 : Int) < 2147483648 by omega) h) H locs ls hP hS hl
theorem j_if_gt (hC : Cx mc g cc own nL ret) {a off : Int} {tgt : Nat} (hd : decode cc pc = .ok (.ifCond .gt off, 3)) (ht : (pc : Int) + off = (tgt : Int)) (hr : -2147483648 ≤ a ∧ a < 2147483648) (kt : 0 < a → J mc g k n Q tgt lv st σ) (kf : a ≤ 0 → J mc g k n Q (pc + 3) lv st σ) : J mc g k n Q pc lv (vI a :: st) σ := by
  intro H locs ls hP hS hl
  refine lv_if_gt hC.1 hC.2.1 hd ht (fun h => ?_) (fun h => ?_) <;> rw [← iI_0] at h
  · exact kt (cc_gt (show -2147483648 ≤ a ∧ a < 2147483648 ∧ (-2147483648 : Int) ≤ 0 ∧ (0 : Int) < 2147483648 by omega) h) H locs ls hP hS hl
  · exact kf (cc_ngt (show -2147483648 ≤ a ∧ a < 2147483648 ∧ (-2147483648 : Int) ≤ 0 ∧ (0 : Int) < 2147483648 by omega) h) H locs ls hP hS hl
theorem j_if_le (hC : Cx mc g cc own nL ret) {a off : Int} {tgt : Nat} (hd : decode cc pc = .ok (.ifCond .le off, 3)) (ht : (pc : Int) + off = (tgt : Int)) (hr : -2147483648 ≤ a ∧ a < 2147483648) (kt : a ≤ 0 → J mc g k n Q tgt lv st σ) (kf : 0 < a → J mc g k n Q (pc + 3) lv st σ) : J mc g k n Q pc lv (vI a :: st) σ := by
  intro H locs ls hP hS hl
  refine lv_if_le hC.1 hC.2.1 hd ht (fun h => ?_) (fun h => ?_) <;> rw [← iI_0] at h
  · exact kt (cc_le (show -2147483648 ≤ a ∧ a < 2147483648 ∧ (-2147483648 : Int) ≤ 0 ∧ (0 : Int) < 2147483648 by omega) h) H locs ls hP hS hl
  · exact kf (cc_nle (show -2147483648 ≤ a ∧ a < 2147483648 ∧ (-2147483648 : Int) ≤ 0 ∧ (0 : Int) < 2147483648 by omega) h) H locs ls hP hS hl
theorem j_ifR_eq (hC : Cx mc g cc own nL ret) {x : Int32} {off : Int} {tgt : Nat} (hd : decode cc pc = .ok (.ifCond .eq off, 3)) (ht : (pc : Int) + off = (tgt : Int)) (kt : x = 0 → J mc g k n Q tgt lv st σ) (kf : ¬ x = 0 → J mc g k n Q (pc + 3) lv st σ) : J mc g k n Q pc lv (.int x :: st) σ :=
  fun H locs ls hP hS hl => lv_if_eq hC.1 hC.2.1 hd ht (fun h => kt h H locs ls hP hS hl) (fun h => kf h H locs ls hP hS hl)
theorem j_ifR_ne (hC : Cx mc g cc own nL ret) {x : Int32} {off : Int} {tgt : Nat} (hd : decode cc pc = .ok (.ifCond .ne off, 3)) (ht : (pc : Int) + off = (tgt : Int)) (kt : ¬ x = 0 → J mc g k n Q tgt lv st σ) (kf : x = 0 → J mc g k n Q (pc + 3) lv st σ) : J mc g k n Q pc lv (.int x :: st) σ :=
  fun H locs ls hP hS hl => lv_if_ne hC.1 hC.2.1 hd ht (fun h => kt h H locs ls hP hS hl) (fun h => kf h H locs ls hP hS hl)
theorem j_goto (hC : Cx mc g cc own nL ret) {off : Int} {tgt : Nat} (hd : decode cc pc = .ok (.goto off, 3)) (ht : (pc : Int) + off = (tgt : Int)) (kk : J mc g k n Q tgt lv st σ) : J mc g k n Q pc lv st σ :=
  fun H locs ls hP hS hl => lv_goto hC.1 hC.2.1 hd ht (kk H locs ls hP hS hl)
theorem j_sub {lv2 : List (Nat × Value)} (ks : List Nat) (he : lv_pick lv ks = lv2) (kk : J mc g k n Q pc lv2 st σ) : J mc g k n Q pc lv st σ :=
  fun H locs ls hP hS hl => kk H locs ls hP hS (lv_sub hl ks he)
theorem j_widen {k2 n2 : Nat} (h1 : k ≤ k2) (h2 : n ≤ n2) (kk : J mc g k2 n2 Q pc lv st σ) : J mc g k n Q pc lv st σ :=
  fun H locs ls hP hS hl => W.widen h1 h2 (kk H locs ls hP hS hl)
theorem j_st {st2 : List Value} (h : st = st2) (kk : J mc g k n Q pc lv st2 σ) : J mc g k n Q pc lv st σ := h ▸ kk
theorem j_lv {lv2 : List (Nat × Value)} (h : lv = lv2) (kk : J mc g k n Q pc lv2 st σ) : J mc g k n Q pc lv st σ := h ▸ kk
end JJ
end
section
theorem hw_bk (g : GG) (σ : Sg) {b : Nat} (hb : b < 5) : (hw g σ)[4 + b]? = some (gd g (4 + b), .inr (0, [.ref (gd g 1), .ref (gd g (9 + b)), .ref (gd g (14 + b)), vI (σ.1 (2 + b))])) := by
  rcases (show b = 0 ∨ b = 1 ∨ b = 2 ∨ b = 3 ∨ b = 4 by omega) with rfl | rfl | rfl | rfl | rfl <;> rfl
theorem hw_lk (g : GG) (σ : Sg) {b : Nat} (hb : b < 5) : (hw g σ)[9 + b]? = some (gd g (9 + b), ri g (σ.2 (1 + b)) 16) := by
  rcases (show b = 0 ∨ b = 1 ∨ b = 2 ∨ b = 3 ∨ b = 4 by omega) with rfl | rfl | rfl | rfl | rfl <;> rfl
theorem hw_mn (g : GG) (σ : Sg) {b : Nat} (hb : b < 5) : (hw g σ)[14 + b]? = some (gd g (14 + b), ri g (σ.2 (6 + b)) 16) := by
  rcases (show b = 0 ∨ b = 1 ∨ b = 2 ∨ b = 3 ∨ b = 4 by omega) with rfl | rfl | rfl | rfl | rfl <;> rfl
/-- the number v becomes x -/
def sF (σ : Sg) (v : Nat) (x : Int) : Sg := (fun j => if j = v then x else σ.1 j, σ.2)
/-- the place i of the row a becomes x -/
def sG (σ : Sg) (a : Nat) (i x : Int) : Sg := (σ.1, fun b => if b = a then (fun j => if j = i then x else σ.2 a j) else σ.2 b)
theorem hs_cnt (g : GG) (σ : Sg) {b : Nat} (hb : b < 5) (x : Int) : (hw g σ).set (4 + b) (gd g (4 + b), .inr (0, ([.ref (gd g 1), .ref (gd g (9 + b)), .ref (gd g (14 + b)), vI (σ.1 (2 + b))] : List Value).set 3 (vI x))) = hw g (sF σ (2 + b) x) := by
  rcases (show b = 0 ∨ b = 1 ∨ b = 2 ∨ b = 3 ∨ b = 4 by omega) with rfl | rfl | rfl | rfl | rfl <;> rfl
theorem hs_lk (g : GG) (σ : Sg) {b : Nat} (hb : b < 5) (i x : Int) : (hw g σ).set (9 + b) (gd g (9 + b), ri g (fun j => if j = i then x else σ.2 (1 + b) j) 16) = hw g (sG σ (1 + b) i x) := by
  rcases (show b = 0 ∨ b = 1 ∨ b = 2 ∨ b = 3 ∨ b = 4 by omega) with rfl | rfl | rfl | rfl | rfl <;> rfl
theorem hs_mn (g : GG) (σ : Sg) {b : Nat} (hb : b < 5) (i x : Int) : (hw g σ).set (14 + b) (gd g (14 + b), ri g (fun j => if j = i then x else σ.2 (6 + b) j) 16) = hw g (sG σ (6 + b) i x) := by
  rcases (show b = 0 ∨ b = 1 ∨ b = 2 ∨ b = 3 ∨ b = 4 by omega) with rfl | rfl | rfl | rfl | rfl <;> rfl
theorem nw_warm {s U : State} (hW : s.WarmedH U.vm) (h : ∀ w ∈ nwA, va_Nw w s) : ∀ w ∈ nwA, va_Nw w U := by
  intro w hw
  have h1 := h w hw
  have h2 := (List.mem_filter.mp hw).2
  cases w <;> first | exact va_Nw.warmF hW h1 | exact va_Nw.warmM hW h1 | exact va_Nw.warmC hW h1 | exact va_Nw.warmD hW h1 | exact absurd h2 (by decide) | (simp [isNest] at h2)
theorem TH_to {g : GG} {s U : State} {H H1 : Heap} (hW : s.WarmedH U.vm) (hq : ∀ a : Nat, a < H.size → ¬ gA g a → H1[a]? = H[a]?) (h : TH g s H) : TH g U H1 :=
  ⟨vx_Zq.moved hW.alike (h.1.kept hq), vx_Zq.moved hW.alike (h.2.1.kept hq), fun q hq2 => by
    obtain ⟨a, ha⟩ := h.2.2.1 q hq2
    exact ⟨a, vk_R.warm hW ha⟩, fun q hq2 => by
    exact va_Nc.moved hW.alike (h.2.2.2.1 q hq2), va_AO.moved hW.alike h.2.2.2.2⟩
section JH
variable {mc : MC} {g : GG} {k n : Nat} {Q : State → Prop} {pc : Nat} {lv : List (Nat × Value)} {st : List Value} {σ : Sg} {cc : ByteArray} {own : String} {nL : Nat} {ret : Option FieldType}
theorem WB_mk (hC : Cx mc g cc own nL ret) {H : Heap} {locs : List Loc} {τ : Sg} (hP : va_P (gD g) vwCl (hw g τ) H) (hS : va_S (gA g) (mS mc).heap H locs) {U : State} (hU : U.heap = H) (hW : (mS mc).WarmedH U.vm) : WB g τ U := by
  obtain ⟨-, -, -, -, -, -, hK, hN, hT, hD, h0, -, -⟩ := hC
  subst hU
  exact ⟨Nat.le_trans h0 hS.1, hP, va_K.moved hW.alike hK, nw_warm hW hN, TH_to hW hS.2.1 hT, hD⟩
theorem WB_calling {U : State} {jf : JFrame} {mk : MethodId} {a : Array Value} (h : WB g σ U) : WB g σ (U.calling jf mk a) := by
  obtain ⟨h0, hP, hK, hN, hT, hD⟩ := h
  have hW : U.WarmedH (U.calling jf mk a).vm := State.WarmedH.refl U
  exact ⟨h0, hP, va_K.moved hW.alike hK, nw_warm hW hN, TH_to hW (fun _ _ _ => rfl) hT, hD⟩
theorem WB_blind (as : List Value) : FrameBlind (va_Pc as (WB g σ)) := fun _ _ _ _ h => ⟨h.1, WB_calling h.2⟩
theorem QJ_end {post : Option Value → Sg → Prop} {H : Heap} {locs : List Loc} {v : Option Value} (hp : post v σ) (hP : va_P (gD g) vwCl (hw g σ) H) (hS : va_S (gA g) (mS mc).heap H locs) {t : State} (ht : t.heap = H) : QJ g post (mA mc) (mS mc) (.returned v) t :=
  ⟨⟨v, σ, rfl, hp, by rw [ht]; exact hP⟩, hS.F ht⟩
theorem CN_of {l : Launch} {y : MethodName} {fr lo : Nat} {as : List Value} {post : Option Value → Sg → Prop} (hl : l.stackTraces = false) (hy : plainName y.cls = true) (hy2 : y.cls = own) (hn : (lg_sl as).length ≤ nL)
    (body : ∀ mc : MC, Cx mc g cc own nL ret → mL mc = l → mR mc = rmJ fr lo k n → J mc g 0 0 (QN mc g post k n) 0 (lv_args 0 as) [] σ) : CN l y cc nL ret fr lo k n g as σ post := by
  subst hy2
  refine Met.ofW (cc := cc) (maxL := nL) (ret := ret) hy rfl ?_
  intro p e s m args below meth c s₁ B hml hv
  obtain ⟨rfl, h0, hP, hK, hN, hT, hD⟩ := hv
  have hts := atoms_spec (ws := .code y cc nL ret :: wsA) B.pre
  have hC : Cx (p, l, e, rmJ fr lo k n, s, m, as.toArray, below, meth, c) g cc y.cls nL ret := ⟨B.exec, B.bytes, hml, findClass_of_methodNamed B.named, fun w h => hts w (List.mem_cons_of_mem _ h), B.notSynchronized, hK, hN, hT, hD, h0, hl, B.returns⟩
  have hb := body _ hC rfl rfl
  have he := lv_entry as hn
  rw [lg_entry_eq]
  exact hb s.heap [] _ hP va_S.rf (by show lv_has _ c.maxLocals _; rw [hml]; exact he)
theorem CX_of {l : Launch} {y : MethodName} {fr lo : Nat} {as : List Value} {post : Option Value → Sg → Prop} {px : String → Sg → Prop} (hl : l.stackTraces = false) (hy : plainName y.cls = true) (hy2 : y.cls = own) (hn : (lg_sl as).length ≤ nL)
    (body : ∀ mc : MC, Cx mc g cc own nL ret → mL mc = l → mR mc = rmJ fr lo k n → (∀ x ∈ (mC mc).exceptionTable.toList, False) → J mc g 0 0 (QX mc g post px k n) 0 (lv_args 0 as) [] σ) : CX l y cc nL ret fr lo k n g as σ post px := by
  subst hy2
  refine vx_ofW (cc := cc) (maxL := nL) (ret := ret) hy rfl ?_
  intro p e s m args below meth c s₁ B hml hE hv
  obtain ⟨rfl, h0, hP, hK, hN, hT, hD⟩ := hv
  have hts := atoms_spec (ws := .code y cc nL ret :: wsA) B.pre
  have hC : Cx (p, l, e, rmJ fr lo k n, s, m, as.toArray, below, meth, c) g cc y.cls nL ret := ⟨B.exec, B.bytes, hml, findClass_of_methodNamed B.named, fun w h => hts w (List.mem_cons_of_mem _ h), B.notSynchronized, hK, hN, hT, hD, h0, hl, B.returns⟩
  have hb := body _ hC rfl rfl hE
  have he := lv_entry as hn
  rw [lg_entry_eq]
  exact hb s.heap [] _ hP va_S.rf (by show lv_has _ c.maxLocals _; rw [hml]; exact he)
/-! returns -/
theorem j_toX {post : Option Value → Sg → Prop} {px : String → Sg → Prop} (kk : J mc g k n (QN mc g post k n) pc lv st σ) : J mc g k n (QX mc g post px k n) pc lv st σ := fun H locs ls hP hS hl => vx_ret (kk H locs ls hP hS hl)
theorem j_iret (hC : Cx mc g cc own nL (some .int)) {post : Option Value → Sg → Prop} {x : Int32} (hd : decode cc pc = .ok (.ireturn, 1)) (hp : post (some (.int x)) σ) : J mc g k n (QN mc g post k n) pc lv [.int x] σ :=
  fun _ _ _ hP hS _ => W.iret hC.1 hC.2.1 hC.2.2.2.2.2.2.2.2.2.2.2.2 (fun _ ht _ => QJ_end hp hP hS ht) hS.2.2 hd hC.2.2.2.2.2.1
theorem j_zret (hC : Cx mc g cc own nL (some .boolean)) {post : Option Value → Sg → Prop} {x : Int} (hx : x = 0 ∨ x = 1) (hd : decode cc pc = .ok (.ireturn, 1)) (hp : post (some (vI x)) σ) : J mc g k n (QN mc g post k n) pc lv [vI x] σ :=
  fun _ _ _ hP hS _ => W.zret (ty := .boolean) hC.1 hC.2.1 hC.2.2.2.2.2.2.2.2.2.2.2.2 (by rcases hx with rfl | rfl <;> rfl) (fun _ ht _ => QJ_end hp hP hS ht) hS.2.2 hd hC.2.2.2.2.2.1
theorem j_lret (hC : Cx mc g cc own nL (some .long)) {post : Option Value → Sg → Prop} {x : Int64} (hd : decode cc pc = .ok (.lreturn, 1)) (hp : post (some (.long x)) σ) : J mc g k n (QN mc g post k n) pc lv [.long x] σ :=
  fun _ _ _ hP hS _ => W.lret hC.1 hC.2.1 hC.2.2.2.2.2.2.2.2.2.2.2.2 (fun _ ht _ => QJ_end hp hP hS ht) hS.2.2 hd hC.2.2.2.2.2.1
theorem j_dret (hC : Cx mc g cc own nL (some .double)) {post : Option Value → Sg → Prop} {x : UInt64} (hd : decode cc pc = .ok (.dreturn, 1)) (hp : post (some (.double x)) σ) : J mc g k n (QN mc g post k n) pc lv [.double x] σ :=
  fun _ _ _ hP hS _ => W.dret hC.1 hC.2.1 hC.2.2.2.2.2.2.2.2.2.2.2.2 (fun _ ht _ => QJ_end hp hP hS ht) hS.2.2 hd hC.2.2.2.2.2.1
theorem j_vret (hC : Cx mc g cc own nL none) {post : Option Value → Sg → Prop} (hd : decode cc pc = .ok (.return_, 1)) (hp : post none σ) : J mc g k n (QN mc g post k n) pc lv [] σ :=
  fun _ _ _ hP hS _ => W.vret hC.1 hC.2.1 hC.2.2.2.2.2.2.2.2.2.2.2.2 (fun _ ht _ => QJ_end hp hP hS ht) hS.2.2 hd hC.2.2.2.2.2.1
theorem j_aret {C : String} (hC : Cx mc g cc own nL (some (.object C))) {post : Option Value → Sg → Prop} {a : Nat} (hd : decode cc pc = .ok (.areturn, 1)) (hp : post (some (.ref a)) σ) : J mc g k n (QN mc g post k n) pc lv [.ref a] σ :=
  fun _ _ _ hP hS _ => W.aret hC.1 hC.2.1 hC.2.2.2.2.2.2.2.2.2.2.2.2 (Or.inl ⟨_, rfl⟩) (Or.inr ⟨_, rfl⟩) (fun _ ht _ => QJ_end hp hP hS ht) hS.2.2 hd hC.2.2.2.2.2.1
/-! fields and rows -/
theorem j_get (hC : Cx mc g cc own nL ret) {C : String} {T : u_T} {N ci index a : Nat} {fs : List Value} {v : Value} (hin : ∀ w ∈ u_ws C T N, w ∈ wsA) (hc : vwCl[ci]? = some (C, T, N)) (q0 : Nat) (he : (hw g σ)[q0]? = some (a, .inr (ci, fs))) (f : Nat) (hf : f < N) (hlink : Cond.fieldLink own index (T f).1 (T f).2.1 (T f).2.2.1 ∈ wsA) (hv : fs[f]? = some v) (hd : decode cc pc = .ok (.getfield index, 3)) (kk : J mc g k n Q (pc + 3) lv (v :: st) σ) : J mc g k n Q pc lv (.ref a :: st) σ :=
  fun H locs ls hP hS hl => va_get (own := own) hC.1 hC.2.1 hC.2.2.2.2.1 hin hC.2.2.2.1 hC.2.2.2.2.2.2.1 hP q0 he hc f hf (hC.2.2.2.2.1 _ hlink) (fun _ h => h) hv hd (kk H locs ls hP hS hl)
theorem j_getN (hC : Cx mc g cc own nL ret) {C host : String} {T : u_T} {N ci index a : Nat} {fs : List Value} {v : Value} (hin : ∀ w ∈ u_ws C T N, w ∈ wsA) (hc : vwCl[ci]? = some (C, T, N)) (q0 : Nat) (he : (hw g σ)[q0]? = some (a, .inr (ci, fs))) (f : Nat) (hf : f < N) (hlink : Cond.fieldLinkNest own index (T f).1 (T f).2.1 (T f).2.2.1 host ∈ nwA) (hv : fs[f]? = some v) (hd : decode cc pc = .ok (.getfield index, 3)) (kk : J mc g k n Q (pc + 3) lv (v :: st) σ) : J mc g k n Q pc lv (.ref a :: st) σ :=
  fun H locs ls hP hS hl => va_getN (own := own) hC.1 hC.2.1 hC.2.2.2.2.1 hin hC.2.2.2.1 hC.2.2.2.2.2.2.1 hP q0 he hc f hf (va_Nw.use rfl (hC.2.2.2.2.2.2.2.1 _ hlink)) (fun _ h => h) hv hd (kk H locs ls hP hS hl)
theorem j_put (hC : Cx mc g cc own nL ret) {C : String} {T : u_T} {N ci index a : Nat} {fs : List Value} {x : Int} {τ : Sg} (hin : ∀ w ∈ u_ws C T N, w ∈ wsA) {ty0 : Nat → FieldType} (hty : ∀ k, k < N → parseFieldDescriptor (T k).2.2.1 = some (ty0 k)) (hnm : ∀ a, a < N → ∀ b, b < N → a ≠ b → (T a).2.1 ≠ (T b).2.1) (hc : vwCl[ci]? = some (C, T, N)) (q0 : Nat) (he : (hw g σ)[q0]? = some (a, .inr (ci, fs))) (f : Nat) (hf : f < N) (hlink : Cond.fieldLink own index (T f).1 (T f).2.1 (T f).2.2.1 ∈ wsA) (hfin : (T f).2.2.2 = false) (hde : parseFieldDescriptor (T f).2.2.1 = some .int) (hlen : f < fs.length) (hs : (hw g σ).set q0 (a, .inr (ci, fs.set f (vI x))) = hw g τ) (hd : decode cc pc = .ok (.putfield index, 3)) (kk : J mc g k n Q (pc + 3) lv st τ) : J mc g k n Q pc lv (vI x :: .ref a :: st) σ :=
  fun _ _ ls hP hS hl => va_put (own := own) hC.1 hC.2.1 hC.2.2.2.2.1 hin ty0 hty hnm hC.2.2.2.1 hC.2.2.2.2.2.2.1 hP (hC.2.2.2.2.2.2.2.2.2.1 σ) hS q0 he hc f hf (hC.2.2.2.2.1 _ hlink) (fun _ h => h) hfin hde (vp_nar_int _) rfl hlen hd (fun H1 locs1 hP1 _ hS1 => kk H1 locs1 ls (hs ▸ hP1) hS1 hl)
theorem j_iald (hC : Cx mc g cc own nL ret) {a m0 : Nat} {f : Int → Int} {z : Int} (q0 : Nat) (he : (hw g σ)[q0]? = some (a, ri g f m0)) (hz : 0 ≤ z ∧ z < m0 ∧ m0 ≤ 2147483647) (hd : decode cc pc = .ok (.iaload, 1)) (kk : J mc g k n Q (pc + 1) lv (vI (f z) :: st) σ) : J mc g k n Q pc lv (vI z :: .ref a :: st) σ := by
  intro H locs ls hP hS hl
  refine va_iald hC.1 hC.2.1 hC.2.2.2.2.2.2.1 hP q0 0 he rfl (iI_in hz.1 hz.2.1 hz.2.2) hd ?_
  have e : ((iI z).toNatClampNeg : Int) = z := by rw [iI_clamp (by omega) (by omega), Int.toNat_of_nonneg hz.1]
  show W _ _ _ _ _ _ _ _ _ _ _ _ _ _ _ (F0 _ _ _ (.int (iI (f ((iI z).toNatClampNeg : Int))) :: st))
  rw [e]
  exact kk H locs ls hP hS hl
theorem j_iast (hC : Cx mc g cc own nL ret) {a m0 : Nat} {f : Int → Int} {z x : Int} {τ : Sg} (q0 : Nat) (he : (hw g σ)[q0]? = some (a, ri g f m0)) (hs : (hw g σ).set q0 (a, ri g (fun j => if j = z then x else f j) m0) = hw g τ) (hz : 0 ≤ z ∧ z < m0 ∧ m0 ≤ 2147483647) (hd : decode cc pc = .ok (.iastore, 1)) (kk : J mc g k n Q (pc + 1) lv st τ) : J mc g k n Q pc lv (vI x :: vI z :: .ref a :: st) σ := by
  intro H locs ls hP hS hl
  refine va_iast hC.1 hC.2.1 hC.2.2.2.2.2.2.1 hP (hC.2.2.2.2.2.2.2.2.2.1 σ) hS q0 0 he rfl (iI_in hz.1 hz.2.1 hz.2.2) hd (fun H1 locs1 hP1 _ hS1 => ?_)
  rw [iI_up hz.1 (by omega)] at hP1
  exact kk H1 locs1 ls (hs ▸ hP1) hS1 hl
theorem j_aald (hC : Cx mc g cc own nL ret) {z : Int} (hz : 0 ≤ z ∧ z < 4) (hd : decode cc pc = .ok (.aaload, 1)) (kk : J mc g k n Q (pc + 1) lv (.ref (gd g (4 + z.toNat)) :: st) σ) : J mc g k n Q pc lv (vI z :: .ref (gd g 3) :: st) σ := by
  intro H locs ls hP hS hl
  refine va_aldq hC.1 hC.2.1 hC.2.2.2.2.2.2.1 hP 3 2 rfl rfl (iI_in hz.1 hz.2 (by decide)) hd ?_
  have := kk H locs ls hP hS hl
  rw [iI_clamp (by omega) (by omega)]
  exact this
theorem j_lald0 (hC : Cx mc g cc own nL ret) (hd : decode cc pc = .ok (.laload, 1)) (kk : J mc g k n Q (pc + 1) lv (.long (jI (σ.1 9)) :: st) σ) : J mc g k n Q pc lv (vI 0 :: .ref (gd g 27) :: st) σ := by
  intro H locs ls hP hS hl
  exact va_lald hC.1 hC.2.1 hC.2.2.2.2.2.2.1 hP 27 1 rfl rfl (iI_in (by decide) (by decide) (by decide)) hd (kk H locs ls hP hS hl)
theorem j_last0 (hC : Cx mc g cc own nL ret) {x : Int} (hd : decode cc pc = .ok (.lastore, 1)) (kk : J mc g k n Q (pc + 1) lv st (sF σ 9 x)) : J mc g k n Q pc lv (.long (jI x) :: vI 0 :: .ref (gd g 27) :: st) σ := by
  intro H locs ls hP hS hl
  refine va_last hC.1 hC.2.1 hC.2.2.2.2.2.2.1 hP (hC.2.2.2.2.2.2.2.2.2.1 σ) hS 27 1 rfl rfl (iI_in (by decide) (by decide) (by decide)) hd (fun H1 locs1 hP1 _ hS1 => kk H1 locs1 ls ?_ hS1 hl)
  have e : vp_updL (fun j : Nat => jI (if j = 0 then σ.1 9 else 0)) (iI 0).toNatClampNeg (jI x) = fun j : Nat => jI (if j = 0 then x else 0) := by
    funext j
    have h0 : (iI 0).toNatClampNeg = 0 := by decide
    rw [h0]
    by_cases h : j = 0 <;> simp [vp_updL, h]
  rw [e] at hP1
  exact hP1
/-! calls -/
theorem j_run (hC : Cx mc g cc own nL ret) {st0 rest : List Value} {a : Array Value} {post : Option Value → Sg → Prop} {k2 n2 : Nat}
    (hr : ∀ (H : Heap) (locs : List Loc) (ls : Array Slot), va_P (gD g) vwCl (hw g σ) H → va_S (gA g) (mS mc).heap H locs → lv_has ls (mC mc).maxLocals lv → va_Run (mP mc) (mL mc) (mE mc) (mR mc) (mS mc) (mM mc) (mA mc) (mB mc) (mH mc) (mC mc) H locs k n k2 n2 (F0 (mM mc) pc ls st0) rest (QJ g post a) (gA g))
    (kk : ∀ v τ, post v τ → J mc g (k + k2) (n + n2) Q (pc + 3) lv (v.toList ++ rest) τ) : J mc g k n Q pc lv st0 σ := by
  intro H locs ls hP hS hl T hT X
  obtain ⟨v, st₀, t, T', L, h0, X', hL, e1, e2, ⟨⟨v', τ, hv, hp, hB⟩, hF⟩, stp⟩ := hr H locs ls hP hS hl T hT X
  cases hv
  have hB1 : va_P (gD g) vwCl (hw g τ) T'.heap := by rw [e1]; exact hB
  have hS1 := (vx_keep h0 e1 hS (fun q _ h => h) (fun q h => h) hL hF).2.2
  obtain ⟨t2, a1, b1⟩ := kk v τ hp T'.heap (locs ++ L) ls hB1 hS1 hl T' rfl X'
  exact ⟨t2, stp t2 a1, b1⟩
theorem j_runX (hC : Cx mc g cc own nL ret) {st0 rest : List Value} {a : Array Value} {post : Option Value → Sg → Prop} {px : String → Sg → Prop} {k2 n2 : Nat}
    (hr : ∀ (H : Heap) (locs : List Loc) (ls : Array Slot), va_P (gD g) vwCl (hw g σ) H → va_S (gA g) (mS mc).heap H locs → lv_has ls (mC mc).maxLocals lv → vx_Run (mP mc) (mL mc) (mE mc) (mR mc) (mS mc) (mM mc) (mA mc) (mB mc) (mH mc) (mC mc) H locs k n k2 n2 (F0 (mM mc) pc ls st0) rest (QJ g post a) (XJ g px) (gA g))
    (kx : ∀ (E : String) (ce : Cell) (q : Addr) (τ : Sg) (H1 : Heap) (locs1 : List Loc) (ls : Array Slot), px E τ → va_P (gD g) vwCl (hw g τ) H1 → va_S (gA g) (mS mc).heap H1 locs1 → lv_has ls (mC mc).maxLocals lv → H1[q]? = some ce → ce.vm = .none → (mS mc).vm.findClass E = some ce.cls → vx_W (mP mc) (mL mc) (mE mc) (mR mc) (mS mc) (mM mc) (mA mc) (mB mc) (mH mc) (mC mc) H1 locs1 (k + k2) (n + n2) Q (F0 (mM mc) pc ls rest) q)
    (kk : ∀ v τ, post v τ → J mc g (k + k2) (n + n2) Q (pc + 3) lv (v.toList ++ rest) τ) : J mc g k n Q pc lv st0 σ := by
  intro H locs ls hP hS hl T hT X
  rcases hr H locs ls hP hS hl T hT X with ⟨v, st₀, t, T', L, h0, X', hL, e1, e2, ⟨⟨v', τ, hv, hp, hB⟩, hF⟩, stp⟩ | ⟨q, st₀, t, T', L, E, ce, h0, X', hL, e1, e2, ⟨⟨τ, hp, hB⟩, hF⟩, hce, hcv, hcl, stp⟩
  · cases hv
    have hB1 : va_P (gD g) vwCl (hw g τ) T'.heap := by rw [e1]; exact hB
    have hS1 := (vx_keep h0 e1 hS (fun q _ h => h) (fun q h => h) hL hF).2.2
    obtain ⟨t2, a1, b1⟩ := kk v τ hp T'.heap (locs ++ L) ls hB1 hS1 hl T' rfl X'
    exact ⟨t2, stp t2 a1, b1⟩
  · have hB1 : va_P (gD g) vwCl (hw g τ) T'.heap := by rw [e1]; exact hB
    have hS1 := (vx_keep h0 e1 hS (fun q _ h => h) (fun q h => h) hL hF).2.2
    obtain ⟨t2, a1, b1⟩ := kx E ce q τ T'.heap (locs ++ L) ls hp hB1 hS1 hl (by rw [e1]; exact hce) hcv hcl T' rfl X'
    exact ⟨t2, stp.trans a1, b1⟩
abbrev okC (C : String) : Prop := C ≠ "java/lang/invoke/MethodHandle" ∧ C ≠ "java/lang/invoke/VarHandle"
theorem cbJ (hC : Cx mc g cc own nL ret) {fr lo K N : Nat} (hR : mR mc = rmJ fr lo K N) {y : MethodName} {b2 : ByteArray} {nL2 fr2 lo2 k2 n2 ar index : Nat} {r2 : Option FieldType} (hmh : okC y.cls) (hpar : (parseMethodDescriptor y.desc).map (fun d => d.parameters.length) = some ar) (hlink : Cond.methodLink own index y ∈ wsA) (hini : Cond.initialized y.cls ∈ wsA) (hcode : Cond.code y b2 nL2 r2 ∈ wsA) (hroom : fr2 + 1 ≤ fr ∧ 8 + (nL2 + 11) + lo2 ≤ lo) :
    CallB (mR mc) (mS mc) (mA mc) own index y b2 nL2 r2 (.code y b2 nL2 r2 :: wsA) (rmJ fr2 lo2 k2 n2) k2 n2 ar :=
  callB_of ar hC.2.2.2.2.1 (goodA (fun w h => (List.mem_cons.mp h).elim (fun e => e ▸ hcode) id)) rfl rfl rfl (hC.2.2.2.2.1 _ hini) (hC.2.2.2.2.1 _ hlink) ⟨hmh.1, hmh.2, hpar⟩ (by rw [hR]; exact hroom)
theorem cnJ (hC : Cx mc g cc own nL ret) {fr lo K N : Nat} (hR : mR mc = rmJ fr lo K N) {y : MethodName} {host : String} {b2 : ByteArray} {nL2 fr2 lo2 k2 n2 ar index : Nat} {r2 : Option FieldType} (hmh : okC y.cls) (hpar : (parseMethodDescriptor y.desc).map (fun d => d.parameters.length) = some ar) (hlink : Cond.methodLinkNest own index y host ∈ nwA) (hini : Cond.initialized y.cls ∈ wsA) (hcode : Cond.code y b2 nL2 r2 ∈ wsA) (hroom : fr2 + 1 ≤ fr ∧ 8 + (nL2 + 11) + lo2 ≤ lo) :
    va_CN (mR mc) (mS mc) (mA mc) own index y host b2 nL2 r2 (.code y b2 nL2 r2 :: wsA) (rmJ fr2 lo2 k2 n2) k2 n2 ar :=
  va_cnB ar hC.2.2.2.2.1 (goodA (fun w h => (List.mem_cons.mp h).elim (fun e => e ▸ hcode) id)) rfl rfl rfl (hC.2.2.2.2.2.2.2.1 _ hlink) (hC.2.2.2.2.1 _ hini) ⟨hmh.1, hmh.2, hpar⟩ (by rw [hR]; exact hroom)
theorem fixJ (hC : Cx mc g cc own nL ret) : CallFix (mP mc) (mM mc) (mC mc) cc nL (mS mc) (mA mc) wsA own := ⟨hC.1, hC.2.1, hC.2.2.1, hC.2.2.2.1, hC.2.2.2.2.1⟩
theorem szJ (hC : Cx mc g cc own nL ret) {ls : Array Slot} (hl : lv_has ls (mC mc).maxLocals lv) : ls.size = nL := hl.1.trans hC.2.2.1
/-- a call of an instance method of the own class, or a public one -/
theorem j_callV (hC : Cx mc g cc own nL ret) {fr lo K N : Nat} (hR : mR mc = rmJ fr lo K N) {y : MethodName} {b2 : ByteArray} {nL2 fr2 lo2 k2 n2 ar index b ci : Nat} {r2 : Option FieldType} {As st0 : List Value} {post : Option Value → Sg → Prop} {fs : List Value} {cx : vw_C}
    (hM : CN (mL mc) y b2 nL2 r2 fr2 lo2 k2 n2 g (.ref b :: As) σ post) (rest : List Value) (hst : st0 = As.reverse ++ .ref b :: rest) (q0 : Nat) (he : (hw g σ)[q0]? = some (b, .inr (ci, fs))) (hcl : vwCl[ci]? = some cx) (hy : y.cls = cx.1) (hmh : okC y.cls) (hpar : (parseMethodDescriptor y.desc).map (fun d => d.parameters.length) = some ar) (har : As.length = ar)
    (hlink : Cond.methodLink own index y ∈ wsA) (hinst : Cond.instanceMethod y ∈ wsA) (hsel : Cond.selects y.cls y y ∈ wsA) (hini : Cond.initialized y.cls ∈ wsA) (hcode : Cond.code y b2 nL2 r2 ∈ wsA) (hroom : (fr2 + 1 ≤ fr ∧ 8 + (nL2 + 11) + lo2 ≤ lo) ∧ k + k2 ≤ K ∧ n + n2 ≤ N) (hsum : (rest.map fun v => v.category).sum ≤ 8) (hd : decode cc pc = .ok (.invokevirtual index, 3))
    (kk : ∀ v τ, post v τ → J mc g (k + k2) (n + n2) Q (pc + 3) lv (v.toList ++ rest) τ) : J mc g k n Q pc lv st0 σ := by
  subst hst
  refine j_run hC (fun H locs ls hP hS hl => va_runV (C := y.cls) (fixJ hC) hM ⟨cbJ hC hR hmh hpar hlink hini hcode hroom.1, hC.2.2.2.2.1 _ hinst, hC.2.2.2.2.1 _ hsel⟩ ⟨WB_blind _, ?_, fun U hU hW => ⟨rfl, WB_mk hC hP hS hU hW⟩⟩ rfl har (szJ hC hl) rfl (lv_room hsum) hd (by rw [hR]; exact hroom.2)) kk
  have h := va_recv hC.2.2.2.2.2.2.1 hP hcl he
  rw [hy]
  exact h
/-- .. of a nest mate's private one -/
theorem j_callVN (hC : Cx mc g cc own nL ret) {fr lo K N : Nat} (hR : mR mc = rmJ fr lo K N) {y : MethodName} {host : String} {b2 : ByteArray} {nL2 fr2 lo2 k2 n2 ar index b ci : Nat} {r2 : Option FieldType} {As st0 : List Value} {post : Option Value → Sg → Prop} {fs : List Value} {cx : vw_C}
    (hM : CN (mL mc) y b2 nL2 r2 fr2 lo2 k2 n2 g (.ref b :: As) σ post) (rest : List Value) (hst : st0 = As.reverse ++ .ref b :: rest) (q0 : Nat) (he : (hw g σ)[q0]? = some (b, .inr (ci, fs))) (hcl : vwCl[ci]? = some cx) (hy : y.cls = cx.1) (hmh : okC y.cls) (hpar : (parseMethodDescriptor y.desc).map (fun d => d.parameters.length) = some ar) (har : As.length = ar)
    (hlink : Cond.methodLinkNest own index y host ∈ nwA) (hinst : Cond.instanceMethod y ∈ wsA) (hsel : Cond.selects y.cls y y ∈ wsA) (hini : Cond.initialized y.cls ∈ wsA) (hcode : Cond.code y b2 nL2 r2 ∈ wsA) (hroom : (fr2 + 1 ≤ fr ∧ 8 + (nL2 + 11) + lo2 ≤ lo) ∧ k + k2 ≤ K ∧ n + n2 ≤ N) (hsum : (rest.map fun v => v.category).sum ≤ 8) (hd : decode cc pc = .ok (.invokevirtual index, 3))
    (kk : ∀ v τ, post v τ → J mc g (k + k2) (n + n2) Q (pc + 3) lv (v.toList ++ rest) τ) : J mc g k n Q pc lv st0 σ := by
  subst hst
  refine j_run hC (fun H locs ls hP hS hl => va_runVN (C := y.cls) (fixJ hC) hM ⟨cnJ hC hR hmh hpar hlink hini hcode hroom.1, hC.2.2.2.2.1 _ hinst, hC.2.2.2.2.1 _ hsel⟩ ⟨WB_blind _, ?_, fun U hU hW => ⟨rfl, WB_mk hC hP hS hU hW⟩⟩ rfl har (szJ hC hl) rfl (lv_room hsum) hd (by rw [hR]; exact hroom.2)) kk
  have h := va_recv hC.2.2.2.2.2.2.1 hP hcl he
  rw [hy]
  exact h
theorem j_callS (hC : Cx mc g cc own nL ret) {fr lo K N : Nat} (hR : mR mc = rmJ fr lo K N) {y : MethodName} {b2 : ByteArray} {nL2 fr2 lo2 k2 n2 ar index : Nat} {r2 : Option FieldType} {As st0 : List Value} {post : Option Value → Sg → Prop}
    (hM : CN (mL mc) y b2 nL2 r2 fr2 lo2 k2 n2 g As σ post) (rest : List Value) (hst : st0 = As.reverse ++ rest) (hmh : okC y.cls) (hpar : (parseMethodDescriptor y.desc).map (fun d => d.parameters.length) = some ar) (har : As.length = ar)
    (hlink : Cond.methodLink own index y ∈ wsA) (hstat : Cond.static y ∈ wsA) (hini : Cond.initialized y.cls ∈ wsA) (hcode : Cond.code y b2 nL2 r2 ∈ wsA) (hroom : (fr2 + 1 ≤ fr ∧ 8 + (nL2 + 11) + lo2 ≤ lo) ∧ k + k2 ≤ K ∧ n + n2 ≤ N) (hsum : (rest.map fun v => v.category).sum ≤ 8) (hd : decode cc pc = .ok (.invokestatic index, 3))
    (kk : ∀ v τ, post v τ → J mc g (k + k2) (n + n2) Q (pc + 3) lv (v.toList ++ rest) τ) : J mc g k n Q pc lv st0 σ := by
  subst hst
  exact j_run hC (fun H locs ls hP hS hl => va_runS (fixJ hC) hM ⟨cbJ hC hR hmh hpar hlink hini hcode hroom.1, hC.2.2.2.2.1 _ hstat⟩ ⟨WB_blind _, fun U hU hW => ⟨rfl, WB_mk hC hP hS hU hW⟩⟩ rfl har (szJ hC hl) rfl (lv_room hsum) hd (by rw [hR]; exact hroom.2)) kk
theorem j_callSN (hC : Cx mc g cc own nL ret) {fr lo K N : Nat} (hR : mR mc = rmJ fr lo K N) {y : MethodName} {host : String} {b2 : ByteArray} {nL2 fr2 lo2 k2 n2 ar index : Nat} {r2 : Option FieldType} {As st0 : List Value} {post : Option Value → Sg → Prop}
    (hM : CN (mL mc) y b2 nL2 r2 fr2 lo2 k2 n2 g As σ post) (rest : List Value) (hst : st0 = As.reverse ++ rest) (hmh : okC y.cls) (hpar : (parseMethodDescriptor y.desc).map (fun d => d.parameters.length) = some ar) (har : As.length = ar)
    (hlink : Cond.methodLinkNest own index y host ∈ nwA) (hstat : Cond.static y ∈ wsA) (hini : Cond.initialized y.cls ∈ wsA) (hcode : Cond.code y b2 nL2 r2 ∈ wsA) (hroom : (fr2 + 1 ≤ fr ∧ 8 + (nL2 + 11) + lo2 ≤ lo) ∧ k + k2 ≤ K ∧ n + n2 ≤ N) (hsum : (rest.map fun v => v.category).sum ≤ 8) (hd : decode cc pc = .ok (.invokestatic index, 3))
    (kk : ∀ v τ, post v τ → J mc g (k + k2) (n + n2) Q (pc + 3) lv (v.toList ++ rest) τ) : J mc g k n Q pc lv st0 σ := by
  subst hst
  exact j_run hC (fun H locs ls hP hS hl => va_runSN (fixJ hC) hM ⟨cnJ hC hR hmh hpar hlink hini hcode hroom.1, hC.2.2.2.2.1 _ hstat, trivial⟩ ⟨WB_blind _, fun U hU hW => ⟨rfl, WB_mk hC hP hS hU hW⟩⟩ rfl har (szJ hC hl) rfl (lv_room hsum) hd (by rw [hR]; exact hroom.2)) kk
/-! calls that may throw: what is thrown goes on to the caller -/
theorem x_out (hC : Cx mc g cc own nL ret) {post2 : Option Value → Sg → Prop} {px2 : String → Sg → Prop} {K N : Nat} (hE : ∀ x ∈ (mC mc).exceptionTable.toList, False) {E : String} {ce : Cell} {q : Addr} {τ : Sg} {H1 : Heap} {locs1 : List Loc} {ls : Array Slot} (hp : px2 E τ) (hP : va_P (gD g) vwCl (hw g τ) H1) (hS : va_S (gA g) (mS mc).heap H1 locs1) (hce : H1[q]? = some ce) (hcv : ce.vm = .none) (hcl : (mS mc).vm.findClass E = some ce.cls) (hk : k ≤ K ∧ n ≤ N) :
    vx_W (mP mc) (mL mc) (mE mc) (mR mc) (mS mc) (mM mc) (mA mc) (mB mc) (mH mc) (mC mc) H1 locs1 k n (QX mc g post2 px2 K N) (F0 (mM mc) pc ls st) q :=
  vx_out (fun x hx => (hE x hx).elim) hC.2.2.2.2.2.1 hce hcv hcl (fun t ht _ => ⟨⟨τ, hp, by rw [ht]; exact hP⟩, hS.F ht⟩) hS.2.2 hk.1 hk.2
end JH
end
section
/-- the answer r and the world τ are told -/
abbrev pt (r : Option Value) (τ : Sg) : Option Value → Sg → Prop := fun v τ2 => v = r ∧ τ2 = τ
/-- it throws E, and the world stays -/
abbrev pxE (E : String) (τ : Sg) : String → Sg → Prop := fun E2 τ2 => E2 = E ∧ τ2 = τ
abbrev pF : Option Value → Sg → Prop := fun _ _ => False
section JK
variable {mc : MC} {g : GG} {k n : Nat} {Q : State → Prop} {pc : Nat} {lv : List (Nat × Value)} {st : List Value} {σ : Sg} {cc : ByteArray} {own : String} {nL : Nat} {ret : Option FieldType}
theorem j_callV1 (hC : Cx mc g cc own nL ret) {fr lo K N : Nat} (hR : mR mc = rmJ fr lo K N) {y : MethodName} {b2 : ByteArray} {nL2 fr2 lo2 k2 n2 ar index b ci : Nat} {r2 : Option FieldType} {As st0 : List Value} {v : Value} {τ : Sg} {fs : List Value} {cx : vw_C}
    (hM : CN (mL mc) y b2 nL2 r2 fr2 lo2 k2 n2 g (.ref b :: As) σ (pt (some v) τ)) (rest : List Value) (hst : st0 = As.reverse ++ .ref b :: rest) (q0 : Nat) (he : (hw g σ)[q0]? = some (b, .inr (ci, fs))) (hcl : vwCl[ci]? = some cx) (hy : y.cls = cx.1) (hmh : okC y.cls) (hpar : (parseMethodDescriptor y.desc).map (fun d => d.parameters.length) = some ar) (har : As.length = ar)
    (hlink : Cond.methodLink own index y ∈ wsA) (hinst : Cond.instanceMethod y ∈ wsA) (hsel : Cond.selects y.cls y y ∈ wsA) (hini : Cond.initialized y.cls ∈ wsA) (hcode : Cond.code y b2 nL2 r2 ∈ wsA) (hroom : (fr2 + 1 ≤ fr ∧ 8 + (nL2 + 11) + lo2 ≤ lo) ∧ k + k2 ≤ K ∧ n + n2 ≤ N) (hsum : (rest.map fun v => v.category).sum ≤ 8) (hd : decode cc pc = .ok (.invokevirtual index, 3))
    (kk : J mc g (k + k2) (n + n2) Q (pc + 3) lv (v :: rest) τ) : J mc g k n Q pc lv st0 σ :=
  j_callV hC hR hM rest hst q0 he hcl hy hmh hpar har hlink hinst hsel hini hcode hroom hsum hd (by rintro _ _ ⟨rfl, rfl⟩; exact kk)
theorem j_callV0 (hC : Cx mc g cc own nL ret) {fr lo K N : Nat} (hR : mR mc = rmJ fr lo K N) {y : MethodName} {b2 : ByteArray} {nL2 fr2 lo2 k2 n2 ar index b ci : Nat} {r2 : Option FieldType} {As st0 : List Value} {τ : Sg} {fs : List Value} {cx : vw_C}
    (hM : CN (mL mc) y b2 nL2 r2 fr2 lo2 k2 n2 g (.ref b :: As) σ (pt none τ)) (rest : List Value) (hst : st0 = As.reverse ++ .ref b :: rest) (q0 : Nat) (he : (hw g σ)[q0]? = some (b, .inr (ci, fs))) (hcl : vwCl[ci]? = some cx) (hy : y.cls = cx.1) (hmh : okC y.cls) (hpar : (parseMethodDescriptor y.desc).map (fun d => d.parameters.length) = some ar) (har : As.length = ar)
    (hlink : Cond.methodLink own index y ∈ wsA) (hinst : Cond.instanceMethod y ∈ wsA) (hsel : Cond.selects y.cls y y ∈ wsA) (hini : Cond.initialized y.cls ∈ wsA) (hcode : Cond.code y b2 nL2 r2 ∈ wsA) (hroom : (fr2 + 1 ≤ fr ∧ 8 + (nL2 + 11) + lo2 ≤ lo) ∧ k + k2 ≤ K ∧ n + n2 ≤ N) (hsum : (rest.map fun v => v.category).sum ≤ 8) (hd : decode cc pc = .ok (.invokevirtual index, 3))
    (kk : J mc g (k + k2) (n + n2) Q (pc + 3) lv rest τ) : J mc g k n Q pc lv st0 σ :=
  j_callV hC hR hM rest hst q0 he hcl hy hmh hpar har hlink hinst hsel hini hcode hroom hsum hd (by rintro _ _ ⟨rfl, rfl⟩; exact kk)
theorem j_callVN1 (hC : Cx mc g cc own nL ret) {fr lo K N : Nat} (hR : mR mc = rmJ fr lo K N) {y : MethodName} {host : String} {b2 : ByteArray} {nL2 fr2 lo2 k2 n2 ar index b ci : Nat} {r2 : Option FieldType} {As st0 : List Value} {v : Value} {τ : Sg} {fs : List Value} {cx : vw_C}
    (hM : CN (mL mc) y b2 nL2 r2 fr2 lo2 k2 n2 g (.ref b :: As) σ (pt (some v) τ)) (rest : List Value) (hst : st0 = As.reverse ++ .ref b :: rest) (q0 : Nat) (he : (hw g σ)[q0]? = some (b, .inr (ci, fs))) (hcl : vwCl[ci]? = some cx) (hy : y.cls = cx.1) (hmh : okC y.cls) (hpar : (parseMethodDescriptor y.desc).map (fun d => d.parameters.length) = some ar) (har : As.length = ar)
    (hlink : Cond.methodLinkNest own index y host ∈ nwA) (hinst : Cond.instanceMethod y ∈ wsA) (hsel : Cond.selects y.cls y y ∈ wsA) (hini : Cond.initialized y.cls ∈ wsA) (hcode : Cond.code y b2 nL2 r2 ∈ wsA) (hroom : (fr2 + 1 ≤ fr ∧ 8 + (nL2 + 11) + lo2 ≤ lo) ∧ k + k2 ≤ K ∧ n + n2 ≤ N) (hsum : (rest.map fun v => v.category).sum ≤ 8) (hd : decode cc pc = .ok (.invokevirtual index, 3))
    (kk : J mc g (k + k2) (n + n2) Q (pc + 3) lv (v :: rest) τ) : J mc g k n Q pc lv st0 σ :=
  j_callVN hC hR hM rest hst q0 he hcl hy hmh hpar har hlink hinst hsel hini hcode hroom hsum hd (by rintro _ _ ⟨rfl, rfl⟩; exact kk)
theorem j_callVN0 (hC : Cx mc g cc own nL ret) {fr lo K N : Nat} (hR : mR mc = rmJ fr lo K N) {y : MethodName} {host : String} {b2 : ByteArray} {nL2 fr2 lo2 k2 n2 ar index b ci : Nat} {r2 : Option FieldType} {As st0 : List Value} {τ : Sg} {fs : List Value} {cx : vw_C}
    (hM : CN (mL mc) y b2 nL2 r2 fr2 lo2 k2 n2 g (.ref b :: As) σ (pt none τ)) (rest : List Value) (hst : st0 = As.reverse ++ .ref b :: rest) (q0 : Nat) (he : (hw g σ)[q0]? = some (b, .inr (ci, fs))) (hcl : vwCl[ci]? = some cx) (hy : y.cls = cx.1) (hmh : okC y.cls) (hpar : (parseMethodDescriptor y.desc).map (fun d => d.parameters.length) = some ar) (har : As.length = ar)
    (hlink : Cond.methodLinkNest own index y host ∈ nwA) (hinst : Cond.instanceMethod y ∈ wsA) (hsel : Cond.selects y.cls y y ∈ wsA) (hini : Cond.initialized y.cls ∈ wsA) (hcode : Cond.code y b2 nL2 r2 ∈ wsA) (hroom : (fr2 + 1 ≤ fr ∧ 8 + (nL2 + 11) + lo2 ≤ lo) ∧ k + k2 ≤ K ∧ n + n2 ≤ N) (hsum : (rest.map fun v => v.category).sum ≤ 8) (hd : decode cc pc = .ok (.invokevirtual index, 3))
    (kk : J mc g (k + k2) (n + n2) Q (pc + 3) lv rest τ) : J mc g k n Q pc lv st0 σ :=
  j_callVN hC hR hM rest hst q0 he hcl hy hmh hpar har hlink hinst hsel hini hcode hroom hsum hd (by rintro _ _ ⟨rfl, rfl⟩; exact kk)
theorem j_callS1 (hC : Cx mc g cc own nL ret) {fr lo K N : Nat} (hR : mR mc = rmJ fr lo K N) {y : MethodName} {b2 : ByteArray} {nL2 fr2 lo2 k2 n2 ar index : Nat} {r2 : Option FieldType} {As st0 : List Value} {v : Value} {τ : Sg}
    (hM : CN (mL mc) y b2 nL2 r2 fr2 lo2 k2 n2 g As σ (pt (some v) τ)) (rest : List Value) (hst : st0 = As.reverse ++ rest) (hmh : okC y.cls) (hpar : (parseMethodDescriptor y.desc).map (fun d => d.parameters.length) = some ar) (har : As.length = ar)
    (hlink : Cond.methodLink own index y ∈ wsA) (hstat : Cond.static y ∈ wsA) (hini : Cond.initialized y.cls ∈ wsA) (hcode : Cond.code y b2 nL2 r2 ∈ wsA) (hroom : (fr2 + 1 ≤ fr ∧ 8 + (nL2 + 11) + lo2 ≤ lo) ∧ k + k2 ≤ K ∧ n + n2 ≤ N) (hsum : (rest.map fun v => v.category).sum ≤ 8) (hd : decode cc pc = .ok (.invokestatic index, 3))
    (kk : J mc g (k + k2) (n + n2) Q (pc + 3) lv (v :: rest) τ) : J mc g k n Q pc lv st0 σ :=
  j_callS hC hR hM rest hst hmh hpar har hlink hstat hini hcode hroom hsum hd (by rintro _ _ ⟨rfl, rfl⟩; exact kk)
theorem j_callS0 (hC : Cx mc g cc own nL ret) {fr lo K N : Nat} (hR : mR mc = rmJ fr lo K N) {y : MethodName} {b2 : ByteArray} {nL2 fr2 lo2 k2 n2 ar index : Nat} {r2 : Option FieldType} {As st0 : List Value} {τ : Sg}
    (hM : CN (mL mc) y b2 nL2 r2 fr2 lo2 k2 n2 g As σ (pt none τ)) (rest : List Value) (hst : st0 = As.reverse ++ rest) (hmh : okC y.cls) (hpar : (parseMethodDescriptor y.desc).map (fun d => d.parameters.length) = some ar) (har : As.length = ar)
    (hlink : Cond.methodLink own index y ∈ wsA) (hstat : Cond.static y ∈ wsA) (hini : Cond.initialized y.cls ∈ wsA) (hcode : Cond.code y b2 nL2 r2 ∈ wsA) (hroom : (fr2 + 1 ≤ fr ∧ 8 + (nL2 + 11) + lo2 ≤ lo) ∧ k + k2 ≤ K ∧ n + n2 ≤ N) (hsum : (rest.map fun v => v.category).sum ≤ 8) (hd : decode cc pc = .ok (.invokestatic index, 3))
    (kk : J mc g (k + k2) (n + n2) Q (pc + 3) lv rest τ) : J mc g k n Q pc lv st0 σ :=
  j_callS hC hR hM rest hst hmh hpar har hlink hstat hini hcode hroom hsum hd (by rintro _ _ ⟨rfl, rfl⟩; exact kk)
theorem j_callSN1 (hC : Cx mc g cc own nL ret) {fr lo K N : Nat} (hR : mR mc = rmJ fr lo K N) {y : MethodName} {host : String} {b2 : ByteArray} {nL2 fr2 lo2 k2 n2 ar index : Nat} {r2 : Option FieldType} {As st0 : List Value} {v : Value} {τ : Sg}
    (hM : CN (mL mc) y b2 nL2 r2 fr2 lo2 k2 n2 g As σ (pt (some v) τ)) (rest : List Value) (hst : st0 = As.reverse ++ rest) (hmh : okC y.cls) (hpar : (parseMethodDescriptor y.desc).map (fun d => d.parameters.length) = some ar) (har : As.length = ar)
    (hlink : Cond.methodLinkNest own index y host ∈ nwA) (hstat : Cond.static y ∈ wsA) (hini : Cond.initialized y.cls ∈ wsA) (hcode : Cond.code y b2 nL2 r2 ∈ wsA) (hroom : (fr2 + 1 ≤ fr ∧ 8 + (nL2 + 11) + lo2 ≤ lo) ∧ k + k2 ≤ K ∧ n + n2 ≤ N) (hsum : (rest.map fun v => v.category).sum ≤ 8) (hd : decode cc pc = .ok (.invokestatic index, 3))
    (kk : J mc g (k + k2) (n + n2) Q (pc + 3) lv (v :: rest) τ) : J mc g k n Q pc lv st0 σ :=
  j_callSN hC hR hM rest hst hmh hpar har hlink hstat hini hcode hroom hsum hd (by rintro _ _ ⟨rfl, rfl⟩; exact kk)
theorem j_callSN0 (hC : Cx mc g cc own nL ret) {fr lo K N : Nat} (hR : mR mc = rmJ fr lo K N) {y : MethodName} {host : String} {b2 : ByteArray} {nL2 fr2 lo2 k2 n2 ar index : Nat} {r2 : Option FieldType} {As st0 : List Value} {τ : Sg}
    (hM : CN (mL mc) y b2 nL2 r2 fr2 lo2 k2 n2 g As σ (pt none τ)) (rest : List Value) (hst : st0 = As.reverse ++ rest) (hmh : okC y.cls) (hpar : (parseMethodDescriptor y.desc).map (fun d => d.parameters.length) = some ar) (har : As.length = ar)
    (hlink : Cond.methodLinkNest own index y host ∈ nwA) (hstat : Cond.static y ∈ wsA) (hini : Cond.initialized y.cls ∈ wsA) (hcode : Cond.code y b2 nL2 r2 ∈ wsA) (hroom : (fr2 + 1 ≤ fr ∧ 8 + (nL2 + 11) + lo2 ≤ lo) ∧ k + k2 ≤ K ∧ n + n2 ≤ N) (hsum : (rest.map fun v => v.category).sum ≤ 8) (hd : decode cc pc = .ok (.invokestatic index, 3))
    (kk : J mc g (k + k2) (n + n2) Q (pc + 3) lv rest τ) : J mc g k n Q pc lv st0 σ :=
  j_callSN hC hR hM rest hst hmh hpar har hlink hstat hini hcode hroom hsum hd (by rintro _ _ ⟨rfl, rfl⟩; exact kk)
theorem j_callVT (hC : Cx mc g cc own nL ret) {fr lo K N : Nat} (hR : mR mc = rmJ fr lo K N) {y : MethodName} {b2 : ByteArray} {nL2 fr2 lo2 k2 n2 ar index b ci : Nat} {r2 : Option FieldType} {As st0 : List Value} {post2 : Option Value → Sg → Prop} {E : String} {fs : List Value} {cx : vw_C}
    (hM : CX (mL mc) y b2 nL2 r2 fr2 lo2 k2 n2 g (.ref b :: As) σ pF (pxE E σ)) (rest : List Value) (hst : st0 = As.reverse ++ .ref b :: rest) (q0 : Nat) (he : (hw g σ)[q0]? = some (b, .inr (ci, fs))) (hcl : vwCl[ci]? = some cx) (hy : y.cls = cx.1) (hmh : okC y.cls) (hpar : (parseMethodDescriptor y.desc).map (fun d => d.parameters.length) = some ar) (har : As.length = ar)
    (hlink : Cond.methodLink own index y ∈ wsA) (hinst : Cond.instanceMethod y ∈ wsA) (hsel : Cond.selects y.cls y y ∈ wsA) (hini : Cond.initialized y.cls ∈ wsA) (hcode : Cond.code y b2 nL2 r2 ∈ wsA) (hroom : (fr2 + 1 ≤ fr ∧ 8 + (nL2 + 11) + lo2 ≤ lo) ∧ k + k2 ≤ K ∧ n + n2 ≤ N) (hsum : (rest.map fun v => v.category).sum ≤ 8) (hd : decode cc pc = .ok (.invokevirtual index, 3)) (hE : ∀ x ∈ (mC mc).exceptionTable.toList, False) : J mc g k n (QX mc g post2 (pxE E σ) K N) pc lv st0 σ := by
  subst hst
  refine j_runX hC (fun H locs ls hP hS hl => vx_runV (C := y.cls) (fixJ hC) hM ⟨cbJ hC hR hmh hpar hlink hini hcode hroom.1, hC.2.2.2.2.1 _ hinst, hC.2.2.2.2.1 _ hsel⟩ ⟨WB_blind _, ?_, fun U hU hW => ⟨rfl, WB_mk hC hP hS hU hW⟩⟩ rfl har (szJ hC hl) rfl (lv_room hsum) hd (by rw [hR]; exact hroom.2)) (fun E2 ce q τ H1 locs1 ls hp hP hS _ hce hcv hcl => by obtain ⟨rfl, rfl⟩ := hp; exact x_out hC hE ⟨rfl, rfl⟩ hP hS hce hcv hcl hroom.2) (fun _ _ h => h.elim)
  have h := va_recv hC.2.2.2.2.2.2.1 hP hcl he
  rw [hy]
  exact h
theorem j_callST (hC : Cx mc g cc own nL ret) {fr lo K N : Nat} (hR : mR mc = rmJ fr lo K N) {y : MethodName} {b2 : ByteArray} {nL2 fr2 lo2 k2 n2 ar index : Nat} {r2 : Option FieldType} {As st0 : List Value} {post2 : Option Value → Sg → Prop} {E : String}
    (hM : CX (mL mc) y b2 nL2 r2 fr2 lo2 k2 n2 g As σ pF (pxE E σ)) (rest : List Value) (hst : st0 = As.reverse ++ rest) (hmh : okC y.cls) (hpar : (parseMethodDescriptor y.desc).map (fun d => d.parameters.length) = some ar) (har : As.length = ar)
    (hlink : Cond.methodLink own index y ∈ wsA) (hstat : Cond.static y ∈ wsA) (hini : Cond.initialized y.cls ∈ wsA) (hcode : Cond.code y b2 nL2 r2 ∈ wsA) (hroom : (fr2 + 1 ≤ fr ∧ 8 + (nL2 + 11) + lo2 ≤ lo) ∧ k + k2 ≤ K ∧ n + n2 ≤ N) (hsum : (rest.map fun v => v.category).sum ≤ 8) (hd : decode cc pc = .ok (.invokestatic index, 3)) (hE : ∀ x ∈ (mC mc).exceptionTable.toList, False) : J mc g k n (QX mc g post2 (pxE E σ) K N) pc lv st0 σ := by
  subst hst
  exact j_runX hC (fun H locs ls hP hS hl => vx_runS (fixJ hC) hM ⟨cbJ hC hR hmh hpar hlink hini hcode hroom.1, hC.2.2.2.2.1 _ hstat⟩ ⟨WB_blind _, fun U hU hW => ⟨rfl, WB_mk hC hP hS hU hW⟩⟩ rfl har (szJ hC hl) rfl (lv_room hsum) hd (by rw [hR]; exact hroom.2)) (fun E2 ce q τ H1 locs1 ls hp hP hS _ hce hcv hcl => by obtain ⟨rfl, rfl⟩ := hp; exact x_out hC hE ⟨rfl, rfl⟩ hP hS hce hcv hcl hroom.2) (fun _ _ h => h.elim)
theorem cMabs : Cond.code Lib.Math.abs.name Lib.Math.abs.code 1 (some .int) ∈ wsA := wA_of 146 (by decide +kernel) (by decide +kernel)
theorem cMmin : Cond.code Lib.Math.min.name Lib.Math.min.code 2 (some .int) ∈ wsA := wA_of 157 (by decide +kernel) (by decide +kernel)
theorem cMmax : Cond.code Lib.Math.max.name Lib.Math.max.code 2 (some .int) ∈ wsA := wA_of 676 (by decide +kernel) (by decide +kernel)
theorem j_abs {a : Int} (hC : Cx mc g cc own nL ret) {fr lo K N index : Nat} (hR : mR mc = rmJ fr lo K N) (hlink : Cond.methodLink own index Lib.Math.abs.name ∈ wsA) (hroom : 1 ≤ fr ∧ (st.map fun v => v.category).sum + 13 ≤ lo) (hk : k ≤ K ∧ n ≤ N) (hr : -2147483648 < a ∧ a < 2147483648) (hd : decode cc pc = .ok (.invokestatic index, 3))
    (kk : J mc g k n Q (pc + 3) lv (vI (if 0 ≤ a then a else -a) :: st) σ) : J mc g k n Q pc lv (vI a :: st) σ := by
  intro H locs ls hP hS hl
  refine va_mabs hC.1 hC.2.1 hl.1.symm hC.2.2.2.1 (hC.2.2.2.2.1 _ hlink) (hC.2.2.2.2.1 _ wd145) (hC.2.2.2.2.1 _ wd12) (hC.2.2.2.2.1 _ cMabs) (by rw [hR]; exact hroom.1) (by rw [hR]; exact hroom.2) (by rw [hR]; exact hk.1) (by rw [hR]; exact hk.2) hd ?_
  have e : (if 0 ≤ iI a then iI a else 0 - iI a) = iI (if 0 ≤ a then a else -a) := by
    have h9 := iI_le (a := 0) (b := a) (by omega) (by omega) (by omega) (by omega)
    rw [iI_0] at h9
    by_cases h : 0 ≤ a
    · rw [if_pos h, if_pos (h9.mpr h)]
    · rw [if_neg h, if_neg (fun q => h (h9.mp q)), ← iI_0, iI_sub]
      congr 1
      omega
  rw [e]
  exact kk H locs ls hP hS hl
theorem j_min {a b : Int} (hC : Cx mc g cc own nL ret) {fr lo K N index : Nat} (hR : mR mc = rmJ fr lo K N) (hlink : Cond.methodLink own index Lib.Math.min.name ∈ wsA) (hroom : 1 ≤ fr ∧ (st.map fun v => v.category).sum + 13 ≤ lo) (hk : k ≤ K ∧ n ≤ N) (hr : -2147483648 ≤ a ∧ a < 2147483648 ∧ -2147483648 ≤ b ∧ b < 2147483648) (hd : decode cc pc = .ok (.invokestatic index, 3))
    (kk : J mc g k n Q (pc + 3) lv (vI (if a ≤ b then a else b) :: st) σ) : J mc g k n Q pc lv (vI b :: vI a :: st) σ := by
  intro H locs ls hP hS hl
  refine va_mmin hC.1 hC.2.1 hl.1.symm hC.2.2.2.1 (hC.2.2.2.2.1 _ hlink) (hC.2.2.2.2.1 _ wd156) (hC.2.2.2.2.1 _ wd12) (hC.2.2.2.2.1 _ cMmin) (by rw [hR]; exact hroom.1) (by rw [hR]; exact hroom.2) (by rw [hR]; exact hk.1) (by rw [hR]; exact hk.2) hd ?_
  have e : (if iI b < iI a then iI b else iI a) = iI (if a ≤ b then a else b) := by
    have h9 := iI_lt (a := b) (b := a) (by omega) (by omega) (by omega) (by omega)
    by_cases h : a ≤ b
    · rw [if_pos h, if_neg (fun q => by have := h9.mp q; omega)]
    · rw [if_neg h, if_pos (h9.mpr (by omega))]
  rw [e]
  exact kk H locs ls hP hS hl
theorem j_max {a b : Int} (hC : Cx mc g cc own nL ret) {fr lo K N index : Nat} (hR : mR mc = rmJ fr lo K N) (hlink : Cond.methodLink own index Lib.Math.max.name ∈ wsA) (hroom : 1 ≤ fr ∧ (st.map fun v => v.category).sum + 13 ≤ lo) (hk : k ≤ K ∧ n ≤ N) (hr : -2147483648 ≤ a ∧ a < 2147483648 ∧ -2147483648 ≤ b ∧ b < 2147483648) (hd : decode cc pc = .ok (.invokestatic index, 3))
    (kk : J mc g k n Q (pc + 3) lv (vI (if b ≤ a then a else b) :: st) σ) : J mc g k n Q pc lv (vI b :: vI a :: st) σ := by
  intro H locs ls hP hS hl
  refine va_mmax hC.1 hC.2.1 hl.1.symm hC.2.2.2.1 (hC.2.2.2.2.1 _ hlink) (hC.2.2.2.2.1 _ wd675) (hC.2.2.2.2.1 _ wd12) (hC.2.2.2.2.1 _ cMmax) (by rw [hR]; exact hroom.1) (by rw [hR]; exact hroom.2) (by rw [hR]; exact hk.1) (by rw [hR]; exact hk.2) hd ?_
  have e : (if iI a < iI b then iI b else iI a) = iI (if b ≤ a then a else b) := by
    have h9 := iI_lt (a := a) (b := b) (by omega) (by omega) (by omega) (by omega)
    by_cases h : b ≤ a
    · rw [if_pos h, if_neg (fun q => by have := h9.mp q; omega)]
    · rw [if_neg h, if_pos (h9.mpr (by omega))]
  rw [e]
  exact kk H locs ls hP hS hl
end JK
theorem inX0 : ∀ w ∈ u_ws RX0 TX0 4, w ∈ wsA := by decide +kernel
theorem inX2 : ∀ w ∈ u_ws RX2 TX2 2, w ∈ wsA := by decide +kernel
theorem inX3 : ∀ w ∈ u_ws RX3 TX3 4, w ∈ wsA := by decide +kernel
theorem inX4 : ∀ w ∈ u_ws RX4 TX4 9, w ∈ wsA := by decide +kernel
end
section
/-! what the class computes, in whole numbers -/
def ab (x : Int) : Int := if 0 ≤ x then x else -x
def stp (G : Int → Int) (a b : Int) : Int := if G a = G b then 0 else ab (a / 3 - b / 3) + ab (a % 3 - b % 3)
abbrev alk (G : Int → Int) (x y : Int) : Prop := x % 256 = y % 256 ∧ G (x / 256) = G (y / 256)
def xr (a b : Int) : Int := ((a.toNat ^^^ b.toNat : Nat) : Int)
def pop4 (r : Int) : Int := r % 2 + r / 2 % 2 + r / 4 % 2 + r / 8 % 2
def dst (G : Int → Int) (x y : Int) : Int := pop4 (xr (x % 16) (y % 16)) + (if x / 16 % 4 = y / 16 % 4 then 0 else 1) + (if x / 64 % 4 = y / 64 % 4 then 0 else 2) + stp G (x / 256) (y / 256)
def wth (L t : Int) : Int := L - 16 * (L / 16 % 4) + 16 * t
def mkL (sh th pl mv : Int) : Int := sh + 16 * th + 64 * mv + 256 * pl
theorem and_iI (k : Nat) {a m : Int} (h0 : 0 ≤ a) (h1 : a < 2147483648) (hm : (iI m).toBitVec.toNat = 2 ^ k - 1) : iI a &&& iI m = iI (a % (2 ^ k : Nat)) := by
  obtain ⟨a, rfl⟩ := Int.eq_ofNat_of_zero_le h0
  have h := pk_andN (n := a) (by omega) (m := iI m) k hm
  rw [iI_nat]
  exact h.trans (iI_nat (a % 2 ^ k)).symm
theorem shr_iI (k : Nat) {a s : Int} (h0 : 0 ≤ a) (h1 : a < 2147483648) (hs : ((iI s &&& 31).toBitVec.smod 32).toNat = k) : iI a >>> (iI s &&& 31) = iI (a / (2 ^ k : Nat)) := by
  obtain ⟨a, rfl⟩ := Int.eq_ofNat_of_zero_le h0
  have h := pk_shrN (n := a) (by omega) (iI s &&& 31) k hs
  rw [iI_nat]
  exact h.trans (iI_nat (a / 2 ^ k)).symm
theorem shl_iI (k : Nat) {a s : Int} (h0 : 0 ≤ a) (h1 : a * (2 ^ k : Nat) < 2147483648) (hs : ((iI s &&& 31).toBitVec.smod 32).toNat = k) : iI a <<< (iI s &&& 31) = iI (a * (2 ^ k : Nat)) := by
  obtain ⟨a, rfl⟩ := Int.eq_ofNat_of_zero_le h0
  have h := pk_shlN (n := a) (iI s &&& 31) k hs (by omega)
  rw [iI_nat]
  exact h.trans (iI_nat (a * 2 ^ k)).symm
theorem or16_a : ∀ x : Fin 16, ∀ y : Fin 4, Int32.ofNat x.1 ||| Int32.ofNat (y.1 * 16) = Int32.ofNat (x.1 + y.1 * 16) := by decide +kernel
theorem or64_a : ∀ x : Fin 64, ∀ y : Fin 4, Int32.ofNat x.1 ||| Int32.ofNat (y.1 * 64) = Int32.ofNat (x.1 + y.1 * 64) := by decide +kernel
theorem or256_a : ∀ x : Fin 256, ∀ y : Fin 9, Int32.ofNat x.1 ||| Int32.ofNat (y.1 * 256) = Int32.ofNat (x.1 + y.1 * 256) := by decide +kernel
theorem and49_a : ∀ x : Fin 2304, Int32.ofNat x.1 &&& iI (-49) = Int32.ofNat (x.1 - 16 * (x.1 / 16 % 4)) := by decide +kernel
theorem orT_a : ∀ x : Fin 2304, ∀ y : Fin 4, Int32.ofNat (x.1 - 16 * (x.1 / 16 % 4)) ||| Int32.ofNat (y.1 * 16) = Int32.ofNat (x.1 - 16 * (x.1 / 16 % 4) + y.1 * 16) := by decide +kernel
theorem and3841_a : ∀ x : Fin 2304, Int32.ofNat x.1 &&& iI (-3841) = Int32.ofNat (x.1 % 256) := by decide +kernel
theorem xr_a : ∀ x : Fin 16, ∀ y : Fin 16, Int32.ofNat x.1 ^^^ Int32.ofNat y.1 = Int32.ofNat (x.1 ^^^ y.1) := by decide +kernel
theorem xr_b : ∀ x : Fin 16, ∀ y : Fin 16, x.1 ^^^ y.1 < 16 := by decide +kernel
theorem or16 {a b : Int} (h : 0 ≤ a ∧ a < 16 ∧ 0 ≤ b ∧ b < 4) : iI a ||| iI (b * (2 ^ 4 : Nat)) = iI (a + 16 * b) := by
  obtain ⟨a, rfl⟩ := Int.eq_ofNat_of_zero_le h.1
  obtain ⟨b, rfl⟩ := Int.eq_ofNat_of_zero_le h.2.2.1
  have h9 := or16_a ⟨a, by omega⟩ ⟨b, by omega⟩
  have e1 : ((b : Int) * ((2 ^ 4 : Nat) : Int)) = ((b * 16 : Nat) : Int) := by omega
  have e2 : ((a : Int) + 16 * (b : Int)) = ((a + b * 16 : Nat) : Int) := by omega
  rw [e1, e2, iI_nat, iI_nat, iI_nat]
  exact h9
theorem or64 {a b : Int} (h : 0 ≤ a ∧ a < 64 ∧ 0 ≤ b ∧ b < 4) : iI a ||| iI (b * (2 ^ 6 : Nat)) = iI (a + 64 * b) := by
  obtain ⟨a, rfl⟩ := Int.eq_ofNat_of_zero_le h.1
  obtain ⟨b, rfl⟩ := Int.eq_ofNat_of_zero_le h.2.2.1
  have h9 := or64_a ⟨a, by omega⟩ ⟨b, by omega⟩
  have e1 : ((b : Int) * ((2 ^ 6 : Nat) : Int)) = ((b * 64 : Nat) : Int) := by omega
  have e2 : ((a : Int) + 64 * (b : Int)) = ((a + b * 64 : Nat) : Int) := by omega
  rw [e1, e2, iI_nat, iI_nat, iI_nat]
  exact h9
theorem or256 {a b : Int} (h : 0 ≤ a ∧ a < 256 ∧ 0 ≤ b ∧ b < 9) : iI a ||| iI (b * (2 ^ 8 : Nat)) = iI (a + 256 * b) := by
  obtain ⟨a, rfl⟩ := Int.eq_ofNat_of_zero_le h.1
  obtain ⟨b, rfl⟩ := Int.eq_ofNat_of_zero_le h.2.2.1
  have h9 := or256_a ⟨a, by omega⟩ ⟨b, by omega⟩
  have e1 : ((b : Int) * ((2 ^ 8 : Nat) : Int)) = ((b * 256 : Nat) : Int) := by omega
  have e2 : ((a : Int) + 256 * (b : Int)) = ((a + b * 256 : Nat) : Int) := by omega
  rw [e1, e2, iI_nat, iI_nat, iI_nat]
  exact h9
theorem and49 {a : Int} (h : 0 ≤ a ∧ a < 2304) : iI a &&& iI (-49) = iI (a - 16 * (a / 16 % 4)) := by
  obtain ⟨a, rfl⟩ := Int.eq_ofNat_of_zero_le h.1
  have h9 := and49_a ⟨a, by omega⟩
  have e2 : ((a : Int) - 16 * ((a : Int) / 16 % 4)) = ((a - 16 * (a / 16 % 4) : Nat) : Int) := by omega
  rw [e2, iI_nat, iI_nat]
  exact h9
theorem orT {a b : Int} (h : 0 ≤ a ∧ a < 2304 ∧ 0 ≤ b ∧ b < 4) : iI (a - 16 * (a / 16 % 4)) ||| iI (b * (2 ^ 4 : Nat)) = iI (wth a b) := by
  obtain ⟨a, rfl⟩ := Int.eq_ofNat_of_zero_le h.1
  obtain ⟨b, rfl⟩ := Int.eq_ofNat_of_zero_le h.2.2.1
  have h9 := orT_a ⟨a, by omega⟩ ⟨b, by omega⟩
  have e1 : ((b : Int) * ((2 ^ 4 : Nat) : Int)) = ((b * 16 : Nat) : Int) := by omega
  have e2 : ((a : Int) - 16 * ((a : Int) / 16 % 4)) = ((a - 16 * (a / 16 % 4) : Nat) : Int) := by omega
  have e3 : wth (a : Int) (b : Int) = ((a - 16 * (a / 16 % 4) + b * 16 : Nat) : Int) := by unfold wth; omega
  rw [e1, e2, e3, iI_nat, iI_nat, iI_nat]
  exact h9
theorem and3841 {a : Int} (h : 0 ≤ a ∧ a < 2304) : iI a &&& iI (-3841) = iI (a % 256) := by
  obtain ⟨a, rfl⟩ := Int.eq_ofNat_of_zero_le h.1
  have h9 := and3841_a ⟨a, by omega⟩
  have e2 : ((a : Int) % 256) = ((a % 256 : Nat) : Int) := by omega
  rw [e2, iI_nat, iI_nat]
  exact h9
theorem xr_iI {a b : Int} (h : 0 ≤ a ∧ a < 16 ∧ 0 ≤ b ∧ b < 16) : iI a ^^^ iI b = iI (xr a b) := by
  obtain ⟨a, rfl⟩ := Int.eq_ofNat_of_zero_le h.1
  obtain ⟨b, rfl⟩ := Int.eq_ofNat_of_zero_le h.2.2.1
  have h9 := xr_a ⟨a, by omega⟩ ⟨b, by omega⟩
  unfold xr
  rw [Int.toNat_natCast, Int.toNat_natCast, iI_nat, iI_nat, iI_nat]
  exact h9
theorem xr_rg {a b : Int} (h : 0 ≤ a ∧ a < 16 ∧ 0 ≤ b ∧ b < 16) : 0 ≤ xr a b ∧ xr a b < 16 := by
  have h9 : a.toNat ^^^ b.toNat < 16 := xr_b ⟨a.toNat, by omega⟩ ⟨b.toNat, by omega⟩
  unfold xr
  omega
theorem smp {a b : Int} (h : 0 ≤ a ∧ a < 2304 ∧ 0 ≤ b ∧ b < 2304) : ((iI a ^^^ iI b) &&& iI (-3841)).toInt = 0 ↔ a % 256 = b % 256 := by
  have e : (iI a ^^^ iI b) &&& iI (-3841) = (iI (a % 256)) ^^^ (iI (b % 256)) := by
    rw [← and3841 ⟨h.1, h.2.1⟩, ← and3841 ⟨h.2.2.1, h.2.2.2⟩]
    apply Int32.toBitVec_inj.mp
    simp only [Int32.toBitVec_and, Int32.toBitVec_xor]
    ext i
    simp only [BitVec.getElem_and, BitVec.getElem_xor]
    cases (iI a).toBitVec[i] <;> cases (iI b).toBitVec[i] <;> cases (iI (-3841)).toBitVec[i] <;> rfl
  rw [e]
  constructor
  · intro h9
    have h8 : iI (a % 256) ^^^ iI (b % 256) = 0 := by
      rw [← Int32.toInt_inj, h9]
      rfl
    exact (iI_eq (by omega) (by omega) (by omega) (by omega)).mp (Int32.xor_eq_zero_iff.mp h8)
  · intro h9
    rw [h9, Int32.xor_eq_zero_iff.mpr rfl]
    rfl
theorem stp_rg {G : Int → Int} {a b : Int} (h : 0 ≤ a ∧ a < 9 ∧ 0 ≤ b ∧ b < 9) : 0 ≤ stp G a b ∧ stp G a b ≤ 4 := by
  unfold stp ab
  split
  · omega
  · split <;> split <;> omega
theorem pop4_rg {r : Int} : 0 ≤ pop4 r ∧ pop4 r ≤ 4 := by
  unfold pop4
  omega
theorem dst_rg {G : Int → Int} {x y : Int} (h : 0 ≤ x ∧ x < 2304 ∧ 0 ≤ y ∧ y < 2304) : 0 ≤ dst G x y ∧ dst G x y ≤ 11 := by
  have h1 := stp_rg (G := G) (a := x / 256) (b := y / 256) (by omega)
  have h2 := pop4_rg (r := xr (x % 16) (y % 16))
  unfold dst
  split <;> split <;> omega
theorem wth_rg {L t : Int} (h : 0 ≤ L ∧ L < 2304 ∧ 0 ≤ t ∧ t < 4) : 0 ≤ wth L t ∧ wth L t < 2304 := by
  unfold wth
  omega
theorem bc_1 : ∀ x : Fin 16, (let i := Int32.ofNat x.1; let i := i - ((i.toUInt32 >>> ((1 : Int32).toUInt32 &&& Int32.toUInt32 31)).toInt32 &&& 1431655765); let i := (i &&& 858993459) + ((i.toUInt32 >>> ((2 : Int32).toUInt32 &&& Int32.toUInt32 31)).toInt32 &&& 858993459); let i := (i + (i.toUInt32 >>> ((4 : Int32).toUInt32 &&& Int32.toUInt32 31)).toInt32) &&& 252645135; let i := i + (i.toUInt32 >>> ((8 : Int32).toUInt32 &&& Int32.toUInt32 31)).toInt32; let i := i + (i.toUInt32 >>> ((16 : Int32).toUInt32 &&& Int32.toUInt32 31)).toInt32; i &&& 63) = Int32.ofNat (x.1 % 2 + x.1 / 2 % 2 + x.1 / 4 % 2 + x.1 / 8 % 2) := by decide +kernel
/-- the class's own numbers lie where they must -/
def IC (σ : Sg) : Prop := (0 ≤ σ.1 0 ∧ σ.1 0 ≤ 4) ∧ (0 ≤ σ.1 1 ∧ σ.1 1 ≤ 9) ∧ (∀ j : Int, 0 ≤ j → j < 9 → 0 ≤ σ.2 0 j ∧ σ.2 0 j < 9) ∧ (∀ b : Nat, b < 5 → 0 ≤ σ.1 (2 + b) ∧ σ.1 (2 + b) ≤ 16) ∧ (∀ b : Nat, b < 5 → ∀ j : Int, 0 ≤ j → j < 16 → 0 ≤ σ.2 (1 + b) j ∧ σ.2 (1 + b) j < 2304) ∧ ∀ b : Nat, b < 5 → ∀ j : Int, 0 ≤ j → j < 16 → 0 ≤ σ.2 (6 + b) j ∧ σ.2 (6 + b) j < 30
theorem hlJ {mc : MC} {g : GG} {cc : ByteArray} {own : String} {nL : Nat} {ret : Option FieldType} (hC : Cx mc g cc own nL ret) : (mL mc).stackTraces = false := hC.2.2.2.2.2.2.2.2.2.2.2.1
theorem j_gen {mc : MC} {g : GG} {k n : Nat} {Q : State → Prop} {pc : Nat} {lv : List (Nat × Value)} {st : List Value} {σ : Sg} {x : Int32} (h : ∀ y : Int32, y = x → J mc g k n Q pc lv (.int y :: st) σ) : J mc g k n Q pc lv (.int x :: st) σ := h x rfl
theorem j_genI {mc : MC} {g : GG} {k n : Nat} {Q : State → Prop} {pc : Nat} {lv : List (Nat × Value)} {st : List Value} {σ : Sg} {x : Int} (y : Int) (h : x = y) (kk : J mc g k n Q pc lv (vI y :: st) σ) : J mc g k n Q pc lv (vI x :: st) σ := h ▸ kk
end
section
set_option maxHeartbeats 4000000 in
set_option maxRecDepth 100000 in
theorem c_X1_shape {l : Launch} (hl : l.stackTraces = false) (g : GG) (σ : Sg) (x : Int) (hx : 0 ≤ x ∧ x < 2304) : CN l yX1_shape cX1_shape 1 (some .int) 0 0 0 0 g [vI (x)] σ (pt (some (vI (x % 16))) (σ)) := by
  refine CN_of (own := RX1) hl (by decide) rfl (Nat.le_of_ble_eq_true rfl) (fun mc hC _ hR => ?_)
  refine j_lv (lv2 := [(0, vI (x))]) rfl ?_
  refine j_iload_n hC dX1_shape_0 0 rfl ?_
  refine j_bipush hC dX1_shape_1 (by decide) ?_
  refine j_iand (r := x % 16) hC dX1_shape_3 (and_iI 4 (by omega) (by omega) (by decide)) ?_
  exact j_iret hC dX1_shape_4 ⟨rfl, rfl⟩
set_option maxHeartbeats 4000000 in
set_option maxRecDepth 100000 in
theorem c_X1_thumb {l : Launch} (hl : l.stackTraces = false) (g : GG) (σ : Sg) (x : Int) (hx : 0 ≤ x ∧ x < 2304) : CN l yX1_thumb cX1_thumb 1 (some .int) 0 0 0 0 g [vI (x)] σ (pt (some (vI (x / 16 % 4))) (σ)) := by
  refine CN_of (own := RX1) hl (by decide) rfl (Nat.le_of_ble_eq_true rfl) (fun mc hC _ hR => ?_)
  refine j_lv (lv2 := [(0, vI (x))]) rfl ?_
  refine j_iload_n hC dX1_thumb_0 0 rfl ?_
  refine j_iconst hC dX1_thumb_1 ?_
  refine j_ishr (r := x / 16) hC dX1_thumb_2 (shr_iI 4 (by omega) (by omega) (by decide)) ?_
  refine j_iconst hC dX1_thumb_3 ?_
  refine j_iand (r := (x / 16) % 4) hC dX1_thumb_4 (and_iI 2 (by omega) (by omega) (by decide)) ?_
  exact j_iret hC dX1_thumb_5 ⟨rfl, rfl⟩
set_option maxHeartbeats 4000000 in
set_option maxRecDepth 100000 in
theorem c_X1_movement {l : Launch} (hl : l.stackTraces = false) (g : GG) (σ : Sg) (x : Int) (hx : 0 ≤ x ∧ x < 2304) : CN l yX1_movement cX1_movement 1 (some .int) 0 0 0 0 g [vI (x)] σ (pt (some (vI (x / 64 % 4))) (σ)) := by
  refine CN_of (own := RX1) hl (by decide) rfl (Nat.le_of_ble_eq_true rfl) (fun mc hC _ hR => ?_)
  refine j_lv (lv2 := [(0, vI (x))]) rfl ?_
  refine j_iload_n hC dX1_movement_0 0 rfl ?_
  refine j_bipush hC dX1_movement_1 (by decide) ?_
  refine j_ishr (r := x / 64) hC dX1_movement_3 (shr_iI 6 (by omega) (by omega) (by decide)) ?_
  refine j_iconst hC dX1_movement_4 ?_
  refine j_iand (r := (x / 64) % 4) hC dX1_movement_5 (and_iI 2 (by omega) (by omega) (by decide)) ?_
  exact j_iret hC dX1_movement_6 ⟨rfl, rfl⟩
set_option maxHeartbeats 4000000 in
set_option maxRecDepth 100000 in
theorem c_X1_place {l : Launch} (hl : l.stackTraces = false) (g : GG) (σ : Sg) (x : Int) (hx : 0 ≤ x ∧ x < 2304) : CN l yX1_place cX1_place 1 (some .int) 0 0 0 0 g [vI (x)] σ (pt (some (vI (x / 256))) (σ)) := by
  refine CN_of (own := RX1) hl (by decide) rfl (Nat.le_of_ble_eq_true rfl) (fun mc hC _ hR => ?_)
  refine j_lv (lv2 := [(0, vI (x))]) rfl ?_
  have e : x / 256 % 16 = x / 256 := by omega
  refine j_iload_n hC dX1_place_0 0 rfl ?_
  refine j_bipush hC dX1_place_1 (by decide) ?_
  refine j_ishr (r := x / 256) hC dX1_place_3 (shr_iI 8 (by omega) (by omega) (by decide)) ?_
  refine j_bipush hC dX1_place_4 (by decide) ?_
  refine j_iand (r := (x / 256) % 16) hC dX1_place_6 (and_iI 4 (by omega) (by omega) (by decide)) ?_
  exact j_iret hC dX1_place_7 ⟨congrArg (fun z => some (vI z)) e, rfl⟩
set_option maxHeartbeats 4000000 in
set_option maxRecDepth 100000 in
theorem c_X1_of {l : Launch} (hl : l.stackTraces = false) (g : GG) (σ : Sg) (sh th pl mv : Int) (hx : 0 ≤ sh ∧ sh < 16 ∧ 0 ≤ th ∧ th < 4 ∧ 0 ≤ pl ∧ pl < 9 ∧ 0 ≤ mv ∧ mv < 4) : CN l yX1_of cX1_of 4 (some .int) 0 0 0 0 g [vI (sh), vI (th), vI (pl), vI (mv)] σ (pt (some (vI (mkL sh th pl mv))) (σ)) := by
  refine CN_of (own := RX1) hl (by decide) rfl (Nat.le_of_ble_eq_true rfl) (fun mc hC _ hR => ?_)
  refine j_lv (lv2 := [(0, vI (sh)), (1, vI (th)), (2, vI (pl)), (3, vI (mv))]) rfl ?_
  refine j_iload_n hC dX1_of_0 0 rfl ?_
  refine j_iload_n hC dX1_of_1 1 rfl ?_
  refine j_iconst hC dX1_of_2 ?_
  refine j_ishl (r := th * (2 ^ 4 : Nat)) hC dX1_of_3 (shl_iI 4 (by omega) (by omega) (by decide)) ?_
  refine j_ior (r := sh + 16 * th) hC dX1_of_4 (or16 (by omega)) ?_
  refine j_iload_n hC dX1_of_5 3 rfl ?_
  refine j_bipush hC dX1_of_6 (by decide) ?_
  refine j_ishl (r := mv * (2 ^ 6 : Nat)) hC dX1_of_8 (shl_iI 6 (by omega) (by omega) (by decide)) ?_
  refine j_ior (r := sh + 16 * th + 64 * mv) hC dX1_of_9 (or64 (by omega)) ?_
  refine j_iload_n hC dX1_of_10 2 rfl ?_
  refine j_bipush hC dX1_of_11 (by decide) ?_
  refine j_ishl (r := pl * (2 ^ 8 : Nat)) hC dX1_of_13 (shl_iI 8 (by omega) (by omega) (by decide)) ?_
  refine j_ior (r := mkL sh th pl mv) hC dX1_of_14 (or256 (by omega)) ?_
  exact j_iret hC dX1_of_15 ⟨rfl, rfl⟩
set_option maxHeartbeats 4000000 in
set_option maxRecDepth 100000 in
theorem c_X1_withThumb {l : Launch} (hl : l.stackTraces = false) (g : GG) (σ : Sg) (x t : Int) (hx : 0 ≤ x ∧ x < 2304 ∧ 0 ≤ t ∧ t < 4) : CN l yX1_withThumb cX1_withThumb 2 (some .int) 0 0 0 0 g [vI (x), vI (t)] σ (pt (some (vI (wth x t))) (σ)) := by
  refine CN_of (own := RX1) hl (by decide) rfl (Nat.le_of_ble_eq_true rfl) (fun mc hC _ hR => ?_)
  refine j_lv (lv2 := [(0, vI (x)), (1, vI (t))]) rfl ?_
  refine j_iload_n hC dX1_withThumb_0 0 rfl ?_
  refine j_bipush hC dX1_withThumb_1 (by decide) ?_
  refine j_iand (r := x - 16 * (x / 16 % 4)) hC dX1_withThumb_3 (and49 (by omega)) ?_
  refine j_iload_n hC dX1_withThumb_4 1 rfl ?_
  refine j_iconst hC dX1_withThumb_5 ?_
  refine j_ishl (r := t * (2 ^ 4 : Nat)) hC dX1_withThumb_6 (shl_iI 4 (by omega) (by omega) (by decide)) ?_
  refine j_ior (r := wth x t) hC dX1_withThumb_7 (orT (by omega)) ?_
  exact j_iret hC dX1_withThumb_8 ⟨rfl, rfl⟩
set_option maxHeartbeats 4000000 in
set_option maxRecDepth 100000 in
theorem c_X1_sameButForPlace {l : Launch} (hl : l.stackTraces = false) (g : GG) (σ : Sg) (x y : Int) (hx : 0 ≤ x ∧ x < 2304 ∧ 0 ≤ y ∧ y < 2304) : CN l yX1_sameButForPlace cX1_sameButForPlace 2 (some .boolean) 0 0 0 0 g [vI (x), vI (y)] σ (pt (some (vI (if x % 256 = y % 256 then 1 else 0))) (σ)) := by
  refine CN_of (own := RX1) hl (by decide) rfl (Nat.le_of_ble_eq_true rfl) (fun mc hC _ hR => ?_)
  refine j_lv (lv2 := [(0, vI (x)), (1, vI (y))]) rfl ?_
  have hs := smp hx
  generalize hw : ((iI x ^^^ iI y) &&& iI (-3841)).toInt = w at hs
  have hw2 : (iI x ^^^ iI y) &&& iI (-3841) = iI w := by rw [← hw]; exact (Int32.ofInt_toInt _).symm
  have hw3 : -2147483648 ≤ w ∧ w < 2147483648 := by rw [← hw]; exact ⟨by have := ((iI x ^^^ iI y) &&& iI (-3841)).le_toInt; omega, by have := ((iI x ^^^ iI y) &&& iI (-3841)).toInt_lt; omega⟩
  refine j_iload_n hC dX1_sameButForPlace_0 0 rfl ?_
  refine j_iload_n hC dX1_sameButForPlace_1 1 rfl ?_
  refine j_ixor (r := (iI x ^^^ iI y).toInt) hC dX1_sameButForPlace_2 (Int32.ofInt_toInt _).symm ?_
  refine j_sipush hC dX1_sameButForPlace_3 (by decide) ?_
  refine j_iand (r := w) hC dX1_sameButForPlace_6 (by rw [show iI (iI x ^^^ iI y).toInt = iI x ^^^ iI y from Int32.ofInt_toInt _]; exact hw2) ?_
  refine j_if_ne (tgt := 14) hC dX1_sameButForPlace_7 (by decide) (by omega) (fun h7 => ?_) (fun h7 => ?_)
  · refine j_iconst hC dX1_sameButForPlace_14 ?_
    exact j_zret hC (by decide) dX1_sameButForPlace_15 (by first | (rw [if_pos (hs.mp h7)]; exact ⟨rfl, rfl⟩) | (rw [if_neg (fun z => h7 (hs.mpr z))]; exact ⟨rfl, rfl⟩))
  · refine j_iconst hC dX1_sameButForPlace_10 ?_
    refine j_goto (tgt := 15) hC dX1_sameButForPlace_11 (by decide) ?_
    exact j_zret hC (by decide) dX1_sameButForPlace_15 (by first | (rw [if_pos (hs.mp h7)]; exact ⟨rfl, rfl⟩) | (rw [if_neg (fun z => h7 (hs.mpr z))]; exact ⟨rfl, rfl⟩))
set_option maxHeartbeats 4000000 in
set_option maxRecDepth 100000 in
theorem c_J6_bitCount_0f7a4 {l : Launch} (hl : l.stackTraces = false) (g : GG) (σ : Sg) (x : Int) (hx : 0 ≤ x ∧ x < 16) : CN l yJ6_bitCount_0f7a4 cJ6_bitCount_0f7a4 1 (some .int) 0 0 0 0 g [vI (x)] σ (pt (some (vI (pop4 x))) (σ)) := by
  refine CN_of (own := RJ6) hl (by decide) rfl (Nat.le_of_ble_eq_true rfl) (fun mc hC _ hR => ?_)
  refine j_lv (lv2 := [(0, vI (x))]) rfl ?_
  refine j_iload_n hC dJ6_bitCount_0f7a4_0 0 rfl ?_
  refine j_iload_n hC dJ6_bitCount_0f7a4_1 0 rfl ?_
  refine j_iconst hC dJ6_bitCount_0f7a4_2 ?_
  refine j_iushr hC dJ6_bitCount_0f7a4_3 rfl ?_
  refine j_ldc_w hC dJ6_bitCount_0f7a4_4 wd133 ?_
  refine j_iandR hC dJ6_bitCount_0f7a4_7 ?_
  refine j_isubR hC dJ6_bitCount_0f7a4_8 ?_
  refine j_gen (fun y0 ey0 => ?_)
  refine j_istore_n hC dJ6_bitCount_0f7a4_9 [(0, .int (y0))] (by decide) rfl ?_
  refine j_iload_n hC dJ6_bitCount_0f7a4_10 0 rfl ?_
  refine j_ldc_w hC dJ6_bitCount_0f7a4_11 wd134 ?_
  refine j_iandR hC dJ6_bitCount_0f7a4_14 ?_
  refine j_iload_n hC dJ6_bitCount_0f7a4_15 0 rfl ?_
  refine j_iconst hC dJ6_bitCount_0f7a4_16 ?_
  refine j_iushr hC dJ6_bitCount_0f7a4_17 rfl ?_
  refine j_ldc_w hC dJ6_bitCount_0f7a4_18 wd134 ?_
  refine j_iandR hC dJ6_bitCount_0f7a4_21 ?_
  refine j_iaddR hC dJ6_bitCount_0f7a4_22 ?_
  refine j_gen (fun y1 ey1 => ?_)
  refine j_istore_n hC dJ6_bitCount_0f7a4_23 [(0, .int (y1))] (by decide) rfl ?_
  refine j_iload_n hC dJ6_bitCount_0f7a4_24 0 rfl ?_
  refine j_iload_n hC dJ6_bitCount_0f7a4_25 0 rfl ?_
  refine j_iconst hC dJ6_bitCount_0f7a4_26 ?_
  refine j_iushr hC dJ6_bitCount_0f7a4_27 rfl ?_
  refine j_iaddR hC dJ6_bitCount_0f7a4_28 ?_
  refine j_ldc_w hC dJ6_bitCount_0f7a4_29 wd135 ?_
  refine j_iandR hC dJ6_bitCount_0f7a4_32 ?_
  refine j_gen (fun y2 ey2 => ?_)
  refine j_istore_n hC dJ6_bitCount_0f7a4_33 [(0, .int (y2))] (by decide) rfl ?_
  refine j_iload_n hC dJ6_bitCount_0f7a4_34 0 rfl ?_
  refine j_iload_n hC dJ6_bitCount_0f7a4_35 0 rfl ?_
  refine j_bipush hC dJ6_bitCount_0f7a4_36 (by decide) ?_
  refine j_iushr hC dJ6_bitCount_0f7a4_38 rfl ?_
  refine j_iaddR hC dJ6_bitCount_0f7a4_39 ?_
  refine j_gen (fun y3 ey3 => ?_)
  refine j_istore_n hC dJ6_bitCount_0f7a4_40 [(0, .int (y3))] (by decide) rfl ?_
  refine j_iload_n hC dJ6_bitCount_0f7a4_41 0 rfl ?_
  refine j_iload_n hC dJ6_bitCount_0f7a4_42 0 rfl ?_
  refine j_bipush hC dJ6_bitCount_0f7a4_43 (by decide) ?_
  refine j_iushr hC dJ6_bitCount_0f7a4_45 rfl ?_
  refine j_iaddR hC dJ6_bitCount_0f7a4_46 ?_
  refine j_gen (fun y4 ey4 => ?_)
  refine j_istore_n hC dJ6_bitCount_0f7a4_47 [(0, .int (y4))] (by decide) rfl ?_
  refine j_iload_n hC dJ6_bitCount_0f7a4_48 0 rfl ?_
  refine j_bipush hC dJ6_bitCount_0f7a4_49 (by decide) ?_
  refine j_iandR hC dJ6_bitCount_0f7a4_51 ?_
  exact j_iret hC dJ6_bitCount_0f7a4_52 (by
    obtain ⟨x, rfl⟩ := Int.eq_ofNat_of_zero_le hx.1
    have h9 := bc_1 ⟨x, by omega⟩
    refine ⟨congrArg (fun z => some (Value.int z)) ?_, rfl⟩
    have e : pop4 (x : Int) = ((x % 2 + x / 2 % 2 + x / 4 % 2 + x / 8 % 2 : Nat) : Int) := by unfold pop4; omega
    rw [e, iI_nat, ← h9, ey4, ey3, ey2, ey1, ey0, iI_nat]
    rfl)
set_option maxHeartbeats 4000000 in
set_option maxRecDepth 100000 in
theorem c_X2_sameGroup {l : Launch} (hl : l.stackTraces = false) (g : GG) (σ : Sg) (hI : IC σ) (a b : Int) (hx : 0 ≤ a ∧ a < 9 ∧ 0 ≤ b ∧ b < 9) : CN l yX2_sameGroup cX2_sameGroup 3 (some .boolean) 0 0 0 0 g [.ref (gd g (1)), vI (a), vI (b)] σ (pt (some (vI (if σ.2 0 a = σ.2 0 b then 1 else 0))) (σ)) := by
  refine CN_of (own := RX2) hl (by decide) rfl (Nat.le_of_ble_eq_true rfl) (fun mc hC _ hR => ?_)
  refine j_lv (lv2 := [(0, .ref (gd g (1))), (1, vI (a)), (2, vI (b))]) rfl ?_
  have hg1 := hI.2.2.1 a (by omega) (by omega)
  have hg2 := hI.2.2.1 b (by omega) (by omega)
  refine j_aload_n hC dX2_sameGroup_0 0 rfl ?_
  refine j_get hC inX2 rfl 1 rfl 0 (by decide) wd29 rfl dX2_sameGroup_1 ?_
  refine j_iload_n hC dX2_sameGroup_4 1 rfl ?_
  refine j_iald hC 2 rfl (by omega) dX2_sameGroup_5 ?_
  refine j_aload_n hC dX2_sameGroup_6 0 rfl ?_
  refine j_get hC inX2 rfl 1 rfl 0 (by decide) wd29 rfl dX2_sameGroup_7 ?_
  refine j_iload_n hC dX2_sameGroup_10 2 rfl ?_
  refine j_iald hC 2 rfl (by omega) dX2_sameGroup_11 ?_
  refine j_icmp_ne (tgt := 19) hC dX2_sameGroup_12 (by decide) (by omega) (fun h12 => ?_) (fun h12 => ?_)
  · refine j_iconst hC dX2_sameGroup_19 ?_
    exact j_zret hC (by decide) dX2_sameGroup_20 (by first | (rw [if_pos h12]; exact ⟨rfl, rfl⟩) | (rw [if_neg h12]; exact ⟨rfl, rfl⟩))
  · refine j_iconst hC dX2_sameGroup_15 ?_
    refine j_goto (tgt := 20) hC dX2_sameGroup_16 (by decide) ?_
    exact j_zret hC (by decide) dX2_sameGroup_20 (by first | (rw [if_pos h12]; exact ⟨rfl, rfl⟩) | (rw [if_neg h12]; exact ⟨rfl, rfl⟩))
set_option maxHeartbeats 4000000 in
set_option maxRecDepth 100000 in
theorem c_X2_stepsBetween {l : Launch} (hl : l.stackTraces = false) (g : GG) (σ : Sg) (hI : IC σ) (a b : Int) (hx : 0 ≤ a ∧ a < 9 ∧ 0 ≤ b ∧ b < 9) : CN l yX2_stepsBetween cX2_stepsBetween 5 (some .int) 1 22 0 0 g [.ref (gd g (1)), vI (a), vI (b)] σ (pt (some (vI (stp (σ.2 0) a b))) (σ)) := by
  refine CN_of (own := RX2) hl (by decide) rfl (Nat.le_of_ble_eq_true rfl) (fun mc hC _ hR => ?_)
  refine j_lv (lv2 := [(0, .ref (gd g (1))), (1, vI (a)), (2, vI (b))]) rfl ?_
  refine j_aload_n hC dX2_stepsBetween_0 0 rfl ?_
  refine j_iload_n hC dX2_stepsBetween_1 1 rfl ?_
  refine j_iload_n hC dX2_stepsBetween_2 2 rfl ?_
  refine j_callV1 (ar := 2) hC hR (c_X2_sameGroup (hlJ hC) g σ hI a b (by omega)) [] rfl 1 rfl rfl rfl (by decide) (by decide +kernel) rfl wd112 wd114 wp2 wd2 wd115 (by decide) (Nat.le_of_ble_eq_true rfl) dX2_stepsBetween_3 ?_
  by_cases h6 : σ.2 0 a = σ.2 0 b
  · rw [if_pos h6]
    refine j_if_eq (tgt := 11) hC dX2_stepsBetween_6 (by decide) (by omega) (fun h => absurd h (by decide)) (fun _ => ?_)
    refine j_iconst hC dX2_stepsBetween_9 ?_
    exact j_iret hC dX2_stepsBetween_10 ⟨by unfold stp ab; first | rw [if_pos h6] | rw [if_neg h6], rfl⟩
  · rw [if_neg h6]
    refine j_if_eq (tgt := 11) hC dX2_stepsBetween_6 (by decide) (by omega) (fun _ => ?_) (fun h => absurd h (by decide))
    refine j_iload_n hC dX2_stepsBetween_11 1 rfl ?_
    refine j_iconst hC dX2_stepsBetween_12 ?_
    refine j_idiv hC dX2_stepsBetween_13 (by omega) ?_
    refine j_iload_n hC dX2_stepsBetween_14 2 rfl ?_
    refine j_iconst hC dX2_stepsBetween_15 ?_
    refine j_idiv hC dX2_stepsBetween_16 (by omega) ?_
    refine j_isub hC dX2_stepsBetween_17 ?_
    refine j_abs hC hR wd144 ⟨by decide, Nat.le_of_ble_eq_true rfl⟩ (by decide) (by omega) dX2_stepsBetween_18 ?_
    have hab1 : ∀ z : Int, (if 0 ≤ z then z else -z) = ab z := fun _ => rfl
    refine j_istore_n hC dX2_stepsBetween_21 [(3, vI (if 0 ≤ (a / 3) - (b / 3) then (a / 3) - (b / 3) else -((a / 3) - (b / 3)))), (0, .ref (gd g (1))), (1, vI (a)), (2, vI (b))] (by decide) rfl ?_
    refine j_iload_n hC dX2_stepsBetween_22 2 rfl ?_
    refine j_iconst hC dX2_stepsBetween_23 ?_
    refine j_irem hC dX2_stepsBetween_24 (by omega) ?_
    refine j_iload_n hC dX2_stepsBetween_25 3 rfl ?_
    refine j_iconst hC dX2_stepsBetween_26 ?_
    refine j_irem hC dX2_stepsBetween_27 (by omega) ?_
    refine j_isub hC dX2_stepsBetween_28 ?_
    refine j_abs hC hR wd144 ⟨by decide, Nat.le_of_ble_eq_true rfl⟩ (by decide) (by omega) dX2_stepsBetween_29 ?_
    refine j_istore hC dX2_stepsBetween_32 [(4, vI (if 0 ≤ (a % 3) - (b % 3) then (a % 3) - (b % 3) else -((a % 3) - (b % 3)))), (3, vI (if 0 ≤ (a / 3) - (b / 3) then (a / 3) - (b / 3) else -((a / 3) - (b / 3)))), (0, .ref (gd g (1))), (1, vI (a)), (2, vI (b))] (by decide) rfl ?_
    refine j_iload_n hC dX2_stepsBetween_34 1 rfl ?_
    refine j_iload hC dX2_stepsBetween_35 0 rfl ?_
    refine j_iadd hC dX2_stepsBetween_37 ?_
    exact j_iret hC dX2_stepsBetween_38 ⟨by unfold stp ab; first | rw [if_pos h6] | rw [if_neg h6], rfl⟩
set_option maxHeartbeats 4000000 in
set_option maxRecDepth 100000 in
theorem c_X2_alike {l : Launch} (hl : l.stackTraces = false) (g : GG) (σ : Sg) (hI : IC σ) (x y : Int) (hx : 0 ≤ x ∧ x < 2304 ∧ 0 ≤ y ∧ y < 2304) : CN l yX2_alike cX2_alike 3 (some .boolean) 1 22 0 0 g [.ref (gd g (1)), vI (x), vI (y)] σ (pt (some (vI (if alk (σ.2 0) x y then 1 else 0))) (σ)) := by
  refine CN_of (own := RX2) hl (by decide) rfl (Nat.le_of_ble_eq_true rfl) (fun mc hC _ hR => ?_)
  refine j_lv (lv2 := [(0, .ref (gd g (1))), (1, vI (x)), (2, vI (y))]) rfl ?_
  refine j_iload_n hC dX2_alike_0 1 rfl ?_
  refine j_iload_n hC dX2_alike_1 2 rfl ?_
  refine j_callSN1 (ar := 2) hC hR (c_X1_sameButForPlace (hlJ hC) g σ x y (by omega)) [] rfl (by decide) (by decide +kernel) rfl wd106 wd107 wd11 wd108 (by decide) (Nat.le_of_ble_eq_true rfl) dX2_alike_2 ?_
  by_cases h5 : x % 256 = y % 256
  · rw [if_pos h5]
    refine j_if_eq (tgt := 27) hC dX2_alike_5 (by decide) (by omega) (fun h => absurd h (by decide)) (fun _ => ?_)
    refine j_aload_n hC dX2_alike_8 0 rfl ?_
    refine j_iload_n hC dX2_alike_9 1 rfl ?_
    refine j_callSN1 (ar := 1) hC hR (c_X1_place (hlJ hC) g σ x (by omega)) [.ref (gd g (1))] rfl (by decide) (by decide +kernel) rfl wd109 wd110 wd11 wd111 (by decide) (Nat.le_of_ble_eq_true rfl) dX2_alike_10 ?_
    refine j_iload_n hC dX2_alike_13 2 rfl ?_
    refine j_callSN1 (ar := 1) hC hR (c_X1_place (hlJ hC) g σ y (by omega)) [vI (x / 256), .ref (gd g (1))] rfl (by decide) (by decide +kernel) rfl wd109 wd110 wd11 wd111 (by decide) (Nat.le_of_ble_eq_true rfl) dX2_alike_14 ?_
    refine j_callV1 (ar := 2) hC hR (c_X2_sameGroup (hlJ hC) g σ hI (x / 256) (y / 256) (by omega)) [] rfl 1 rfl rfl rfl (by decide) (by decide +kernel) rfl wd112 wd114 wp2 wd2 wd115 (by decide) (Nat.le_of_ble_eq_true rfl) dX2_alike_17 ?_
    by_cases h20 : σ.2 0 (x / 256) = σ.2 0 (y / 256)
    · rw [if_pos h20]
      refine j_if_eq (tgt := 27) hC dX2_alike_20 (by decide) (by omega) (fun h => absurd h (by decide)) (fun _ => ?_)
      refine j_iconst hC dX2_alike_23 ?_
      refine j_goto (tgt := 28) hC dX2_alike_24 (by decide) ?_
      exact j_zret hC (by decide) dX2_alike_28 (by first | (rw [if_pos ⟨h5, h20⟩]; exact ⟨rfl, rfl⟩) | (rw [if_neg (fun z => h20 z.2)]; exact ⟨rfl, rfl⟩) | (rw [if_neg (fun z => h5 z.1)]; exact ⟨rfl, rfl⟩))
    · rw [if_neg h20]
      refine j_if_eq (tgt := 27) hC dX2_alike_20 (by decide) (by omega) (fun _ => ?_) (fun h => absurd h (by decide))
      refine j_iconst hC dX2_alike_27 ?_
      exact j_zret hC (by decide) dX2_alike_28 (by first | (rw [if_pos ⟨h5, h20⟩]; exact ⟨rfl, rfl⟩) | (rw [if_neg (fun z => h20 z.2)]; exact ⟨rfl, rfl⟩) | (rw [if_neg (fun z => h5 z.1)]; exact ⟨rfl, rfl⟩))
  · rw [if_neg h5]
    refine j_if_eq (tgt := 27) hC dX2_alike_5 (by decide) (by omega) (fun _ => ?_) (fun h => absurd h (by decide))
    refine j_iconst hC dX2_alike_27 ?_
    exact j_zret hC (by decide) dX2_alike_28 (by first | (rw [if_pos ⟨h5, h20⟩]; exact ⟨rfl, rfl⟩) | (rw [if_neg (fun z => h20 z.2)]; exact ⟨rfl, rfl⟩) | (rw [if_neg (fun z => h5 z.1)]; exact ⟨rfl, rfl⟩))
set_option maxHeartbeats 4000000 in
set_option maxRecDepth 100000 in
theorem c_X2_distance {l : Launch} (hl : l.stackTraces = false) (g : GG) (σ : Sg) (hI : IC σ) (x y : Int) (hx : 0 ≤ x ∧ x < 2304 ∧ 0 ≤ y ∧ y < 2304) : CN l yX2_distance cX2_distance 6 (some .int) 2 46 0 0 g [.ref (gd g (1)), vI (x), vI (y)] σ (pt (some (vI (dst (σ.2 0) x y))) (σ)) := by
  refine CN_of (own := RX2) hl (by decide) rfl (Nat.le_of_ble_eq_true rfl) (fun mc hC _ hR => ?_)
  refine j_lv (lv2 := [(0, .ref (gd g (1))), (1, vI (x)), (2, vI (y))]) rfl ?_
  have hxr := xr_rg (a := x % 16) (b := y % 16) (by omega)
  refine j_iload_n hC dX2_distance_0 1 rfl ?_
  refine j_callSN1 (ar := 1) hC hR (c_X1_shape (hlJ hC) g σ x (by omega)) [] rfl (by decide) (by decide +kernel) rfl wd127 wd128 wd11 wd129 (by decide) (Nat.le_of_ble_eq_true rfl) dX2_distance_1 ?_
  refine j_iload_n hC dX2_distance_4 2 rfl ?_
  refine j_callSN1 (ar := 1) hC hR (c_X1_shape (hlJ hC) g σ y (by omega)) [vI (x % 16)] rfl (by decide) (by decide +kernel) rfl wd127 wd128 wd11 wd129 (by decide) (Nat.le_of_ble_eq_true rfl) dX2_distance_5 ?_
  refine j_ixor (r := xr (x % 16) (y % 16)) hC dX2_distance_8 (xr_iI (by omega)) ?_
  refine j_callS1 (ar := 1) hC hR (c_J6_bitCount_0f7a4 (hlJ hC) g σ (xr (x % 16) (y % 16)) (by omega)) [] rfl (by decide) (by decide +kernel) rfl wd130 wd131 wd13 wd132 (by decide) (Nat.le_of_ble_eq_true rfl) dX2_distance_9 ?_
  refine j_istore_n hC dX2_distance_12 [(3, vI (pop4 (xr (x % 16) (y % 16)))), (0, .ref (gd g (1))), (1, vI (x)), (2, vI (y))] (by decide) rfl ?_
  refine j_iload_n hC dX2_distance_13 2 rfl ?_
  refine j_callSN1 (ar := 1) hC hR (c_X1_thumb (hlJ hC) g σ x (by omega)) [] rfl (by decide) (by decide +kernel) rfl wd136 wd121 wd11 wd122 (by decide) (Nat.le_of_ble_eq_true rfl) dX2_distance_14 ?_
  refine j_iload_n hC dX2_distance_17 3 rfl ?_
  refine j_callSN1 (ar := 1) hC hR (c_X1_thumb (hlJ hC) g σ y (by omega)) [vI (x / 16 % 4)] rfl (by decide) (by decide +kernel) rfl wd136 wd121 wd11 wd122 (by decide) (Nat.le_of_ble_eq_true rfl) dX2_distance_18 ?_
  suffices K29 : J mc g 0 0 (QN mc g (pt (some (vI (dst (σ.2 0) x y))) (σ)) 0 0) 29 [(3, vI (pop4 (xr (x % 16) (y % 16)))), (0, .ref (gd g (1))), (1, vI (x)), (2, vI (y))] [vI (if x / 16 % 4 = y / 16 % 4 then 0 else 1)] σ by
    refine j_icmp_ne (tgt := 28) hC dX2_distance_21 (by decide) (by omega) (fun h21 => ?_) (fun h21 => ?_)
    · refine j_iconst hC dX2_distance_28 ?_
      exact (by first | (rw [if_pos h21] at K29; exact K29) | (rw [if_neg h21] at K29; exact K29) | (rw [if_neg (fun z => h21 z.symm)] at K29; exact K29))
    · refine j_iconst hC dX2_distance_24 ?_
      refine j_goto (tgt := 29) hC dX2_distance_25 (by decide) ?_
      exact (by first | (rw [if_pos h21] at K29; exact K29) | (rw [if_neg h21] at K29; exact K29) | (rw [if_neg (fun z => h21 z.symm)] at K29; exact K29))
  refine j_istore hC dX2_distance_29 [(4, vI (if x / 16 % 4 = y / 16 % 4 then 0 else 1)), (3, vI (pop4 (xr (x % 16) (y % 16)))), (0, .ref (gd g (1))), (1, vI (x)), (2, vI (y))] (by decide) rfl ?_
  refine j_iload_n hC dX2_distance_31 3 rfl ?_
  refine j_callSN1 (ar := 1) hC hR (c_X1_movement (hlJ hC) g σ x (by omega)) [] rfl (by decide) (by decide +kernel) rfl wd137 wd138 wd11 wd139 (by decide) (Nat.le_of_ble_eq_true rfl) dX2_distance_32 ?_
  refine j_iload_n hC dX2_distance_35 4 rfl ?_
  refine j_callSN1 (ar := 1) hC hR (c_X1_movement (hlJ hC) g σ y (by omega)) [vI (x / 64 % 4)] rfl (by decide) (by decide +kernel) rfl wd137 wd138 wd11 wd139 (by decide) (Nat.le_of_ble_eq_true rfl) dX2_distance_36 ?_
  suffices K47 : J mc g 0 0 (QN mc g (pt (some (vI (dst (σ.2 0) x y))) (σ)) 0 0) 47 [(4, vI (if x / 16 % 4 = y / 16 % 4 then 0 else 1)), (3, vI (pop4 (xr (x % 16) (y % 16)))), (0, .ref (gd g (1))), (1, vI (x)), (2, vI (y))] [vI (if x / 64 % 4 = y / 64 % 4 then 0 else 2)] σ by
    refine j_icmp_ne (tgt := 46) hC dX2_distance_39 (by decide) (by omega) (fun h39 => ?_) (fun h39 => ?_)
    · refine j_iconst hC dX2_distance_46 ?_
      exact (by first | (rw [if_pos h39] at K47; exact K47) | (rw [if_neg h39] at K47; exact K47) | (rw [if_neg (fun z => h39 z.symm)] at K47; exact K47))
    · refine j_iconst hC dX2_distance_42 ?_
      refine j_goto (tgt := 47) hC dX2_distance_43 (by decide) ?_
      exact (by first | (rw [if_pos h39] at K47; exact K47) | (rw [if_neg h39] at K47; exact K47) | (rw [if_neg (fun z => h39 z.symm)] at K47; exact K47))
  refine j_istore hC dX2_distance_47 [(5, vI (if x / 64 % 4 = y / 64 % 4 then 0 else 2)), (4, vI (if x / 16 % 4 = y / 16 % 4 then 0 else 1)), (3, vI (pop4 (xr (x % 16) (y % 16)))), (0, .ref (gd g (1))), (1, vI (x)), (2, vI (y))] (by decide) rfl ?_
  refine j_iload_n hC dX2_distance_49 2 rfl ?_
  refine j_iload hC dX2_distance_50 1 rfl ?_
  refine j_iadd hC dX2_distance_52 ?_
  refine j_iload hC dX2_distance_53 0 rfl ?_
  refine j_iadd hC dX2_distance_55 ?_
  refine j_aload_n hC dX2_distance_56 3 rfl ?_
  refine j_iload_n hC dX2_distance_57 4 rfl ?_
  refine j_callSN1 (ar := 1) hC hR (c_X1_place (hlJ hC) g σ x (by omega)) [.ref (gd g (1)), vI (((pop4 (xr (x % 16) (y % 16))) + (if x / 16 % 4 = y / 16 % 4 then 0 else 1)) + (if x / 64 % 4 = y / 64 % 4 then 0 else 2))] rfl (by decide) (by decide +kernel) rfl wd109 wd110 wd11 wd111 (by decide) (Nat.le_of_ble_eq_true rfl) dX2_distance_58 ?_
  refine j_iload_n hC dX2_distance_61 5 rfl ?_
  refine j_callSN1 (ar := 1) hC hR (c_X1_place (hlJ hC) g σ y (by omega)) [vI (x / 256), .ref (gd g (1)), vI (((pop4 (xr (x % 16) (y % 16))) + (if x / 16 % 4 = y / 16 % 4 then 0 else 1)) + (if x / 64 % 4 = y / 64 % 4 then 0 else 2))] rfl (by decide) (by decide +kernel) rfl wd109 wd110 wd11 wd111 (by decide) (Nat.le_of_ble_eq_true rfl) dX2_distance_62 ?_
  refine j_callV1 (ar := 2) hC hR (c_X2_stepsBetween (hlJ hC) g σ hI (x / 256) (y / 256) (by omega)) [vI (((pop4 (xr (x % 16) (y % 16))) + (if x / 16 % 4 = y / 16 % 4 then 0 else 1)) + (if x / 64 % 4 = y / 64 % 4 then 0 else 2))] rfl 1 rfl rfl rfl (by decide) (by decide +kernel) rfl wd140 wd142 wp5 wd2 wd143 (by decide) (Nat.le_of_ble_eq_true rfl) dX2_distance_65 ?_
  refine j_iadd hC dX2_distance_68 ?_
  exact j_iret hC dX2_distance_69 ⟨rfl, rfl⟩
end
section
/-! the loops, as they run -/
def fnd (mn : Int → Int) (x : Int) : Nat → Int → Int
  | 0, _ => -1
  | d + 1, z => if mn z = x then z else fnd mn x d (z + 1)
def cnt (c : Int → Bool) : Nat → Int → Int → Int
  | 0, _, a => a
  | d + 1, z, a => cnt c d (z + 1) (if c z = true then a + 1 else a)
def pO (c : Int → Int → Bool) : Nat → Int → Int → Int
  | 0, _, a => a
  | d + 1, z, a => pO c d (z + 1) (cnt (c z) d (z + 1) a)
def hsA (G lk : Int → Int) (L : Int) : Nat → Int → Int
  | 0, _ => 0
  | d + 1, z => if alk G L (lk z) then 1 else hsA G lk L d (z + 1)
def fuF (G lk : Int → Int) (n : Nat) (L : Int) : Nat → Int → Int
  | 0, _ => -1
  | d + 1, z => if hsA G lk (wth L ((L / 16 % 4 + z) % 4)) n 0 = 0 then wth L ((L / 16 % 4 + z) % 4) else fuF G lk n L d (z + 1)
def nbF (f : Int → Int) (s : Int) : Nat → Int → Int → Int
  | 0, _, a => a
  | d + 1, z, a => nbF f s d (z + 1) (if z = s then a else if a ≤ f z then a else f z)
def amF (f : Int → Int) : Nat → Int → Int → Int → Int
  | 0, _, fo, _ => fo
  | d + 1, z, fo, mo => if mo < f z then amF f d (z + 1) z (f z) else amF f d (z + 1) fo mo
def mrF (dd mn : Int → Int) : Nat → Int → Int → Int → Int
  | 0, _, _, m => m
  | d + 1, z, fw, m => if dd z < fw then mrF dd mn d (z + 1) (dd z) (mn z) else if dd z = fw then mrF dd mn d (z + 1) fw (-1) else mrF dd mn d (z + 1) fw m
/-- a book as it is asked -/
abbrev cN (σ : Sg) (b : Nat) : Nat := (σ.1 (2 + b)).toNat
abbrev lkB (σ : Sg) (b : Nat) : Int → Int := σ.2 (1 + b)
abbrev mnB (σ : Sg) (b : Nat) : Int → Int := σ.2 (6 + b)
def findB (σ : Sg) (b : Nat) (x : Int) : Int := fnd (mnB σ b) x (cN σ b) 0
def hsAB (σ : Sg) (b : Nat) (L : Int) : Int := hsA (σ.2 0) (lkB σ b) L (cN σ b) 0
def fuB (σ : Sg) (b : Nat) (L : Int) : Int := fuF (σ.2 0) (lkB σ b) (cN σ b) L 4 0
def alC (G lk : Int → Int) : Int → Int → Bool := fun z w => decide (alk G (lk z) (lk w))
def caB (σ : Sg) (b : Nat) : Int := pO (alC (σ.2 0) (lkB σ b)) (cN σ b) 0 0
def sgI (G : Int → Int) (l r x y : Int) : Bool := decide (G x = G y ∨ (G x = G l ∧ G y = G r) ∨ (G x = G r ∧ G y = G l))
def aiC (G lk : Int → Int) (l r : Int) : Int → Int → Bool := fun z w => decide (lk z % 256 = lk w % 256 ∧ sgI G l r (lk z / 256) (lk w / 256) = true)
def cajB (σ : Sg) (b : Nat) (l r : Int) : Int := pO (aiC (σ.2 0) (lkB σ b) l r) (cN σ b) 0 0
def taC (G lk : Int → Int) : Int → Int → Bool := fun z w => decide (lk z / 16 % 4 ≠ lk w / 16 % 4 ∧ dst G (lk z) (lk w) = 1)
def ctB (σ : Sg) (b : Nat) : Int := pO (taC (σ.2 0) (lkB σ b)) (cN σ b) 0 0
def nbB (σ : Sg) (b : Nat) (s L : Int) : Int := nbF (fun z => dst (σ.2 0) L (lkB σ b z)) s (cN σ b) 0 100
def faB (σ : Sg) (b : Nat) : Int := if σ.1 (2 + b) < 2 then 0 else nbF (fun z => nbB σ b z (lkB σ b z)) (-1) (cN σ b) 0 100
def nrC (G lk : Int → Int) (s : Int) : Int → Bool := fun z => decide (z ≠ s ∧ dst G (lk s) (lk z) ≤ 3)
def cnB (σ : Sg) (b : Nat) (s : Int) : Int := cnt (nrC (σ.2 0) (lkB σ b) s) (cN σ b) 0 0
def snB (σ : Sg) (b : Nat) : Int := amF (fun z => cnB σ b z) (cN σ b) 0 (-1) (-1)
def tfB (σ : Sg) (b : Nat) (s : Int) : Int := if σ.1 (2 + b) < 2 then lkB σ b s / 16 % 4 else amF (fun t => nbB σ b s (wth (lkB σ b s) t)) 4 0 0 (-1)
def mrB (σ : Sg) (b : Nat) (L : Int) : Int := mrF (fun z => dst (σ.2 0) L (lkB σ b z)) (mnB σ b) (cN σ b) 0 4 (-1)
def unC (σ : Sg) (b s : Nat) : Int → Bool := fun z => decide (mrB σ b (lkB σ s z) = mnB σ s z)
def cuB (σ : Sg) (b s : Nat) : Int := cnt (unC σ b s) (cN σ s) 0 0
def miC (σ : Sg) (b s : Nat) : Int → Bool := fun z => decide (mrB σ b (lkB σ s z) ≠ -1 ∧ mrB σ b (lkB σ s z) ≠ mnB σ s z)
def cmB (σ : Sg) (b s : Nat) : Int := cnt (miC σ b s) (cN σ s) 0 0
def coC (σ : Sg) (b s : Nat) : Int → Bool := fun z => decide (findB σ s (mnB σ b z) ≠ -1 ∧ mrB σ s (lkB σ b z) = mnB σ b z ∧ mrB σ b (lkB σ s (findB σ s (mnB σ b z))) = mnB σ b z)
def ccB (σ : Sg) (b s : Nat) : Int := cnt (coC σ b s) (cN σ b) 0 0
theorem fnd_rg (mn : Int → Int) (x : Int) : ∀ (d : Nat) (z : Int), fnd mn x d z = -1 ∨ (z ≤ fnd mn x d z ∧ fnd mn x d z < z + d) := by
  intro d
  induction d with
  | zero => intro z; exact Or.inl rfl
  | succ d ih =>
    intro z
    unfold fnd
    split
    · right; omega
    · rcases ih (z + 1) with h | h
      · exact Or.inl h
      · right; omega
theorem cnt_rg (c : Int → Bool) : ∀ (d : Nat) (z a : Int), a ≤ cnt c d z a ∧ cnt c d z a ≤ a + d := by
  intro d
  induction d with
  | zero => intro z a; exact ⟨Int.le_refl _, by simp [cnt]⟩
  | succ d ih =>
    intro z a
    unfold cnt
    have h := ih (z + 1) (if c z = true then a + 1 else a)
    split at h <;> split <;> first | omega | simp_all | (constructor <;> omega)
theorem hsA_01 (G lk : Int → Int) (L : Int) : ∀ (d : Nat) (z : Int), hsA G lk L d z = 0 ∨ hsA G lk L d z = 1 := by
  intro d
  induction d with
  | zero => intro z; exact Or.inl rfl
  | succ d ih =>
    intro z
    unfold hsA
    split
    · exact Or.inr rfl
    · exact ih (z + 1)
theorem fuF_rg (G lk : Int → Int) (n : Nat) {L : Int} (hL : 0 ≤ L ∧ L < 2304) : ∀ (d : Nat) (z : Int), 0 ≤ z → fuF G lk n L d z = -1 ∨ (0 ≤ fuF G lk n L d z ∧ fuF G lk n L d z < 2304) := by
  intro d
  induction d with
  | zero => intro z _; exact Or.inl rfl
  | succ d ih =>
    intro z hz
    unfold fuF
    split
    · right; exact wth_rg (by omega)
    · exact ih (z + 1) (by omega)
theorem nbF_rg (f : Int → Int) (s : Int) {lo hi : Int} : ∀ (d : Nat) (z a : Int), (∀ y : Int, z ≤ y → y < z + d → lo ≤ f y ∧ f y ≤ hi) → lo ≤ a → a ≤ hi → lo ≤ nbF f s d z a ∧ nbF f s d z a ≤ hi := by
  intro d
  induction d with
  | zero => intro z a _ h1 h2; exact ⟨h1, h2⟩
  | succ d ih =>
    intro z a hf h1 h2
    unfold nbF
    have h3 := hf z (by omega) (by omega)
    refine ih (z + 1) _ (fun y hy1 hy2 => hf y (by omega) (by omega)) ?_ ?_ <;> split <;> first | assumption | (split <;> omega)
theorem amF_rg (f : Int → Int) {lo hi : Int} : ∀ (d : Nat) (z fo mo : Int), lo ≤ fo → fo ≤ hi → lo ≤ z → z + d ≤ hi + 1 → lo ≤ amF f d z fo mo ∧ amF f d z fo mo ≤ hi := by
  intro d
  induction d with
  | zero => intro z fo mo h1 h2 _ _; exact ⟨h1, h2⟩
  | succ d ih =>
    intro z fo mo h1 h2 h3 h4
    unfold amF
    split
    · exact ih (z + 1) z _ h3 (by omega) (by omega) (by omega)
    · exact ih (z + 1) fo mo h1 h2 (by omega) (by omega)
theorem mrF_rg (dd mn : Int → Int) : ∀ (d : Nat) (z fw m : Int), (∀ y : Int, z ≤ y → y < z + d → 0 ≤ mn y ∧ mn y < 30) → -1 ≤ m → m < 30 → -1 ≤ mrF dd mn d z fw m ∧ mrF dd mn d z fw m < 30 := by
  intro d
  induction d with
  | zero => intro z fw m _ h1 h2; exact ⟨h1, h2⟩
  | succ d ih =>
    intro z fw m hf h1 h2
    have h3 := hf z (by omega) (by omega)
    unfold mrF
    split
    · exact ih (z + 1) _ _ (fun y hy1 hy2 => hf y (by omega) (by omega)) (by omega) (by omega)
    · split
      · exact ih (z + 1) _ _ (fun y hy1 hy2 => hf y (by omega) (by omega)) (by omega) (by omega)
      · exact ih (z + 1) _ _ (fun y hy1 hy2 => hf y (by omega) (by omega)) h1 h2
theorem findB_rg {σ : Sg} (hI : IC σ) {b : Nat} (hb : b < 5) (x : Int) : findB σ b x = -1 ∨ (0 ≤ findB σ b x ∧ findB σ b x < σ.1 (2 + b)) := by
  have h := hI.2.2.2.1 b hb
  rcases fnd_rg (mnB σ b) x (cN σ b) 0 with q | q
  · exact Or.inl q
  · right
    unfold findB
    have : ((cN σ b : Nat) : Int) = σ.1 (2 + b) := by show ((σ.1 (2 + b)).toNat : Int) = _; omega
    omega
theorem mrB_rg {σ : Sg} (hI : IC σ) {b : Nat} (hb : b < 5) (L : Int) : -1 ≤ mrB σ b L ∧ mrB σ b L < 30 := by
  have h := hI.2.2.2.1 b hb
  refine mrF_rg _ _ (cN σ b) 0 4 (-1) (fun y h1 h2 => ?_) (by omega) (by omega)
  have : ((cN σ b : Nat) : Int) = σ.1 (2 + b) := by show ((σ.1 (2 + b)).toNat : Int) = _; omega
  exact hI.2.2.2.2.2 b hb y h1 (by omega)
theorem nbB_rg {σ : Sg} (hI : IC σ) {b : Nat} (hb : b < 5) (s : Int) {L : Int} (hL : 0 ≤ L ∧ L < 2304) : 0 ≤ nbB σ b s L ∧ nbB σ b s L ≤ 100 := by
  have h := hI.2.2.2.1 b hb
  refine nbF_rg _ s (cN σ b) 0 100 (fun y h1 h2 => ?_) (by omega) (by omega)
  have : ((cN σ b : Nat) : Int) = σ.1 (2 + b) := by show ((σ.1 (2 + b)).toNat : Int) = _; omega
  have h3 := hI.2.2.2.2.1 b hb y h1 (by omega)
  have h4 := dst_rg (G := σ.2 0) (x := L) (y := lkB σ b y) ⟨hL.1, hL.2, h3.1, h3.2⟩
  show 0 ≤ dst (σ.2 0) L (lkB σ b y) ∧ dst (σ.2 0) L (lkB σ b y) ≤ 100
  omega
theorem cN_eq {σ : Sg} (hI : IC σ) {b : Nat} (hb : b < 5) : ((cN σ b : Nat) : Int) = σ.1 (2 + b) := by
  have h := hI.2.2.2.1 b hb
  show ((σ.1 (2 + b)).toNat : Int) = _
  omega
theorem cnt0_rg (c : Int → Bool) {σ : Sg} (hI : IC σ) {b : Nat} (hb : b < 5) : 0 ≤ cnt c (cN σ b) 0 0 ∧ cnt c (cN σ b) 0 0 ≤ 16 := by
  have h := cnt_rg c (cN σ b) 0 0
  have h2 := cN_eq hI hb
  have h3 := hI.2.2.2.1 b hb
  omega
theorem j_ifb_eq {mc : MC} {g : GG} {k n : Nat} {Q : State → Prop} {pc : Nat} {lv : List (Nat × Value)} {st : List Value} {σ : Sg} {cc : ByteArray} {own : String} {nL : Nat} {ret : Option FieldType} {c : Prop} {dc : Decidable c} (hC : Cx mc g cc own nL ret) {off : Int} {tgt : Nat} (hd : decode cc pc = .ok (.ifCond .eq off, 3)) (ht : (pc : Int) + off = (tgt : Int)) (kt : ¬ c → J mc g k n Q tgt lv st σ) (kf : c → J mc g k n Q (pc + 3) lv st σ) : J mc g k n Q pc lv (vI (@ite Int c dc 1 0) :: st) σ := by
  by_cases h : c
  · rw [if_pos h]
    exact j_if_eq (tgt := tgt) hC hd ht (by omega) (fun q => absurd q (by decide)) (fun _ => kf h)
  · rw [if_neg h]
    exact j_if_eq (tgt := tgt) hC hd ht (by omega) (fun _ => kt h) (fun q => absurd rfl q)
theorem j_ifb_ne {mc : MC} {g : GG} {k n : Nat} {Q : State → Prop} {pc : Nat} {lv : List (Nat × Value)} {st : List Value} {σ : Sg} {cc : ByteArray} {own : String} {nL : Nat} {ret : Option FieldType} {c : Prop} {dc : Decidable c} (hC : Cx mc g cc own nL ret) {off : Int} {tgt : Nat} (hd : decode cc pc = .ok (.ifCond .ne off, 3)) (ht : (pc : Int) + off = (tgt : Int)) (kt : c → J mc g k n Q tgt lv st σ) (kf : ¬ c → J mc g k n Q (pc + 3) lv st σ) : J mc g k n Q pc lv (vI (@ite Int c dc 1 0) :: st) σ := by
  by_cases h : c
  · rw [if_pos h]
    exact j_if_ne (tgt := tgt) hC hd ht (by omega) (fun _ => kt h) (fun q => absurd q (by decide))
  · rw [if_neg h]
    exact j_if_ne (tgt := tgt) hC hd ht (by omega) (fun q => absurd rfl q) (fun _ => kf h)
end
section
set_option maxHeartbeats 4000000 in
set_option maxRecDepth 100000 in
theorem lp_find {mc : MC} {g : GG} {σ : Sg} (hC : Cx mc g cX0_find RX0 3 (some .int)) (hR : mR mc = rmJ 0 0 0 0) (hI : IC σ) {b : Nat} (hb : b < 5) (x : Int) (hx : -2147483648 ≤ x ∧ x < 2147483648) : ∀ (d : Nat) (z : Int), (0 ≤ z) → (z + (d : Int) = σ.1 (2 + b)) → J mc g 0 0 (QN mc g (pt (some (vI (fnd (mnB σ b) x d z))) (σ)) 0 0) 2 [(2, vI (z)), (0, .ref (gd g (4 + b))), (1, vI (x))] [] σ := by
  intro d
  induction d with
  | zero =>
    intro z h0 hz
    have hn := hI.2.2.2.1 b hb
    refine j_iload_n hC dX0_find_2 0 rfl ?_
    refine j_aload_n hC dX0_find_3 1 rfl ?_
    refine j_get hC inX0 rfl (4 + b) (hw_bk g _ hb) 3 (by decide) wd50 rfl dX0_find_4 ?_
    refine j_icmp_ge (tgt := 28) hC dX0_find_7 (by decide) (by omega) (fun _ => ?_) (fun h => absurd h (by omega))
    refine j_iconst hC dX0_find_28 ?_
    exact j_iret hC dX0_find_29 ⟨rfl, rfl⟩
  | succ d ih =>
    intro z h0 hz
    have hn := hI.2.2.2.1 b hb
    have hm := hI.2.2.2.2.2 b hb z (by omega) (by omega)
    rw [show fnd (mnB σ b) x (d + 1) z = if mnB σ b z = x then z else fnd (mnB σ b) x d (z + 1) from rfl]
    refine j_iload_n hC dX0_find_2 0 rfl ?_
    refine j_aload_n hC dX0_find_3 1 rfl ?_
    refine j_get hC inX0 rfl (4 + b) (hw_bk g _ hb) 3 (by decide) wd50 rfl dX0_find_4 ?_
    refine j_icmp_ge (tgt := 28) hC dX0_find_7 (by decide) (by omega) (fun h => absurd h (by omega)) (fun _ => ?_)
    refine j_aload_n hC dX0_find_10 1 rfl ?_
    refine j_get hC inX0 rfl (4 + b) (hw_bk g _ hb) 2 (by decide) wd48 rfl dX0_find_11 ?_
    refine j_iload_n hC dX0_find_14 0 rfl ?_
    refine j_iald hC (14 + b) (hw_mn g _ hb) (by omega) dX0_find_15 ?_
    refine j_iload_n hC dX0_find_16 2 rfl ?_
    refine j_icmp_ne (tgt := 22) hC dX0_find_17 (by decide) (by omega) (fun h17 => ?_) (fun h17 => ?_)
    · refine j_iinc hC dX0_find_22 0 [(2, vI (z + 1)), (0, .ref (gd g (4 + b))), (1, vI (x))] rfl (by decide) rfl ?_
      refine j_goto (tgt := 2) hC dX0_find_25 (by decide) ?_
      refine j_sub [0, 1, 2] rfl ?_
      rw [if_neg h17]
      exact ih (z + 1) (by omega) (by omega)
    · refine j_iload_n hC dX0_find_20 0 rfl ?_
      exact j_iret hC dX0_find_21 ⟨by rw [if_pos h17], rfl⟩
set_option maxHeartbeats 4000000 in
set_option maxRecDepth 100000 in
theorem c_X0_find {l : Launch} (hl : l.stackTraces = false) (g : GG) (σ : Sg) (hI : IC σ) {b : Nat} (hb : b < 5) (x : Int) (hx : -2147483648 ≤ x ∧ x < 2147483648) : CN l yX0_find cX0_find 3 (some .int) 0 0 0 0 g [.ref (gd g (4 + b)), vI (x)] σ (pt (some (vI (findB σ b x))) (σ)) := by
  refine CN_of (own := RX0) hl (by decide) rfl (Nat.le_of_ble_eq_true rfl) (fun mc hC _ hR => ?_)
  refine j_lv (lv2 := [(0, .ref (gd g (4 + b))), (1, vI (x))]) rfl ?_
  have hn2 := cN_eq hI hb
  refine j_iconst hC dX0_find_0 ?_
  refine j_istore_n hC dX0_find_1 [(2, vI (0)), (0, .ref (gd g (4 + b))), (1, vI (x))] (by decide) rfl ?_
  refine j_sub [0, 1, 2] rfl ?_
  exact lp_find hC hR hI hb x hx (cN σ b) 0 (by omega) (by omega)
set_option maxHeartbeats 4000000 in
set_option maxRecDepth 100000 in
theorem c_X0_hasRoomFor {l : Launch} (hl : l.stackTraces = false) (g : GG) (σ : Sg) (hI : IC σ) {b : Nat} (hb : b < 5) (x : Int) (hx : -2147483648 ≤ x ∧ x < 2147483648) : CN l yX0_hasRoomFor cX0_hasRoomFor 2 (some .boolean) 1 22 0 0 g [.ref (gd g (4 + b)), vI (x)] σ (pt (some (vI (if σ.1 (2 + b) < 16 ∧ findB σ b x = -1 then 1 else 0))) (σ)) := by
  refine CN_of (own := RX0) hl (by decide) rfl (Nat.le_of_ble_eq_true rfl) (fun mc hC _ hR => ?_)
  refine j_lv (lv2 := [(0, .ref (gd g (4 + b))), (1, vI (x))]) rfl ?_
  have hn := hI.2.2.2.1 b hb
  refine j_aload_n hC dX0_hasRoomFor_0 0 rfl ?_
  refine j_get hC inX0 rfl (4 + b) (hw_bk g _ hb) 3 (by decide) wd50 rfl dX0_hasRoomFor_1 ?_
  refine j_bipush hC dX0_hasRoomFor_4 (by decide) ?_
  refine j_icmp_ge (tgt := 22) hC dX0_hasRoomFor_6 (by decide) (by omega) (fun h6 => ?_) (fun h6 => ?_)
  · refine j_iconst hC dX0_hasRoomFor_22 ?_
    exact j_zret hC (by decide) dX0_hasRoomFor_23 (by first | (rw [if_pos ⟨h6, h15⟩]; exact ⟨rfl, rfl⟩) | (rw [if_neg (fun z => h15 z.2)]; exact ⟨rfl, rfl⟩) | (rw [if_neg (fun z => by omega)]; exact ⟨rfl, rfl⟩))
  · refine j_aload_n hC dX0_hasRoomFor_9 0 rfl ?_
    refine j_iload_n hC dX0_hasRoomFor_10 1 rfl ?_
    refine j_callV1 (ar := 1) hC hR (c_X0_find (hlJ hC) g σ hI hb x (by omega)) [] rfl (4 + b) (hw_bk g _ hb) rfl rfl (by decide) (by decide +kernel) rfl wd265 wd267 wp17 wd3 wd268 (by decide) (Nat.le_of_ble_eq_true rfl) dX0_hasRoomFor_11 ?_
    have hf11 := findB_rg hI hb x
    refine j_iconst hC dX0_hasRoomFor_14 ?_
    refine j_icmp_ne (tgt := 22) hC dX0_hasRoomFor_15 (by decide) (by omega) (fun h15 => ?_) (fun h15 => ?_)
    · refine j_iconst hC dX0_hasRoomFor_22 ?_
      exact j_zret hC (by decide) dX0_hasRoomFor_23 (by first | (rw [if_pos ⟨h6, h15⟩]; exact ⟨rfl, rfl⟩) | (rw [if_neg (fun z => h15 z.2)]; exact ⟨rfl, rfl⟩) | (rw [if_neg (fun z => by omega)]; exact ⟨rfl, rfl⟩))
    · refine j_iconst hC dX0_hasRoomFor_18 ?_
      refine j_goto (tgt := 23) hC dX0_hasRoomFor_19 (by decide) ?_
      exact j_zret hC (by decide) dX0_hasRoomFor_23 (by first | (rw [if_pos ⟨h6, h15⟩]; exact ⟨rfl, rfl⟩) | (rw [if_neg (fun z => h15 z.2)]; exact ⟨rfl, rfl⟩) | (rw [if_neg (fun z => by omega)]; exact ⟨rfl, rfl⟩))
set_option maxHeartbeats 4000000 in
set_option maxRecDepth 100000 in
theorem lp_hasAlike {mc : MC} {g : GG} {σ : Sg} (hC : Cx mc g cX0_hasAlike RX0 3 (some .boolean)) (hR : mR mc = rmJ 2 44 0 0) (hI : IC σ) {b : Nat} (hb : b < 5) (x : Int) (hx : 0 ≤ x ∧ x < 2304) : ∀ (d : Nat) (z : Int), (0 ≤ z) → (z + (d : Int) = σ.1 (2 + b)) → J mc g 0 0 (QN mc g (pt (some (vI (hsA (σ.2 0) (lkB σ b) x d z))) (σ)) 0 0) 2 [(2, vI (z)), (0, .ref (gd g (4 + b))), (1, vI (x))] [] σ := by
  intro d
  induction d with
  | zero =>
    intro z h0 hz
    have hn := hI.2.2.2.1 b hb
    refine j_iload_n hC dX0_hasAlike_2 0 rfl ?_
    refine j_aload_n hC dX0_hasAlike_3 1 rfl ?_
    refine j_get hC inX0 rfl (4 + b) (hw_bk g _ hb) 3 (by decide) wd50 rfl dX0_hasAlike_4 ?_
    refine j_icmp_ge (tgt := 35) hC dX0_hasAlike_7 (by decide) (by omega) (fun _ => ?_) (fun h => absurd h (by omega))
    refine j_iconst hC dX0_hasAlike_35 ?_
    exact j_zret hC (by decide) dX0_hasAlike_36 ⟨rfl, rfl⟩
  | succ d ih =>
    intro z h0 hz
    have hn := hI.2.2.2.1 b hb
    have hk := hI.2.2.2.2.1 b hb z (by omega) (by omega)
    rw [show hsA (σ.2 0) (lkB σ b) x (d + 1) z = if alk (σ.2 0) x (lkB σ b z) then 1 else hsA (σ.2 0) (lkB σ b) x d (z + 1) from rfl]
    refine j_iload_n hC dX0_hasAlike_2 0 rfl ?_
    refine j_aload_n hC dX0_hasAlike_3 1 rfl ?_
    refine j_get hC inX0 rfl (4 + b) (hw_bk g _ hb) 3 (by decide) wd50 rfl dX0_hasAlike_4 ?_
    refine j_icmp_ge (tgt := 35) hC dX0_hasAlike_7 (by decide) (by omega) (fun h => absurd h (by omega)) (fun _ => ?_)
    refine j_aload_n hC dX0_hasAlike_10 1 rfl ?_
    refine j_get hC inX0 rfl (4 + b) (hw_bk g _ hb) 0 (by decide) wd45 rfl dX0_hasAlike_11 ?_
    refine j_iload_n hC dX0_hasAlike_14 2 rfl ?_
    refine j_aload_n hC dX0_hasAlike_15 1 rfl ?_
    refine j_get hC inX0 rfl (4 + b) (hw_bk g _ hb) 1 (by decide) wd46 rfl dX0_hasAlike_16 ?_
    refine j_iload_n hC dX0_hasAlike_19 0 rfl ?_
    refine j_iald hC (9 + b) (hw_lk g _ hb) (by omega) dX0_hasAlike_20 ?_
    refine j_callVN1 (ar := 2) hC hR (c_X2_alike (hlJ hC) g σ hI x ((σ).2 (1 + b) z) (by omega)) [] rfl 1 rfl rfl rfl (by decide) (by decide +kernel) rfl wd102 wd104 wp1 wd2 wd105 (by decide) (Nat.le_of_ble_eq_true rfl) dX0_hasAlike_21 ?_
    refine j_ifb_eq (tgt := 29) hC dX0_hasAlike_24 (by decide) (fun h24 => ?_) (fun h24 => ?_)
    · refine j_iinc hC dX0_hasAlike_29 0 [(2, vI (z + 1)), (0, .ref (gd g (4 + b))), (1, vI (x))] rfl (by decide) rfl ?_
      refine j_goto (tgt := 2) hC dX0_hasAlike_32 (by decide) ?_
      refine j_sub [0, 1, 2] rfl ?_
      rw [if_neg h24]
      exact ih (z + 1) (by omega) (by omega)
    · refine j_iconst hC dX0_hasAlike_27 ?_
      exact j_zret hC (by decide) dX0_hasAlike_28 ⟨by rw [if_pos h24], rfl⟩
set_option maxHeartbeats 4000000 in
set_option maxRecDepth 100000 in
theorem c_X0_hasAlike {l : Launch} (hl : l.stackTraces = false) (g : GG) (σ : Sg) (hI : IC σ) {b : Nat} (hb : b < 5) (x : Int) (hx : 0 ≤ x ∧ x < 2304) : CN l yX0_hasAlike cX0_hasAlike 3 (some .boolean) 2 44 0 0 g [.ref (gd g (4 + b)), vI (x)] σ (pt (some (vI (hsAB σ b x))) (σ)) := by
  refine CN_of (own := RX0) hl (by decide) rfl (Nat.le_of_ble_eq_true rfl) (fun mc hC _ hR => ?_)
  refine j_lv (lv2 := [(0, .ref (gd g (4 + b))), (1, vI (x))]) rfl ?_
  have hn2 := cN_eq hI hb
  refine j_iconst hC dX0_hasAlike_0 ?_
  refine j_istore_n hC dX0_hasAlike_1 [(2, vI (0)), (0, .ref (gd g (4 + b))), (1, vI (x))] (by decide) rfl ?_
  refine j_sub [0, 1, 2] rfl ?_
  exact lp_hasAlike hC hR hI hb x hx (cN σ b) 0 (by omega) (by omega)
set_option maxHeartbeats 4000000 in
set_option maxRecDepth 100000 in
theorem lp_firstUnlike {mc : MC} {g : GG} {σ : Sg} (hC : Cx mc g cX0_firstUnlike RX0 5 (some .int)) (hR : mR mc = rmJ 3 66 0 0) (hI : IC σ) {b : Nat} (hb : b < 5) (x : Int) (hx : 0 ≤ x ∧ x < 2304) : ∀ (d : Nat) (z : Int), (0 ≤ z) → (z + (d : Int) = 4) → J mc g 0 0 (QN mc g (pt (some (vI (fuF (σ.2 0) (lkB σ b) (cN σ b) x d z))) (σ)) 0 0) 7 [(3, vI (z)), (0, .ref (gd g (4 + b))), (1, vI (x)), (2, vI (x / 16 % 4))] [] σ := by
  intro d
  induction d with
  | zero =>
    intro z h0 hz
    refine j_iload_n hC dX0_firstUnlike_7 0 rfl ?_
    refine j_iconst hC dX0_firstUnlike_8 ?_
    refine j_icmp_ge (tgt := 41) hC dX0_firstUnlike_9 (by decide) (by omega) (fun _ => ?_) (fun h => absurd h (by omega))
    refine j_iconst hC dX0_firstUnlike_41 ?_
    exact j_iret hC dX0_firstUnlike_42 ⟨rfl, rfl⟩
  | succ d ih =>
    intro z h0 hz
    rw [show fuF (σ.2 0) (lkB σ b) (cN σ b) x (d + 1) z = if hsAB σ b (wth x ((x / 16 % 4 + z) % 4)) = 0 then wth x ((x / 16 % 4 + z) % 4) else fuF (σ.2 0) (lkB σ b) (cN σ b) x d (z + 1) from rfl]
    have hw := wth_rg (L := x) (t := (x / 16 % 4 + z) % 4) (by omega)
    refine j_iload_n hC dX0_firstUnlike_7 0 rfl ?_
    refine j_iconst hC dX0_firstUnlike_8 ?_
    refine j_icmp_ge (tgt := 41) hC dX0_firstUnlike_9 (by decide) (by omega) (fun h => absurd h (by omega)) (fun _ => ?_)
    refine j_iload_n hC dX0_firstUnlike_12 2 rfl ?_
    refine j_iload_n hC dX0_firstUnlike_13 3 rfl ?_
    refine j_iload_n hC dX0_firstUnlike_14 0 rfl ?_
    refine j_iadd hC dX0_firstUnlike_15 ?_
    refine j_iconst hC dX0_firstUnlike_16 ?_
    refine j_irem hC dX0_firstUnlike_17 (by omega) ?_
    refine j_callSN1 (ar := 2) hC hR (c_X1_withThumb (hlJ hC) g σ x (((x / 16 % 4) + z) % 4) (by omega)) [] rfl (by decide) (by decide +kernel) rfl wd273 wd274 wd11 wd275 (by decide) (Nat.le_of_ble_eq_true rfl) dX0_firstUnlike_18 ?_
    refine j_istore hC dX0_firstUnlike_21 [(4, vI (wth x (((x / 16 % 4) + z) % 4))), (3, vI (z)), (0, .ref (gd g (4 + b))), (1, vI (x)), (2, vI (x / 16 % 4))] (by decide) rfl ?_
    refine j_aload_n hC dX0_firstUnlike_23 2 rfl ?_
    refine j_iload hC dX0_firstUnlike_24 0 rfl ?_
    refine j_callV1 (ar := 1) hC hR (c_X0_hasAlike (hlJ hC) g σ hI hb (wth x (((x / 16 % 4) + z) % 4)) (by omega)) [] rfl (4 + b) (hw_bk g _ hb) rfl rfl (by decide) (by decide +kernel) rfl wd276 wd278 wp19 wd3 wd279 (by decide) (Nat.le_of_ble_eq_true rfl) dX0_firstUnlike_26 ?_
    have hf26 : hsAB σ b (wth x (((x / 16 % 4) + z) % 4)) = 0 ∨ hsAB σ b (wth x (((x / 16 % 4) + z) % 4)) = 1 := hsA_01 _ _ _ _ _
    refine j_if_ne (tgt := 35) hC dX0_firstUnlike_29 (by decide) (by omega) (fun h29 => ?_) (fun h29 => ?_)
    · refine j_iinc hC dX0_firstUnlike_35 1 [(3, vI (z + 1)), (4, vI (wth x (((x / 16 % 4) + z) % 4))), (0, .ref (gd g (4 + b))), (1, vI (x)), (2, vI (x / 16 % 4))] rfl (by decide) rfl ?_
      refine j_goto (tgt := 7) hC dX0_firstUnlike_38 (by decide) ?_
      refine j_sub [0, 2, 3, 4] rfl ?_
      rw [if_neg h29]
      exact ih (z + 1) (by omega) (by omega)
    · refine j_iload hC dX0_firstUnlike_32 0 rfl ?_
      exact j_iret hC dX0_firstUnlike_34 ⟨by rw [if_pos h29], rfl⟩
set_option maxHeartbeats 4000000 in
set_option maxRecDepth 100000 in
theorem c_X0_firstUnlike {l : Launch} (hl : l.stackTraces = false) (g : GG) (σ : Sg) (hI : IC σ) {b : Nat} (hb : b < 5) (x : Int) (hx : 0 ≤ x ∧ x < 2304) : CN l yX0_firstUnlike cX0_firstUnlike 5 (some .int) 3 66 0 0 g [.ref (gd g (4 + b)), vI (x)] σ (pt (some (vI (fuB σ b x))) (σ)) := by
  refine CN_of (own := RX0) hl (by decide) rfl (Nat.le_of_ble_eq_true rfl) (fun mc hC _ hR => ?_)
  refine j_lv (lv2 := [(0, .ref (gd g (4 + b))), (1, vI (x))]) rfl ?_
  refine j_iload_n hC dX0_firstUnlike_0 1 rfl ?_
  refine j_callSN1 (ar := 1) hC hR (c_X1_thumb (hlJ hC) g σ x (by omega)) [] rfl (by decide) (by decide +kernel) rfl wd120 wd121 wd11 wd122 (by decide) (Nat.le_of_ble_eq_true rfl) dX0_firstUnlike_1 ?_
  refine j_istore_n hC dX0_firstUnlike_4 [(2, vI (x / 16 % 4)), (0, .ref (gd g (4 + b))), (1, vI (x))] (by decide) rfl ?_
  refine j_iconst hC dX0_firstUnlike_5 ?_
  refine j_istore_n hC dX0_firstUnlike_6 [(3, vI (0)), (2, vI (x / 16 % 4)), (0, .ref (gd g (4 + b))), (1, vI (x))] (by decide) rfl ?_
  refine j_sub [0, 2, 3, 1] rfl ?_
  exact lp_firstUnlike hC hR hI hb x hx 4 0 (by omega) (by omega)
set_option maxHeartbeats 4000000 in
set_option maxRecDepth 100000 in
theorem lp_countAlike_i {mc : MC} {g : GG} {σ : Sg} {Q : State → Prop} (hC : Cx mc g cX0_countAlike RX0 4 (some .int)) (hR : mR mc = rmJ 2 44 0 0) (hI : IC σ) {b : Nat} (hb : b < 5) (z : Int) (hz0 : 0 ≤ z ∧ z < σ.1 (2 + b)) : ∀ (d : Nat) (w : Int) (a : Int), (0 ≤ w) → (w + (d : Int) = σ.1 (2 + b)) → (J mc g 0 0 Q 55 [(1, vI (cnt (alC (σ.2 0) (lkB σ b) z) d w a)), (2, vI (z)), (0, .ref (gd g (4 + b)))] [] σ) → J mc g 0 0 Q 16 [(3, vI (w)), (1, vI (a)), (2, vI (z)), (0, .ref (gd g (4 + b)))] [] σ := by
  intro d
  induction d with
  | zero =>
    intro w a h0 hw kx
    have hn := hI.2.2.2.1 b hb
    refine j_iload_n hC dX0_countAlike_16 0 rfl ?_
    refine j_aload_n hC dX0_countAlike_17 3 rfl ?_
    refine j_get hC inX0 rfl (4 + b) (hw_bk g _ hb) 3 (by decide) wd50 rfl dX0_countAlike_18 ?_
    refine j_icmp_ge (tgt := 55) hC dX0_countAlike_21 (by decide) (by omega) (fun _ => ?_) (fun h => absurd h (by omega))
    refine j_sub [1, 2, 3] rfl ?_
    exact kx
  | succ d ih =>
    intro w a h0 hw kx
    have hn := hI.2.2.2.1 b hb
    have hk1 := hI.2.2.2.2.1 b hb z (by omega) (by omega)
    have hk2 := hI.2.2.2.2.1 b hb w (by omega) (by omega)
    rw [show cnt (alC (σ.2 0) (lkB σ b) z) (d + 1) w a = cnt (alC (σ.2 0) (lkB σ b) z) d (w + 1) (if alC (σ.2 0) (lkB σ b) z w = true then a + 1 else a) from rfl] at kx
    refine j_iload_n hC dX0_countAlike_16 0 rfl ?_
    refine j_aload_n hC dX0_countAlike_17 3 rfl ?_
    refine j_get hC inX0 rfl (4 + b) (hw_bk g _ hb) 3 (by decide) wd50 rfl dX0_countAlike_18 ?_
    refine j_icmp_ge (tgt := 55) hC dX0_countAlike_21 (by decide) (by omega) (fun h => absurd h (by omega)) (fun _ => ?_)
    refine j_aload_n hC dX0_countAlike_24 3 rfl ?_
    refine j_get hC inX0 rfl (4 + b) (hw_bk g _ hb) 0 (by decide) wd45 rfl dX0_countAlike_25 ?_
    refine j_aload_n hC dX0_countAlike_28 3 rfl ?_
    refine j_get hC inX0 rfl (4 + b) (hw_bk g _ hb) 1 (by decide) wd46 rfl dX0_countAlike_29 ?_
    refine j_iload_n hC dX0_countAlike_32 2 rfl ?_
    refine j_iald hC (9 + b) (hw_lk g _ hb) (by omega) dX0_countAlike_33 ?_
    refine j_aload_n hC dX0_countAlike_34 3 rfl ?_
    refine j_get hC inX0 rfl (4 + b) (hw_bk g _ hb) 1 (by decide) wd46 rfl dX0_countAlike_35 ?_
    refine j_iload_n hC dX0_countAlike_38 0 rfl ?_
    refine j_iald hC (9 + b) (hw_lk g _ hb) (by omega) dX0_countAlike_39 ?_
    refine j_callVN1 (ar := 2) hC hR (c_X2_alike (hlJ hC) g σ hI ((σ).2 (1 + b) z) ((σ).2 (1 + b) w) (by omega)) [] rfl 1 rfl rfl rfl (by decide) (by decide +kernel) rfl wd102 wd104 wp1 wd2 wd105 (by decide) (Nat.le_of_ble_eq_true rfl) dX0_countAlike_40 ?_
    refine j_ifb_eq (tgt := 49) hC dX0_countAlike_43 (by decide) (fun h43 => ?_) (fun h43 => ?_)
    · refine j_iinc hC dX0_countAlike_49 0 [(3, vI (w + 1)), (1, vI (a)), (2, vI (z)), (0, .ref (gd g (4 + b)))] rfl (by decide) rfl ?_
      refine j_goto (tgt := 16) hC dX0_countAlike_52 (by decide) ?_
      refine j_sub [0, 1, 2, 3] rfl ?_
      first | (rw [if_pos (show alC (σ.2 0) (lkB σ b) z w = true from decide_eq_true h43)] at kx; exact ih (w + 1) (a + 1) (by omega) (by omega) kx) | (rw [if_neg (show ¬ (alC (σ.2 0) (lkB σ b) z w = true) from fun q => h43 (of_decide_eq_true q))] at kx; exact ih (w + 1) a (by omega) (by omega) kx)
    · refine j_iinc hC dX0_countAlike_46 1 [(1, vI (a + 1)), (3, vI (w)), (2, vI (z)), (0, .ref (gd g (4 + b)))] rfl (by decide) rfl ?_
      refine j_iinc hC dX0_countAlike_49 1 [(3, vI (w + 1)), (1, vI (a + 1)), (2, vI (z)), (0, .ref (gd g (4 + b)))] rfl (by decide) rfl ?_
      refine j_goto (tgt := 16) hC dX0_countAlike_52 (by decide) ?_
      refine j_sub [0, 1, 2, 3] rfl ?_
      first | (rw [if_pos (show alC (σ.2 0) (lkB σ b) z w = true from decide_eq_true h43)] at kx; exact ih (w + 1) (a + 1) (by omega) (by omega) kx) | (rw [if_neg (show ¬ (alC (σ.2 0) (lkB σ b) z w = true) from fun q => h43 (of_decide_eq_true q))] at kx; exact ih (w + 1) a (by omega) (by omega) kx)
set_option maxHeartbeats 4000000 in
set_option maxRecDepth 100000 in
theorem lp_countAlike_o {mc : MC} {g : GG} {σ : Sg} (hC : Cx mc g cX0_countAlike RX0 4 (some .int)) (hR : mR mc = rmJ 2 44 0 0) (hI : IC σ) {b : Nat} (hb : b < 5) : ∀ (d : Nat) (z : Int) (a : Int), (0 ≤ z) → (z + (d : Int) = σ.1 (2 + b)) → J mc g 0 0 (QN mc g (pt (some (vI (pO (alC (σ.2 0) (lkB σ b)) d z a))) (σ)) 0 0) 4 [(1, vI (a)), (2, vI (z)), (0, .ref (gd g (4 + b)))] [] σ := by
  intro d
  induction d with
  | zero =>
    intro z a h0 hz
    have hn := hI.2.2.2.1 b hb
    refine j_iload_n hC dX0_countAlike_4 1 rfl ?_
    refine j_aload_n hC dX0_countAlike_5 2 rfl ?_
    refine j_get hC inX0 rfl (4 + b) (hw_bk g _ hb) 3 (by decide) wd50 rfl dX0_countAlike_6 ?_
    refine j_icmp_ge (tgt := 61) hC dX0_countAlike_9 (by decide) (by omega) (fun _ => ?_) (fun h => absurd h (by omega))
    refine j_iload_n hC dX0_countAlike_61 0 rfl ?_
    exact j_iret hC dX0_countAlike_62 ⟨rfl, rfl⟩
  | succ d ih =>
    intro z a h0 hz
    have hn := hI.2.2.2.1 b hb
    rw [show pO (alC (σ.2 0) (lkB σ b)) (d + 1) z a = pO (alC (σ.2 0) (lkB σ b)) d (z + 1) (cnt (alC (σ.2 0) (lkB σ b) z) d (z + 1) a) from rfl]
    refine j_iload_n hC dX0_countAlike_4 1 rfl ?_
    refine j_aload_n hC dX0_countAlike_5 2 rfl ?_
    refine j_get hC inX0 rfl (4 + b) (hw_bk g _ hb) 3 (by decide) wd50 rfl dX0_countAlike_6 ?_
    refine j_icmp_ge (tgt := 61) hC dX0_countAlike_9 (by decide) (by omega) (fun h => absurd h (by omega)) (fun _ => ?_)
    refine j_iload_n hC dX0_countAlike_12 1 rfl ?_
    refine j_iconst hC dX0_countAlike_13 ?_
    refine j_iadd hC dX0_countAlike_14 ?_
    refine j_istore_n hC dX0_countAlike_15 [(3, vI (z + 1)), (1, vI (a)), (2, vI (z)), (0, .ref (gd g (4 + b)))] (by decide) rfl ?_
    refine j_sub [0, 1, 2, 3] rfl ?_
    refine lp_countAlike_i hC hR hI hb z (by omega) d (z + 1) a (by omega) (by omega) ?_
    refine j_iinc hC dX0_countAlike_55 1 [(2, vI (z + 1)), (1, vI (cnt (alC (σ.2 0) (lkB σ b) z) d (z + 1) a)), (0, .ref (gd g (4 + b)))] rfl (by decide) rfl ?_
    refine j_goto (tgt := 4) hC dX0_countAlike_58 (by decide) ?_
    refine j_sub [1, 0, 2] rfl ?_
    exact ih (z + 1) _ (by omega) (by omega)
set_option maxHeartbeats 4000000 in
set_option maxRecDepth 100000 in
theorem c_X0_countAlike {l : Launch} (hl : l.stackTraces = false) (g : GG) (σ : Sg) (hI : IC σ) {b : Nat} (hb : b < 5) : CN l yX0_countAlike cX0_countAlike 4 (some .int) 2 44 0 0 g [.ref (gd g (4 + b))] σ (pt (some (vI (caB σ b))) (σ)) := by
  refine CN_of (own := RX0) hl (by decide) rfl (Nat.le_of_ble_eq_true rfl) (fun mc hC _ hR => ?_)
  refine j_lv (lv2 := [(0, .ref (gd g (4 + b)))]) rfl ?_
  have hn2 := cN_eq hI hb
  refine j_iconst hC dX0_countAlike_0 ?_
  refine j_istore_n hC dX0_countAlike_1 [(1, vI (0)), (0, .ref (gd g (4 + b)))] (by decide) rfl ?_
  refine j_iconst hC dX0_countAlike_2 ?_
  refine j_istore_n hC dX0_countAlike_3 [(2, vI (0)), (1, vI (0)), (0, .ref (gd g (4 + b)))] (by decide) rfl ?_
  refine j_sub [1, 0, 2] rfl ?_
  exact lp_countAlike_o hC hR hI hb (cN σ b) 0 0 (by omega) (by omega)
set_option maxHeartbeats 4000000 in
set_option maxRecDepth 100000 in
theorem c_X2_sameGroupIf {l : Launch} (hl : l.stackTraces = false) (g : GG) (σ : Sg) (hI : IC σ) (u v a b : Int) (hx : 0 ≤ u ∧ u < 9 ∧ 0 ≤ v ∧ v < 9 ∧ 0 ≤ a ∧ a < 9 ∧ 0 ≤ b ∧ b < 9) : CN l yX2_sameGroupIf cX2_sameGroupIf 5 (some .boolean) 1 22 0 0 g [.ref (gd g (1)), vI (u), vI (v), vI (a), vI (b)] σ (pt (some (vI (if sgI (σ.2 0) u v a b = true then 1 else 0))) (σ)) := by
  refine CN_of (own := RX2) hl (by decide) rfl (Nat.le_of_ble_eq_true rfl) (fun mc hC _ hR => ?_)
  refine j_lv (lv2 := [(0, .ref (gd g (1))), (1, vI (u)), (2, vI (v)), (3, vI (a)), (4, vI (b))]) rfl ?_
  refine j_aload_n hC dX2_sameGroupIf_0 0 rfl ?_
  refine j_iload_n hC dX2_sameGroupIf_1 3 rfl ?_
  refine j_iload hC dX2_sameGroupIf_2 4 rfl ?_
  refine j_callV1 (ar := 2) hC hR (c_X2_sameGroup (hlJ hC) g σ hI a b (by omega)) [] rfl 1 rfl rfl rfl (by decide) (by decide +kernel) rfl wd112 wd114 wp2 wd2 wd115 (by decide) (Nat.le_of_ble_eq_true rfl) dX2_sameGroupIf_4 ?_
  refine j_ifb_ne (tgt := 48) hC dX2_sameGroupIf_7 (by decide) (fun h7 => ?_) (fun h7 => ?_)
  · refine j_iconst hC dX2_sameGroupIf_48 ?_
    refine j_goto (tgt := 53) hC dX2_sameGroupIf_49 (by decide) ?_
    exact j_zret hC (by decide) dX2_sameGroupIf_53 (by refine ⟨?_, rfl⟩; simp only [sgI, decide_eq_true_eq]; first | rw [if_pos (by omega)] | rw [if_neg (by omega)])
  · refine j_aload_n hC dX2_sameGroupIf_10 0 rfl ?_
    refine j_iload_n hC dX2_sameGroupIf_11 3 rfl ?_
    refine j_iload_n hC dX2_sameGroupIf_12 1 rfl ?_
    refine j_callV1 (ar := 2) hC hR (c_X2_sameGroup (hlJ hC) g σ hI a u (by omega)) [] rfl 1 rfl rfl rfl (by decide) (by decide +kernel) rfl wd112 wd114 wp2 wd2 wd115 (by decide) (Nat.le_of_ble_eq_true rfl) dX2_sameGroupIf_13 ?_
    refine j_ifb_eq (tgt := 29) hC dX2_sameGroupIf_16 (by decide) (fun h16 => ?_) (fun h16 => ?_)
    · refine j_aload_n hC dX2_sameGroupIf_29 0 rfl ?_
      refine j_iload_n hC dX2_sameGroupIf_30 3 rfl ?_
      refine j_iload_n hC dX2_sameGroupIf_31 2 rfl ?_
      refine j_callV1 (ar := 2) hC hR (c_X2_sameGroup (hlJ hC) g σ hI a v (by omega)) [] rfl 1 rfl rfl rfl (by decide) (by decide +kernel) rfl wd112 wd114 wp2 wd2 wd115 (by decide) (Nat.le_of_ble_eq_true rfl) dX2_sameGroupIf_32 ?_
      refine j_ifb_eq (tgt := 52) hC dX2_sameGroupIf_35 (by decide) (fun h35 => ?_) (fun h35 => ?_)
      · refine j_iconst hC dX2_sameGroupIf_52 ?_
        exact j_zret hC (by decide) dX2_sameGroupIf_53 (by refine ⟨?_, rfl⟩; simp only [sgI, decide_eq_true_eq]; first | rw [if_pos (by omega)] | rw [if_neg (by omega)])
      · refine j_aload_n hC dX2_sameGroupIf_38 0 rfl ?_
        refine j_iload hC dX2_sameGroupIf_39 4 rfl ?_
        refine j_iload_n hC dX2_sameGroupIf_41 1 rfl ?_
        refine j_callV1 (ar := 2) hC hR (c_X2_sameGroup (hlJ hC) g σ hI b u (by omega)) [] rfl 1 rfl rfl rfl (by decide) (by decide +kernel) rfl wd112 wd114 wp2 wd2 wd115 (by decide) (Nat.le_of_ble_eq_true rfl) dX2_sameGroupIf_42 ?_
        refine j_ifb_eq (tgt := 52) hC dX2_sameGroupIf_45 (by decide) (fun h45 => ?_) (fun h45 => ?_)
        · refine j_iconst hC dX2_sameGroupIf_52 ?_
          exact j_zret hC (by decide) dX2_sameGroupIf_53 (by refine ⟨?_, rfl⟩; simp only [sgI, decide_eq_true_eq]; first | rw [if_pos (by omega)] | rw [if_neg (by omega)])
        · refine j_iconst hC dX2_sameGroupIf_48 ?_
          refine j_goto (tgt := 53) hC dX2_sameGroupIf_49 (by decide) ?_
          exact j_zret hC (by decide) dX2_sameGroupIf_53 (by refine ⟨?_, rfl⟩; simp only [sgI, decide_eq_true_eq]; first | rw [if_pos (by omega)] | rw [if_neg (by omega)])
    · refine j_aload_n hC dX2_sameGroupIf_19 0 rfl ?_
      refine j_iload hC dX2_sameGroupIf_20 4 rfl ?_
      refine j_iload_n hC dX2_sameGroupIf_22 2 rfl ?_
      refine j_callV1 (ar := 2) hC hR (c_X2_sameGroup (hlJ hC) g σ hI b v (by omega)) [] rfl 1 rfl rfl rfl (by decide) (by decide +kernel) rfl wd112 wd114 wp2 wd2 wd115 (by decide) (Nat.le_of_ble_eq_true rfl) dX2_sameGroupIf_23 ?_
      refine j_ifb_ne (tgt := 48) hC dX2_sameGroupIf_26 (by decide) (fun h26 => ?_) (fun h26 => ?_)
      · refine j_iconst hC dX2_sameGroupIf_48 ?_
        refine j_goto (tgt := 53) hC dX2_sameGroupIf_49 (by decide) ?_
        exact j_zret hC (by decide) dX2_sameGroupIf_53 (by refine ⟨?_, rfl⟩; simp only [sgI, decide_eq_true_eq]; first | rw [if_pos (by omega)] | rw [if_neg (by omega)])
      · refine j_aload_n hC dX2_sameGroupIf_29 0 rfl ?_
        refine j_iload_n hC dX2_sameGroupIf_30 3 rfl ?_
        refine j_iload_n hC dX2_sameGroupIf_31 2 rfl ?_
        refine j_callV1 (ar := 2) hC hR (c_X2_sameGroup (hlJ hC) g σ hI a v (by omega)) [] rfl 1 rfl rfl rfl (by decide) (by decide +kernel) rfl wd112 wd114 wp2 wd2 wd115 (by decide) (Nat.le_of_ble_eq_true rfl) dX2_sameGroupIf_32 ?_
        refine j_ifb_eq (tgt := 52) hC dX2_sameGroupIf_35 (by decide) (fun h35 => ?_) (fun h35 => ?_)
        · refine j_iconst hC dX2_sameGroupIf_52 ?_
          exact j_zret hC (by decide) dX2_sameGroupIf_53 (by refine ⟨?_, rfl⟩; simp only [sgI, decide_eq_true_eq]; first | rw [if_pos (by omega)] | rw [if_neg (by omega)])
        · refine j_aload_n hC dX2_sameGroupIf_38 0 rfl ?_
          refine j_iload hC dX2_sameGroupIf_39 4 rfl ?_
          refine j_iload_n hC dX2_sameGroupIf_41 1 rfl ?_
          refine j_callV1 (ar := 2) hC hR (c_X2_sameGroup (hlJ hC) g σ hI b u (by omega)) [] rfl 1 rfl rfl rfl (by decide) (by decide +kernel) rfl wd112 wd114 wp2 wd2 wd115 (by decide) (Nat.le_of_ble_eq_true rfl) dX2_sameGroupIf_42 ?_
          refine j_ifb_eq (tgt := 52) hC dX2_sameGroupIf_45 (by decide) (fun h45 => ?_) (fun h45 => ?_)
          · refine j_iconst hC dX2_sameGroupIf_52 ?_
            exact j_zret hC (by decide) dX2_sameGroupIf_53 (by refine ⟨?_, rfl⟩; simp only [sgI, decide_eq_true_eq]; first | rw [if_pos (by omega)] | rw [if_neg (by omega)])
          · refine j_iconst hC dX2_sameGroupIf_48 ?_
            refine j_goto (tgt := 53) hC dX2_sameGroupIf_49 (by decide) ?_
            exact j_zret hC (by decide) dX2_sameGroupIf_53 (by refine ⟨?_, rfl⟩; simp only [sgI, decide_eq_true_eq]; first | rw [if_pos (by omega)] | rw [if_neg (by omega)])
set_option maxHeartbeats 4000000 in
set_option maxRecDepth 100000 in
theorem c_X2_alikeIf {l : Launch} (hl : l.stackTraces = false) (g : GG) (σ : Sg) (hI : IC σ) (u v x y : Int) (hx : 0 ≤ u ∧ u < 9 ∧ 0 ≤ v ∧ v < 9 ∧ 0 ≤ x ∧ x < 2304 ∧ 0 ≤ y ∧ y < 2304) : CN l yX2_alikeIf cX2_alikeIf 5 (some .boolean) 2 46 0 0 g [.ref (gd g (1)), vI (u), vI (v), vI (x), vI (y)] σ (pt (some (vI (if x % 256 = y % 256 ∧ sgI (σ.2 0) u v (x / 256) (y / 256) = true then 1 else 0))) (σ)) := by
  refine CN_of (own := RX2) hl (by decide) rfl (Nat.le_of_ble_eq_true rfl) (fun mc hC _ hR => ?_)
  refine j_lv (lv2 := [(0, .ref (gd g (1))), (1, vI (u)), (2, vI (v)), (3, vI (x)), (4, vI (y))]) rfl ?_
  refine j_iload_n hC dX2_alikeIf_0 3 rfl ?_
  refine j_iload hC dX2_alikeIf_1 4 rfl ?_
  refine j_callSN1 (ar := 2) hC hR (c_X1_sameButForPlace (hlJ hC) g σ x y (by omega)) [] rfl (by decide) (by decide +kernel) rfl wd106 wd107 wd11 wd108 (by decide) (Nat.le_of_ble_eq_true rfl) dX2_alikeIf_3 ?_
  refine j_ifb_eq (tgt := 31) hC dX2_alikeIf_6 (by decide) (fun h6 => ?_) (fun h6 => ?_)
  · refine j_iconst hC dX2_alikeIf_31 ?_
    exact j_zret hC (by decide) dX2_alikeIf_32 (by first | (rw [if_pos ⟨h6, h24⟩]; exact ⟨rfl, rfl⟩) | (rw [if_neg (fun z => h24 z.2)]; exact ⟨rfl, rfl⟩) | (rw [if_neg (fun z => h6 z.1)]; exact ⟨rfl, rfl⟩))
  · refine j_aload_n hC dX2_alikeIf_9 0 rfl ?_
    refine j_iload_n hC dX2_alikeIf_10 1 rfl ?_
    refine j_iload_n hC dX2_alikeIf_11 2 rfl ?_
    refine j_iload_n hC dX2_alikeIf_12 3 rfl ?_
    refine j_callSN1 (ar := 1) hC hR (c_X1_place (hlJ hC) g σ x (by omega)) [vI (v), vI (u), .ref (gd g (1))] rfl (by decide) (by decide +kernel) rfl wd109 wd110 wd11 wd111 (by decide) (Nat.le_of_ble_eq_true rfl) dX2_alikeIf_13 ?_
    refine j_iload hC dX2_alikeIf_16 4 rfl ?_
    refine j_callSN1 (ar := 1) hC hR (c_X1_place (hlJ hC) g σ y (by omega)) [vI (x / 256), vI (v), vI (u), .ref (gd g (1))] rfl (by decide) (by decide +kernel) rfl wd109 wd110 wd11 wd111 (by decide) (Nat.le_of_ble_eq_true rfl) dX2_alikeIf_18 ?_
    refine j_callV1 (ar := 4) hC hR (c_X2_sameGroupIf (hlJ hC) g σ hI u v (x / 256) (y / 256) (by omega)) [] rfl 1 rfl rfl rfl (by decide) (by decide +kernel) rfl wd572 wd574 wp29 wd2 wd575 (by decide) (Nat.le_of_ble_eq_true rfl) dX2_alikeIf_21 ?_
    refine j_ifb_eq (tgt := 31) hC dX2_alikeIf_24 (by decide) (fun h24 => ?_) (fun h24 => ?_)
    · refine j_iconst hC dX2_alikeIf_31 ?_
      exact j_zret hC (by decide) dX2_alikeIf_32 (by first | (rw [if_pos ⟨h6, h24⟩]; exact ⟨rfl, rfl⟩) | (rw [if_neg (fun z => h24 z.2)]; exact ⟨rfl, rfl⟩) | (rw [if_neg (fun z => h6 z.1)]; exact ⟨rfl, rfl⟩))
    · refine j_iconst hC dX2_alikeIf_27 ?_
      refine j_goto (tgt := 32) hC dX2_alikeIf_28 (by decide) ?_
      exact j_zret hC (by decide) dX2_alikeIf_32 (by first | (rw [if_pos ⟨h6, h24⟩]; exact ⟨rfl, rfl⟩) | (rw [if_neg (fun z => h24 z.2)]; exact ⟨rfl, rfl⟩) | (rw [if_neg (fun z => h6 z.1)]; exact ⟨rfl, rfl⟩))
set_option maxHeartbeats 4000000 in
set_option maxRecDepth 100000 in
theorem lp_countAlikeIfJoined_i {mc : MC} {g : GG} {σ : Sg} {Q : State → Prop} (hC : Cx mc g cX0_countAlikeIfJoined RX0 6 (some .int)) (hR : mR mc = rmJ 3 70 0 0) (hI : IC σ) {b : Nat} (hb : b < 5) (u v : Int) (hx : 0 ≤ u ∧ u < 9 ∧ 0 ≤ v ∧ v < 9) (z : Int) (hz0 : 0 ≤ z ∧ z < σ.1 (2 + b)) : ∀ (d : Nat) (w : Int) (a : Int), (0 ≤ w) → (w + (d : Int) = σ.1 (2 + b)) → (J mc g 0 0 Q 64 [(3, vI (cnt (aiC (σ.2 0) (lkB σ b) u v z) d w a)), (4, vI (z)), (0, .ref (gd g (4 + b))), (1, vI (u)), (2, vI (v))] [] σ) → J mc g 0 0 Q 20 [(5, vI (w)), (3, vI (a)), (4, vI (z)), (0, .ref (gd g (4 + b))), (1, vI (u)), (2, vI (v))] [] σ := by
  intro d
  induction d with
  | zero =>
    intro w a h0 hw kx
    have hn := hI.2.2.2.1 b hb
    refine j_iload hC dX0_countAlikeIfJoined_20 0 rfl ?_
    refine j_aload_n hC dX0_countAlikeIfJoined_22 3 rfl ?_
    refine j_get hC inX0 rfl (4 + b) (hw_bk g _ hb) 3 (by decide) wd50 rfl dX0_countAlikeIfJoined_23 ?_
    refine j_icmp_ge (tgt := 64) hC dX0_countAlikeIfJoined_26 (by decide) (by omega) (fun _ => ?_) (fun h => absurd h (by omega))
    refine j_sub [1, 2, 3, 4, 5] rfl ?_
    exact kx
  | succ d ih =>
    intro w a h0 hw kx
    have hn := hI.2.2.2.1 b hb
    have hk1 := hI.2.2.2.2.1 b hb z (by omega) (by omega)
    have hk2 := hI.2.2.2.2.1 b hb w (by omega) (by omega)
    rw [show cnt (aiC (σ.2 0) (lkB σ b) u v z) (d + 1) w a = cnt (aiC (σ.2 0) (lkB σ b) u v z) d (w + 1) (if aiC (σ.2 0) (lkB σ b) u v z w = true then a + 1 else a) from rfl] at kx
    refine j_iload hC dX0_countAlikeIfJoined_20 0 rfl ?_
    refine j_aload_n hC dX0_countAlikeIfJoined_22 3 rfl ?_
    refine j_get hC inX0 rfl (4 + b) (hw_bk g _ hb) 3 (by decide) wd50 rfl dX0_countAlikeIfJoined_23 ?_
    refine j_icmp_ge (tgt := 64) hC dX0_countAlikeIfJoined_26 (by decide) (by omega) (fun h => absurd h (by omega)) (fun _ => ?_)
    refine j_aload_n hC dX0_countAlikeIfJoined_29 3 rfl ?_
    refine j_get hC inX0 rfl (4 + b) (hw_bk g _ hb) 0 (by decide) wd45 rfl dX0_countAlikeIfJoined_30 ?_
    refine j_iload_n hC dX0_countAlikeIfJoined_33 4 rfl ?_
    refine j_iload_n hC dX0_countAlikeIfJoined_34 5 rfl ?_
    refine j_aload_n hC dX0_countAlikeIfJoined_35 3 rfl ?_
    refine j_get hC inX0 rfl (4 + b) (hw_bk g _ hb) 1 (by decide) wd46 rfl dX0_countAlikeIfJoined_36 ?_
    refine j_iload hC dX0_countAlikeIfJoined_39 2 rfl ?_
    refine j_iald hC (9 + b) (hw_lk g _ hb) (by omega) dX0_countAlikeIfJoined_41 ?_
    refine j_aload_n hC dX0_countAlikeIfJoined_42 3 rfl ?_
    refine j_get hC inX0 rfl (4 + b) (hw_bk g _ hb) 1 (by decide) wd46 rfl dX0_countAlikeIfJoined_43 ?_
    refine j_iload hC dX0_countAlikeIfJoined_46 0 rfl ?_
    refine j_iald hC (9 + b) (hw_lk g _ hb) (by omega) dX0_countAlikeIfJoined_48 ?_
    refine j_callVN1 (ar := 4) hC hR (c_X2_alikeIf (hlJ hC) g σ hI u v ((σ).2 (1 + b) z) ((σ).2 (1 + b) w) (by omega)) [] rfl 1 rfl rfl rfl (by decide) (by decide +kernel) rfl wd568 wd570 wp28 wd2 wd571 (by decide) (Nat.le_of_ble_eq_true rfl) dX0_countAlikeIfJoined_49 ?_
    refine j_ifb_eq (tgt := 58) hC dX0_countAlikeIfJoined_52 (by decide) (fun h52 => ?_) (fun h52 => ?_)
    · refine j_iinc hC dX0_countAlikeIfJoined_58 0 [(5, vI (w + 1)), (3, vI (a)), (4, vI (z)), (0, .ref (gd g (4 + b))), (1, vI (u)), (2, vI (v))] rfl (by decide) rfl ?_
      refine j_goto (tgt := 20) hC dX0_countAlikeIfJoined_61 (by decide) ?_
      refine j_sub [0, 1, 2, 3, 4, 5] rfl ?_
      first | (rw [if_pos (show aiC (σ.2 0) (lkB σ b) u v z w = true from decide_eq_true h52)] at kx; exact ih (w + 1) (a + 1) (by omega) (by omega) kx) | (rw [if_neg (show ¬ (aiC (σ.2 0) (lkB σ b) u v z w = true) from fun q => h52 (of_decide_eq_true q))] at kx; exact ih (w + 1) a (by omega) (by omega) kx)
    · refine j_iinc hC dX0_countAlikeIfJoined_55 1 [(3, vI (a + 1)), (5, vI (w)), (4, vI (z)), (0, .ref (gd g (4 + b))), (1, vI (u)), (2, vI (v))] rfl (by decide) rfl ?_
      refine j_iinc hC dX0_countAlikeIfJoined_58 1 [(5, vI (w + 1)), (3, vI (a + 1)), (4, vI (z)), (0, .ref (gd g (4 + b))), (1, vI (u)), (2, vI (v))] rfl (by decide) rfl ?_
      refine j_goto (tgt := 20) hC dX0_countAlikeIfJoined_61 (by decide) ?_
      refine j_sub [0, 1, 2, 3, 4, 5] rfl ?_
      first | (rw [if_pos (show aiC (σ.2 0) (lkB σ b) u v z w = true from decide_eq_true h52)] at kx; exact ih (w + 1) (a + 1) (by omega) (by omega) kx) | (rw [if_neg (show ¬ (aiC (σ.2 0) (lkB σ b) u v z w = true) from fun q => h52 (of_decide_eq_true q))] at kx; exact ih (w + 1) a (by omega) (by omega) kx)
set_option maxHeartbeats 4000000 in
set_option maxRecDepth 100000 in
theorem lp_countAlikeIfJoined_o {mc : MC} {g : GG} {σ : Sg} (hC : Cx mc g cX0_countAlikeIfJoined RX0 6 (some .int)) (hR : mR mc = rmJ 3 70 0 0) (hI : IC σ) {b : Nat} (hb : b < 5) (u v : Int) (hx : 0 ≤ u ∧ u < 9 ∧ 0 ≤ v ∧ v < 9) : ∀ (d : Nat) (z : Int) (a : Int), (0 ≤ z) → (z + (d : Int) = σ.1 (2 + b)) → J mc g 0 0 (QN mc g (pt (some (vI (pO (aiC (σ.2 0) (lkB σ b) u v) d z a))) (σ)) 0 0) 5 [(3, vI (a)), (4, vI (z)), (0, .ref (gd g (4 + b))), (1, vI (u)), (2, vI (v))] [] σ := by
  intro d
  induction d with
  | zero =>
    intro z a h0 hz
    have hn := hI.2.2.2.1 b hb
    refine j_iload hC dX0_countAlikeIfJoined_5 1 rfl ?_
    refine j_aload_n hC dX0_countAlikeIfJoined_7 2 rfl ?_
    refine j_get hC inX0 rfl (4 + b) (hw_bk g _ hb) 3 (by decide) wd50 rfl dX0_countAlikeIfJoined_8 ?_
    refine j_icmp_ge (tgt := 70) hC dX0_countAlikeIfJoined_11 (by decide) (by omega) (fun _ => ?_) (fun h => absurd h (by omega))
    refine j_iload_n hC dX0_countAlikeIfJoined_70 0 rfl ?_
    exact j_iret hC dX0_countAlikeIfJoined_71 ⟨rfl, rfl⟩
  | succ d ih =>
    intro z a h0 hz
    have hn := hI.2.2.2.1 b hb
    rw [show pO (aiC (σ.2 0) (lkB σ b) u v) (d + 1) z a = pO (aiC (σ.2 0) (lkB σ b) u v) d (z + 1) (cnt (aiC (σ.2 0) (lkB σ b) u v z) d (z + 1) a) from rfl]
    refine j_iload hC dX0_countAlikeIfJoined_5 1 rfl ?_
    refine j_aload_n hC dX0_countAlikeIfJoined_7 2 rfl ?_
    refine j_get hC inX0 rfl (4 + b) (hw_bk g _ hb) 3 (by decide) wd50 rfl dX0_countAlikeIfJoined_8 ?_
    refine j_icmp_ge (tgt := 70) hC dX0_countAlikeIfJoined_11 (by decide) (by omega) (fun h => absurd h (by omega)) (fun _ => ?_)
    refine j_iload hC dX0_countAlikeIfJoined_14 1 rfl ?_
    refine j_iconst hC dX0_countAlikeIfJoined_16 ?_
    refine j_iadd hC dX0_countAlikeIfJoined_17 ?_
    refine j_istore hC dX0_countAlikeIfJoined_18 [(5, vI (z + 1)), (3, vI (a)), (4, vI (z)), (0, .ref (gd g (4 + b))), (1, vI (u)), (2, vI (v))] (by decide) rfl ?_
    refine j_sub [0, 1, 2, 3, 4, 5] rfl ?_
    refine lp_countAlikeIfJoined_i hC hR hI hb u v hx z (by omega) d (z + 1) a (by omega) (by omega) ?_
    refine j_iinc hC dX0_countAlikeIfJoined_64 1 [(4, vI (z + 1)), (3, vI (cnt (aiC (σ.2 0) (lkB σ b) u v z) d (z + 1) a)), (0, .ref (gd g (4 + b))), (1, vI (u)), (2, vI (v))] rfl (by decide) rfl ?_
    refine j_goto (tgt := 5) hC dX0_countAlikeIfJoined_67 (by decide) ?_
    refine j_sub [1, 0, 2, 3, 4] rfl ?_
    exact ih (z + 1) _ (by omega) (by omega)
set_option maxHeartbeats 4000000 in
set_option maxRecDepth 100000 in
theorem c_X0_countAlikeIfJoined {l : Launch} (hl : l.stackTraces = false) (g : GG) (σ : Sg) (hI : IC σ) {b : Nat} (hb : b < 5) (u v : Int) (hx : 0 ≤ u ∧ u < 9 ∧ 0 ≤ v ∧ v < 9) : CN l yX0_countAlikeIfJoined cX0_countAlikeIfJoined 6 (some .int) 3 70 0 0 g [.ref (gd g (4 + b)), vI (u), vI (v)] σ (pt (some (vI (cajB σ b u v))) (σ)) := by
  refine CN_of (own := RX0) hl (by decide) rfl (Nat.le_of_ble_eq_true rfl) (fun mc hC _ hR => ?_)
  refine j_lv (lv2 := [(0, .ref (gd g (4 + b))), (1, vI (u)), (2, vI (v))]) rfl ?_
  have hn2 := cN_eq hI hb
  refine j_iconst hC dX0_countAlikeIfJoined_0 ?_
  refine j_istore_n hC dX0_countAlikeIfJoined_1 [(3, vI (0)), (0, .ref (gd g (4 + b))), (1, vI (u)), (2, vI (v))] (by decide) rfl ?_
  refine j_iconst hC dX0_countAlikeIfJoined_2 ?_
  refine j_istore hC dX0_countAlikeIfJoined_3 [(4, vI (0)), (3, vI (0)), (0, .ref (gd g (4 + b))), (1, vI (u)), (2, vI (v))] (by decide) rfl ?_
  refine j_sub [1, 0, 2, 3, 4] rfl ?_
  exact lp_countAlikeIfJoined_o hC hR hI hb u v hx (cN σ b) 0 0 (by omega) (by omega)
set_option maxHeartbeats 4000000 in
set_option maxRecDepth 100000 in
theorem lp_countThumbApart_i {mc : MC} {g : GG} {σ : Sg} {Q : State → Prop} (hC : Cx mc g cX0_countThumbApart RX0 4 (some .int)) (hR : mR mc = rmJ 3 71 0 0) (hI : IC σ) {b : Nat} (hb : b < 5) (z : Int) (hz0 : 0 ≤ z ∧ z < σ.1 (2 + b)) : ∀ (d : Nat) (w : Int) (a : Int), (0 ≤ w) → (w + (d : Int) = σ.1 (2 + b)) → (J mc g 0 0 Q 77 [(1, vI (cnt (taC (σ.2 0) (lkB σ b) z) d w a)), (2, vI (z)), (0, .ref (gd g (4 + b)))] [] σ) → J mc g 0 0 Q 16 [(3, vI (w)), (1, vI (a)), (2, vI (z)), (0, .ref (gd g (4 + b)))] [] σ := by
  intro d
  induction d with
  | zero =>
    intro w a h0 hw kx
    have hn := hI.2.2.2.1 b hb
    refine j_iload_n hC dX0_countThumbApart_16 0 rfl ?_
    refine j_aload_n hC dX0_countThumbApart_17 3 rfl ?_
    refine j_get hC inX0 rfl (4 + b) (hw_bk g _ hb) 3 (by decide) wd50 rfl dX0_countThumbApart_18 ?_
    refine j_icmp_ge (tgt := 77) hC dX0_countThumbApart_21 (by decide) (by omega) (fun _ => ?_) (fun h => absurd h (by omega))
    refine j_sub [1, 2, 3] rfl ?_
    exact kx
  | succ d ih =>
    intro w a h0 hw kx
    have hn := hI.2.2.2.1 b hb
    have hk1 := hI.2.2.2.2.1 b hb z (by omega) (by omega)
    have hk2 := hI.2.2.2.2.1 b hb w (by omega) (by omega)
    rw [show cnt (taC (σ.2 0) (lkB σ b) z) (d + 1) w a = cnt (taC (σ.2 0) (lkB σ b) z) d (w + 1) (if taC (σ.2 0) (lkB σ b) z w = true then a + 1 else a) from rfl] at kx
    have hd := dst_rg (G := σ.2 0) (x := σ.2 (1 + b) z) (y := σ.2 (1 + b) w) ⟨hk1.1, hk1.2, hk2.1, hk2.2⟩
    refine j_iload_n hC dX0_countThumbApart_16 0 rfl ?_
    refine j_aload_n hC dX0_countThumbApart_17 3 rfl ?_
    refine j_get hC inX0 rfl (4 + b) (hw_bk g _ hb) 3 (by decide) wd50 rfl dX0_countThumbApart_18 ?_
    refine j_icmp_ge (tgt := 77) hC dX0_countThumbApart_21 (by decide) (by omega) (fun h => absurd h (by omega)) (fun _ => ?_)
    refine j_aload_n hC dX0_countThumbApart_24 3 rfl ?_
    refine j_get hC inX0 rfl (4 + b) (hw_bk g _ hb) 1 (by decide) wd46 rfl dX0_countThumbApart_25 ?_
    refine j_iload_n hC dX0_countThumbApart_28 2 rfl ?_
    refine j_iald hC (9 + b) (hw_lk g _ hb) (by omega) dX0_countThumbApart_29 ?_
    refine j_callSN1 (ar := 1) hC hR (c_X1_thumb (hlJ hC) g σ ((σ).2 (1 + b) z) (by omega)) [] rfl (by decide) (by decide +kernel) rfl wd120 wd121 wd11 wd122 (by decide) (Nat.le_of_ble_eq_true rfl) dX0_countThumbApart_30 ?_
    refine j_aload_n hC dX0_countThumbApart_33 3 rfl ?_
    refine j_get hC inX0 rfl (4 + b) (hw_bk g _ hb) 1 (by decide) wd46 rfl dX0_countThumbApart_34 ?_
    refine j_iload_n hC dX0_countThumbApart_37 0 rfl ?_
    refine j_iald hC (9 + b) (hw_lk g _ hb) (by omega) dX0_countThumbApart_38 ?_
    refine j_callSN1 (ar := 1) hC hR (c_X1_thumb (hlJ hC) g σ ((σ).2 (1 + b) w) (by omega)) [vI (((σ).2 (1 + b) z) / 16 % 4)] rfl (by decide) (by decide +kernel) rfl wd120 wd121 wd11 wd122 (by decide) (Nat.le_of_ble_eq_true rfl) dX0_countThumbApart_39 ?_
    refine j_icmp_eq (tgt := 71) hC dX0_countThumbApart_42 (by decide) (by omega) (fun h42 => ?_) (fun h42 => ?_)
    · refine j_iinc hC dX0_countThumbApart_71 0 [(3, vI (w + 1)), (1, vI (a)), (2, vI (z)), (0, .ref (gd g (4 + b)))] rfl (by decide) rfl ?_
      refine j_goto (tgt := 16) hC dX0_countThumbApart_74 (by decide) ?_
      refine j_sub [0, 1, 2, 3] rfl ?_
      first | (rw [if_pos (show taC (σ.2 0) (lkB σ b) z w = true from decide_eq_true ⟨h42, h65⟩)] at kx; exact ih (w + 1) (a + 1) (by omega) (by omega) kx) | (rw [if_neg (show ¬ (taC (σ.2 0) (lkB σ b) z w = true) from fun q => h65 (of_decide_eq_true q).2)] at kx; exact ih (w + 1) a (by omega) (by omega) kx) | (rw [if_neg (show ¬ (taC (σ.2 0) (lkB σ b) z w = true) from fun q => (of_decide_eq_true q).1 h42)] at kx; exact ih (w + 1) a (by omega) (by omega) kx)
    · refine j_aload_n hC dX0_countThumbApart_45 3 rfl ?_
      refine j_get hC inX0 rfl (4 + b) (hw_bk g _ hb) 0 (by decide) wd45 rfl dX0_countThumbApart_46 ?_
      refine j_aload_n hC dX0_countThumbApart_49 3 rfl ?_
      refine j_get hC inX0 rfl (4 + b) (hw_bk g _ hb) 1 (by decide) wd46 rfl dX0_countThumbApart_50 ?_
      refine j_iload_n hC dX0_countThumbApart_53 2 rfl ?_
      refine j_iald hC (9 + b) (hw_lk g _ hb) (by omega) dX0_countThumbApart_54 ?_
      refine j_aload_n hC dX0_countThumbApart_55 3 rfl ?_
      refine j_get hC inX0 rfl (4 + b) (hw_bk g _ hb) 1 (by decide) wd46 rfl dX0_countThumbApart_56 ?_
      refine j_iload_n hC dX0_countThumbApart_59 0 rfl ?_
      refine j_iald hC (9 + b) (hw_lk g _ hb) (by omega) dX0_countThumbApart_60 ?_
      refine j_callVN1 (ar := 2) hC hR (c_X2_distance (hlJ hC) g σ hI ((σ).2 (1 + b) z) ((σ).2 (1 + b) w) (by omega)) [] rfl 1 rfl rfl rfl (by decide) (by decide +kernel) rfl wd123 wd125 wp4 wd2 wd126 (by decide) (Nat.le_of_ble_eq_true rfl) dX0_countThumbApart_61 ?_
      refine j_iconst hC dX0_countThumbApart_64 ?_
      refine j_icmp_ne (tgt := 71) hC dX0_countThumbApart_65 (by decide) (by omega) (fun h65 => ?_) (fun h65 => ?_)
      · refine j_iinc hC dX0_countThumbApart_71 0 [(3, vI (w + 1)), (1, vI (a)), (2, vI (z)), (0, .ref (gd g (4 + b)))] rfl (by decide) rfl ?_
        refine j_goto (tgt := 16) hC dX0_countThumbApart_74 (by decide) ?_
        refine j_sub [0, 1, 2, 3] rfl ?_
        first | (rw [if_pos (show taC (σ.2 0) (lkB σ b) z w = true from decide_eq_true ⟨h42, h65⟩)] at kx; exact ih (w + 1) (a + 1) (by omega) (by omega) kx) | (rw [if_neg (show ¬ (taC (σ.2 0) (lkB σ b) z w = true) from fun q => h65 (of_decide_eq_true q).2)] at kx; exact ih (w + 1) a (by omega) (by omega) kx) | (rw [if_neg (show ¬ (taC (σ.2 0) (lkB σ b) z w = true) from fun q => (of_decide_eq_true q).1 h42)] at kx; exact ih (w + 1) a (by omega) (by omega) kx)
      · refine j_iinc hC dX0_countThumbApart_68 1 [(1, vI (a + 1)), (3, vI (w)), (2, vI (z)), (0, .ref (gd g (4 + b)))] rfl (by decide) rfl ?_
        refine j_iinc hC dX0_countThumbApart_71 1 [(3, vI (w + 1)), (1, vI (a + 1)), (2, vI (z)), (0, .ref (gd g (4 + b)))] rfl (by decide) rfl ?_
        refine j_goto (tgt := 16) hC dX0_countThumbApart_74 (by decide) ?_
        refine j_sub [0, 1, 2, 3] rfl ?_
        first | (rw [if_pos (show taC (σ.2 0) (lkB σ b) z w = true from decide_eq_true ⟨h42, h65⟩)] at kx; exact ih (w + 1) (a + 1) (by omega) (by omega) kx) | (rw [if_neg (show ¬ (taC (σ.2 0) (lkB σ b) z w = true) from fun q => h65 (of_decide_eq_true q).2)] at kx; exact ih (w + 1) a (by omega) (by omega) kx) | (rw [if_neg (show ¬ (taC (σ.2 0) (lkB σ b) z w = true) from fun q => (of_decide_eq_true q).1 h42)] at kx; exact ih (w + 1) a (by omega) (by omega) kx)
set_option maxHeartbeats 4000000 in
set_option maxRecDepth 100000 in
theorem lp_countThumbApart_o {mc : MC} {g : GG} {σ : Sg} (hC : Cx mc g cX0_countThumbApart RX0 4 (some .int)) (hR : mR mc = rmJ 3 71 0 0) (hI : IC σ) {b : Nat} (hb : b < 5) : ∀ (d : Nat) (z : Int) (a : Int), (0 ≤ z) → (z + (d : Int) = σ.1 (2 + b)) → J mc g 0 0 (QN mc g (pt (some (vI (pO (taC (σ.2 0) (lkB σ b)) d z a))) (σ)) 0 0) 4 [(1, vI (a)), (2, vI (z)), (0, .ref (gd g (4 + b)))] [] σ := by
  intro d
  induction d with
  | zero =>
    intro z a h0 hz
    have hn := hI.2.2.2.1 b hb
    refine j_iload_n hC dX0_countThumbApart_4 1 rfl ?_
    refine j_aload_n hC dX0_countThumbApart_5 2 rfl ?_
    refine j_get hC inX0 rfl (4 + b) (hw_bk g _ hb) 3 (by decide) wd50 rfl dX0_countThumbApart_6 ?_
    refine j_icmp_ge (tgt := 83) hC dX0_countThumbApart_9 (by decide) (by omega) (fun _ => ?_) (fun h => absurd h (by omega))
    refine j_iload_n hC dX0_countThumbApart_83 0 rfl ?_
    exact j_iret hC dX0_countThumbApart_84 ⟨rfl, rfl⟩
  | succ d ih =>
    intro z a h0 hz
    have hn := hI.2.2.2.1 b hb
    rw [show pO (taC (σ.2 0) (lkB σ b)) (d + 1) z a = pO (taC (σ.2 0) (lkB σ b)) d (z + 1) (cnt (taC (σ.2 0) (lkB σ b) z) d (z + 1) a) from rfl]
    refine j_iload_n hC dX0_countThumbApart_4 1 rfl ?_
    refine j_aload_n hC dX0_countThumbApart_5 2 rfl ?_
    refine j_get hC inX0 rfl (4 + b) (hw_bk g _ hb) 3 (by decide) wd50 rfl dX0_countThumbApart_6 ?_
    refine j_icmp_ge (tgt := 83) hC dX0_countThumbApart_9 (by decide) (by omega) (fun h => absurd h (by omega)) (fun _ => ?_)
    refine j_iload_n hC dX0_countThumbApart_12 1 rfl ?_
    refine j_iconst hC dX0_countThumbApart_13 ?_
    refine j_iadd hC dX0_countThumbApart_14 ?_
    refine j_istore_n hC dX0_countThumbApart_15 [(3, vI (z + 1)), (1, vI (a)), (2, vI (z)), (0, .ref (gd g (4 + b)))] (by decide) rfl ?_
    refine j_sub [0, 1, 2, 3] rfl ?_
    refine lp_countThumbApart_i hC hR hI hb z (by omega) d (z + 1) a (by omega) (by omega) ?_
    refine j_iinc hC dX0_countThumbApart_77 1 [(2, vI (z + 1)), (1, vI (cnt (taC (σ.2 0) (lkB σ b) z) d (z + 1) a)), (0, .ref (gd g (4 + b)))] rfl (by decide) rfl ?_
    refine j_goto (tgt := 4) hC dX0_countThumbApart_80 (by decide) ?_
    refine j_sub [1, 0, 2] rfl ?_
    exact ih (z + 1) _ (by omega) (by omega)
set_option maxHeartbeats 4000000 in
set_option maxRecDepth 100000 in
theorem c_X0_countThumbApart {l : Launch} (hl : l.stackTraces = false) (g : GG) (σ : Sg) (hI : IC σ) {b : Nat} (hb : b < 5) : CN l yX0_countThumbApart cX0_countThumbApart 4 (some .int) 3 71 0 0 g [.ref (gd g (4 + b))] σ (pt (some (vI (ctB σ b))) (σ)) := by
  refine CN_of (own := RX0) hl (by decide) rfl (Nat.le_of_ble_eq_true rfl) (fun mc hC _ hR => ?_)
  refine j_lv (lv2 := [(0, .ref (gd g (4 + b)))]) rfl ?_
  have hn2 := cN_eq hI hb
  refine j_iconst hC dX0_countThumbApart_0 ?_
  refine j_istore_n hC dX0_countThumbApart_1 [(1, vI (0)), (0, .ref (gd g (4 + b)))] (by decide) rfl ?_
  refine j_iconst hC dX0_countThumbApart_2 ?_
  refine j_istore_n hC dX0_countThumbApart_3 [(2, vI (0)), (1, vI (0)), (0, .ref (gd g (4 + b)))] (by decide) rfl ?_
  refine j_sub [1, 0, 2] rfl ?_
  exact lp_countThumbApart_o hC hR hI hb (cN σ b) 0 0 (by omega) (by omega)
end
section
set_option maxHeartbeats 4000000 in
set_option maxRecDepth 100000 in
theorem lp_nearestBut {mc : MC} {g : GG} {σ : Sg} (hC : Cx mc g cX0_nearestBut RX0 5 (some .int)) (hR : mR mc = rmJ 3 71 0 0) (hI : IC σ) {b : Nat} (hb : b < 5) (s x : Int) (hs : -2147483648 ≤ s ∧ s < 2147483648) (hx : 0 ≤ x ∧ x < 2304) : ∀ (d : Nat) (z : Int) (a : Int), (0 ≤ z) → (z + (d : Int) = σ.1 (2 + b)) → (0 ≤ a ∧ a ≤ 100) → J mc g 0 0 (QN mc g (pt (some (vI (nbF (fun z => dst (σ.2 0) x (lkB σ b z)) s d z a))) (σ)) 0 0) 6 [(4, vI (z)), (3, vI (a)), (0, .ref (gd g (4 + b))), (1, vI (s)), (2, vI (x))] [] σ := by
  intro d
  induction d with
  | zero =>
    intro z a h0 hz ha
    have hn := hI.2.2.2.1 b hb
    refine j_iload hC dX0_nearestBut_6 0 rfl ?_
    refine j_aload_n hC dX0_nearestBut_8 2 rfl ?_
    refine j_get hC inX0 rfl (4 + b) (hw_bk g _ hb) 3 (by decide) wd50 rfl dX0_nearestBut_9 ?_
    refine j_icmp_ge (tgt := 47) hC dX0_nearestBut_12 (by decide) (by omega) (fun _ => ?_) (fun h => absurd h (by omega))
    refine j_iload_n hC dX0_nearestBut_47 1 rfl ?_
    exact j_iret hC dX0_nearestBut_48 ⟨rfl, rfl⟩
  | succ d ih =>
    intro z a h0 hz ha
    have hn := hI.2.2.2.1 b hb
    have hk := hI.2.2.2.2.1 b hb z (by omega) (by omega)
    have hd := dst_rg (G := σ.2 0) (x := x) (y := σ.2 (1 + b) z) ⟨hx.1, hx.2, hk.1, hk.2⟩
    rw [show nbF (fun z => dst (σ.2 0) x (lkB σ b z)) s (d + 1) z a = nbF (fun z => dst (σ.2 0) x (lkB σ b z)) s d (z + 1) (if z = s then a else if a ≤ dst (σ.2 0) x (σ.2 (1 + b) z) then a else dst (σ.2 0) x (σ.2 (1 + b) z)) from rfl]
    refine j_iload hC dX0_nearestBut_6 0 rfl ?_
    refine j_aload_n hC dX0_nearestBut_8 2 rfl ?_
    refine j_get hC inX0 rfl (4 + b) (hw_bk g _ hb) 3 (by decide) wd50 rfl dX0_nearestBut_9 ?_
    refine j_icmp_ge (tgt := 47) hC dX0_nearestBut_12 (by decide) (by omega) (fun h => absurd h (by omega)) (fun _ => ?_)
    refine j_iload hC dX0_nearestBut_15 0 rfl ?_
    refine j_iload_n hC dX0_nearestBut_17 3 rfl ?_
    refine j_icmp_eq (tgt := 41) hC dX0_nearestBut_18 (by decide) (by omega) (fun h18 => ?_) (fun h18 => ?_)
    · refine j_iinc hC dX0_nearestBut_41 0 [(4, vI (z + 1)), (3, vI (a)), (0, .ref (gd g (4 + b))), (1, vI (s)), (2, vI (x))] rfl (by decide) rfl ?_
      refine j_goto (tgt := 6) hC dX0_nearestBut_44 (by decide) ?_
      refine j_sub [0, 1, 2, 3, 4] rfl ?_
      first | (rw [if_pos h18]; exact ih (z + 1) a (by omega) (by omega) ha) | (rw [if_neg h18]; exact ih (z + 1) _ (by omega) (by omega) (by split <;> omega))
    · refine j_iload_n hC dX0_nearestBut_21 1 rfl ?_
      refine j_aload_n hC dX0_nearestBut_22 2 rfl ?_
      refine j_get hC inX0 rfl (4 + b) (hw_bk g _ hb) 0 (by decide) wd45 rfl dX0_nearestBut_23 ?_
      refine j_iload_n hC dX0_nearestBut_26 4 rfl ?_
      refine j_aload_n hC dX0_nearestBut_27 2 rfl ?_
      refine j_get hC inX0 rfl (4 + b) (hw_bk g _ hb) 1 (by decide) wd46 rfl dX0_nearestBut_28 ?_
      refine j_iload hC dX0_nearestBut_31 0 rfl ?_
      refine j_iald hC (9 + b) (hw_lk g _ hb) (by omega) dX0_nearestBut_33 ?_
      refine j_callVN1 (ar := 2) hC hR (c_X2_distance (hlJ hC) g σ hI x ((σ).2 (1 + b) z) (by omega)) [vI (a)] rfl 1 rfl rfl rfl (by decide) (by decide +kernel) rfl wd123 wd125 wp4 wd2 wd126 (by decide) (Nat.le_of_ble_eq_true rfl) dX0_nearestBut_34 ?_
      refine j_min hC hR wd155 ⟨by decide, Nat.le_of_ble_eq_true rfl⟩ (by decide) (by omega) dX0_nearestBut_37 ?_
      refine j_istore_n hC dX0_nearestBut_40 [(3, vI (if a ≤ dst (σ.2 0) x ((σ).2 (1 + b) z) then a else dst (σ.2 0) x ((σ).2 (1 + b) z))), (4, vI (z)), (0, .ref (gd g (4 + b))), (1, vI (s)), (2, vI (x))] (by decide) rfl ?_
      refine j_iinc hC dX0_nearestBut_41 1 [(4, vI (z + 1)), (3, vI (if a ≤ dst (σ.2 0) x ((σ).2 (1 + b) z) then a else dst (σ.2 0) x ((σ).2 (1 + b) z))), (0, .ref (gd g (4 + b))), (1, vI (s)), (2, vI (x))] rfl (by decide) rfl ?_
      refine j_goto (tgt := 6) hC dX0_nearestBut_44 (by decide) ?_
      refine j_sub [0, 1, 2, 3, 4] rfl ?_
      first | (rw [if_pos h18]; exact ih (z + 1) a (by omega) (by omega) ha) | (rw [if_neg h18]; exact ih (z + 1) _ (by omega) (by omega) (by split <;> omega))
set_option maxHeartbeats 4000000 in
set_option maxRecDepth 100000 in
theorem c_X0_nearestBut {l : Launch} (hl : l.stackTraces = false) (g : GG) (σ : Sg) (hI : IC σ) {b : Nat} (hb : b < 5) (s x : Int) (hs : -2147483648 ≤ s ∧ s < 2147483648) (hx : 0 ≤ x ∧ x < 2304) : CN l yX0_nearestBut cX0_nearestBut 5 (some .int) 3 71 0 0 g [.ref (gd g (4 + b)), vI (s), vI (x)] σ (pt (some (vI (nbB σ b s x))) (σ)) := by
  refine CN_of (own := RX0) hl (by decide) rfl (Nat.le_of_ble_eq_true rfl) (fun mc hC _ hR => ?_)
  refine j_lv (lv2 := [(0, .ref (gd g (4 + b))), (1, vI (s)), (2, vI (x))]) rfl ?_
  have hn2 := cN_eq hI hb
  refine j_bipush hC dX0_nearestBut_0 (by decide) ?_
  refine j_istore_n hC dX0_nearestBut_2 [(3, vI (100)), (0, .ref (gd g (4 + b))), (1, vI (s)), (2, vI (x))] (by decide) rfl ?_
  refine j_iconst hC dX0_nearestBut_3 ?_
  refine j_istore hC dX0_nearestBut_4 [(4, vI (0)), (3, vI (100)), (0, .ref (gd g (4 + b))), (1, vI (s)), (2, vI (x))] (by decide) rfl ?_
  refine j_sub [0, 1, 2, 3, 4] rfl ?_
  exact lp_nearestBut hC hR hI hb s x hs hx (cN σ b) 0 100 (by omega) (by omega) (by omega)
set_option maxHeartbeats 4000000 in
set_option maxRecDepth 100000 in
theorem lp_fewestApart {mc : MC} {g : GG} {σ : Sg} (hC : Cx mc g cX0_fewestApart RX0 3 (some .int)) (hR : mR mc = rmJ 4 95 0 0) (hI : IC σ) {b : Nat} (hb : b < 5) : ∀ (d : Nat) (z : Int) (a : Int), (0 ≤ z) → (z + (d : Int) = σ.1 (2 + b)) → (0 ≤ a ∧ a ≤ 100) → J mc g 0 0 (QN mc g (pt (some (vI (nbF (fun z => nbB σ b z (lkB σ b z)) (-1) d z a))) (σ)) 0 0) 15 [(2, vI (z)), (1, vI (a)), (0, .ref (gd g (4 + b)))] [] σ := by
  intro d
  induction d with
  | zero =>
    intro z a h0 hz ha
    have hn := hI.2.2.2.1 b hb
    refine j_iload_n hC dX0_fewestApart_15 0 rfl ?_
    refine j_aload_n hC dX0_fewestApart_16 2 rfl ?_
    refine j_get hC inX0 rfl (4 + b) (hw_bk g _ hb) 3 (by decide) wd50 rfl dX0_fewestApart_17 ?_
    refine j_icmp_ge (tgt := 45) hC dX0_fewestApart_20 (by decide) (by omega) (fun _ => ?_) (fun h => absurd h (by omega))
    refine j_iload_n hC dX0_fewestApart_45 1 rfl ?_
    exact j_iret hC dX0_fewestApart_46 ⟨rfl, rfl⟩
  | succ d ih =>
    intro z a h0 hz ha
    have hn := hI.2.2.2.1 b hb
    have hk := hI.2.2.2.2.1 b hb z (by omega) (by omega)
    rw [show nbF (fun z => nbB σ b z (lkB σ b z)) (-1) (d + 1) z a = nbF (fun z => nbB σ b z (lkB σ b z)) (-1) d (z + 1) (if z = -1 then a else if a ≤ nbB σ b z (σ.2 (1 + b) z) then a else nbB σ b z (σ.2 (1 + b) z)) from rfl, if_neg (show ¬ z = -1 by omega)]
    refine j_iload_n hC dX0_fewestApart_15 0 rfl ?_
    refine j_aload_n hC dX0_fewestApart_16 2 rfl ?_
    refine j_get hC inX0 rfl (4 + b) (hw_bk g _ hb) 3 (by decide) wd50 rfl dX0_fewestApart_17 ?_
    refine j_icmp_ge (tgt := 45) hC dX0_fewestApart_20 (by decide) (by omega) (fun h => absurd h (by omega)) (fun _ => ?_)
    refine j_iload_n hC dX0_fewestApart_23 1 rfl ?_
    refine j_aload_n hC dX0_fewestApart_24 2 rfl ?_
    refine j_iload_n hC dX0_fewestApart_25 0 rfl ?_
    refine j_aload_n hC dX0_fewestApart_26 2 rfl ?_
    refine j_get hC inX0 rfl (4 + b) (hw_bk g _ hb) 1 (by decide) wd46 rfl dX0_fewestApart_27 ?_
    refine j_iload_n hC dX0_fewestApart_30 0 rfl ?_
    refine j_iald hC (9 + b) (hw_lk g _ hb) (by omega) dX0_fewestApart_31 ?_
    refine j_callV1 (ar := 2) hC hR (c_X0_nearestBut (hlJ hC) g σ hI hb z ((σ).2 (1 + b) z) (by omega) (by omega)) [vI (a)] rfl (4 + b) (hw_bk g _ hb) rfl rfl (by decide) (by decide +kernel) rfl wd151 wd153 wp7 wd3 wd154 (by decide) (Nat.le_of_ble_eq_true rfl) dX0_fewestApart_32 ?_
    have hf32 := nbB_rg hI hb z (L := ((σ).2 (1 + b) z)) (by omega)
    refine j_min hC hR wd155 ⟨by decide, Nat.le_of_ble_eq_true rfl⟩ (by decide) (by omega) dX0_fewestApart_35 ?_
    refine j_istore_n hC dX0_fewestApart_38 [(1, vI (if a ≤ nbB σ b z ((σ).2 (1 + b) z) then a else nbB σ b z ((σ).2 (1 + b) z))), (2, vI (z)), (0, .ref (gd g (4 + b)))] (by decide) rfl ?_
    refine j_iinc hC dX0_fewestApart_39 1 [(2, vI (z + 1)), (1, vI (if a ≤ nbB σ b z ((σ).2 (1 + b) z) then a else nbB σ b z ((σ).2 (1 + b) z))), (0, .ref (gd g (4 + b)))] rfl (by decide) rfl ?_
    refine j_goto (tgt := 15) hC dX0_fewestApart_42 (by decide) ?_
    refine j_sub [0, 1, 2] rfl ?_
    exact ih (z + 1) _ (by omega) (by omega) (by split <;> omega)
set_option maxHeartbeats 4000000 in
set_option maxRecDepth 100000 in
theorem c_X0_fewestApart {l : Launch} (hl : l.stackTraces = false) (g : GG) (σ : Sg) (hI : IC σ) {b : Nat} (hb : b < 5) : CN l yX0_fewestApart cX0_fewestApart 3 (some .int) 4 95 0 0 g [.ref (gd g (4 + b))] σ (pt (some (vI (faB σ b))) (σ)) := by
  refine CN_of (own := RX0) hl (by decide) rfl (Nat.le_of_ble_eq_true rfl) (fun mc hC _ hR => ?_)
  refine j_lv (lv2 := [(0, .ref (gd g (4 + b)))]) rfl ?_
  have hn2 := cN_eq hI hb
  have hn := hI.2.2.2.1 b hb
  refine j_aload_n hC dX0_fewestApart_0 0 rfl ?_
  refine j_get hC inX0 rfl (4 + b) (hw_bk g _ hb) 3 (by decide) wd50 rfl dX0_fewestApart_1 ?_
  refine j_iconst hC dX0_fewestApart_4 ?_
  refine j_icmp_ge (tgt := 10) hC dX0_fewestApart_5 (by decide) (by omega) (fun h5 => ?_) (fun h5 => ?_)
  · refine j_bipush hC dX0_fewestApart_10 (by decide) ?_
    refine j_istore_n hC dX0_fewestApart_12 [(1, vI (100)), (0, .ref (gd g (4 + b)))] (by decide) rfl ?_
    refine j_iconst hC dX0_fewestApart_13 ?_
    refine j_istore_n hC dX0_fewestApart_14 [(2, vI (0)), (1, vI (100)), (0, .ref (gd g (4 + b)))] (by decide) rfl ?_
    refine j_sub [0, 1, 2] rfl ?_
    rw [show faB σ b = nbF (fun z => nbB σ b z (lkB σ b z)) (-1) (cN σ b) 0 100 from if_neg (by omega)]
    exact lp_fewestApart hC hR hI hb (cN σ b) 0 100 (by omega) (by omega) (by omega)
  · refine j_iconst hC dX0_fewestApart_8 ?_
    exact j_iret hC dX0_fewestApart_9 ⟨by unfold faB; rw [if_pos h5], rfl⟩
set_option maxHeartbeats 4000000 in
set_option maxRecDepth 100000 in
theorem lp_countNear {mc : MC} {g : GG} {σ : Sg} (hC : Cx mc g cX0_countNear RX0 4 (some .int)) (hR : mR mc = rmJ 3 71 0 0) (hI : IC σ) {b : Nat} (hb : b < 5) (s : Int) (hs : 0 ≤ s ∧ s < σ.1 (2 + b)) : ∀ (d : Nat) (z : Int) (a : Int), (0 ≤ z) → (z + (d : Int) = σ.1 (2 + b)) → J mc g 0 0 (QN mc g (pt (some (vI (cnt (nrC (σ.2 0) (lkB σ b) s) d z a))) (σ)) 0 0) 4 [(3, vI (z)), (2, vI (a)), (0, .ref (gd g (4 + b))), (1, vI (s))] [] σ := by
  intro d
  induction d with
  | zero =>
    intro z a h0 hz
    have hn := hI.2.2.2.1 b hb
    refine j_iload_n hC dX0_countNear_4 0 rfl ?_
    refine j_aload_n hC dX0_countNear_5 2 rfl ?_
    refine j_get hC inX0 rfl (4 + b) (hw_bk g _ hb) 3 (by decide) wd50 rfl dX0_countNear_6 ?_
    refine j_icmp_ge (tgt := 49) hC dX0_countNear_9 (by decide) (by omega) (fun _ => ?_) (fun h => absurd h (by omega))
    refine j_iload_n hC dX0_countNear_49 1 rfl ?_
    exact j_iret hC dX0_countNear_50 ⟨rfl, rfl⟩
  | succ d ih =>
    intro z a h0 hz
    have hn := hI.2.2.2.1 b hb
    have hk := hI.2.2.2.2.1 b hb z (by omega) (by omega)
    have hk2 := hI.2.2.2.2.1 b hb s (by omega) (by omega)
    have hd := dst_rg (G := σ.2 0) (x := σ.2 (1 + b) s) (y := σ.2 (1 + b) z) ⟨hk2.1, hk2.2, hk.1, hk.2⟩
    rw [show cnt (nrC (σ.2 0) (lkB σ b) s) (d + 1) z a = cnt (nrC (σ.2 0) (lkB σ b) s) d (z + 1) (if nrC (σ.2 0) (lkB σ b) s z = true then a + 1 else a) from rfl]
    refine j_iload_n hC dX0_countNear_4 0 rfl ?_
    refine j_aload_n hC dX0_countNear_5 2 rfl ?_
    refine j_get hC inX0 rfl (4 + b) (hw_bk g _ hb) 3 (by decide) wd50 rfl dX0_countNear_6 ?_
    refine j_icmp_ge (tgt := 49) hC dX0_countNear_9 (by decide) (by omega) (fun h => absurd h (by omega)) (fun _ => ?_)
    refine j_iload_n hC dX0_countNear_12 0 rfl ?_
    refine j_iload_n hC dX0_countNear_13 3 rfl ?_
    refine j_icmp_eq (tgt := 43) hC dX0_countNear_14 (by decide) (by omega) (fun h14 => ?_) (fun h14 => ?_)
    · refine j_iinc hC dX0_countNear_43 0 [(3, vI (z + 1)), (2, vI (a)), (0, .ref (gd g (4 + b))), (1, vI (s))] rfl (by decide) rfl ?_
      refine j_goto (tgt := 4) hC dX0_countNear_46 (by decide) ?_
      refine j_sub [0, 1, 2, 3] rfl ?_
      first | (rw [if_pos (show nrC (σ.2 0) (lkB σ b) s z = true from decide_eq_true ⟨h14, h37⟩)]; exact ih (z + 1) (a + 1) (by omega) (by omega)) | (rw [if_neg (show ¬ (nrC (σ.2 0) (lkB σ b) s z = true) from fun q => (of_decide_eq_true q).1 h14)]; exact ih (z + 1) a (by omega) (by omega)) | (rw [if_neg (show ¬ (nrC (σ.2 0) (lkB σ b) s z = true) from fun q => absurd (show dst (σ.2 0) (σ.2 (1 + b) s) (σ.2 (1 + b) z) ≤ 3 from (of_decide_eq_true q).2) (by omega))]; exact ih (z + 1) a (by omega) (by omega))
    · refine j_aload_n hC dX0_countNear_17 2 rfl ?_
      refine j_get hC inX0 rfl (4 + b) (hw_bk g _ hb) 0 (by decide) wd45 rfl dX0_countNear_18 ?_
      refine j_aload_n hC dX0_countNear_21 2 rfl ?_
      refine j_get hC inX0 rfl (4 + b) (hw_bk g _ hb) 1 (by decide) wd46 rfl dX0_countNear_22 ?_
      refine j_iload_n hC dX0_countNear_25 3 rfl ?_
      refine j_iald hC (9 + b) (hw_lk g _ hb) (by omega) dX0_countNear_26 ?_
      refine j_aload_n hC dX0_countNear_27 2 rfl ?_
      refine j_get hC inX0 rfl (4 + b) (hw_bk g _ hb) 1 (by decide) wd46 rfl dX0_countNear_28 ?_
      refine j_iload_n hC dX0_countNear_31 0 rfl ?_
      refine j_iald hC (9 + b) (hw_lk g _ hb) (by omega) dX0_countNear_32 ?_
      refine j_callVN1 (ar := 2) hC hR (c_X2_distance (hlJ hC) g σ hI ((σ).2 (1 + b) s) ((σ).2 (1 + b) z) (by omega)) [] rfl 1 rfl rfl rfl (by decide) (by decide +kernel) rfl wd123 wd125 wp4 wd2 wd126 (by decide) (Nat.le_of_ble_eq_true rfl) dX0_countNear_33 ?_
      refine j_iconst hC dX0_countNear_36 ?_
      refine j_icmp_gt (tgt := 43) hC dX0_countNear_37 (by decide) (by omega) (fun h37 => ?_) (fun h37 => ?_)
      · refine j_iinc hC dX0_countNear_43 0 [(3, vI (z + 1)), (2, vI (a)), (0, .ref (gd g (4 + b))), (1, vI (s))] rfl (by decide) rfl ?_
        refine j_goto (tgt := 4) hC dX0_countNear_46 (by decide) ?_
        refine j_sub [0, 1, 2, 3] rfl ?_
        first | (rw [if_pos (show nrC (σ.2 0) (lkB σ b) s z = true from decide_eq_true ⟨h14, h37⟩)]; exact ih (z + 1) (a + 1) (by omega) (by omega)) | (rw [if_neg (show ¬ (nrC (σ.2 0) (lkB σ b) s z = true) from fun q => (of_decide_eq_true q).1 h14)]; exact ih (z + 1) a (by omega) (by omega)) | (rw [if_neg (show ¬ (nrC (σ.2 0) (lkB σ b) s z = true) from fun q => absurd (show dst (σ.2 0) (σ.2 (1 + b) s) (σ.2 (1 + b) z) ≤ 3 from (of_decide_eq_true q).2) (by omega))]; exact ih (z + 1) a (by omega) (by omega))
      · refine j_iinc hC dX0_countNear_40 1 [(2, vI (a + 1)), (3, vI (z)), (0, .ref (gd g (4 + b))), (1, vI (s))] rfl (by decide) rfl ?_
        refine j_iinc hC dX0_countNear_43 1 [(3, vI (z + 1)), (2, vI (a + 1)), (0, .ref (gd g (4 + b))), (1, vI (s))] rfl (by decide) rfl ?_
        refine j_goto (tgt := 4) hC dX0_countNear_46 (by decide) ?_
        refine j_sub [0, 1, 2, 3] rfl ?_
        first | (rw [if_pos (show nrC (σ.2 0) (lkB σ b) s z = true from decide_eq_true ⟨h14, h37⟩)]; exact ih (z + 1) (a + 1) (by omega) (by omega)) | (rw [if_neg (show ¬ (nrC (σ.2 0) (lkB σ b) s z = true) from fun q => (of_decide_eq_true q).1 h14)]; exact ih (z + 1) a (by omega) (by omega)) | (rw [if_neg (show ¬ (nrC (σ.2 0) (lkB σ b) s z = true) from fun q => absurd (show dst (σ.2 0) (σ.2 (1 + b) s) (σ.2 (1 + b) z) ≤ 3 from (of_decide_eq_true q).2) (by omega))]; exact ih (z + 1) a (by omega) (by omega))
set_option maxHeartbeats 4000000 in
set_option maxRecDepth 100000 in
theorem c_X0_countNear {l : Launch} (hl : l.stackTraces = false) (g : GG) (σ : Sg) (hI : IC σ) {b : Nat} (hb : b < 5) (s : Int) (hs : 0 ≤ s ∧ s < σ.1 (2 + b)) : CN l yX0_countNear cX0_countNear 4 (some .int) 3 71 0 0 g [.ref (gd g (4 + b)), vI (s)] σ (pt (some (vI (cnB σ b s))) (σ)) := by
  refine CN_of (own := RX0) hl (by decide) rfl (Nat.le_of_ble_eq_true rfl) (fun mc hC _ hR => ?_)
  refine j_lv (lv2 := [(0, .ref (gd g (4 + b))), (1, vI (s))]) rfl ?_
  have hn2 := cN_eq hI hb
  refine j_iconst hC dX0_countNear_0 ?_
  refine j_istore_n hC dX0_countNear_1 [(2, vI (0)), (0, .ref (gd g (4 + b))), (1, vI (s))] (by decide) rfl ?_
  refine j_iconst hC dX0_countNear_2 ?_
  refine j_istore_n hC dX0_countNear_3 [(3, vI (0)), (2, vI (0)), (0, .ref (gd g (4 + b))), (1, vI (s))] (by decide) rfl ?_
  refine j_sub [0, 1, 2, 3] rfl ?_
  exact lp_countNear hC hR hI hb s hs (cN σ b) 0 0 (by omega) (by omega)
set_option maxHeartbeats 4000000 in
set_option maxRecDepth 100000 in
theorem lp_signNearMost {mc : MC} {g : GG} {σ : Sg} (hC : Cx mc g cX0_signNearMost RX0 5 (some .int)) (hR : mR mc = rmJ 4 94 0 0) (hI : IC σ) {b : Nat} (hb : b < 5) : ∀ (d : Nat) (z : Int) (fo : Int) (mo : Int), (0 ≤ z) → (z + (d : Int) = σ.1 (2 + b)) → (-1 ≤ mo ∧ mo ≤ 16) → J mc g 0 0 (QN mc g (pt (some (vI (amF (fun z => cnB σ b z) d z fo mo))) (σ)) 0 0) 6 [(3, vI (z)), (1, vI (fo)), (2, vI (mo)), (0, .ref (gd g (4 + b)))] [] σ := by
  intro d
  induction d with
  | zero =>
    intro z fo mo h0 hz hm
    have hn := hI.2.2.2.1 b hb
    refine j_iload_n hC dX0_signNearMost_6 0 rfl ?_
    refine j_aload_n hC dX0_signNearMost_7 3 rfl ?_
    refine j_get hC inX0 rfl (4 + b) (hw_bk g _ hb) 3 (by decide) wd50 rfl dX0_signNearMost_8 ?_
    refine j_icmp_ge (tgt := 38) hC dX0_signNearMost_11 (by decide) (by omega) (fun _ => ?_) (fun h => absurd h (by omega))
    refine j_iload_n hC dX0_signNearMost_38 1 rfl ?_
    exact j_iret hC dX0_signNearMost_39 ⟨rfl, rfl⟩
  | succ d ih =>
    intro z fo mo h0 hz hm
    have hn := hI.2.2.2.1 b hb
    rw [show amF (fun z => cnB σ b z) (d + 1) z fo mo = if mo < cnB σ b z then amF (fun z => cnB σ b z) d (z + 1) z (cnB σ b z) else amF (fun z => cnB σ b z) d (z + 1) fo mo from rfl]
    refine j_iload_n hC dX0_signNearMost_6 0 rfl ?_
    refine j_aload_n hC dX0_signNearMost_7 3 rfl ?_
    refine j_get hC inX0 rfl (4 + b) (hw_bk g _ hb) 3 (by decide) wd50 rfl dX0_signNearMost_8 ?_
    refine j_icmp_ge (tgt := 38) hC dX0_signNearMost_11 (by decide) (by omega) (fun h => absurd h (by omega)) (fun _ => ?_)
    refine j_aload_n hC dX0_signNearMost_14 3 rfl ?_
    refine j_iload_n hC dX0_signNearMost_15 0 rfl ?_
    refine j_callV1 (ar := 1) hC hR (c_X0_countNear (hlJ hC) g σ hI hb z (by omega)) [] rfl (4 + b) (hw_bk g _ hb) rfl rfl (by decide) (by decide +kernel) rfl wd162 wd164 wp9 wd3 wd165 (by decide) (Nat.le_of_ble_eq_true rfl) dX0_signNearMost_16 ?_
    have hf16 : 0 ≤ cnB σ b z ∧ cnB σ b z ≤ 16 := cnt0_rg _ hI hb
    refine j_istore hC dX0_signNearMost_19 [(4, vI (cnB σ b z)), (3, vI (z)), (1, vI (fo)), (2, vI (mo)), (0, .ref (gd g (4 + b)))] (by decide) rfl ?_
    refine j_iload hC dX0_signNearMost_21 0 rfl ?_
    refine j_iload_n hC dX0_signNearMost_23 3 rfl ?_
    refine j_icmp_le (tgt := 32) hC dX0_signNearMost_24 (by decide) (by omega) (fun h24 => ?_) (fun h24 => ?_)
    · refine j_iinc hC dX0_signNearMost_32 1 [(3, vI (z + 1)), (4, vI (cnB σ b z)), (1, vI (fo)), (2, vI (mo)), (0, .ref (gd g (4 + b)))] rfl (by decide) rfl ?_
      refine j_goto (tgt := 6) hC dX0_signNearMost_35 (by decide) ?_
      refine j_sub [0, 2, 3, 4] rfl ?_
      first | (rw [if_pos h24]; exact ih (z + 1) z _ (by omega) (by omega) (by omega)) | (rw [if_neg (show ¬ mo < cnB σ b z by omega)]; exact ih (z + 1) fo mo (by omega) (by omega) hm)
    · refine j_iload hC dX0_signNearMost_27 0 rfl ?_
      refine j_istore_n hC dX0_signNearMost_29 [(2, vI (cnB σ b z)), (4, vI (cnB σ b z)), (3, vI (z)), (1, vI (fo)), (0, .ref (gd g (4 + b)))] (by decide) rfl ?_
      refine j_iload_n hC dX0_signNearMost_30 2 rfl ?_
      refine j_istore_n hC dX0_signNearMost_31 [(1, vI (z)), (2, vI (cnB σ b z)), (4, vI (cnB σ b z)), (3, vI (z)), (0, .ref (gd g (4 + b)))] (by decide) rfl ?_
      refine j_iinc hC dX0_signNearMost_32 3 [(3, vI (z + 1)), (1, vI (z)), (2, vI (cnB σ b z)), (4, vI (cnB σ b z)), (0, .ref (gd g (4 + b)))] rfl (by decide) rfl ?_
      refine j_goto (tgt := 6) hC dX0_signNearMost_35 (by decide) ?_
      refine j_sub [0, 1, 2, 4] rfl ?_
      first | (rw [if_pos h24]; exact ih (z + 1) z _ (by omega) (by omega) (by omega)) | (rw [if_neg (show ¬ mo < cnB σ b z by omega)]; exact ih (z + 1) fo mo (by omega) (by omega) hm)
set_option maxHeartbeats 4000000 in
set_option maxRecDepth 100000 in
theorem c_X0_signNearMost {l : Launch} (hl : l.stackTraces = false) (g : GG) (σ : Sg) (hI : IC σ) {b : Nat} (hb : b < 5) : CN l yX0_signNearMost cX0_signNearMost 5 (some .int) 4 94 0 0 g [.ref (gd g (4 + b))] σ (pt (some (vI (snB σ b))) (σ)) := by
  refine CN_of (own := RX0) hl (by decide) rfl (Nat.le_of_ble_eq_true rfl) (fun mc hC _ hR => ?_)
  refine j_lv (lv2 := [(0, .ref (gd g (4 + b)))]) rfl ?_
  have hn2 := cN_eq hI hb
  refine j_iconst hC dX0_signNearMost_0 ?_
  refine j_istore_n hC dX0_signNearMost_1 [(1, vI (-1)), (0, .ref (gd g (4 + b)))] (by decide) rfl ?_
  refine j_iconst hC dX0_signNearMost_2 ?_
  refine j_istore_n hC dX0_signNearMost_3 [(2, vI (-1)), (1, vI (-1)), (0, .ref (gd g (4 + b)))] (by decide) rfl ?_
  refine j_iconst hC dX0_signNearMost_4 ?_
  refine j_istore_n hC dX0_signNearMost_5 [(3, vI (0)), (2, vI (-1)), (1, vI (-1)), (0, .ref (gd g (4 + b)))] (by decide) rfl ?_
  refine j_sub [0, 2, 1, 3] rfl ?_
  exact lp_signNearMost hC hR hI hb (cN σ b) 0 (-1) (-1) (by omega) (by omega) (by omega)
set_option maxHeartbeats 4000000 in
set_option maxRecDepth 100000 in
theorem lp_thumbFarthest {mc : MC} {g : GG} {σ : Sg} (hC : Cx mc g cX0_thumbFarthest RX0 7 (some .int)) (hR : mR mc = rmJ 4 95 0 0) (hI : IC σ) {b : Nat} (hb : b < 5) (s : Int) (hs : 0 ≤ s ∧ s < σ.1 (2 + b)) : ∀ (d : Nat) (z : Int) (fo : Int) (mo : Int), (0 ≤ z) → (z + (d : Int) = 4) → (-1 ≤ mo ∧ mo ≤ 100) → J mc g 0 0 (QN mc g (pt (some (vI (amF (fun t => nbB σ b s (wth (lkB σ b s) t)) d z fo mo))) (σ)) 0 0) 28 [(5, vI (z)), (3, vI (fo)), (4, vI (mo)), (0, .ref (gd g (4 + b))), (1, vI (s)), (2, vI (σ.2 (1 + b) s))] [] σ := by
  intro d
  induction d with
  | zero =>
    intro z fo mo h0 hz hm
    have hn := hI.2.2.2.1 b hb
    have hk := hI.2.2.2.2.1 b hb s (by omega) (by omega)
    have hw := fun (t : Int) (h : 0 ≤ t ∧ t < 4) => wth_rg (L := σ.2 (1 + b) s) (t := t) ⟨hk.1, hk.2, h.1, h.2⟩
    refine j_iload hC dX0_thumbFarthest_28 0 rfl ?_
    refine j_iconst hC dX0_thumbFarthest_30 ?_
    refine j_icmp_ge (tgt := 67) hC dX0_thumbFarthest_31 (by decide) (by omega) (fun _ => ?_) (fun h => absurd h (by omega))
    refine j_iload_n hC dX0_thumbFarthest_67 1 rfl ?_
    exact j_iret hC dX0_thumbFarthest_68 ⟨rfl, rfl⟩
  | succ d ih =>
    intro z fo mo h0 hz hm
    have hn := hI.2.2.2.1 b hb
    have hk := hI.2.2.2.2.1 b hb s (by omega) (by omega)
    have hw := fun (t : Int) (h : 0 ≤ t ∧ t < 4) => wth_rg (L := σ.2 (1 + b) s) (t := t) ⟨hk.1, hk.2, h.1, h.2⟩
    rw [show amF (fun t => nbB σ b s (wth (lkB σ b s) t)) (d + 1) z fo mo = if mo < nbB σ b s (wth (σ.2 (1 + b) s) z) then amF (fun t => nbB σ b s (wth (lkB σ b s) t)) d (z + 1) z (nbB σ b s (wth (σ.2 (1 + b) s) z)) else amF (fun t => nbB σ b s (wth (lkB σ b s) t)) d (z + 1) fo mo from rfl]
    refine j_iload hC dX0_thumbFarthest_28 0 rfl ?_
    refine j_iconst hC dX0_thumbFarthest_30 ?_
    refine j_icmp_ge (tgt := 67) hC dX0_thumbFarthest_31 (by decide) (by omega) (fun h => absurd h (by omega)) (fun _ => ?_)
    have hw2 := hw z (by omega)
    refine j_aload_n hC dX0_thumbFarthest_34 3 rfl ?_
    refine j_iload_n hC dX0_thumbFarthest_35 4 rfl ?_
    refine j_iload_n hC dX0_thumbFarthest_36 5 rfl ?_
    refine j_iload hC dX0_thumbFarthest_37 0 rfl ?_
    refine j_callSN1 (ar := 2) hC hR (c_X1_withThumb (hlJ hC) g σ (σ.2 (1 + b) s) z (by omega)) [vI (s), .ref (gd g (4 + b))] rfl (by decide) (by decide +kernel) rfl wd273 wd274 wd11 wd275 (by decide) (Nat.le_of_ble_eq_true rfl) dX0_thumbFarthest_39 ?_
    refine j_callV1 (ar := 2) hC hR (c_X0_nearestBut (hlJ hC) g σ hI hb s (wth (σ.2 (1 + b) s) z) (by omega) (by omega)) [] rfl (4 + b) (hw_bk g _ hb) rfl rfl (by decide) (by decide +kernel) rfl wd151 wd153 wp7 wd3 wd154 (by decide) (Nat.le_of_ble_eq_true rfl) dX0_thumbFarthest_42 ?_
    have hf42 := nbB_rg hI hb s (L := (wth (σ.2 (1 + b) s) z)) (by omega)
    refine j_istore hC dX0_thumbFarthest_45 [(6, vI (nbB σ b s (wth (σ.2 (1 + b) s) z))), (5, vI (z)), (3, vI (fo)), (4, vI (mo)), (0, .ref (gd g (4 + b))), (1, vI (s)), (2, vI (σ.2 (1 + b) s))] (by decide) rfl ?_
    refine j_iload hC dX0_thumbFarthest_47 0 rfl ?_
    refine j_iload hC dX0_thumbFarthest_49 3 rfl ?_
    refine j_icmp_le (tgt := 61) hC dX0_thumbFarthest_51 (by decide) (by omega) (fun h51 => ?_) (fun h51 => ?_)
    · refine j_iinc hC dX0_thumbFarthest_61 1 [(5, vI (z + 1)), (6, vI (nbB σ b s (wth (σ.2 (1 + b) s) z))), (3, vI (fo)), (4, vI (mo)), (0, .ref (gd g (4 + b))), (1, vI (s)), (2, vI (σ.2 (1 + b) s))] rfl (by decide) rfl ?_
      refine j_goto (tgt := 28) hC dX0_thumbFarthest_64 (by decide) ?_
      refine j_sub [0, 2, 3, 4, 5, 6] rfl ?_
      first | (rw [if_pos h51]; exact ih (z + 1) z _ (by omega) (by omega) (by omega)) | (rw [if_neg (show ¬ mo < nbB σ b s (wth (σ.2 (1 + b) s) z) by omega)]; exact ih (z + 1) fo mo (by omega) (by omega) hm)
    · refine j_iload hC dX0_thumbFarthest_54 0 rfl ?_
      refine j_istore hC dX0_thumbFarthest_56 [(4, vI (nbB σ b s (wth (σ.2 (1 + b) s) z))), (6, vI (nbB σ b s (wth (σ.2 (1 + b) s) z))), (5, vI (z)), (3, vI (fo)), (0, .ref (gd g (4 + b))), (1, vI (s)), (2, vI (σ.2 (1 + b) s))] (by decide) rfl ?_
      refine j_iload hC dX0_thumbFarthest_58 2 rfl ?_
      refine j_istore_n hC dX0_thumbFarthest_60 [(3, vI (z)), (4, vI (nbB σ b s (wth (σ.2 (1 + b) s) z))), (6, vI (nbB σ b s (wth (σ.2 (1 + b) s) z))), (5, vI (z)), (0, .ref (gd g (4 + b))), (1, vI (s)), (2, vI (σ.2 (1 + b) s))] (by decide) rfl ?_
      refine j_iinc hC dX0_thumbFarthest_61 3 [(5, vI (z + 1)), (3, vI (z)), (4, vI (nbB σ b s (wth (σ.2 (1 + b) s) z))), (6, vI (nbB σ b s (wth (σ.2 (1 + b) s) z))), (0, .ref (gd g (4 + b))), (1, vI (s)), (2, vI (σ.2 (1 + b) s))] rfl (by decide) rfl ?_
      refine j_goto (tgt := 28) hC dX0_thumbFarthest_64 (by decide) ?_
      refine j_sub [0, 1, 2, 4, 5, 6] rfl ?_
      first | (rw [if_pos h51]; exact ih (z + 1) z _ (by omega) (by omega) (by omega)) | (rw [if_neg (show ¬ mo < nbB σ b s (wth (σ.2 (1 + b) s) z) by omega)]; exact ih (z + 1) fo mo (by omega) (by omega) hm)
set_option maxHeartbeats 4000000 in
set_option maxRecDepth 100000 in
theorem c_X0_thumbFarthest {l : Launch} (hl : l.stackTraces = false) (g : GG) (σ : Sg) (hI : IC σ) {b : Nat} (hb : b < 5) (s : Int) (hs : 0 ≤ s ∧ s < σ.1 (2 + b)) : CN l yX0_thumbFarthest cX0_thumbFarthest 7 (some .int) 4 95 0 0 g [.ref (gd g (4 + b)), vI (s)] σ (pt (some (vI (tfB σ b s))) (σ)) := by
  refine CN_of (own := RX0) hl (by decide) rfl (Nat.le_of_ble_eq_true rfl) (fun mc hC _ hR => ?_)
  refine j_lv (lv2 := [(0, .ref (gd g (4 + b))), (1, vI (s))]) rfl ?_
  have hn2 := cN_eq hI hb
  have hn := hI.2.2.2.1 b hb
  have hk := hI.2.2.2.2.1 b hb s (by omega) (by omega)
  refine j_aload_n hC dX0_thumbFarthest_0 0 rfl ?_
  refine j_get hC inX0 rfl (4 + b) (hw_bk g _ hb) 1 (by decide) wd46 rfl dX0_thumbFarthest_1 ?_
  refine j_iload_n hC dX0_thumbFarthest_4 1 rfl ?_
  refine j_iald hC (9 + b) (hw_lk g _ hb) (by omega) dX0_thumbFarthest_5 ?_
  refine j_istore_n hC dX0_thumbFarthest_6 [(2, vI ((σ).2 (1 + b) s)), (0, .ref (gd g (4 + b))), (1, vI (s))] (by decide) rfl ?_
  refine j_aload_n hC dX0_thumbFarthest_7 1 rfl ?_
  refine j_get hC inX0 rfl (4 + b) (hw_bk g _ hb) 3 (by decide) wd50 rfl dX0_thumbFarthest_8 ?_
  refine j_iconst hC dX0_thumbFarthest_11 ?_
  refine j_icmp_ge (tgt := 20) hC dX0_thumbFarthest_12 (by decide) (by omega) (fun h12 => ?_) (fun h12 => ?_)
  · refine j_iconst hC dX0_thumbFarthest_20 ?_
    refine j_istore_n hC dX0_thumbFarthest_21 [(3, vI (0)), (2, vI ((σ).2 (1 + b) s)), (0, .ref (gd g (4 + b))), (1, vI (s))] (by decide) rfl ?_
    refine j_iconst hC dX0_thumbFarthest_22 ?_
    refine j_istore hC dX0_thumbFarthest_23 [(4, vI (-1)), (3, vI (0)), (2, vI ((σ).2 (1 + b) s)), (0, .ref (gd g (4 + b))), (1, vI (s))] (by decide) rfl ?_
    refine j_iconst hC dX0_thumbFarthest_25 ?_
    refine j_istore hC dX0_thumbFarthest_26 [(5, vI (0)), (4, vI (-1)), (3, vI (0)), (2, vI ((σ).2 (1 + b) s)), (0, .ref (gd g (4 + b))), (1, vI (s))] (by decide) rfl ?_
    refine j_sub [0, 2, 1, 4, 5, 3] rfl ?_
    rw [show tfB σ b s = amF (fun t => nbB σ b s (wth (lkB σ b s) t)) 4 0 0 (-1) from if_neg (by omega)]
    exact lp_thumbFarthest hC hR hI hb s hs 4 0 0 (-1) (by omega) (by omega) (by omega)
  · refine j_iload_n hC dX0_thumbFarthest_15 0 rfl ?_
    refine j_callSN1 (ar := 1) hC hR (c_X1_thumb (hlJ hC) g σ ((σ).2 (1 + b) s) (by omega)) [] rfl (by decide) (by decide +kernel) rfl wd120 wd121 wd11 wd122 (by decide) (Nat.le_of_ble_eq_true rfl) dX0_thumbFarthest_16 ?_
    exact j_iret hC dX0_thumbFarthest_19 ⟨by unfold tfB; rw [if_pos h12], rfl⟩
set_option maxHeartbeats 4000000 in
set_option maxRecDepth 100000 in
theorem lp_meaningRead {mc : MC} {g : GG} {σ : Sg} (hC : Cx mc g cX0_meaningRead RX0 6 (some .int)) (hR : mR mc = rmJ 3 71 0 0) (hI : IC σ) {b : Nat} (hb : b < 5) (x : Int) (hx : 0 ≤ x ∧ x < 2304) : ∀ (d : Nat) (z : Int) (fw : Int) (m : Int), (0 ≤ z) → (z + (d : Int) = σ.1 (2 + b)) → (0 ≤ fw ∧ fw ≤ 4) → J mc g 0 0 (QN mc g (pt (some (vI (mrF (fun z => dst (σ.2 0) x (lkB σ b z)) (mnB σ b) d z fw m))) (σ)) 0 0) 7 [(4, vI (z)), (2, vI (fw)), (3, vI (m)), (0, .ref (gd g (4 + b))), (1, vI (x))] [] σ := by
  intro d
  induction d with
  | zero =>
    intro z fw m h0 hz hf
    have hn := hI.2.2.2.1 b hb
    refine j_iload hC dX0_meaningRead_7 0 rfl ?_
    refine j_aload_n hC dX0_meaningRead_9 3 rfl ?_
    refine j_get hC inX0 rfl (4 + b) (hw_bk g _ hb) 3 (by decide) wd50 rfl dX0_meaningRead_10 ?_
    refine j_icmp_ge (tgt := 67) hC dX0_meaningRead_13 (by decide) (by omega) (fun _ => ?_) (fun h => absurd h (by omega))
    refine j_iload_n hC dX0_meaningRead_67 2 rfl ?_
    exact j_iret hC dX0_meaningRead_68 ⟨rfl, rfl⟩
  | succ d ih =>
    intro z fw m h0 hz hf
    have hn := hI.2.2.2.1 b hb
    have hk := hI.2.2.2.2.1 b hb z (by omega) (by omega)
    have hd := dst_rg (G := σ.2 0) (x := x) (y := σ.2 (1 + b) z) ⟨hx.1, hx.2, hk.1, hk.2⟩
    rw [show mrF (fun z => dst (σ.2 0) x (lkB σ b z)) (mnB σ b) (d + 1) z fw m = if dst (σ.2 0) x (σ.2 (1 + b) z) < fw then mrF (fun z => dst (σ.2 0) x (lkB σ b z)) (mnB σ b) d (z + 1) (dst (σ.2 0) x (σ.2 (1 + b) z)) (σ.2 (6 + b) z) else if dst (σ.2 0) x (σ.2 (1 + b) z) = fw then mrF (fun z => dst (σ.2 0) x (lkB σ b z)) (mnB σ b) d (z + 1) fw (-1) else mrF (fun z => dst (σ.2 0) x (lkB σ b z)) (mnB σ b) d (z + 1) fw m from rfl]
    refine j_iload hC dX0_meaningRead_7 0 rfl ?_
    refine j_aload_n hC dX0_meaningRead_9 3 rfl ?_
    refine j_get hC inX0 rfl (4 + b) (hw_bk g _ hb) 3 (by decide) wd50 rfl dX0_meaningRead_10 ?_
    refine j_icmp_ge (tgt := 67) hC dX0_meaningRead_13 (by decide) (by omega) (fun h => absurd h (by omega)) (fun _ => ?_)
    refine j_aload_n hC dX0_meaningRead_16 3 rfl ?_
    refine j_get hC inX0 rfl (4 + b) (hw_bk g _ hb) 0 (by decide) wd45 rfl dX0_meaningRead_17 ?_
    refine j_iload_n hC dX0_meaningRead_20 4 rfl ?_
    refine j_aload_n hC dX0_meaningRead_21 3 rfl ?_
    refine j_get hC inX0 rfl (4 + b) (hw_bk g _ hb) 1 (by decide) wd46 rfl dX0_meaningRead_22 ?_
    refine j_iload hC dX0_meaningRead_25 0 rfl ?_
    refine j_iald hC (9 + b) (hw_lk g _ hb) (by omega) dX0_meaningRead_27 ?_
    refine j_callVN1 (ar := 2) hC hR (c_X2_distance (hlJ hC) g σ hI x ((σ).2 (1 + b) z) (by omega)) [] rfl 1 rfl rfl rfl (by decide) (by decide +kernel) rfl wd123 wd125 wp4 wd2 wd126 (by decide) (Nat.le_of_ble_eq_true rfl) dX0_meaningRead_28 ?_
    refine j_istore hC dX0_meaningRead_31 [(5, vI (dst (σ.2 0) x ((σ).2 (1 + b) z))), (4, vI (z)), (2, vI (fw)), (3, vI (m)), (0, .ref (gd g (4 + b))), (1, vI (x))] (by decide) rfl ?_
    refine j_iload hC dX0_meaningRead_33 0 rfl ?_
    refine j_iload_n hC dX0_meaningRead_35 2 rfl ?_
    refine j_icmp_ge (tgt := 53) hC dX0_meaningRead_36 (by decide) (by omega) (fun h36 => ?_) (fun h36 => ?_)
    · refine j_iload hC dX0_meaningRead_53 0 rfl ?_
      refine j_iload_n hC dX0_meaningRead_55 2 rfl ?_
      refine j_icmp_ne (tgt := 61) hC dX0_meaningRead_56 (by decide) (by omega) (fun h56 => ?_) (fun h56 => ?_)
      · refine j_iinc hC dX0_meaningRead_61 1 [(4, vI (z + 1)), (5, vI (dst (σ.2 0) x ((σ).2 (1 + b) z))), (2, vI (fw)), (3, vI (m)), (0, .ref (gd g (4 + b))), (1, vI (x))] rfl (by decide) rfl ?_
        refine j_goto (tgt := 7) hC dX0_meaningRead_64 (by decide) ?_
        refine j_sub [0, 2, 3, 4, 5] rfl ?_
        first | (rw [if_pos h36]; exact ih (z + 1) _ _ (by omega) (by omega) (by omega)) | (rw [if_neg (show ¬ dst (σ.2 0) x (σ.2 (1 + b) z) < fw by omega), if_pos h56]; exact ih (z + 1) fw (-1) (by omega) (by omega) hf) | (rw [if_neg (show ¬ dst (σ.2 0) x (σ.2 (1 + b) z) < fw by omega), if_neg h56]; exact ih (z + 1) fw m (by omega) (by omega) hf)
      · refine j_iconst hC dX0_meaningRead_59 ?_
        refine j_istore_n hC dX0_meaningRead_60 [(3, vI (-1)), (5, vI (dst (σ.2 0) x ((σ).2 (1 + b) z))), (4, vI (z)), (2, vI (fw)), (0, .ref (gd g (4 + b))), (1, vI (x))] (by decide) rfl ?_
        refine j_iinc hC dX0_meaningRead_61 2 [(4, vI (z + 1)), (3, vI (-1)), (5, vI (dst (σ.2 0) x ((σ).2 (1 + b) z))), (2, vI (fw)), (0, .ref (gd g (4 + b))), (1, vI (x))] rfl (by decide) rfl ?_
        refine j_goto (tgt := 7) hC dX0_meaningRead_64 (by decide) ?_
        refine j_sub [0, 3, 1, 4, 5] rfl ?_
        first | (rw [if_pos h36]; exact ih (z + 1) _ _ (by omega) (by omega) (by omega)) | (rw [if_neg (show ¬ dst (σ.2 0) x (σ.2 (1 + b) z) < fw by omega), if_pos h56]; exact ih (z + 1) fw (-1) (by omega) (by omega) hf) | (rw [if_neg (show ¬ dst (σ.2 0) x (σ.2 (1 + b) z) < fw by omega), if_neg h56]; exact ih (z + 1) fw m (by omega) (by omega) hf)
    · refine j_iload hC dX0_meaningRead_39 0 rfl ?_
      refine j_istore_n hC dX0_meaningRead_41 [(2, vI (dst (σ.2 0) x ((σ).2 (1 + b) z))), (5, vI (dst (σ.2 0) x ((σ).2 (1 + b) z))), (4, vI (z)), (3, vI (m)), (0, .ref (gd g (4 + b))), (1, vI (x))] (by decide) rfl ?_
      refine j_aload_n hC dX0_meaningRead_42 4 rfl ?_
      refine j_get hC inX0 rfl (4 + b) (hw_bk g _ hb) 2 (by decide) wd48 rfl dX0_meaningRead_43 ?_
      refine j_iload hC dX0_meaningRead_46 2 rfl ?_
      refine j_iald hC (14 + b) (hw_mn g _ hb) (by omega) dX0_meaningRead_48 ?_
      refine j_istore_n hC dX0_meaningRead_49 [(3, vI ((σ).2 (6 + b) z)), (2, vI (dst (σ.2 0) x ((σ).2 (1 + b) z))), (5, vI (dst (σ.2 0) x ((σ).2 (1 + b) z))), (4, vI (z)), (0, .ref (gd g (4 + b))), (1, vI (x))] (by decide) rfl ?_
      refine j_goto (tgt := 61) hC dX0_meaningRead_50 (by decide) ?_
      refine j_iinc hC dX0_meaningRead_61 3 [(4, vI (z + 1)), (3, vI ((σ).2 (6 + b) z)), (2, vI (dst (σ.2 0) x ((σ).2 (1 + b) z))), (5, vI (dst (σ.2 0) x ((σ).2 (1 + b) z))), (0, .ref (gd g (4 + b))), (1, vI (x))] rfl (by decide) rfl ?_
      refine j_goto (tgt := 7) hC dX0_meaningRead_64 (by decide) ?_
      refine j_sub [0, 2, 1, 4, 5] rfl ?_
      first | (rw [if_pos h36]; exact ih (z + 1) _ _ (by omega) (by omega) (by omega)) | (rw [if_neg (show ¬ dst (σ.2 0) x (σ.2 (1 + b) z) < fw by omega), if_pos h56]; exact ih (z + 1) fw (-1) (by omega) (by omega) hf) | (rw [if_neg (show ¬ dst (σ.2 0) x (σ.2 (1 + b) z) < fw by omega), if_neg h56]; exact ih (z + 1) fw m (by omega) (by omega) hf)
set_option maxHeartbeats 4000000 in
set_option maxRecDepth 100000 in
theorem c_X0_meaningRead {l : Launch} (hl : l.stackTraces = false) (g : GG) (σ : Sg) (hI : IC σ) {b : Nat} (hb : b < 5) (x : Int) (hx : 0 ≤ x ∧ x < 2304) : CN l yX0_meaningRead cX0_meaningRead 6 (some .int) 3 71 0 0 g [.ref (gd g (4 + b)), vI (x)] σ (pt (some (vI (mrB σ b x))) (σ)) := by
  refine CN_of (own := RX0) hl (by decide) rfl (Nat.le_of_ble_eq_true rfl) (fun mc hC _ hR => ?_)
  refine j_lv (lv2 := [(0, .ref (gd g (4 + b))), (1, vI (x))]) rfl ?_
  have hn2 := cN_eq hI hb
  refine j_iconst hC dX0_meaningRead_0 ?_
  refine j_istore_n hC dX0_meaningRead_1 [(2, vI (4)), (0, .ref (gd g (4 + b))), (1, vI (x))] (by decide) rfl ?_
  refine j_iconst hC dX0_meaningRead_2 ?_
  refine j_istore_n hC dX0_meaningRead_3 [(3, vI (-1)), (2, vI (4)), (0, .ref (gd g (4 + b))), (1, vI (x))] (by decide) rfl ?_
  refine j_iconst hC dX0_meaningRead_4 ?_
  refine j_istore hC dX0_meaningRead_5 [(4, vI (0)), (3, vI (-1)), (2, vI (4)), (0, .ref (gd g (4 + b))), (1, vI (x))] (by decide) rfl ?_
  refine j_sub [0, 2, 1, 3, 4] rfl ?_
  exact lp_meaningRead hC hR hI hb x hx (cN σ b) 0 4 (-1) (by omega) (by omega) (by omega)
set_option maxHeartbeats 4000000 in
set_option maxRecDepth 100000 in
theorem lp_countUnderstood {mc : MC} {g : GG} {σ : Sg} (hC : Cx mc g cX0_countUnderstood RX0 4 (some .int)) (hR : mR mc = rmJ 4 96 0 0) (hI : IC σ) {b : Nat} (hb : b < 5) {e : Nat} (he : e < 5) : ∀ (d : Nat) (z : Int) (a : Int), (0 ≤ z) → (z + (d : Int) = σ.1 (2 + e)) → J mc g 0 0 (QN mc g (pt (some (vI (cnt (unC σ b e) d z a))) (σ)) 0 0) 4 [(3, vI (z)), (2, vI (a)), (0, .ref (gd g (4 + b))), (1, .ref (gd g (4 + e)))] [] σ := by
  intro d
  induction d with
  | zero =>
    intro z a h0 hz
    have hn := hI.2.2.2.1 b hb
    have hne := hI.2.2.2.1 e he
    refine j_iload_n hC dX0_countUnderstood_4 0 rfl ?_
    refine j_aload_n hC dX0_countUnderstood_5 3 rfl ?_
    refine j_get hC inX0 rfl (4 + e) (hw_bk g _ he) 3 (by decide) wd50 rfl dX0_countUnderstood_6 ?_
    refine j_icmp_ge (tgt := 40) hC dX0_countUnderstood_9 (by decide) (by omega) (fun _ => ?_) (fun h => absurd h (by omega))
    refine j_iload_n hC dX0_countUnderstood_40 1 rfl ?_
    exact j_iret hC dX0_countUnderstood_41 ⟨rfl, rfl⟩
  | succ d ih =>
    intro z a h0 hz
    have hn := hI.2.2.2.1 b hb
    have hne := hI.2.2.2.1 e he
    have hk := hI.2.2.2.2.1 e he z (by omega) (by omega)
    have hm := hI.2.2.2.2.2 e he z (by omega) (by omega)
    rw [show cnt (unC σ b e) (d + 1) z a = cnt (unC σ b e) d (z + 1) (if unC σ b e z = true then a + 1 else a) from rfl]
    refine j_iload_n hC dX0_countUnderstood_4 0 rfl ?_
    refine j_aload_n hC dX0_countUnderstood_5 3 rfl ?_
    refine j_get hC inX0 rfl (4 + e) (hw_bk g _ he) 3 (by decide) wd50 rfl dX0_countUnderstood_6 ?_
    refine j_icmp_ge (tgt := 40) hC dX0_countUnderstood_9 (by decide) (by omega) (fun h => absurd h (by omega)) (fun _ => ?_)
    refine j_aload_n hC dX0_countUnderstood_12 2 rfl ?_
    refine j_aload_n hC dX0_countUnderstood_13 3 rfl ?_
    refine j_get hC inX0 rfl (4 + e) (hw_bk g _ he) 1 (by decide) wd46 rfl dX0_countUnderstood_14 ?_
    refine j_iload_n hC dX0_countUnderstood_17 0 rfl ?_
    refine j_iald hC (9 + e) (hw_lk g _ he) (by omega) dX0_countUnderstood_18 ?_
    refine j_callV1 (ar := 1) hC hR (c_X0_meaningRead (hlJ hC) g σ hI hb ((σ).2 (1 + e) z) (by omega)) [] rfl (4 + b) (hw_bk g _ hb) rfl rfl (by decide) (by decide +kernel) rfl wd170 wd172 wp11 wd3 wd173 (by decide) (Nat.le_of_ble_eq_true rfl) dX0_countUnderstood_19 ?_
    have hf19 := mrB_rg hI hb ((σ).2 (1 + e) z)
    refine j_aload_n hC dX0_countUnderstood_22 3 rfl ?_
    refine j_get hC inX0 rfl (4 + e) (hw_bk g _ he) 2 (by decide) wd48 rfl dX0_countUnderstood_23 ?_
    refine j_iload_n hC dX0_countUnderstood_26 0 rfl ?_
    refine j_iald hC (14 + e) (hw_mn g _ he) (by omega) dX0_countUnderstood_27 ?_
    refine j_icmp_ne (tgt := 34) hC dX0_countUnderstood_28 (by decide) (by omega) (fun h28 => ?_) (fun h28 => ?_)
    · refine j_iinc hC dX0_countUnderstood_34 0 [(3, vI (z + 1)), (2, vI (a)), (0, .ref (gd g (4 + b))), (1, .ref (gd g (4 + e)))] rfl (by decide) rfl ?_
      refine j_goto (tgt := 4) hC dX0_countUnderstood_37 (by decide) ?_
      refine j_sub [0, 1, 2, 3] rfl ?_
      first | (rw [if_pos (show unC σ b e z = true from decide_eq_true h28)]; exact ih (z + 1) (a + 1) (by omega) (by omega)) | (rw [if_neg (show ¬ (unC σ b e z = true) from fun q => h28 (of_decide_eq_true q))]; exact ih (z + 1) a (by omega) (by omega))
    · refine j_iinc hC dX0_countUnderstood_31 1 [(2, vI (a + 1)), (3, vI (z)), (0, .ref (gd g (4 + b))), (1, .ref (gd g (4 + e)))] rfl (by decide) rfl ?_
      refine j_iinc hC dX0_countUnderstood_34 1 [(3, vI (z + 1)), (2, vI (a + 1)), (0, .ref (gd g (4 + b))), (1, .ref (gd g (4 + e)))] rfl (by decide) rfl ?_
      refine j_goto (tgt := 4) hC dX0_countUnderstood_37 (by decide) ?_
      refine j_sub [0, 1, 2, 3] rfl ?_
      first | (rw [if_pos (show unC σ b e z = true from decide_eq_true h28)]; exact ih (z + 1) (a + 1) (by omega) (by omega)) | (rw [if_neg (show ¬ (unC σ b e z = true) from fun q => h28 (of_decide_eq_true q))]; exact ih (z + 1) a (by omega) (by omega))
set_option maxHeartbeats 4000000 in
set_option maxRecDepth 100000 in
theorem c_X0_countUnderstood {l : Launch} (hl : l.stackTraces = false) (g : GG) (σ : Sg) (hI : IC σ) {b : Nat} (hb : b < 5) {e : Nat} (he : e < 5) : CN l yX0_countUnderstood cX0_countUnderstood 4 (some .int) 4 96 0 0 g [.ref (gd g (4 + b)), .ref (gd g (4 + e))] σ (pt (some (vI (cuB σ b e))) (σ)) := by
  refine CN_of (own := RX0) hl (by decide) rfl (Nat.le_of_ble_eq_true rfl) (fun mc hC _ hR => ?_)
  refine j_lv (lv2 := [(0, .ref (gd g (4 + b))), (1, .ref (gd g (4 + e)))]) rfl ?_
  have hn2 := cN_eq hI he
  refine j_iconst hC dX0_countUnderstood_0 ?_
  refine j_istore_n hC dX0_countUnderstood_1 [(2, vI (0)), (0, .ref (gd g (4 + b))), (1, .ref (gd g (4 + e)))] (by decide) rfl ?_
  refine j_iconst hC dX0_countUnderstood_2 ?_
  refine j_istore_n hC dX0_countUnderstood_3 [(3, vI (0)), (2, vI (0)), (0, .ref (gd g (4 + b))), (1, .ref (gd g (4 + e)))] (by decide) rfl ?_
  refine j_sub [0, 1, 2, 3] rfl ?_
  exact lp_countUnderstood hC hR hI hb he (cN σ e) 0 0 (by omega) (by omega)
set_option maxHeartbeats 4000000 in
set_option maxRecDepth 100000 in
theorem lp_countMisread {mc : MC} {g : GG} {σ : Sg} (hC : Cx mc g cX0_countMisread RX0 5 (some .int)) (hR : mR mc = rmJ 4 96 0 0) (hI : IC σ) {b : Nat} (hb : b < 5) {e : Nat} (he : e < 5) : ∀ (d : Nat) (z : Int) (a : Int), (0 ≤ z) → (z + (d : Int) = σ.1 (2 + e)) → J mc g 0 0 (QN mc g (pt (some (vI (cnt (miC σ b e) d z a))) (σ)) 0 0) 4 [(3, vI (z)), (2, vI (a)), (0, .ref (gd g (4 + b))), (1, .ref (gd g (4 + e)))] [] σ := by
  intro d
  induction d with
  | zero =>
    intro z a h0 hz
    have hn := hI.2.2.2.1 b hb
    have hne := hI.2.2.2.1 e he
    refine j_iload_n hC dX0_countMisread_4 0 rfl ?_
    refine j_aload_n hC dX0_countMisread_5 3 rfl ?_
    refine j_get hC inX0 rfl (4 + e) (hw_bk g _ he) 3 (by decide) wd50 rfl dX0_countMisread_6 ?_
    refine j_icmp_ge (tgt := 50) hC dX0_countMisread_9 (by decide) (by omega) (fun _ => ?_) (fun h => absurd h (by omega))
    refine j_iload_n hC dX0_countMisread_50 1 rfl ?_
    exact j_iret hC dX0_countMisread_51 ⟨rfl, rfl⟩
  | succ d ih =>
    intro z a h0 hz
    have hn := hI.2.2.2.1 b hb
    have hne := hI.2.2.2.1 e he
    have hk := hI.2.2.2.2.1 e he z (by omega) (by omega)
    have hm := hI.2.2.2.2.2 e he z (by omega) (by omega)
    rw [show cnt (miC σ b e) (d + 1) z a = cnt (miC σ b e) d (z + 1) (if miC σ b e z = true then a + 1 else a) from rfl]
    refine j_iload_n hC dX0_countMisread_4 0 rfl ?_
    refine j_aload_n hC dX0_countMisread_5 3 rfl ?_
    refine j_get hC inX0 rfl (4 + e) (hw_bk g _ he) 3 (by decide) wd50 rfl dX0_countMisread_6 ?_
    refine j_icmp_ge (tgt := 50) hC dX0_countMisread_9 (by decide) (by omega) (fun h => absurd h (by omega)) (fun _ => ?_)
    refine j_aload_n hC dX0_countMisread_12 2 rfl ?_
    refine j_aload_n hC dX0_countMisread_13 3 rfl ?_
    refine j_get hC inX0 rfl (4 + e) (hw_bk g _ he) 1 (by decide) wd46 rfl dX0_countMisread_14 ?_
    refine j_iload_n hC dX0_countMisread_17 0 rfl ?_
    refine j_iald hC (9 + e) (hw_lk g _ he) (by omega) dX0_countMisread_18 ?_
    refine j_callV1 (ar := 1) hC hR (c_X0_meaningRead (hlJ hC) g σ hI hb ((σ).2 (1 + e) z) (by omega)) [] rfl (4 + b) (hw_bk g _ hb) rfl rfl (by decide) (by decide +kernel) rfl wd170 wd172 wp11 wd3 wd173 (by decide) (Nat.le_of_ble_eq_true rfl) dX0_countMisread_19 ?_
    have hf19 := mrB_rg hI hb ((σ).2 (1 + e) z)
    refine j_istore hC dX0_countMisread_22 [(4, vI (mrB σ b ((σ).2 (1 + e) z))), (3, vI (z)), (2, vI (a)), (0, .ref (gd g (4 + b))), (1, .ref (gd g (4 + e)))] (by decide) rfl ?_
    refine j_iload hC dX0_countMisread_24 0 rfl ?_
    refine j_iconst hC dX0_countMisread_26 ?_
    refine j_icmp_eq (tgt := 44) hC dX0_countMisread_27 (by decide) (by omega) (fun h27 => ?_) (fun h27 => ?_)
    · refine j_iinc hC dX0_countMisread_44 1 [(3, vI (z + 1)), (4, vI (mrB σ b ((σ).2 (1 + e) z))), (2, vI (a)), (0, .ref (gd g (4 + b))), (1, .ref (gd g (4 + e)))] rfl (by decide) rfl ?_
      refine j_goto (tgt := 4) hC dX0_countMisread_47 (by decide) ?_
      refine j_sub [0, 2, 3, 4] rfl ?_
      first | (rw [if_pos (show miC σ b e z = true from decide_eq_true ⟨h27, h38⟩)]; exact ih (z + 1) (a + 1) (by omega) (by omega)) | (rw [if_neg (show ¬ (miC σ b e z = true) from fun q => (of_decide_eq_true q).1 h27)]; exact ih (z + 1) a (by omega) (by omega)) | (rw [if_neg (show ¬ (miC σ b e z = true) from fun q => (of_decide_eq_true q).2 h38)]; exact ih (z + 1) a (by omega) (by omega))
    · refine j_iload hC dX0_countMisread_30 0 rfl ?_
      refine j_aload_n hC dX0_countMisread_32 4 rfl ?_
      refine j_get hC inX0 rfl (4 + e) (hw_bk g _ he) 2 (by decide) wd48 rfl dX0_countMisread_33 ?_
      refine j_iload_n hC dX0_countMisread_36 1 rfl ?_
      refine j_iald hC (14 + e) (hw_mn g _ he) (by omega) dX0_countMisread_37 ?_
      refine j_icmp_eq (tgt := 44) hC dX0_countMisread_38 (by decide) (by omega) (fun h38 => ?_) (fun h38 => ?_)
      · refine j_iinc hC dX0_countMisread_44 1 [(3, vI (z + 1)), (4, vI (mrB σ b ((σ).2 (1 + e) z))), (2, vI (a)), (0, .ref (gd g (4 + b))), (1, .ref (gd g (4 + e)))] rfl (by decide) rfl ?_
        refine j_goto (tgt := 4) hC dX0_countMisread_47 (by decide) ?_
        refine j_sub [0, 2, 3, 4] rfl ?_
        first | (rw [if_pos (show miC σ b e z = true from decide_eq_true ⟨h27, h38⟩)]; exact ih (z + 1) (a + 1) (by omega) (by omega)) | (rw [if_neg (show ¬ (miC σ b e z = true) from fun q => (of_decide_eq_true q).1 h27)]; exact ih (z + 1) a (by omega) (by omega)) | (rw [if_neg (show ¬ (miC σ b e z = true) from fun q => (of_decide_eq_true q).2 h38)]; exact ih (z + 1) a (by omega) (by omega))
      · refine j_iinc hC dX0_countMisread_41 2 [(2, vI (a + 1)), (4, vI (mrB σ b ((σ).2 (1 + e) z))), (3, vI (z)), (0, .ref (gd g (4 + b))), (1, .ref (gd g (4 + e)))] rfl (by decide) rfl ?_
        refine j_iinc hC dX0_countMisread_44 2 [(3, vI (z + 1)), (2, vI (a + 1)), (4, vI (mrB σ b ((σ).2 (1 + e) z))), (0, .ref (gd g (4 + b))), (1, .ref (gd g (4 + e)))] rfl (by decide) rfl ?_
        refine j_goto (tgt := 4) hC dX0_countMisread_47 (by decide) ?_
        refine j_sub [0, 1, 3, 4] rfl ?_
        first | (rw [if_pos (show miC σ b e z = true from decide_eq_true ⟨h27, h38⟩)]; exact ih (z + 1) (a + 1) (by omega) (by omega)) | (rw [if_neg (show ¬ (miC σ b e z = true) from fun q => (of_decide_eq_true q).1 h27)]; exact ih (z + 1) a (by omega) (by omega)) | (rw [if_neg (show ¬ (miC σ b e z = true) from fun q => (of_decide_eq_true q).2 h38)]; exact ih (z + 1) a (by omega) (by omega))
set_option maxHeartbeats 4000000 in
set_option maxRecDepth 100000 in
theorem c_X0_countMisread {l : Launch} (hl : l.stackTraces = false) (g : GG) (σ : Sg) (hI : IC σ) {b : Nat} (hb : b < 5) {e : Nat} (he : e < 5) : CN l yX0_countMisread cX0_countMisread 5 (some .int) 4 96 0 0 g [.ref (gd g (4 + b)), .ref (gd g (4 + e))] σ (pt (some (vI (cmB σ b e))) (σ)) := by
  refine CN_of (own := RX0) hl (by decide) rfl (Nat.le_of_ble_eq_true rfl) (fun mc hC _ hR => ?_)
  refine j_lv (lv2 := [(0, .ref (gd g (4 + b))), (1, .ref (gd g (4 + e)))]) rfl ?_
  have hn2 := cN_eq hI he
  refine j_iconst hC dX0_countMisread_0 ?_
  refine j_istore_n hC dX0_countMisread_1 [(2, vI (0)), (0, .ref (gd g (4 + b))), (1, .ref (gd g (4 + e)))] (by decide) rfl ?_
  refine j_iconst hC dX0_countMisread_2 ?_
  refine j_istore_n hC dX0_countMisread_3 [(3, vI (0)), (2, vI (0)), (0, .ref (gd g (4 + b))), (1, .ref (gd g (4 + e)))] (by decide) rfl ?_
  refine j_sub [0, 1, 2, 3] rfl ?_
  exact lp_countMisread hC hR hI hb he (cN σ e) 0 0 (by omega) (by omega)
set_option maxHeartbeats 4000000 in
set_option maxRecDepth 100000 in
theorem lp_countCommon {mc : MC} {g : GG} {σ : Sg} (hC : Cx mc g cX0_countCommon RX0 6 (some .int)) (hR : mR mc = rmJ 4 96 0 0) (hI : IC σ) {b : Nat} (hb : b < 5) {e : Nat} (he : e < 5) : ∀ (d : Nat) (z : Int) (a : Int), (0 ≤ z) → (z + (d : Int) = σ.1 (2 + b)) → J mc g 0 0 (QN mc g (pt (some (vI (cnt (coC σ b e) d z a))) (σ)) 0 0) 4 [(3, vI (z)), (2, vI (a)), (0, .ref (gd g (4 + b))), (1, .ref (gd g (4 + e)))] [] σ := by
  intro d
  induction d with
  | zero =>
    intro z a h0 hz
    have hn := hI.2.2.2.1 b hb
    have hne := hI.2.2.2.1 e he
    refine j_iload_n hC dX0_countCommon_4 0 rfl ?_
    refine j_aload_n hC dX0_countCommon_5 2 rfl ?_
    refine j_get hC inX0 rfl (4 + b) (hw_bk g _ hb) 3 (by decide) wd50 rfl dX0_countCommon_6 ?_
    refine j_icmp_ge (tgt := 74) hC dX0_countCommon_9 (by decide) (by omega) (fun _ => ?_) (fun h => absurd h (by omega))
    refine j_iload_n hC dX0_countCommon_74 1 rfl ?_
    exact j_iret hC dX0_countCommon_75 ⟨rfl, rfl⟩
  | succ d ih =>
    intro z a h0 hz
    have hn := hI.2.2.2.1 b hb
    have hne := hI.2.2.2.1 e he
    have hk := hI.2.2.2.2.1 b hb z (by omega) (by omega)
    have hm := hI.2.2.2.2.2 b hb z (by omega) (by omega)
    have hfe := findB_rg hI he (σ.2 (6 + b) z)
    have hk2 := fun (h : 0 ≤ findB σ e (σ.2 (6 + b) z)) => hI.2.2.2.2.1 e he (findB σ e (σ.2 (6 + b) z)) h (by omega)
    rw [show cnt (coC σ b e) (d + 1) z a = cnt (coC σ b e) d (z + 1) (if coC σ b e z = true then a + 1 else a) from rfl]
    refine j_iload_n hC dX0_countCommon_4 0 rfl ?_
    refine j_aload_n hC dX0_countCommon_5 2 rfl ?_
    refine j_get hC inX0 rfl (4 + b) (hw_bk g _ hb) 3 (by decide) wd50 rfl dX0_countCommon_6 ?_
    refine j_icmp_ge (tgt := 74) hC dX0_countCommon_9 (by decide) (by omega) (fun h => absurd h (by omega)) (fun _ => ?_)
    refine j_aload_n hC dX0_countCommon_12 2 rfl ?_
    refine j_get hC inX0 rfl (4 + b) (hw_bk g _ hb) 2 (by decide) wd48 rfl dX0_countCommon_13 ?_
    refine j_iload_n hC dX0_countCommon_16 0 rfl ?_
    refine j_iald hC (14 + b) (hw_mn g _ hb) (by omega) dX0_countCommon_17 ?_
    refine j_istore hC dX0_countCommon_18 [(4, vI ((σ).2 (6 + b) z)), (3, vI (z)), (2, vI (a)), (0, .ref (gd g (4 + b))), (1, .ref (gd g (4 + e)))] (by decide) rfl ?_
    refine j_aload_n hC dX0_countCommon_20 4 rfl ?_
    refine j_iload hC dX0_countCommon_21 0 rfl ?_
    refine j_callV1 (ar := 1) hC hR (c_X0_find (hlJ hC) g σ hI he ((σ).2 (6 + b) z) (by omega)) [] rfl (4 + e) (hw_bk g _ he) rfl rfl (by decide) (by decide +kernel) rfl wd265 wd267 wp17 wd3 wd268 (by decide) (Nat.le_of_ble_eq_true rfl) dX0_countCommon_23 ?_
    have hf23 := findB_rg hI he ((σ).2 (6 + b) z)
    refine j_istore hC dX0_countCommon_26 [(5, vI (findB σ e ((σ).2 (6 + b) z))), (4, vI ((σ).2 (6 + b) z)), (3, vI (z)), (2, vI (a)), (0, .ref (gd g (4 + b))), (1, .ref (gd g (4 + e)))] (by decide) rfl ?_
    refine j_iload hC dX0_countCommon_28 0 rfl ?_
    refine j_iconst hC dX0_countCommon_30 ?_
    refine j_icmp_eq (tgt := 68) hC dX0_countCommon_31 (by decide) (by omega) (fun h31 => ?_) (fun h31 => ?_)
    · refine j_iinc hC dX0_countCommon_68 2 [(3, vI (z + 1)), (5, vI (findB σ e ((σ).2 (6 + b) z))), (4, vI ((σ).2 (6 + b) z)), (2, vI (a)), (0, .ref (gd g (4 + b))), (1, .ref (gd g (4 + e)))] rfl (by decide) rfl ?_
      refine j_goto (tgt := 4) hC dX0_countCommon_71 (by decide) ?_
      refine j_sub [0, 3, 4, 5] rfl ?_
      first | (rw [if_pos (show coC σ b e z = true from decide_eq_true ⟨h31, h46, h62⟩)]; exact ih (z + 1) (a + 1) (by omega) (by omega)) | (rw [if_neg (show ¬ (coC σ b e z = true) from fun q => (of_decide_eq_true q).1 h31)]; exact ih (z + 1) a (by omega) (by omega)) | (rw [if_neg (show ¬ (coC σ b e z = true) from fun q => h46 (of_decide_eq_true q).2.1)]; exact ih (z + 1) a (by omega) (by omega)) | (rw [if_neg (show ¬ (coC σ b e z = true) from fun q => h62 (of_decide_eq_true q).2.2)]; exact ih (z + 1) a (by omega) (by omega))
    · refine j_aload_n hC dX0_countCommon_34 5 rfl ?_
      refine j_aload_n hC dX0_countCommon_35 4 rfl ?_
      refine j_get hC inX0 rfl (4 + b) (hw_bk g _ hb) 1 (by decide) wd46 rfl dX0_countCommon_36 ?_
      refine j_iload_n hC dX0_countCommon_39 2 rfl ?_
      refine j_iald hC (9 + b) (hw_lk g _ hb) (by omega) dX0_countCommon_40 ?_
      refine j_callV1 (ar := 1) hC hR (c_X0_meaningRead (hlJ hC) g σ hI he ((σ).2 (1 + b) z) (by omega)) [] rfl (4 + e) (hw_bk g _ he) rfl rfl (by decide) (by decide +kernel) rfl wd170 wd172 wp11 wd3 wd173 (by decide) (Nat.le_of_ble_eq_true rfl) dX0_countCommon_41 ?_
      have hf41 := mrB_rg hI he ((σ).2 (1 + b) z)
      refine j_iload hC dX0_countCommon_44 1 rfl ?_
      refine j_icmp_ne (tgt := 68) hC dX0_countCommon_46 (by decide) (by omega) (fun h46 => ?_) (fun h46 => ?_)
      · refine j_iinc hC dX0_countCommon_68 2 [(3, vI (z + 1)), (5, vI (findB σ e ((σ).2 (6 + b) z))), (4, vI ((σ).2 (6 + b) z)), (2, vI (a)), (0, .ref (gd g (4 + b))), (1, .ref (gd g (4 + e)))] rfl (by decide) rfl ?_
        refine j_goto (tgt := 4) hC dX0_countCommon_71 (by decide) ?_
        refine j_sub [0, 3, 4, 5] rfl ?_
        first | (rw [if_pos (show coC σ b e z = true from decide_eq_true ⟨h31, h46, h62⟩)]; exact ih (z + 1) (a + 1) (by omega) (by omega)) | (rw [if_neg (show ¬ (coC σ b e z = true) from fun q => (of_decide_eq_true q).1 h31)]; exact ih (z + 1) a (by omega) (by omega)) | (rw [if_neg (show ¬ (coC σ b e z = true) from fun q => h46 (of_decide_eq_true q).2.1)]; exact ih (z + 1) a (by omega) (by omega)) | (rw [if_neg (show ¬ (coC σ b e z = true) from fun q => h62 (of_decide_eq_true q).2.2)]; exact ih (z + 1) a (by omega) (by omega))
      · refine j_aload_n hC dX0_countCommon_49 4 rfl ?_
        refine j_aload_n hC dX0_countCommon_50 5 rfl ?_
        refine j_get hC inX0 rfl (4 + e) (hw_bk g _ he) 1 (by decide) wd46 rfl dX0_countCommon_51 ?_
        refine j_iload hC dX0_countCommon_54 0 rfl ?_
        refine j_iald hC (9 + e) (hw_lk g _ he) (by omega) dX0_countCommon_56 ?_
        refine j_callV1 (ar := 1) hC hR (c_X0_meaningRead (hlJ hC) g σ hI hb ((σ).2 (1 + e) (findB σ e ((σ).2 (6 + b) z))) (by omega)) [] rfl (4 + b) (hw_bk g _ hb) rfl rfl (by decide) (by decide +kernel) rfl wd170 wd172 wp11 wd3 wd173 (by decide) (Nat.le_of_ble_eq_true rfl) dX0_countCommon_57 ?_
        have hf57 := mrB_rg hI hb ((σ).2 (1 + e) (findB σ e ((σ).2 (6 + b) z)))
        refine j_iload hC dX0_countCommon_60 1 rfl ?_
        refine j_icmp_ne (tgt := 68) hC dX0_countCommon_62 (by decide) (by omega) (fun h62 => ?_) (fun h62 => ?_)
        · refine j_iinc hC dX0_countCommon_68 2 [(3, vI (z + 1)), (5, vI (findB σ e ((σ).2 (6 + b) z))), (4, vI ((σ).2 (6 + b) z)), (2, vI (a)), (0, .ref (gd g (4 + b))), (1, .ref (gd g (4 + e)))] rfl (by decide) rfl ?_
          refine j_goto (tgt := 4) hC dX0_countCommon_71 (by decide) ?_
          refine j_sub [0, 3, 4, 5] rfl ?_
          first | (rw [if_pos (show coC σ b e z = true from decide_eq_true ⟨h31, h46, h62⟩)]; exact ih (z + 1) (a + 1) (by omega) (by omega)) | (rw [if_neg (show ¬ (coC σ b e z = true) from fun q => (of_decide_eq_true q).1 h31)]; exact ih (z + 1) a (by omega) (by omega)) | (rw [if_neg (show ¬ (coC σ b e z = true) from fun q => h46 (of_decide_eq_true q).2.1)]; exact ih (z + 1) a (by omega) (by omega)) | (rw [if_neg (show ¬ (coC σ b e z = true) from fun q => h62 (of_decide_eq_true q).2.2)]; exact ih (z + 1) a (by omega) (by omega))
        · refine j_iinc hC dX0_countCommon_65 3 [(2, vI (a + 1)), (5, vI (findB σ e ((σ).2 (6 + b) z))), (4, vI ((σ).2 (6 + b) z)), (3, vI (z)), (0, .ref (gd g (4 + b))), (1, .ref (gd g (4 + e)))] rfl (by decide) rfl ?_
          refine j_iinc hC dX0_countCommon_68 3 [(3, vI (z + 1)), (2, vI (a + 1)), (5, vI (findB σ e ((σ).2 (6 + b) z))), (4, vI ((σ).2 (6 + b) z)), (0, .ref (gd g (4 + b))), (1, .ref (gd g (4 + e)))] rfl (by decide) rfl ?_
          refine j_goto (tgt := 4) hC dX0_countCommon_71 (by decide) ?_
          refine j_sub [0, 1, 4, 5] rfl ?_
          first | (rw [if_pos (show coC σ b e z = true from decide_eq_true ⟨h31, h46, h62⟩)]; exact ih (z + 1) (a + 1) (by omega) (by omega)) | (rw [if_neg (show ¬ (coC σ b e z = true) from fun q => (of_decide_eq_true q).1 h31)]; exact ih (z + 1) a (by omega) (by omega)) | (rw [if_neg (show ¬ (coC σ b e z = true) from fun q => h46 (of_decide_eq_true q).2.1)]; exact ih (z + 1) a (by omega) (by omega)) | (rw [if_neg (show ¬ (coC σ b e z = true) from fun q => h62 (of_decide_eq_true q).2.2)]; exact ih (z + 1) a (by omega) (by omega))
set_option maxHeartbeats 4000000 in
set_option maxRecDepth 100000 in
theorem c_X0_countCommon {l : Launch} (hl : l.stackTraces = false) (g : GG) (σ : Sg) (hI : IC σ) {b : Nat} (hb : b < 5) {e : Nat} (he : e < 5) : CN l yX0_countCommon cX0_countCommon 6 (some .int) 4 96 0 0 g [.ref (gd g (4 + b)), .ref (gd g (4 + e))] σ (pt (some (vI (ccB σ b e))) (σ)) := by
  refine CN_of (own := RX0) hl (by decide) rfl (Nat.le_of_ble_eq_true rfl) (fun mc hC _ hR => ?_)
  refine j_lv (lv2 := [(0, .ref (gd g (4 + b))), (1, .ref (gd g (4 + e)))]) rfl ?_
  have hn2 := cN_eq hI hb
  refine j_iconst hC dX0_countCommon_0 ?_
  refine j_istore_n hC dX0_countCommon_1 [(2, vI (0)), (0, .ref (gd g (4 + b))), (1, .ref (gd g (4 + e)))] (by decide) rfl ?_
  refine j_iconst hC dX0_countCommon_2 ?_
  refine j_istore_n hC dX0_countCommon_3 [(3, vI (0)), (2, vI (0)), (0, .ref (gd g (4 + b))), (1, .ref (gd g (4 + e)))] (by decide) rfl ?_
  refine j_sub [0, 1, 2, 3] rfl ?_
  exact lp_countCommon hC hR hI hb he (cN σ b) 0 0 (by omega) (by omega)
end
section
/-- the row a becomes f -/
def sR (σ : Sg) (a : Nat) (f : Int → Int) : Sg := (σ.1, fun c => if c = a then f else σ.2 c)
def cpy16 (f h : Int → Int) : Int → Int := fun j => if 0 ≤ j ∧ j < 16 then f j else h j
def cpy9 (f h : Int → Int) : Int → Int := fun j => if 0 ≤ j ∧ j < 9 then f j else h j
theorem hsR_lk (g : GG) (σ : Sg) {b : Nat} (hb : b < 5) (f : Int → Int) : (hw g σ).set (9 + b) (gd g (9 + b), ri g f 16) = hw g (sR σ (1 + b) f) := by
  rcases (show b = 0 ∨ b = 1 ∨ b = 2 ∨ b = 3 ∨ b = 4 by omega) with rfl | rfl | rfl | rfl | rfl <;> rfl
theorem hsR_mn (g : GG) (σ : Sg) {b : Nat} (hb : b < 5) (f : Int → Int) : (hw g σ).set (14 + b) (gd g (14 + b), ri g f 16) = hw g (sR σ (6 + b) f) := by
  rcases (show b = 0 ∨ b = 1 ∨ b = 2 ∨ b = 3 ∨ b = 4 by omega) with rfl | rfl | rfl | rfl | rfl <;> rfl
theorem wdAC1 : Cond.native arraycopyName ∈ wsA := wA_of 286 (by decide +kernel) (by decide +kernel)
theorem wdAC2 : Cond.static arraycopyName ∈ wsA := wA_of 285 (by decide +kernel) (by decide +kernel)
theorem j_copy {mc : MC} {g : GG} {k n : Nat} {Q : State → Prop} {pc : Nat} {lv : List (Nat × Value)} {st : List Value} {σ τ : Sg} {cc : ByteArray} {own : String} {nL : Nat} {ret : Option FieldType} (hC : Cx mc g cc own nL ret) {fr lo K N index a0 a1 m0 : Nat} {f h : Int → Int} (hR : mR mc = rmJ fr lo K N) (hlink : Cond.methodLink own index arraycopyName ∈ wsA) (q0 q1 : Nat) (he0 : (hw g σ)[q0]? = some (a0, ri g f m0)) (he1 : (hw g σ)[q1]? = some (a1, ri g h m0)) (hm : m0 < 2147483648) (hs : (hw g σ).set q1 (a1, ri g (fun j => if 0 ≤ j ∧ j < m0 then f j else h j) m0) = hw g τ)
    (hroom : 1 ≤ fr ∧ (st.map fun v => v.category).sum + (nativeFrameWords "java/lang/System" "arraycopy" 5 + 11) ≤ lo) (hd : decode cc pc = .ok (.invokestatic index, 3)) (kk : J mc g k n Q (pc + 3) lv st τ) : J mc g k n Q pc lv (vI (m0 : Int) :: vI 0 :: .ref a1 :: vI 0 :: .ref a0 :: st) σ := by
  intro H locs ls hP hS hl
  have e0 : (iI 0).toNatClampNeg = 0 := by decide
  have em : (iI (m0 : Int)).toNatClampNeg = m0 := by rw [iI_clamp (by omega) (by omega)]; omega
  have n0 : ¬ (iI 0) < 0 := by decide
  have nm : ¬ (iI (m0 : Int)) < 0 := by
    rw [← iI_0, iI_lt (by omega) (by omega) (by omega) (by omega)]
    omega
  refine va_copyi hC.1 hC.2.1 hl.1.symm hC.2.2.2.1 (hC.2.2.2.2.1 _ hlink) (hC.2.2.2.2.1 _ wdAC1) (hC.2.2.2.2.1 _ wdAC2) (hC.2.2.2.2.1 _ wd14) hC.2.2.2.2.2.2.1 hP (hC.2.2.2.2.2.2.2.2.2.1 σ) hS q0 q1 0 0 he0 he1 rfl rfl rfl n0 n0 nm (by rw [e0, em]; omega) (by rw [e0, em]; omega) (fun _ _ => rfl) (by rw [hR]; exact hroom.1) (by rw [hR]; exact hroom.2) hd (fun H1 locs1 hP1 _ hS1 => ?_)
  refine kk H1 locs1 ls ?_ hS1 hl
  rw [← hs]
  have e : va_cpy (fun j : Nat => iI (f (j : Int))) (fun j : Nat => iI (h (j : Int))) (iI 0).toNatClampNeg (iI 0).toNatClampNeg (iI (m0 : Int)).toNatClampNeg = fun j : Nat => iI (if 0 ≤ (j : Int) ∧ (j : Int) < m0 then f (j : Int) else h (j : Int)) := by
    funext j
    rw [e0, em]
    unfold va_cpy
    by_cases q : j < m0
    · rw [if_pos ⟨Nat.zero_le _, by omega⟩, if_pos ⟨by omega, by omega⟩, Nat.zero_add, Nat.sub_zero]
    · rw [if_neg (fun z => q (by omega)), if_neg (fun z => q (by omega))]
  rw [e] at hP1
  exact hP1
/-! what writes -/
def apB (σ : Sg) (b : Nat) (L m : Int) : Sg := sF (sG (sG σ (1 + b) (σ.1 (2 + b)) L) (6 + b) (σ.1 (2 + b)) m) (2 + b) (σ.1 (2 + b) + 1)
def rmS (b : Nat) (z : Int) (τ : Sg) : Sg := sG (sG τ (1 + b) (z - 1) (τ.2 (1 + b) z)) (6 + b) (z - 1) ((sG τ (1 + b) (z - 1) (τ.2 (1 + b) z)).2 (6 + b) z)
def rmF (b : Nat) : Nat → Int → Sg → Sg
  | 0, _, τ => τ
  | d + 1, z, τ => rmF b d (z + 1) (rmS b z τ)
def rmB (σ : Sg) (b : Nat) (s : Int) : Sg := sF (rmF b (cN σ b - s.toNat - 1) (s + 1) σ) (2 + b) (σ.1 (2 + b) - 1)
def cpB (σ : Sg) (b e : Nat) : Sg := sF (sR (sR σ (1 + b) (fun j => if 0 ≤ j ∧ j < (16 : Nat) then σ.2 (1 + e) j else σ.2 (1 + b) j)) (6 + b) (fun j => if 0 ≤ j ∧ j < (16 : Nat) then (sR σ (1 + b) (fun j => if 0 ≤ j ∧ j < (16 : Nat) then σ.2 (1 + e) j else σ.2 (1 + b) j)).2 (6 + e) j else (sR σ (1 + b) (fun j => if 0 ≤ j ∧ j < (16 : Nat) then σ.2 (1 + e) j else σ.2 (1 + b) j)).2 (6 + b) j)) (2 + b) (σ.1 (2 + e))
def unF (x y : Int) : Nat → Int → Sg → Sg
  | 0, _, τ => τ
  | d + 1, z, τ => unF x y d (z + 1) (if τ.2 0 z = y then sG τ 0 z x else τ)
def unP (σ : Sg) (a b : Int) : Sg := if σ.2 0 a = σ.2 0 b then σ else sF (unF (σ.2 0 a) (σ.2 0 b) 9 0 σ) 1 (σ.1 1 - 1)
theorem rmF_1 (b : Nat) : ∀ (d : Nat) (z : Int) (τ : Sg), (rmF b d z τ).1 = τ.1 := by
  intro d
  induction d with
  | zero => intro z τ; rfl
  | succ d ih => intro z τ; exact (ih (z + 1) (rmS b z τ)).trans rfl
theorem unF_1 (x y : Int) : ∀ (d : Nat) (z : Int) (τ : Sg), (unF x y d z τ).1 = τ.1 := by
  intro d
  induction d with
  | zero => intro z τ; rfl
  | succ d ih =>
    intro z τ
    refine (ih (z + 1) _).trans ?_
    split <;> rfl
theorem unF_rg (x y : Int) (hx : 0 ≤ x ∧ x < 9) : ∀ (d : Nat) (z : Int) (τ : Sg), (∀ j : Int, 0 ≤ j → j < 9 → 0 ≤ τ.2 0 j ∧ τ.2 0 j < 9) → ∀ j : Int, 0 ≤ j → j < 9 → 0 ≤ (unF x y d z τ).2 0 j ∧ (unF x y d z τ).2 0 j < 9 := by
  intro d
  induction d with
  | zero => intro z τ h; exact h
  | succ d ih =>
    intro z τ h
    refine ih (z + 1) _ (fun j h0 h1 => ?_)
    split
    · show 0 ≤ (if j = z then x else τ.2 0 j) ∧ (if j = z then x else τ.2 0 j) < 9
      split
      · exact hx
      · exact h j h0 h1
    · exact h j h0 h1
set_option maxHeartbeats 4000000 in
set_option maxRecDepth 100000 in
theorem c_X0_append {l : Launch} (hl : l.stackTraces = false) (g : GG) (σ : Sg) {b : Nat} (hb : b < 5) (x m : Int) (hn : 0 ≤ σ.1 (2 + b) ∧ σ.1 (2 + b) < 16) : CN l yX0_append cX0_append 4 (some .int) 0 0 0 0 g [.ref (gd g (4 + b)), vI (x), vI (m)] σ (pt (some (vI (σ.1 (2 + b)))) (apB σ b x m)) := by
  refine CN_of (own := RX0) hl (by decide) rfl (Nat.le_of_ble_eq_true rfl) (fun mc hC _ hR => ?_)
  refine j_lv (lv2 := [(0, .ref (gd g (4 + b))), (1, vI (x)), (2, vI (m))]) rfl ?_
  refine j_aload_n hC dX0_append_0 0 rfl ?_
  refine j_get hC inX0 rfl (4 + b) (hw_bk g _ hb) 3 (by decide) wd50 rfl dX0_append_1 ?_
  refine j_istore_n hC dX0_append_4 [(3, vI ((σ).1 (2 + b))), (0, .ref (gd g (4 + b))), (1, vI (x)), (2, vI (m))] (by decide) rfl ?_
  refine j_iload_n hC dX0_append_5 0 rfl ?_
  refine j_bipush hC dX0_append_6 (by decide) ?_
  refine j_icmp_lt (tgt := 13) hC dX0_append_8 (by decide) (by omega) (fun _ => ?_) (fun h => absurd h (by omega))
  refine j_aload_n hC dX0_append_13 1 rfl ?_
  refine j_get hC inX0 rfl (4 + b) (hw_bk g _ hb) 1 (by decide) wd46 rfl dX0_append_14 ?_
  refine j_iload_n hC dX0_append_17 0 rfl ?_
  refine j_iload_n hC dX0_append_18 2 rfl ?_
  refine j_iast (τ := sG (σ) (1 + b) ((σ).1 (2 + b)) (x)) hC (9 + b) (hw_lk g _ hb) (hs_lk g _ hb _ _) (by omega) dX0_append_19 ?_
  refine j_aload_n hC dX0_append_20 1 rfl ?_
  refine j_get hC inX0 rfl (4 + b) (hw_bk g _ hb) 2 (by decide) wd48 rfl dX0_append_21 ?_
  refine j_iload_n hC dX0_append_24 0 rfl ?_
  refine j_iload_n hC dX0_append_25 3 rfl ?_
  refine j_iast (τ := sG (sG (σ) (1 + b) ((σ).1 (2 + b)) (x)) (6 + b) ((σ).1 (2 + b)) (m)) hC (14 + b) (hw_mn g _ hb) (hs_mn g _ hb _ _) (by omega) dX0_append_26 ?_
  refine j_aload_n hC dX0_append_27 1 rfl ?_
  refine j_dup hC dX0_append_28 rfl ?_
  refine j_get hC inX0 rfl (4 + b) (hw_bk g _ hb) 3 (by decide) wd50 rfl dX0_append_29 ?_
  refine j_iconst hC dX0_append_32 ?_
  refine j_iadd hC dX0_append_33 ?_
  refine j_put (τ := sF (sG (sG (σ) (1 + b) ((σ).1 (2 + b)) (x)) (6 + b) ((σ).1 (2 + b)) (m)) (2 + b) (((sG (sG (σ) (1 + b) ((σ).1 (2 + b)) (x)) (6 + b) ((σ).1 (2 + b)) (m)).1 (2 + b)) + 1)) hC inX0 tyX0_ok nmX0 rfl (4 + b) (hw_bk g _ hb) 3 (by decide) wd50 rfl rfl (Nat.le_of_ble_eq_true rfl) (hs_cnt g _ hb _) dX0_append_34 ?_
  refine j_iload_n hC dX0_append_37 0 rfl ?_
  exact j_iret hC dX0_append_38 ⟨rfl, rfl⟩
set_option maxHeartbeats 4000000 in
set_option maxRecDepth 100000 in
theorem lp_remove {mc : MC} {g : GG} (hC : Cx mc g cX0_remove RX0 4 (some .int)) (hR : mR mc = rmJ 0 0 0 0) {b : Nat} (hb : b < 5) (s m : Int) : ∀ (d : Nat) (τ : Sg) (z : Int), (1 ≤ z) → (z + (d : Int) = τ.1 (2 + b)) → (τ.1 (2 + b) ≤ 16) → J mc g 0 0 (QN mc g (pt (some (vI m)) (sF (rmF b d z τ) (2 + b) (τ.1 (2 + b) - 1))) 0 0) 11 [(3, vI (z)), (2, vI (m)), (0, .ref (gd g (4 + b))), (1, vI (s))] [] τ := by
  intro d
  induction d with
  | zero =>
    intro τ z h0 hz hn
    refine j_iload_n hC dX0_remove_11 0 rfl ?_
    refine j_aload_n hC dX0_remove_12 2 rfl ?_
    refine j_get hC inX0 rfl (4 + b) (hw_bk g _ hb) 3 (by decide) wd50 rfl dX0_remove_13 ?_
    refine j_icmp_ge (tgt := 53) hC dX0_remove_16 (by decide) (by omega) (fun _ => ?_) (fun h => absurd h (by omega))
    refine j_aload_n hC dX0_remove_53 2 rfl ?_
    refine j_dup hC dX0_remove_54 rfl ?_
    refine j_get hC inX0 rfl (4 + b) (hw_bk g _ hb) 3 (by decide) wd50 rfl dX0_remove_55 ?_
    refine j_iconst hC dX0_remove_58 ?_
    refine j_isub hC dX0_remove_59 ?_
    refine j_put (τ := sF (τ) (2 + b) (((τ).1 (2 + b)) - 1)) hC inX0 tyX0_ok nmX0 rfl (4 + b) (hw_bk g _ hb) 3 (by decide) wd50 rfl rfl (Nat.le_of_ble_eq_true rfl) (hs_cnt g _ hb _) dX0_remove_60 ?_
    refine j_iload_n hC dX0_remove_63 1 rfl ?_
    exact j_iret hC dX0_remove_64 ⟨rfl, rfl⟩
  | succ d ih =>
    intro τ z h0 hz hn
    rw [show rmF b (d + 1) z τ = rmF b d (z + 1) (rmS b z τ) from rfl]
    refine j_iload_n hC dX0_remove_11 0 rfl ?_
    refine j_aload_n hC dX0_remove_12 2 rfl ?_
    refine j_get hC inX0 rfl (4 + b) (hw_bk g _ hb) 3 (by decide) wd50 rfl dX0_remove_13 ?_
    refine j_icmp_ge (tgt := 53) hC dX0_remove_16 (by decide) (by omega) (fun h => absurd h (by omega)) (fun _ => ?_)
    refine j_aload_n hC dX0_remove_19 2 rfl ?_
    refine j_get hC inX0 rfl (4 + b) (hw_bk g _ hb) 1 (by decide) wd46 rfl dX0_remove_20 ?_
    refine j_iload_n hC dX0_remove_23 0 rfl ?_
    refine j_iconst hC dX0_remove_24 ?_
    refine j_isub hC dX0_remove_25 ?_
    refine j_aload_n hC dX0_remove_26 2 rfl ?_
    refine j_get hC inX0 rfl (4 + b) (hw_bk g _ hb) 1 (by decide) wd46 rfl dX0_remove_27 ?_
    refine j_iload_n hC dX0_remove_30 0 rfl ?_
    refine j_iald hC (9 + b) (hw_lk g _ hb) (by omega) dX0_remove_31 ?_
    refine j_iast (τ := sG (τ) (1 + b) (z - 1) ((τ).2 (1 + b) z)) hC (9 + b) (hw_lk g _ hb) (hs_lk g _ hb _ _) (by omega) dX0_remove_32 ?_
    refine j_aload_n hC dX0_remove_33 2 rfl ?_
    refine j_get hC inX0 rfl (4 + b) (hw_bk g _ hb) 2 (by decide) wd48 rfl dX0_remove_34 ?_
    refine j_iload_n hC dX0_remove_37 0 rfl ?_
    refine j_iconst hC dX0_remove_38 ?_
    refine j_isub hC dX0_remove_39 ?_
    refine j_aload_n hC dX0_remove_40 2 rfl ?_
    refine j_get hC inX0 rfl (4 + b) (hw_bk g _ hb) 2 (by decide) wd48 rfl dX0_remove_41 ?_
    refine j_iload_n hC dX0_remove_44 0 rfl ?_
    refine j_iald hC (14 + b) (hw_mn g _ hb) (by omega) dX0_remove_45 ?_
    refine j_iast (τ := sG (sG (τ) (1 + b) (z - 1) ((τ).2 (1 + b) z)) (6 + b) (z - 1) ((sG (τ) (1 + b) (z - 1) ((τ).2 (1 + b) z)).2 (6 + b) z)) hC (14 + b) (hw_mn g _ hb) (hs_mn g _ hb _ _) (by omega) dX0_remove_46 ?_
    refine j_iinc hC dX0_remove_47 0 [(3, vI (z + 1)), (2, vI (m)), (0, .ref (gd g (4 + b))), (1, vI (s))] rfl (by decide) rfl ?_
    refine j_goto (tgt := 11) hC dX0_remove_50 (by decide) ?_
    refine j_sub [0, 1, 2, 3] rfl ?_
    exact ih (rmS b z τ) (z + 1) (by omega) (by show z + 1 + (d : Int) = τ.1 (2 + b); omega) hn
set_option maxHeartbeats 4000000 in
set_option maxRecDepth 100000 in
theorem c_X0_remove {l : Launch} (hl : l.stackTraces = false) (g : GG) (σ : Sg) (hI : IC σ) {b : Nat} (hb : b < 5) (s : Int) (hs : 0 ≤ s ∧ s < σ.1 (2 + b)) : CN l yX0_remove cX0_remove 4 (some .int) 0 0 0 0 g [.ref (gd g (4 + b)), vI (s)] σ (pt (some (vI (σ.2 (6 + b) s))) (rmB σ b s)) := by
  refine CN_of (own := RX0) hl (by decide) rfl (Nat.le_of_ble_eq_true rfl) (fun mc hC _ hR => ?_)
  refine j_lv (lv2 := [(0, .ref (gd g (4 + b))), (1, vI (s))]) rfl ?_
  have hn := hI.2.2.2.1 b hb
  have hn2 := cN_eq hI hb
  refine j_aload_n hC dX0_remove_0 0 rfl ?_
  refine j_get hC inX0 rfl (4 + b) (hw_bk g _ hb) 2 (by decide) wd48 rfl dX0_remove_1 ?_
  refine j_iload_n hC dX0_remove_4 1 rfl ?_
  refine j_iald hC (14 + b) (hw_mn g _ hb) (by omega) dX0_remove_5 ?_
  refine j_istore_n hC dX0_remove_6 [(2, vI ((σ).2 (6 + b) s)), (0, .ref (gd g (4 + b))), (1, vI (s))] (by decide) rfl ?_
  refine j_iload_n hC dX0_remove_7 2 rfl ?_
  refine j_iconst hC dX0_remove_8 ?_
  refine j_iadd hC dX0_remove_9 ?_
  refine j_istore_n hC dX0_remove_10 [(3, vI (s + 1)), (2, vI ((σ).2 (6 + b) s)), (0, .ref (gd g (4 + b))), (1, vI (s))] (by decide) rfl ?_
  refine j_sub [0, 1, 2, 3] rfl ?_
  exact lp_remove hC hR hb s _ (cN σ b - s.toNat - 1) σ (s + 1) (by omega) (by omega) hn.2
set_option maxHeartbeats 4000000 in
set_option maxRecDepth 100000 in
theorem c_X0_copyFrom {l : Launch} (hl : l.stackTraces = false) (g : GG) (σ : Sg) (hI : IC σ) {b : Nat} (hb : b < 5) {e : Nat} (he : e < 5) : CN l yX0_copyFrom cX0_copyFrom 2 none 2 40 0 0 g [.ref (gd g (4 + b)), .ref (gd g (4 + e))] σ (pt none (cpB σ b e)) := by
  refine CN_of (own := RX0) hl (by decide) rfl (Nat.le_of_ble_eq_true rfl) (fun mc hC _ hR => ?_)
  refine j_lv (lv2 := [(0, .ref (gd g (4 + b))), (1, .ref (gd g (4 + e)))]) rfl ?_
  refine j_aload_n hC dX0_copyFrom_0 1 rfl ?_
  refine j_get hC inX0 rfl (4 + e) (hw_bk g _ he) 1 (by decide) wd46 rfl dX0_copyFrom_1 ?_
  refine j_iconst hC dX0_copyFrom_4 ?_
  refine j_aload_n hC dX0_copyFrom_5 0 rfl ?_
  refine j_get hC inX0 rfl (4 + b) (hw_bk g _ hb) 1 (by decide) wd46 rfl dX0_copyFrom_6 ?_
  refine j_iconst hC dX0_copyFrom_9 ?_
  refine j_bipush hC dX0_copyFrom_10 (by decide) ?_
  refine j_copy (m0 := 16) (τ := sR (σ) (1 + b) (fun j => if 0 ≤ j ∧ j < (16 : Nat) then (σ).2 (1 + e) j else (σ).2 (1 + b) j)) hC hR wd284 (9 + e) (9 + b) (hw_lk g _ he) (hw_lk g _ hb) (by decide) (hsR_lk g _ hb _) ⟨by decide, Nat.le_of_ble_eq_true rfl⟩ dX0_copyFrom_12 ?_
  refine j_aload_n hC dX0_copyFrom_15 1 rfl ?_
  refine j_get hC inX0 rfl (4 + e) (hw_bk g _ he) 2 (by decide) wd48 rfl dX0_copyFrom_16 ?_
  refine j_iconst hC dX0_copyFrom_19 ?_
  refine j_aload_n hC dX0_copyFrom_20 0 rfl ?_
  refine j_get hC inX0 rfl (4 + b) (hw_bk g _ hb) 2 (by decide) wd48 rfl dX0_copyFrom_21 ?_
  refine j_iconst hC dX0_copyFrom_24 ?_
  refine j_bipush hC dX0_copyFrom_25 (by decide) ?_
  refine j_copy (m0 := 16) (τ := sR (sR (σ) (1 + b) (fun j => if 0 ≤ j ∧ j < (16 : Nat) then (σ).2 (1 + e) j else (σ).2 (1 + b) j)) (6 + b) (fun j => if 0 ≤ j ∧ j < (16 : Nat) then (sR (σ) (1 + b) (fun j => if 0 ≤ j ∧ j < (16 : Nat) then (σ).2 (1 + e) j else (σ).2 (1 + b) j)).2 (6 + e) j else (sR (σ) (1 + b) (fun j => if 0 ≤ j ∧ j < (16 : Nat) then (σ).2 (1 + e) j else (σ).2 (1 + b) j)).2 (6 + b) j)) hC hR wd284 (14 + e) (14 + b) (hw_mn g _ he) (hw_mn g _ hb) (by decide) (hsR_mn g _ hb _) ⟨by decide, Nat.le_of_ble_eq_true rfl⟩ dX0_copyFrom_27 ?_
  refine j_aload_n hC dX0_copyFrom_30 0 rfl ?_
  refine j_aload_n hC dX0_copyFrom_31 1 rfl ?_
  refine j_get hC inX0 rfl (4 + e) (hw_bk g _ he) 3 (by decide) wd50 rfl dX0_copyFrom_32 ?_
  refine j_put (τ := sF (sR (sR (σ) (1 + b) (fun j => if 0 ≤ j ∧ j < (16 : Nat) then (σ).2 (1 + e) j else (σ).2 (1 + b) j)) (6 + b) (fun j => if 0 ≤ j ∧ j < (16 : Nat) then (sR (σ) (1 + b) (fun j => if 0 ≤ j ∧ j < (16 : Nat) then (σ).2 (1 + e) j else (σ).2 (1 + b) j)).2 (6 + e) j else (sR (σ) (1 + b) (fun j => if 0 ≤ j ∧ j < (16 : Nat) then (σ).2 (1 + e) j else (σ).2 (1 + b) j)).2 (6 + b) j)) (2 + b) ((sR (sR (σ) (1 + b) (fun j => if 0 ≤ j ∧ j < (16 : Nat) then (σ).2 (1 + e) j else (σ).2 (1 + b) j)) (6 + b) (fun j => if 0 ≤ j ∧ j < (16 : Nat) then (sR (σ) (1 + b) (fun j => if 0 ≤ j ∧ j < (16 : Nat) then (σ).2 (1 + e) j else (σ).2 (1 + b) j)).2 (6 + e) j else (sR (σ) (1 + b) (fun j => if 0 ≤ j ∧ j < (16 : Nat) then (σ).2 (1 + e) j else (σ).2 (1 + b) j)).2 (6 + b) j)).1 (2 + e))) hC inX0 tyX0_ok nmX0 rfl (4 + b) (hw_bk g _ hb) 3 (by decide) wd50 rfl rfl (Nat.le_of_ble_eq_true rfl) (hs_cnt g _ hb _) dX0_copyFrom_35 ?_
  exact j_vret hC dX0_copyFrom_38 ⟨rfl, rfl⟩
set_option maxHeartbeats 4000000 in
set_option maxRecDepth 100000 in
theorem lp_unite {mc : MC} {g : GG} (hC : Cx mc g cX2_unite RX2 6 none) (hR : mR mc = rmJ 0 0 0 0) (a b x y : Int) (hxy : 0 ≤ x ∧ x < 9 ∧ 0 ≤ y ∧ y < 9) : ∀ (d : Nat) (τ : Sg) (z : Int), (0 ≤ z) → (z + (d : Int) = 9) → (∀ j : Int, 0 ≤ j → j < 9 → 0 ≤ τ.2 0 j ∧ τ.2 0 j < 9) → J mc g 0 0 (QN mc g (pt none (sF (unF x y d z τ) 1 (τ.1 1 - 1))) 0 0) 25 [(5, vI (z)), (3, vI (x)), (4, vI (y)), (0, .ref (gd g (1))), (1, vI (a)), (2, vI (b))] [] τ := by
  intro d
  induction d with
  | zero =>
    intro τ z h0 hz hg
    refine j_iload hC dX2_unite_25 0 rfl ?_
    refine j_bipush hC dX2_unite_27 (by decide) ?_
    refine j_icmp_ge (tgt := 58) hC dX2_unite_29 (by decide) (by omega) (fun _ => ?_) (fun h => absurd h (by omega))
    refine j_aload_n hC dX2_unite_58 3 rfl ?_
    refine j_dup hC dX2_unite_59 rfl ?_
    refine j_get hC inX2 rfl 1 rfl 1 (by decide) wd30 rfl dX2_unite_60 ?_
    refine j_iconst hC dX2_unite_63 ?_
    refine j_isub hC dX2_unite_64 ?_
    refine j_put (τ := sF (τ) 1 (((τ).1 1) - 1)) hC inX2 tyX2_ok nmX2 rfl 1 rfl 1 (by decide) wd30 rfl rfl (Nat.le_of_ble_eq_true rfl) rfl dX2_unite_65 ?_
    exact j_vret hC dX2_unite_68 ⟨rfl, rfl⟩
  | succ d ih =>
    intro τ z h0 hz hg
    have hgz := hg z (by omega) (by omega)
    rw [show unF x y (d + 1) z τ = unF x y d (z + 1) (if τ.2 0 z = y then sG τ 0 z x else τ) from rfl]
    refine j_iload hC dX2_unite_25 0 rfl ?_
    refine j_bipush hC dX2_unite_27 (by decide) ?_
    refine j_icmp_ge (tgt := 58) hC dX2_unite_29 (by decide) (by omega) (fun h => absurd h (by omega)) (fun _ => ?_)
    refine j_aload_n hC dX2_unite_32 3 rfl ?_
    refine j_get hC inX2 rfl 1 rfl 0 (by decide) wd29 rfl dX2_unite_33 ?_
    refine j_iload hC dX2_unite_36 0 rfl ?_
    refine j_iald hC 2 rfl (by omega) dX2_unite_38 ?_
    refine j_iload hC dX2_unite_39 2 rfl ?_
    refine j_icmp_ne (tgt := 52) hC dX2_unite_41 (by decide) (by omega) (fun h41 => ?_) (fun h41 => ?_)
    · refine j_iinc hC dX2_unite_52 0 [(5, vI (z + 1)), (3, vI (x)), (4, vI (y)), (0, .ref (gd g (1))), (1, vI (a)), (2, vI (b))] rfl (by decide) rfl ?_
      refine j_goto (tgt := 25) hC dX2_unite_55 (by decide) ?_
      refine j_sub [0, 1, 2, 3, 4, 5] rfl ?_
      first | (rw [if_pos h41]; exact ih (sG τ 0 z x) (z + 1) (by omega) (by omega) (fun j q0 q1 => by show 0 ≤ (if j = z then x else τ.2 0 j) ∧ (if j = z then x else τ.2 0 j) < 9; split; exact ⟨hxy.1, hxy.2.1⟩; exact hg j q0 q1)) | (rw [if_neg h41]; exact ih τ (z + 1) (by omega) (by omega) hg)
    · refine j_aload_n hC dX2_unite_44 3 rfl ?_
      refine j_get hC inX2 rfl 1 rfl 0 (by decide) wd29 rfl dX2_unite_45 ?_
      refine j_iload hC dX2_unite_48 0 rfl ?_
      refine j_iload_n hC dX2_unite_50 1 rfl ?_
      refine j_iast (τ := sG (τ) 0 (z) (x)) hC 2 rfl rfl (by omega) dX2_unite_51 ?_
      refine j_iinc hC dX2_unite_52 0 [(5, vI (z + 1)), (3, vI (x)), (4, vI (y)), (0, .ref (gd g (1))), (1, vI (a)), (2, vI (b))] rfl (by decide) rfl ?_
      refine j_goto (tgt := 25) hC dX2_unite_55 (by decide) ?_
      refine j_sub [0, 1, 2, 3, 4, 5] rfl ?_
      first | (rw [if_pos h41]; exact ih (sG τ 0 z x) (z + 1) (by omega) (by omega) (fun j q0 q1 => by show 0 ≤ (if j = z then x else τ.2 0 j) ∧ (if j = z then x else τ.2 0 j) < 9; split; exact ⟨hxy.1, hxy.2.1⟩; exact hg j q0 q1)) | (rw [if_neg h41]; exact ih τ (z + 1) (by omega) (by omega) hg)
set_option maxHeartbeats 4000000 in
set_option maxRecDepth 100000 in
theorem c_X2_unite {l : Launch} (hl : l.stackTraces = false) (g : GG) (σ : Sg) (hI : IC σ) (a b : Int) (hx : 0 ≤ a ∧ a < 9 ∧ 0 ≤ b ∧ b < 9) : CN l yX2_unite cX2_unite 6 none 0 0 0 0 g [.ref (gd g (1)), vI (a), vI (b)] σ (pt none (unP σ a b)) := by
  refine CN_of (own := RX2) hl (by decide) rfl (Nat.le_of_ble_eq_true rfl) (fun mc hC _ hR => ?_)
  refine j_lv (lv2 := [(0, .ref (gd g (1))), (1, vI (a)), (2, vI (b))]) rfl ?_
  have hg1 := hI.2.2.1 a (by omega) (by omega)
  have hg2 := hI.2.2.1 b (by omega) (by omega)
  refine j_aload_n hC dX2_unite_0 0 rfl ?_
  refine j_get hC inX2 rfl 1 rfl 0 (by decide) wd29 rfl dX2_unite_1 ?_
  refine j_iload_n hC dX2_unite_4 1 rfl ?_
  refine j_iald hC 2 rfl (by omega) dX2_unite_5 ?_
  refine j_istore_n hC dX2_unite_6 [(3, vI ((σ).2 0 a)), (0, .ref (gd g (1))), (1, vI (a)), (2, vI (b))] (by decide) rfl ?_
  refine j_aload_n hC dX2_unite_7 1 rfl ?_
  refine j_get hC inX2 rfl 1 rfl 0 (by decide) wd29 rfl dX2_unite_8 ?_
  refine j_iload_n hC dX2_unite_11 3 rfl ?_
  refine j_iald hC 2 rfl (by omega) dX2_unite_12 ?_
  refine j_istore hC dX2_unite_13 [(4, vI ((σ).2 0 b)), (3, vI ((σ).2 0 a)), (0, .ref (gd g (1))), (1, vI (a)), (2, vI (b))] (by decide) rfl ?_
  refine j_iload_n hC dX2_unite_15 1 rfl ?_
  refine j_iload hC dX2_unite_16 0 rfl ?_
  refine j_icmp_ne (tgt := 22) hC dX2_unite_18 (by decide) (by omega) (fun h18 => ?_) (fun h18 => ?_)
  · refine j_iconst hC dX2_unite_22 ?_
    refine j_istore hC dX2_unite_23 [(5, vI (0)), (4, vI ((σ).2 0 b)), (3, vI ((σ).2 0 a)), (0, .ref (gd g (1))), (1, vI (a)), (2, vI (b))] (by decide) rfl ?_
    refine j_sub [0, 2, 1, 3, 4, 5] rfl ?_
    rw [show unP σ a b = sF (unF (σ.2 0 a) (σ.2 0 b) 9 0 σ) 1 (σ.1 1 - 1) from if_neg h18]
    exact lp_unite hC hR a b _ _ (by omega) 9 σ 0 (by omega) (by omega) hI.2.2.1
  · exact j_vret hC dX2_unite_21 ⟨rfl, by unfold unP; rw [if_pos h18]⟩
end
section
theorem nest_on {w : Cond} (h : isNest w = true) : w.onTables = true := by cases w <;> first | rfl | (simp [isNest] at h)
theorem hat_of {L : List Cond} (h1 : ∀ w ∈ L.filter goodWord, w ∈ lw_tbl) (h2 : ∀ w ∈ L.filter (fun w => !goodWord w), w ∈ nwA) {args : Array Value} {s : State} (hts : ∀ w ∈ wsA, w.before args s = true) (hn : ∀ w ∈ nwA, va_Nw w s) : ∀ w ∈ L, w.before args s = true := by
  intro w hw
  by_cases g : goodWord w = true
  · exact hts w (List.mem_filter.mpr ⟨h1 w (List.mem_filter.mpr ⟨hw, g⟩), g⟩)
  · have h := h2 w (List.mem_filter.mpr ⟨hw, by
      show (!goodWord w) = true
      cases hgw : goodWord w
      · rfl
      · exact absurd hgw g⟩)
    exact va_Nw.use (nest_on (List.mem_filter.mp h).2) (hn w h)
abbrev nmE : List String := ["java/lang/RuntimeException", "java/lang/Exception"]
theorem j_throw {mc : MC} {g : GG} {k n : Nat} {pc : Nat} {lv : List (Nat × Value)} {st : List Value} {σ : Sg} {cc : ByteArray} {nL : Nat} {ret : Option FieldType} {post2 : Option Value → Sg → Prop} {E text : String} {ik is ic fr lo K N : Nat} (hC : Cx mc g cc RX3 nL ret) (hR : mR mc = rmJ fr lo K N) (hE : ∀ x ∈ (mC mc).exceptionTable.toList, False)
    (hcls : Bundle.fit E = true) (hk : Cond.classLink RX3 ik E ∈ wsA) (hini : Cond.initialized E ∈ wsA) (h1 : ∀ w ∈ (vx_atS RX3 ic E nmE).filter goodWord, w ∈ lw_tbl) (h2 : ∀ w ∈ (vx_atS RX3 ic E nmE).filter (fun w => !goodWord w), w ∈ nwA) (hgood : ∀ w ∈ Cond.classLink RX3 ik E :: Cond.initialized E :: vx_atS RX3 ic E nmE, vx_ot w = true)
    (htx : ("SignMasons", is, text) ∈ txA)
    (d0 : decode cc pc = .ok (.new ik, 3)) (d3 : decode cc (pc + 3) = .ok (.dup, 1)) (d4 : decode cc (pc + 4) = .ok (.ldc is, 2)) (d6 : decode cc (pc + 6) = .ok (.invokespecial ic, 3)) (d9 : decode cc (pc + 9) = .ok (.athrow, 1))
    (hroom : 5 < fr ∧ (st.map fun v => v.category).sum + 82 ≤ lo ∧ k + 1 ≤ K ∧ n + 6 ≤ N) : J mc g k n (QX mc g post2 (pxE E σ) K N) pc lv st σ := by
  intro H locs ls hP hS hl
  obtain ⟨sa, hsa⟩ := hC.2.2.2.2.2.2.2.2.1.2.2.1 _ htx
  refine vx_throwS (A := gA g) (names := nmE) hC.1 hC.2.1 (hlJ hC) hC.2.2.2.1 hcls (by decide) (hC.2.2.2.2.1 _ hk) (hC.2.2.2.2.1 _ hini) hsa (hat_of h1 h2 hC.2.2.2.2.1 hC.2.2.2.2.2.2.2.1) hgood hC.2.2.2.2.2.2.2.2.1.1 hC.2.2.2.2.2.2.2.2.1.2.1 hS hl.1 d0 d3 d4 d6 d9 (fun x hx => (hE x hx).elim) (by rw [hR]; exact hroom.1) (by rw [hR]; exact hroom.2.1) (by rw [hR]; exact hroom.2.2.1) (by rw [hR]; exact hroom.2.2.2) hC.2.2.2.2.2.1 ?_ hS.2.2 hroom.2.2.1 hroom.2.2.2
  intro t _ hz hq
  refine ⟨⟨σ, ⟨rfl, rfl⟩, va_P.kept hP (fun k9 q9 hk9 => hq q9.1 (vx_lt hP hk9))⟩, Nat.le_trans hS.1 hz, fun q h3 h4 => ?_⟩
  exact (hq q (Nat.lt_of_lt_of_le h3 hS.1)).trans (hS.2.1 q h3 h4)
theorem thI1 : ∀ w ∈ (vx_atS RX3 37 "java/lang/IllegalStateException" nmE).filter goodWord, w ∈ lw_tbl := by decide +kernel
theorem thI2 : ∀ w ∈ (vx_atS RX3 37 "java/lang/IllegalStateException" nmE).filter (fun w => !goodWord w), w ∈ nwA := by decide +kernel
theorem thI3 : ∀ w ∈ Cond.classLink RX3 33 "java/lang/IllegalStateException" :: Cond.initialized "java/lang/IllegalStateException" :: vx_atS RX3 37 "java/lang/IllegalStateException" nmE, vx_ot w = true := by decide +kernel
theorem thA1 : ∀ w ∈ (vx_atS RX3 56 "java/lang/IllegalArgumentException" nmE).filter goodWord, w ∈ lw_tbl := by decide +kernel
theorem thA2 : ∀ w ∈ (vx_atS RX3 56 "java/lang/IllegalArgumentException" nmE).filter (fun w => !goodWord w), w ∈ nwA := by decide +kernel
theorem thA3 : ∀ w ∈ Cond.classLink RX3 52 "java/lang/IllegalArgumentException" :: Cond.initialized "java/lang/IllegalArgumentException" :: vx_atS RX3 56 "java/lang/IllegalArgumentException" nmE, vx_ot w = true := by decide +kernel
theorem thX1 : ∀ w ∈ (vx_atS RX3 134 "java/lang/IndexOutOfBoundsException" nmE).filter goodWord, w ∈ lw_tbl := by decide +kernel
theorem thX2 : ∀ w ∈ (vx_atS RX3 134 "java/lang/IndexOutOfBoundsException" nmE).filter (fun w => !goodWord w), w ∈ nwA := by decide +kernel
theorem thX3 : ∀ w ∈ Cond.classLink RX3 132 "java/lang/IndexOutOfBoundsException" :: Cond.initialized "java/lang/IndexOutOfBoundsException" :: vx_atS RX3 134 "java/lang/IndexOutOfBoundsException" nmE, vx_ot w = true := by decide +kernel
end
section
set_option maxHeartbeats 4000000 in
set_option maxRecDepth 100000 in
theorem c_X3_isBelow {l : Launch} (hl : l.stackTraces = false) (g : GG) (σ : Sg) (x y : Int) (hr : -2147483648 ≤ x ∧ x < 2147483648 ∧ -2147483648 ≤ y ∧ y < 2147483648) : CN l yX3_isBelow cX3_isBelow 2 (some .boolean) 0 0 0 0 g [vI (x), vI (y)] σ (pt (some (vI (if 0 ≤ x ∧ x < y then 1 else 0))) (σ)) := by
  refine CN_of (own := RX3) hl (by decide) rfl (Nat.le_of_ble_eq_true rfl) (fun mc hC _ hR => ?_)
  refine j_lv (lv2 := [(0, vI (x)), (1, vI (y))]) rfl ?_
  refine j_iload_n hC dX3_isBelow_0 0 rfl ?_
  refine j_if_lt (tgt := 13) hC dX3_isBelow_1 (by decide) (by omega) (fun h1 => ?_) (fun h1 => ?_)
  · refine j_iconst hC dX3_isBelow_13 ?_
    exact j_zret hC (by decide) dX3_isBelow_14 ⟨by first | rw [if_pos (by omega)] | rw [if_neg (by omega)], rfl⟩
  · refine j_iload_n hC dX3_isBelow_4 0 rfl ?_
    refine j_iload_n hC dX3_isBelow_5 1 rfl ?_
    refine j_icmp_ge (tgt := 13) hC dX3_isBelow_6 (by decide) (by omega) (fun h6 => ?_) (fun h6 => ?_)
    · refine j_iconst hC dX3_isBelow_13 ?_
      exact j_zret hC (by decide) dX3_isBelow_14 ⟨by first | rw [if_pos (by omega)] | rw [if_neg (by omega)], rfl⟩
    · refine j_iconst hC dX3_isBelow_9 ?_
      refine j_goto (tgt := 14) hC dX3_isBelow_10 (by decide) ?_
      exact j_zret hC (by decide) dX3_isBelow_14 ⟨by first | rw [if_pos (by omega)] | rw [if_neg (by omega)], rfl⟩
set_option maxHeartbeats 4000000 in
set_option maxRecDepth 100000 in
theorem c_X3_bookOf {l : Launch} (hl : l.stackTraces = false) (g : GG) (σ : Sg) (hI : IC σ) (a : Int) (ha : 0 ≤ a ∧ a < σ.1 0) : CN l yX3_bookOf cX3_bookOf 2 (some (.object "SignMasons$Book")) 6 90 0 0 g [.ref (gd g (0)), vI (a)] σ (pt (some (.ref (gd g (4 + a.toNat)))) (σ)) := by
  refine CN_of (own := RX3) hl (by decide) rfl (Nat.le_of_ble_eq_true rfl) (fun mc hC _ hR => ?_)
  refine j_lv (lv2 := [(0, .ref (gd g (0))), (1, vI (a))]) rfl ?_
  have hI1 := hI.1
  refine j_iload_n hC dX3_bookOf_0 1 rfl ?_
  refine j_aload_n hC dX3_bookOf_1 0 rfl ?_
  refine j_get hC inX3 rfl 0 rfl 3 (by decide) wd64 rfl dX3_bookOf_2 ?_
  refine j_callS1 (ar := 2) hC hR (c_X3_isBelow (hlJ hC) g σ a ((σ).1 0) (by omega)) [] rfl (by decide) (by decide +kernel) rfl wd186 wd187 wd1 wd188 (by decide) (Nat.le_of_ble_eq_true rfl) dX3_bookOf_5 ?_
  refine j_ifb_ne (tgt := 21) hC dX3_bookOf_8 (by decide) (fun _ => ?_) (fun h => (h (by omega)).elim)
  refine j_aload_n hC dX3_bookOf_21 0 rfl ?_
  refine j_get hC inX3 rfl 0 rfl 1 (by decide) wd62 rfl dX3_bookOf_22 ?_
  refine j_iload_n hC dX3_bookOf_25 1 rfl ?_
  refine j_aald hC (by omega) dX3_bookOf_26 ?_
  exact j_aret hC dX3_bookOf_27 ⟨rfl, rfl⟩
set_option maxHeartbeats 4000000 in
set_option maxRecDepth 100000 in
theorem x_X3_bookOf {l : Launch} (hl : l.stackTraces = false) (g : GG) (σ : Sg) (hI : IC σ) (a : Int) (hr : -2147483648 ≤ a ∧ a < 2147483648) (ha : ¬ (0 ≤ a ∧ a < σ.1 0)) : CX l yX3_bookOf cX3_bookOf 2 (some (.object "SignMasons$Book")) 6 90 1 6 g [.ref (gd g (0)), vI (a)] σ pF (pxE "java/lang/IndexOutOfBoundsException" (σ)) := by
  refine CX_of (own := RX3) hl (by decide) rfl (Nat.le_of_ble_eq_true rfl) (fun mc hC _ hR hE => ?_)
  refine j_lv (lv2 := [(0, .ref (gd g (0))), (1, vI (a))]) rfl ?_
  have hI1 := hI.1
  refine j_iload_n hC dX3_bookOf_0 1 rfl ?_
  refine j_aload_n hC dX3_bookOf_1 0 rfl ?_
  refine j_get hC inX3 rfl 0 rfl 3 (by decide) wd64 rfl dX3_bookOf_2 ?_
  refine j_callS1 (ar := 2) hC hR (c_X3_isBelow (hlJ hC) g σ a ((σ).1 0) (by omega)) [] rfl (by decide) (by decide +kernel) rfl wd186 wd187 wd1 wd188 (by decide) (Nat.le_of_ble_eq_true rfl) dX3_bookOf_5 ?_
  refine j_ifb_ne (tgt := 21) hC dX3_bookOf_8 (by decide) (fun h => absurd h (by omega)) (fun _ => ?_)
  exact j_throw (E := "java/lang/IndexOutOfBoundsException") (text := "there is no such lodge") hC hR hE (by decide) wd189 wd9 thX1 thX2 thX3 (by decide) dX3_bookOf_11 dX3_bookOf_14 dX3_bookOf_15 dX3_bookOf_17 dX3_bookOf_20 ⟨by decide, Nat.le_of_ble_eq_true rfl, by decide, by decide⟩
set_option maxHeartbeats 4000000 in
set_option maxRecDepth 100000 in
theorem c_X3_checkSign {l : Launch} (hl : l.stackTraces = false) (g : GG) (σ : Sg) (hI : IC σ) {b : Nat} (hb : b < 5) (s : Int) (hs : 0 ≤ s ∧ s < σ.1 (2 + b)) : CN l yX3_checkSign cX3_checkSign 2 none 6 90 0 0 g [.ref (gd g (4 + b)), vI (s)] σ (pt none (σ)) := by
  refine CN_of (own := RX3) hl (by decide) rfl (Nat.le_of_ble_eq_true rfl) (fun mc hC _ hR => ?_)
  refine j_lv (lv2 := [(0, .ref (gd g (4 + b))), (1, vI (s))]) rfl ?_
  have hn := hI.2.2.2.1 b hb
  refine j_iload_n hC dX3_checkSign_0 1 rfl ?_
  refine j_aload_n hC dX3_checkSign_1 0 rfl ?_
  refine j_getN hC inX0 rfl (4 + b) (hw_bk g _ hb) 3 (by decide) wd51 rfl dX3_checkSign_2 ?_
  refine j_callS1 (ar := 2) hC hR (c_X3_isBelow (hlJ hC) g σ s ((σ).1 (2 + b)) (by omega)) [] rfl (by decide) (by decide +kernel) rfl wd186 wd187 wd1 wd188 (by decide) (Nat.le_of_ble_eq_true rfl) dX3_checkSign_5 ?_
  refine j_ifb_ne (tgt := 21) hC dX3_checkSign_8 (by decide) (fun _ => ?_) (fun h => (h (by omega)).elim)
  exact j_vret hC dX3_checkSign_21 ⟨rfl, rfl⟩
set_option maxHeartbeats 4000000 in
set_option maxRecDepth 100000 in
theorem x_X3_checkSign {l : Launch} (hl : l.stackTraces = false) (g : GG) (σ : Sg) (hI : IC σ) {b : Nat} (hb : b < 5) (s : Int) (hr : -2147483648 ≤ s ∧ s < 2147483648) (hs : ¬ (0 ≤ s ∧ s < σ.1 (2 + b))) : CX l yX3_checkSign cX3_checkSign 2 none 6 90 1 6 g [.ref (gd g (4 + b)), vI (s)] σ pF (pxE "java/lang/IndexOutOfBoundsException" (σ)) := by
  refine CX_of (own := RX3) hl (by decide) rfl (Nat.le_of_ble_eq_true rfl) (fun mc hC _ hR hE => ?_)
  refine j_lv (lv2 := [(0, .ref (gd g (4 + b))), (1, vI (s))]) rfl ?_
  have hn := hI.2.2.2.1 b hb
  refine j_iload_n hC dX3_checkSign_0 1 rfl ?_
  refine j_aload_n hC dX3_checkSign_1 0 rfl ?_
  refine j_getN hC inX0 rfl (4 + b) (hw_bk g _ hb) 3 (by decide) wd51 rfl dX3_checkSign_2 ?_
  refine j_callS1 (ar := 2) hC hR (c_X3_isBelow (hlJ hC) g σ s ((σ).1 (2 + b)) (by omega)) [] rfl (by decide) (by decide +kernel) rfl wd186 wd187 wd1 wd188 (by decide) (Nat.le_of_ble_eq_true rfl) dX3_checkSign_5 ?_
  refine j_ifb_ne (tgt := 21) hC dX3_checkSign_8 (by decide) (fun h => absurd h (by omega)) (fun _ => ?_)
  exact j_throw (E := "java/lang/IndexOutOfBoundsException") (text := "the lodge has no such sign") hC hR hE (by decide) wd189 wd9 thX1 thX2 thX3 (by decide) dX3_checkSign_11 dX3_checkSign_14 dX3_checkSign_15 dX3_checkSign_17 dX3_checkSign_20 ⟨by decide, Nat.le_of_ble_eq_true rfl, by decide, by decide⟩
set_option maxHeartbeats 4000000 in
set_option maxRecDepth 100000 in
theorem c_X3_checkPlace {l : Launch} (hl : l.stackTraces = false) (g : GG) (σ : Sg) (p : Int) (hp : 0 ≤ p ∧ p < 9) : CN l yX3_checkPlace cX3_checkPlace 1 none 6 90 0 0 g [vI (p)] σ (pt none (σ)) := by
  refine CN_of (own := RX3) hl (by decide) rfl (Nat.le_of_ble_eq_true rfl) (fun mc hC _ hR => ?_)
  refine j_lv (lv2 := [(0, vI (p))]) rfl ?_
  refine j_iload_n hC dX3_checkPlace_0 0 rfl ?_
  refine j_bipush hC dX3_checkPlace_1 (by decide) ?_
  refine j_callS1 (ar := 2) hC hR (c_X3_isBelow (hlJ hC) g σ p 9 (by omega)) [] rfl (by decide) (by decide +kernel) rfl wd186 wd187 wd1 wd188 (by decide) (Nat.le_of_ble_eq_true rfl) dX3_checkPlace_3 ?_
  refine j_ifb_ne (tgt := 19) hC dX3_checkPlace_6 (by decide) (fun _ => ?_) (fun h => (h (by omega)).elim)
  exact j_vret hC dX3_checkPlace_19 ⟨rfl, rfl⟩
set_option maxHeartbeats 4000000 in
set_option maxRecDepth 100000 in
theorem x_X3_checkPlace {l : Launch} (hl : l.stackTraces = false) (g : GG) (σ : Sg) (p : Int) (hr : -2147483648 ≤ p ∧ p < 2147483648) (hp : ¬ (0 ≤ p ∧ p < 9)) : CX l yX3_checkPlace cX3_checkPlace 1 none 6 90 1 6 g [vI (p)] σ pF (pxE "java/lang/IndexOutOfBoundsException" (σ)) := by
  refine CX_of (own := RX3) hl (by decide) rfl (Nat.le_of_ble_eq_true rfl) (fun mc hC _ hR hE => ?_)
  refine j_lv (lv2 := [(0, vI (p))]) rfl ?_
  refine j_iload_n hC dX3_checkPlace_0 0 rfl ?_
  refine j_bipush hC dX3_checkPlace_1 (by decide) ?_
  refine j_callS1 (ar := 2) hC hR (c_X3_isBelow (hlJ hC) g σ p 9 (by omega)) [] rfl (by decide) (by decide +kernel) rfl wd186 wd187 wd1 wd188 (by decide) (Nat.le_of_ble_eq_true rfl) dX3_checkPlace_3 ?_
  refine j_ifb_ne (tgt := 19) hC dX3_checkPlace_6 (by decide) (fun h => absurd h (by omega)) (fun _ => ?_)
  exact j_throw (E := "java/lang/IndexOutOfBoundsException") (text := "place is not 0 to 8") hC hR hE (by decide) wd189 wd9 thX1 thX2 thX3 (by decide) dX3_checkPlace_9 dX3_checkPlace_12 dX3_checkPlace_13 dX3_checkPlace_15 dX3_checkPlace_18 ⟨by decide, Nat.le_of_ble_eq_true rfl, by decide, by decide⟩
set_option maxHeartbeats 4000000 in
set_option maxRecDepth 100000 in
theorem c_X3_checkLook {l : Launch} (hl : l.stackTraces = false) (g : GG) (σ : Sg) (sh th pl mv : Int) (hp : 0 ≤ sh ∧ sh < 16 ∧ 0 ≤ th ∧ th < 4 ∧ 0 ≤ pl ∧ pl < 9 ∧ 0 ≤ mv ∧ mv < 4) : CN l yX3_checkLook cX3_checkLook 4 none 6 90 0 0 g [vI (sh), vI (th), vI (pl), vI (mv)] σ (pt none (σ)) := by
  refine CN_of (own := RX3) hl (by decide) rfl (Nat.le_of_ble_eq_true rfl) (fun mc hC _ hR => ?_)
  refine j_lv (lv2 := [(0, vI (sh)), (1, vI (th)), (2, vI (pl)), (3, vI (mv))]) rfl ?_
  refine j_iload_n hC dX3_checkLook_0 0 rfl ?_
  refine j_bipush hC dX3_checkLook_1 (by decide) ?_
  refine j_callS1 (ar := 2) hC hR (c_X3_isBelow (hlJ hC) g σ sh 16 (by omega)) [] rfl (by decide) (by decide +kernel) rfl wd186 wd187 wd1 wd188 (by decide) (Nat.le_of_ble_eq_true rfl) dX3_checkLook_3 ?_
  refine j_ifb_ne (tgt := 19) hC dX3_checkLook_6 (by decide) (fun _ => ?_) (fun h => (h (by omega)).elim)
  refine j_iload_n hC dX3_checkLook_19 1 rfl ?_
  refine j_iconst hC dX3_checkLook_20 ?_
  refine j_callS1 (ar := 2) hC hR (c_X3_isBelow (hlJ hC) g σ th 4 (by omega)) [] rfl (by decide) (by decide +kernel) rfl wd186 wd187 wd1 wd188 (by decide) (Nat.le_of_ble_eq_true rfl) dX3_checkLook_21 ?_
  refine j_ifb_ne (tgt := 37) hC dX3_checkLook_24 (by decide) (fun _ => ?_) (fun h => (h (by omega)).elim)
  refine j_iload_n hC dX3_checkLook_37 2 rfl ?_
  refine j_bipush hC dX3_checkLook_38 (by decide) ?_
  refine j_callS1 (ar := 2) hC hR (c_X3_isBelow (hlJ hC) g σ pl 9 (by omega)) [] rfl (by decide) (by decide +kernel) rfl wd186 wd187 wd1 wd188 (by decide) (Nat.le_of_ble_eq_true rfl) dX3_checkLook_40 ?_
  refine j_ifb_ne (tgt := 56) hC dX3_checkLook_43 (by decide) (fun _ => ?_) (fun h => (h (by omega)).elim)
  refine j_iload_n hC dX3_checkLook_56 3 rfl ?_
  refine j_iconst hC dX3_checkLook_57 ?_
  refine j_callS1 (ar := 2) hC hR (c_X3_isBelow (hlJ hC) g σ mv 4 (by omega)) [] rfl (by decide) (by decide +kernel) rfl wd186 wd187 wd1 wd188 (by decide) (Nat.le_of_ble_eq_true rfl) dX3_checkLook_58 ?_
  refine j_ifb_ne (tgt := 74) hC dX3_checkLook_61 (by decide) (fun _ => ?_) (fun h => (h (by omega)).elim)
  exact j_vret hC dX3_checkLook_74 ⟨rfl, rfl⟩
set_option maxHeartbeats 4000000 in
set_option maxRecDepth 100000 in
theorem x_X3_checkLook {l : Launch} (hl : l.stackTraces = false) (g : GG) (σ : Sg) (sh th pl mv : Int) (hr : -2147483648 ≤ sh ∧ sh < 2147483648 ∧ -2147483648 ≤ th ∧ th < 2147483648 ∧ -2147483648 ≤ pl ∧ pl < 2147483648 ∧ -2147483648 ≤ mv ∧ mv < 2147483648) (hp : ¬ (0 ≤ sh ∧ sh < 16 ∧ 0 ≤ th ∧ th < 4 ∧ 0 ≤ pl ∧ pl < 9 ∧ 0 ≤ mv ∧ mv < 4)) : CX l yX3_checkLook cX3_checkLook 4 none 6 90 1 6 g [vI (sh), vI (th), vI (pl), vI (mv)] σ pF (pxE "java/lang/IllegalArgumentException" (σ)) := by
  refine CX_of (own := RX3) hl (by decide) rfl (Nat.le_of_ble_eq_true rfl) (fun mc hC _ hR hE => ?_)
  refine j_lv (lv2 := [(0, vI (sh)), (1, vI (th)), (2, vI (pl)), (3, vI (mv))]) rfl ?_
  refine j_iload_n hC dX3_checkLook_0 0 rfl ?_
  refine j_bipush hC dX3_checkLook_1 (by decide) ?_
  refine j_callS1 (ar := 2) hC hR (c_X3_isBelow (hlJ hC) g σ sh 16 (by omega)) [] rfl (by decide) (by decide +kernel) rfl wd186 wd187 wd1 wd188 (by decide) (Nat.le_of_ble_eq_true rfl) dX3_checkLook_3 ?_
  refine j_ifb_ne (tgt := 19) hC dX3_checkLook_6 (by decide) (fun h6 => ?_) (fun h6 => ?_)
  · refine j_iload_n hC dX3_checkLook_19 1 rfl ?_
    refine j_iconst hC dX3_checkLook_20 ?_
    refine j_callS1 (ar := 2) hC hR (c_X3_isBelow (hlJ hC) g σ th 4 (by omega)) [] rfl (by decide) (by decide +kernel) rfl wd186 wd187 wd1 wd188 (by decide) (Nat.le_of_ble_eq_true rfl) dX3_checkLook_21 ?_
    refine j_ifb_ne (tgt := 37) hC dX3_checkLook_24 (by decide) (fun h24 => ?_) (fun h24 => ?_)
    · refine j_iload_n hC dX3_checkLook_37 2 rfl ?_
      refine j_bipush hC dX3_checkLook_38 (by decide) ?_
      refine j_callS1 (ar := 2) hC hR (c_X3_isBelow (hlJ hC) g σ pl 9 (by omega)) [] rfl (by decide) (by decide +kernel) rfl wd186 wd187 wd1 wd188 (by decide) (Nat.le_of_ble_eq_true rfl) dX3_checkLook_40 ?_
      refine j_ifb_ne (tgt := 56) hC dX3_checkLook_43 (by decide) (fun h43 => ?_) (fun h43 => ?_)
      · refine j_iload_n hC dX3_checkLook_56 3 rfl ?_
        refine j_iconst hC dX3_checkLook_57 ?_
        refine j_callS1 (ar := 2) hC hR (c_X3_isBelow (hlJ hC) g σ mv 4 (by omega)) [] rfl (by decide) (by decide +kernel) rfl wd186 wd187 wd1 wd188 (by decide) (Nat.le_of_ble_eq_true rfl) dX3_checkLook_58 ?_
        refine j_ifb_ne (tgt := 74) hC dX3_checkLook_61 (by decide) (fun h61 => ?_) (fun h61 => ?_)
        · exact (hp (by omega)).elim
        · exact j_throw (E := "java/lang/IllegalArgumentException") (text := "movement is not 0 to 3") hC hR hE (by decide) wd337 wd10 thA1 thA2 thA3 (by decide) dX3_checkLook_64 dX3_checkLook_67 dX3_checkLook_68 dX3_checkLook_70 dX3_checkLook_73 ⟨by decide, Nat.le_of_ble_eq_true rfl, by decide, by decide⟩
      · exact j_throw (E := "java/lang/IllegalArgumentException") (text := "place is not 0 to 8") hC hR hE (by decide) wd337 wd10 thA1 thA2 thA3 (by decide) dX3_checkLook_46 dX3_checkLook_49 dX3_checkLook_50 dX3_checkLook_52 dX3_checkLook_55 ⟨by decide, Nat.le_of_ble_eq_true rfl, by decide, by decide⟩
    · exact j_throw (E := "java/lang/IllegalArgumentException") (text := "thumb is not 0 to 3") hC hR hE (by decide) wd337 wd10 thA1 thA2 thA3 (by decide) dX3_checkLook_27 dX3_checkLook_30 dX3_checkLook_31 dX3_checkLook_33 dX3_checkLook_36 ⟨by decide, Nat.le_of_ble_eq_true rfl, by decide, by decide⟩
  · exact j_throw (E := "java/lang/IllegalArgumentException") (text := "shape is not 0 to 15") hC hR hE (by decide) wd337 wd10 thA1 thA2 thA3 (by decide) dX3_checkLook_9 dX3_checkLook_12 dX3_checkLook_13 dX3_checkLook_15 dX3_checkLook_18 ⟨by decide, Nat.le_of_ble_eq_true rfl, by decide, by decide⟩
set_option maxHeartbeats 4000000 in
set_option maxRecDepth 100000 in
theorem c_X3_lookOf {l : Launch} (hl : l.stackTraces = false) (g : GG) (σ : Sg) (hI : IC σ) (a s : Int) (ha : 0 ≤ a ∧ a < σ.1 0) (hs : 0 ≤ s ∧ s < σ.1 (2 + a.toNat)) : CN l yX3_lookOf cX3_lookOf 4 (some .int) 7 111 0 0 g [.ref (gd g (0)), vI (a), vI (s)] σ (pt (some (vI (σ.2 (1 + a.toNat) s))) (σ)) := by
  refine CN_of (own := RX3) hl (by decide) rfl (Nat.le_of_ble_eq_true rfl) (fun mc hC _ hR => ?_)
  refine j_lv (lv2 := [(0, .ref (gd g (0))), (1, vI (a)), (2, vI (s))]) rfl ?_
  have hI1 := hI.1
  have ha5 : a.toNat < 5 := by have := hI.1; omega
  have hna := hI.2.2.2.1 a.toNat ha5
  refine j_aload_n hC dX3_lookOf_0 0 rfl ?_
  refine j_iload_n hC dX3_lookOf_1 1 rfl ?_
  refine j_callV1 (ar := 1) hC hR (c_X3_bookOf (hlJ hC) g σ hI a (by omega)) [] rfl 0 rfl rfl rfl (by decide) (by decide +kernel) rfl wd182 wd184 wp13 wd1 wd185 (by decide) (Nat.le_of_ble_eq_true rfl) dX3_lookOf_2 ?_
  refine j_astore_n hC dX3_lookOf_5 [(3, .ref (gd g (4 + a.toNat))), (0, .ref (gd g (0))), (1, vI (a)), (2, vI (s))] (by decide) rfl ?_
  refine j_aload_n hC dX3_lookOf_6 0 rfl ?_
  refine j_iload_n hC dX3_lookOf_7 3 rfl ?_
  refine j_callS0 (ar := 2) hC hR (c_X3_checkSign (hlJ hC) g σ hI ha5 s (by omega)) [] rfl (by decide) (by decide +kernel) rfl wd368 wd369 wd1 wd370 (by decide) (Nat.le_of_ble_eq_true rfl) dX3_lookOf_8 ?_
  refine j_aload_n hC dX3_lookOf_11 0 rfl ?_
  refine j_getN hC inX0 rfl (4 + a.toNat) (hw_bk g _ ha5) 1 (by decide) wd47 rfl dX3_lookOf_12 ?_
  refine j_iload_n hC dX3_lookOf_15 3 rfl ?_
  refine j_iald hC (9 + a.toNat) (hw_lk g _ ha5) (by omega) dX3_lookOf_16 ?_
  exact j_iret hC dX3_lookOf_17 ⟨rfl, rfl⟩
set_option maxHeartbeats 4000000 in
set_option maxRecDepth 100000 in
theorem x1_X3_lookOf {l : Launch} (hl : l.stackTraces = false) (g : GG) (σ : Sg) (hI : IC σ) (a s : Int) (hr : -2147483648 ≤ a ∧ a < 2147483648) (ha : ¬ (0 ≤ a ∧ a < σ.1 0)) : CX l yX3_lookOf cX3_lookOf 4 (some .int) 7 111 1 6 g [.ref (gd g (0)), vI (a), vI (s)] σ pF (pxE "java/lang/IndexOutOfBoundsException" (σ)) := by
  refine CX_of (own := RX3) hl (by decide) rfl (Nat.le_of_ble_eq_true rfl) (fun mc hC _ hR hE => ?_)
  refine j_lv (lv2 := [(0, .ref (gd g (0))), (1, vI (a)), (2, vI (s))]) rfl ?_
  have hI1 := hI.1
  refine j_aload_n hC dX3_lookOf_0 0 rfl ?_
  refine j_iload_n hC dX3_lookOf_1 1 rfl ?_
  refine j_callVT (ar := 1) hC hR (x_X3_bookOf (hlJ hC) g σ hI a (by omega) (by omega)) [] rfl 0 rfl rfl rfl (by decide) (by decide +kernel) rfl wd182 wd184 wp13 wd1 wd185 (by decide) (Nat.le_of_ble_eq_true rfl) dX3_lookOf_2 hE
set_option maxHeartbeats 4000000 in
set_option maxRecDepth 100000 in
theorem x2_X3_lookOf {l : Launch} (hl : l.stackTraces = false) (g : GG) (σ : Sg) (hI : IC σ) (a s : Int) (hr : -2147483648 ≤ s ∧ s < 2147483648) (ha : 0 ≤ a ∧ a < σ.1 0) (hs : ¬ (0 ≤ s ∧ s < σ.1 (2 + a.toNat))) : CX l yX3_lookOf cX3_lookOf 4 (some .int) 7 111 1 6 g [.ref (gd g (0)), vI (a), vI (s)] σ pF (pxE "java/lang/IndexOutOfBoundsException" (σ)) := by
  refine CX_of (own := RX3) hl (by decide) rfl (Nat.le_of_ble_eq_true rfl) (fun mc hC _ hR hE => ?_)
  refine j_lv (lv2 := [(0, .ref (gd g (0))), (1, vI (a)), (2, vI (s))]) rfl ?_
  have hI1 := hI.1
  have ha5 : a.toNat < 5 := by have := hI.1; omega
  have hna := hI.2.2.2.1 a.toNat ha5
  refine j_aload_n hC dX3_lookOf_0 0 rfl ?_
  refine j_iload_n hC dX3_lookOf_1 1 rfl ?_
  refine j_callV1 (ar := 1) hC hR (c_X3_bookOf (hlJ hC) g σ hI a (by omega)) [] rfl 0 rfl rfl rfl (by decide) (by decide +kernel) rfl wd182 wd184 wp13 wd1 wd185 (by decide) (Nat.le_of_ble_eq_true rfl) dX3_lookOf_2 ?_
  refine j_astore_n hC dX3_lookOf_5 [(3, .ref (gd g (4 + a.toNat))), (0, .ref (gd g (0))), (1, vI (a)), (2, vI (s))] (by decide) rfl ?_
  refine j_aload_n hC dX3_lookOf_6 0 rfl ?_
  refine j_iload_n hC dX3_lookOf_7 3 rfl ?_
  refine j_callST (ar := 2) hC hR (x_X3_checkSign (hlJ hC) g σ hI ha5 s (by omega) (by omega)) [] rfl (by decide) (by decide +kernel) rfl wd368 wd369 wd1 wd370 (by decide) (Nat.le_of_ble_eq_true rfl) dX3_lookOf_8 hE
set_option maxHeartbeats 4000000 in
set_option maxRecDepth 100000 in
theorem c_X3_shapeOf {l : Launch} (hl : l.stackTraces = false) (g : GG) (σ : Sg) (hI : IC σ) (a s : Int) (ha : 0 ≤ a ∧ a < σ.1 0) (hs : 0 ≤ s ∧ s < σ.1 (2 + a.toNat)) : CN l yX3_shapeOf cX3_shapeOf 3 (some .int) 8 134 0 0 g [.ref (gd g (0)), vI (a), vI (s)] σ (pt (some (vI (σ.2 (1 + a.toNat) s % 16))) (σ)) := by
  refine CN_of (own := RX3) hl (by decide) rfl (Nat.le_of_ble_eq_true rfl) (fun mc hC _ hR => ?_)
  refine j_lv (lv2 := [(0, .ref (gd g (0))), (1, vI (a)), (2, vI (s))]) rfl ?_
  have hI1 := hI.1
  have ha5 : a.toNat < 5 := by have := hI.1; omega
  have hna := hI.2.2.2.1 a.toNat ha5
  have hk := hI.2.2.2.2.1 a.toNat ha5 s (by omega) (by omega)
  refine j_aload_n hC dX3_shapeOf_0 0 rfl ?_
  refine j_iload_n hC dX3_shapeOf_1 1 rfl ?_
  refine j_iload_n hC dX3_shapeOf_2 2 rfl ?_
  refine j_callV1 (ar := 2) hC hR (c_X3_lookOf (hlJ hC) g σ hI a s (by omega) (by omega)) [] rfl 0 rfl rfl rfl (by decide) (by decide +kernel) rfl wd437 wd439 wp25 wd1 wd440 (by decide) (Nat.le_of_ble_eq_true rfl) dX3_shapeOf_3 ?_
  refine j_callSN1 (ar := 1) hC hR (c_X1_shape (hlJ hC) g σ (σ.2 (1 + a.toNat) s) (by omega)) [] rfl (by decide) (by decide +kernel) rfl wd294 wd128 wd11 wd129 (by decide) (Nat.le_of_ble_eq_true rfl) dX3_shapeOf_6 ?_
  exact j_iret hC dX3_shapeOf_9 ⟨rfl, rfl⟩
set_option maxHeartbeats 4000000 in
set_option maxRecDepth 100000 in
theorem x1_X3_shapeOf {l : Launch} (hl : l.stackTraces = false) (g : GG) (σ : Sg) (hI : IC σ) (a s : Int) (hr : -2147483648 ≤ a ∧ a < 2147483648) (ha : ¬ (0 ≤ a ∧ a < σ.1 0)) : CX l yX3_shapeOf cX3_shapeOf 3 (some .int) 8 134 1 6 g [.ref (gd g (0)), vI (a), vI (s)] σ pF (pxE "java/lang/IndexOutOfBoundsException" (σ)) := by
  refine CX_of (own := RX3) hl (by decide) rfl (Nat.le_of_ble_eq_true rfl) (fun mc hC _ hR hE => ?_)
  refine j_lv (lv2 := [(0, .ref (gd g (0))), (1, vI (a)), (2, vI (s))]) rfl ?_
  have hI1 := hI.1
  refine j_aload_n hC dX3_shapeOf_0 0 rfl ?_
  refine j_iload_n hC dX3_shapeOf_1 1 rfl ?_
  refine j_iload_n hC dX3_shapeOf_2 2 rfl ?_
  refine j_callVT (ar := 2) hC hR (x1_X3_lookOf (hlJ hC) g σ hI a s (by omega) (by omega)) [] rfl 0 rfl rfl rfl (by decide) (by decide +kernel) rfl wd437 wd439 wp25 wd1 wd440 (by decide) (Nat.le_of_ble_eq_true rfl) dX3_shapeOf_3 hE
set_option maxHeartbeats 4000000 in
set_option maxRecDepth 100000 in
theorem x2_X3_shapeOf {l : Launch} (hl : l.stackTraces = false) (g : GG) (σ : Sg) (hI : IC σ) (a s : Int) (hr : -2147483648 ≤ s ∧ s < 2147483648) (ha : 0 ≤ a ∧ a < σ.1 0) (hs : ¬ (0 ≤ s ∧ s < σ.1 (2 + a.toNat))) : CX l yX3_shapeOf cX3_shapeOf 3 (some .int) 8 134 1 6 g [.ref (gd g (0)), vI (a), vI (s)] σ pF (pxE "java/lang/IndexOutOfBoundsException" (σ)) := by
  refine CX_of (own := RX3) hl (by decide) rfl (Nat.le_of_ble_eq_true rfl) (fun mc hC _ hR hE => ?_)
  refine j_lv (lv2 := [(0, .ref (gd g (0))), (1, vI (a)), (2, vI (s))]) rfl ?_
  have hI1 := hI.1
  have ha5 : a.toNat < 5 := by have := hI.1; omega
  have hna := hI.2.2.2.1 a.toNat ha5
  refine j_aload_n hC dX3_shapeOf_0 0 rfl ?_
  refine j_iload_n hC dX3_shapeOf_1 1 rfl ?_
  refine j_iload_n hC dX3_shapeOf_2 2 rfl ?_
  refine j_callVT (ar := 2) hC hR (x2_X3_lookOf (hlJ hC) g σ hI a s (by omega) (by omega) (by omega)) [] rfl 0 rfl rfl rfl (by decide) (by decide +kernel) rfl wd437 wd439 wp25 wd1 wd440 (by decide) (Nat.le_of_ble_eq_true rfl) dX3_shapeOf_3 hE
set_option maxHeartbeats 4000000 in
set_option maxRecDepth 100000 in
theorem c_X3_thumbOf {l : Launch} (hl : l.stackTraces = false) (g : GG) (σ : Sg) (hI : IC σ) (a s : Int) (ha : 0 ≤ a ∧ a < σ.1 0) (hs : 0 ≤ s ∧ s < σ.1 (2 + a.toNat)) : CN l yX3_thumbOf cX3_thumbOf 3 (some .int) 8 134 0 0 g [.ref (gd g (0)), vI (a), vI (s)] σ (pt (some (vI (σ.2 (1 + a.toNat) s / 16 % 4))) (σ)) := by
  refine CN_of (own := RX3) hl (by decide) rfl (Nat.le_of_ble_eq_true rfl) (fun mc hC _ hR => ?_)
  refine j_lv (lv2 := [(0, .ref (gd g (0))), (1, vI (a)), (2, vI (s))]) rfl ?_
  have hI1 := hI.1
  have ha5 : a.toNat < 5 := by have := hI.1; omega
  have hna := hI.2.2.2.1 a.toNat ha5
  have hk := hI.2.2.2.2.1 a.toNat ha5 s (by omega) (by omega)
  refine j_aload_n hC dX3_thumbOf_0 0 rfl ?_
  refine j_iload_n hC dX3_thumbOf_1 1 rfl ?_
  refine j_iload_n hC dX3_thumbOf_2 2 rfl ?_
  refine j_callV1 (ar := 2) hC hR (c_X3_lookOf (hlJ hC) g σ hI a s (by omega) (by omega)) [] rfl 0 rfl rfl rfl (by decide) (by decide +kernel) rfl wd437 wd439 wp25 wd1 wd440 (by decide) (Nat.le_of_ble_eq_true rfl) dX3_thumbOf_3 ?_
  refine j_callSN1 (ar := 1) hC hR (c_X1_thumb (hlJ hC) g σ (σ.2 (1 + a.toNat) s) (by omega)) [] rfl (by decide) (by decide +kernel) rfl wd295 wd121 wd11 wd122 (by decide) (Nat.le_of_ble_eq_true rfl) dX3_thumbOf_6 ?_
  exact j_iret hC dX3_thumbOf_9 ⟨rfl, rfl⟩
set_option maxHeartbeats 4000000 in
set_option maxRecDepth 100000 in
theorem x1_X3_thumbOf {l : Launch} (hl : l.stackTraces = false) (g : GG) (σ : Sg) (hI : IC σ) (a s : Int) (hr : -2147483648 ≤ a ∧ a < 2147483648) (ha : ¬ (0 ≤ a ∧ a < σ.1 0)) : CX l yX3_thumbOf cX3_thumbOf 3 (some .int) 8 134 1 6 g [.ref (gd g (0)), vI (a), vI (s)] σ pF (pxE "java/lang/IndexOutOfBoundsException" (σ)) := by
  refine CX_of (own := RX3) hl (by decide) rfl (Nat.le_of_ble_eq_true rfl) (fun mc hC _ hR hE => ?_)
  refine j_lv (lv2 := [(0, .ref (gd g (0))), (1, vI (a)), (2, vI (s))]) rfl ?_
  have hI1 := hI.1
  refine j_aload_n hC dX3_thumbOf_0 0 rfl ?_
  refine j_iload_n hC dX3_thumbOf_1 1 rfl ?_
  refine j_iload_n hC dX3_thumbOf_2 2 rfl ?_
  refine j_callVT (ar := 2) hC hR (x1_X3_lookOf (hlJ hC) g σ hI a s (by omega) (by omega)) [] rfl 0 rfl rfl rfl (by decide) (by decide +kernel) rfl wd437 wd439 wp25 wd1 wd440 (by decide) (Nat.le_of_ble_eq_true rfl) dX3_thumbOf_3 hE
set_option maxHeartbeats 4000000 in
set_option maxRecDepth 100000 in
theorem x2_X3_thumbOf {l : Launch} (hl : l.stackTraces = false) (g : GG) (σ : Sg) (hI : IC σ) (a s : Int) (hr : -2147483648 ≤ s ∧ s < 2147483648) (ha : 0 ≤ a ∧ a < σ.1 0) (hs : ¬ (0 ≤ s ∧ s < σ.1 (2 + a.toNat))) : CX l yX3_thumbOf cX3_thumbOf 3 (some .int) 8 134 1 6 g [.ref (gd g (0)), vI (a), vI (s)] σ pF (pxE "java/lang/IndexOutOfBoundsException" (σ)) := by
  refine CX_of (own := RX3) hl (by decide) rfl (Nat.le_of_ble_eq_true rfl) (fun mc hC _ hR hE => ?_)
  refine j_lv (lv2 := [(0, .ref (gd g (0))), (1, vI (a)), (2, vI (s))]) rfl ?_
  have hI1 := hI.1
  have ha5 : a.toNat < 5 := by have := hI.1; omega
  have hna := hI.2.2.2.1 a.toNat ha5
  refine j_aload_n hC dX3_thumbOf_0 0 rfl ?_
  refine j_iload_n hC dX3_thumbOf_1 1 rfl ?_
  refine j_iload_n hC dX3_thumbOf_2 2 rfl ?_
  refine j_callVT (ar := 2) hC hR (x2_X3_lookOf (hlJ hC) g σ hI a s (by omega) (by omega) (by omega)) [] rfl 0 rfl rfl rfl (by decide) (by decide +kernel) rfl wd437 wd439 wp25 wd1 wd440 (by decide) (Nat.le_of_ble_eq_true rfl) dX3_thumbOf_3 hE
set_option maxHeartbeats 4000000 in
set_option maxRecDepth 100000 in
theorem c_X3_placeOf {l : Launch} (hl : l.stackTraces = false) (g : GG) (σ : Sg) (hI : IC σ) (a s : Int) (ha : 0 ≤ a ∧ a < σ.1 0) (hs : 0 ≤ s ∧ s < σ.1 (2 + a.toNat)) : CN l yX3_placeOf cX3_placeOf 3 (some .int) 8 134 0 0 g [.ref (gd g (0)), vI (a), vI (s)] σ (pt (some (vI (σ.2 (1 + a.toNat) s / 256))) (σ)) := by
  refine CN_of (own := RX3) hl (by decide) rfl (Nat.le_of_ble_eq_true rfl) (fun mc hC _ hR => ?_)
  refine j_lv (lv2 := [(0, .ref (gd g (0))), (1, vI (a)), (2, vI (s))]) rfl ?_
  have hI1 := hI.1
  have ha5 : a.toNat < 5 := by have := hI.1; omega
  have hna := hI.2.2.2.1 a.toNat ha5
  have hk := hI.2.2.2.2.1 a.toNat ha5 s (by omega) (by omega)
  refine j_aload_n hC dX3_placeOf_0 0 rfl ?_
  refine j_iload_n hC dX3_placeOf_1 1 rfl ?_
  refine j_iload_n hC dX3_placeOf_2 2 rfl ?_
  refine j_callV1 (ar := 2) hC hR (c_X3_lookOf (hlJ hC) g σ hI a s (by omega) (by omega)) [] rfl 0 rfl rfl rfl (by decide) (by decide +kernel) rfl wd437 wd439 wp25 wd1 wd440 (by decide) (Nat.le_of_ble_eq_true rfl) dX3_placeOf_3 ?_
  refine j_callSN1 (ar := 1) hC hR (c_X1_place (hlJ hC) g σ (σ.2 (1 + a.toNat) s) (by omega)) [] rfl (by decide) (by decide +kernel) rfl wd296 wd110 wd11 wd111 (by decide) (Nat.le_of_ble_eq_true rfl) dX3_placeOf_6 ?_
  exact j_iret hC dX3_placeOf_9 ⟨rfl, rfl⟩
set_option maxHeartbeats 4000000 in
set_option maxRecDepth 100000 in
theorem x1_X3_placeOf {l : Launch} (hl : l.stackTraces = false) (g : GG) (σ : Sg) (hI : IC σ) (a s : Int) (hr : -2147483648 ≤ a ∧ a < 2147483648) (ha : ¬ (0 ≤ a ∧ a < σ.1 0)) : CX l yX3_placeOf cX3_placeOf 3 (some .int) 8 134 1 6 g [.ref (gd g (0)), vI (a), vI (s)] σ pF (pxE "java/lang/IndexOutOfBoundsException" (σ)) := by
  refine CX_of (own := RX3) hl (by decide) rfl (Nat.le_of_ble_eq_true rfl) (fun mc hC _ hR hE => ?_)
  refine j_lv (lv2 := [(0, .ref (gd g (0))), (1, vI (a)), (2, vI (s))]) rfl ?_
  have hI1 := hI.1
  refine j_aload_n hC dX3_placeOf_0 0 rfl ?_
  refine j_iload_n hC dX3_placeOf_1 1 rfl ?_
  refine j_iload_n hC dX3_placeOf_2 2 rfl ?_
  refine j_callVT (ar := 2) hC hR (x1_X3_lookOf (hlJ hC) g σ hI a s (by omega) (by omega)) [] rfl 0 rfl rfl rfl (by decide) (by decide +kernel) rfl wd437 wd439 wp25 wd1 wd440 (by decide) (Nat.le_of_ble_eq_true rfl) dX3_placeOf_3 hE
set_option maxHeartbeats 4000000 in
set_option maxRecDepth 100000 in
theorem x2_X3_placeOf {l : Launch} (hl : l.stackTraces = false) (g : GG) (σ : Sg) (hI : IC σ) (a s : Int) (hr : -2147483648 ≤ s ∧ s < 2147483648) (ha : 0 ≤ a ∧ a < σ.1 0) (hs : ¬ (0 ≤ s ∧ s < σ.1 (2 + a.toNat))) : CX l yX3_placeOf cX3_placeOf 3 (some .int) 8 134 1 6 g [.ref (gd g (0)), vI (a), vI (s)] σ pF (pxE "java/lang/IndexOutOfBoundsException" (σ)) := by
  refine CX_of (own := RX3) hl (by decide) rfl (Nat.le_of_ble_eq_true rfl) (fun mc hC _ hR hE => ?_)
  refine j_lv (lv2 := [(0, .ref (gd g (0))), (1, vI (a)), (2, vI (s))]) rfl ?_
  have hI1 := hI.1
  have ha5 : a.toNat < 5 := by have := hI.1; omega
  have hna := hI.2.2.2.1 a.toNat ha5
  refine j_aload_n hC dX3_placeOf_0 0 rfl ?_
  refine j_iload_n hC dX3_placeOf_1 1 rfl ?_
  refine j_iload_n hC dX3_placeOf_2 2 rfl ?_
  refine j_callVT (ar := 2) hC hR (x2_X3_lookOf (hlJ hC) g σ hI a s (by omega) (by omega) (by omega)) [] rfl 0 rfl rfl rfl (by decide) (by decide +kernel) rfl wd437 wd439 wp25 wd1 wd440 (by decide) (Nat.le_of_ble_eq_true rfl) dX3_placeOf_3 hE
set_option maxHeartbeats 4000000 in
set_option maxRecDepth 100000 in
theorem c_X3_meaningOf {l : Launch} (hl : l.stackTraces = false) (g : GG) (σ : Sg) (hI : IC σ) (a s : Int) (ha : 0 ≤ a ∧ a < σ.1 0) (hs : 0 ≤ s ∧ s < σ.1 (2 + a.toNat)) : CN l yX3_meaningOf cX3_meaningOf 4 (some .int) 7 111 0 0 g [.ref (gd g (0)), vI (a), vI (s)] σ (pt (some (vI (σ.2 (6 + a.toNat) s))) (σ)) := by
  refine CN_of (own := RX3) hl (by decide) rfl (Nat.le_of_ble_eq_true rfl) (fun mc hC _ hR => ?_)
  refine j_lv (lv2 := [(0, .ref (gd g (0))), (1, vI (a)), (2, vI (s))]) rfl ?_
  have hI1 := hI.1
  have ha5 : a.toNat < 5 := by have := hI.1; omega
  have hna := hI.2.2.2.1 a.toNat ha5
  have hk := hI.2.2.2.2.1 a.toNat ha5 s (by omega) (by omega)
  refine j_aload_n hC dX3_meaningOf_0 0 rfl ?_
  refine j_iload_n hC dX3_meaningOf_1 1 rfl ?_
  refine j_callV1 (ar := 1) hC hR (c_X3_bookOf (hlJ hC) g σ hI a (by omega)) [] rfl 0 rfl rfl rfl (by decide) (by decide +kernel) rfl wd182 wd184 wp13 wd1 wd185 (by decide) (Nat.le_of_ble_eq_true rfl) dX3_meaningOf_2 ?_
  refine j_astore_n hC dX3_meaningOf_5 [(3, .ref (gd g (4 + a.toNat))), (0, .ref (gd g (0))), (1, vI (a)), (2, vI (s))] (by decide) rfl ?_
  refine j_aload_n hC dX3_meaningOf_6 0 rfl ?_
  refine j_iload_n hC dX3_meaningOf_7 3 rfl ?_
  refine j_callS0 (ar := 2) hC hR (c_X3_checkSign (hlJ hC) g σ hI ha5 s (by omega)) [] rfl (by decide) (by decide +kernel) rfl wd368 wd369 wd1 wd370 (by decide) (Nat.le_of_ble_eq_true rfl) dX3_meaningOf_8 ?_
  refine j_aload_n hC dX3_meaningOf_11 0 rfl ?_
  refine j_getN hC inX0 rfl (4 + a.toNat) (hw_bk g _ ha5) 2 (by decide) wd49 rfl dX3_meaningOf_12 ?_
  refine j_iload_n hC dX3_meaningOf_15 3 rfl ?_
  refine j_iald hC (14 + a.toNat) (hw_mn g _ ha5) (by omega) dX3_meaningOf_16 ?_
  exact j_iret hC dX3_meaningOf_17 ⟨rfl, rfl⟩
set_option maxHeartbeats 4000000 in
set_option maxRecDepth 100000 in
theorem x1_X3_meaningOf {l : Launch} (hl : l.stackTraces = false) (g : GG) (σ : Sg) (hI : IC σ) (a s : Int) (hr : -2147483648 ≤ a ∧ a < 2147483648) (ha : ¬ (0 ≤ a ∧ a < σ.1 0)) : CX l yX3_meaningOf cX3_meaningOf 4 (some .int) 7 111 1 6 g [.ref (gd g (0)), vI (a), vI (s)] σ pF (pxE "java/lang/IndexOutOfBoundsException" (σ)) := by
  refine CX_of (own := RX3) hl (by decide) rfl (Nat.le_of_ble_eq_true rfl) (fun mc hC _ hR hE => ?_)
  refine j_lv (lv2 := [(0, .ref (gd g (0))), (1, vI (a)), (2, vI (s))]) rfl ?_
  have hI1 := hI.1
  refine j_aload_n hC dX3_meaningOf_0 0 rfl ?_
  refine j_iload_n hC dX3_meaningOf_1 1 rfl ?_
  refine j_callVT (ar := 1) hC hR (x_X3_bookOf (hlJ hC) g σ hI a (by omega) (by omega)) [] rfl 0 rfl rfl rfl (by decide) (by decide +kernel) rfl wd182 wd184 wp13 wd1 wd185 (by decide) (Nat.le_of_ble_eq_true rfl) dX3_meaningOf_2 hE
set_option maxHeartbeats 4000000 in
set_option maxRecDepth 100000 in
theorem x2_X3_meaningOf {l : Launch} (hl : l.stackTraces = false) (g : GG) (σ : Sg) (hI : IC σ) (a s : Int) (hr : -2147483648 ≤ s ∧ s < 2147483648) (ha : 0 ≤ a ∧ a < σ.1 0) (hs : ¬ (0 ≤ s ∧ s < σ.1 (2 + a.toNat))) : CX l yX3_meaningOf cX3_meaningOf 4 (some .int) 7 111 1 6 g [.ref (gd g (0)), vI (a), vI (s)] σ pF (pxE "java/lang/IndexOutOfBoundsException" (σ)) := by
  refine CX_of (own := RX3) hl (by decide) rfl (Nat.le_of_ble_eq_true rfl) (fun mc hC _ hR hE => ?_)
  refine j_lv (lv2 := [(0, .ref (gd g (0))), (1, vI (a)), (2, vI (s))]) rfl ?_
  have hI1 := hI.1
  have ha5 : a.toNat < 5 := by have := hI.1; omega
  have hna := hI.2.2.2.1 a.toNat ha5
  refine j_aload_n hC dX3_meaningOf_0 0 rfl ?_
  refine j_iload_n hC dX3_meaningOf_1 1 rfl ?_
  refine j_callV1 (ar := 1) hC hR (c_X3_bookOf (hlJ hC) g σ hI a (by omega)) [] rfl 0 rfl rfl rfl (by decide) (by decide +kernel) rfl wd182 wd184 wp13 wd1 wd185 (by decide) (Nat.le_of_ble_eq_true rfl) dX3_meaningOf_2 ?_
  refine j_astore_n hC dX3_meaningOf_5 [(3, .ref (gd g (4 + a.toNat))), (0, .ref (gd g (0))), (1, vI (a)), (2, vI (s))] (by decide) rfl ?_
  refine j_aload_n hC dX3_meaningOf_6 0 rfl ?_
  refine j_iload_n hC dX3_meaningOf_7 3 rfl ?_
  refine j_callST (ar := 2) hC hR (x_X3_checkSign (hlJ hC) g σ hI ha5 s (by omega) (by omega)) [] rfl (by decide) (by decide +kernel) rfl wd368 wd369 wd1 wd370 (by decide) (Nat.le_of_ble_eq_true rfl) dX3_meaningOf_8 hE
set_option maxHeartbeats 4000000 in
set_option maxRecDepth 100000 in
theorem c_X3_bestThumb {l : Launch} (hl : l.stackTraces = false) (g : GG) (σ : Sg) (hI : IC σ) (a s : Int) (ha : 0 ≤ a ∧ a < σ.1 0) (hs : 0 ≤ s ∧ s < σ.1 (2 + a.toNat)) : CN l yX3_bestThumb cX3_bestThumb 4 (some .int) 7 121 0 0 g [.ref (gd g (0)), vI (a), vI (s)] σ (pt (some (vI (tfB σ a.toNat s))) (σ)) := by
  refine CN_of (own := RX3) hl (by decide) rfl (Nat.le_of_ble_eq_true rfl) (fun mc hC _ hR => ?_)
  refine j_lv (lv2 := [(0, .ref (gd g (0))), (1, vI (a)), (2, vI (s))]) rfl ?_
  have hI1 := hI.1
  have ha5 : a.toNat < 5 := by have := hI.1; omega
  have hna := hI.2.2.2.1 a.toNat ha5
  have hk := hI.2.2.2.2.1 a.toNat ha5 s (by omega) (by omega)
  refine j_aload_n hC dX3_bestThumb_0 0 rfl ?_
  refine j_iload_n hC dX3_bestThumb_1 1 rfl ?_
  refine j_callV1 (ar := 1) hC hR (c_X3_bookOf (hlJ hC) g σ hI a (by omega)) [] rfl 0 rfl rfl rfl (by decide) (by decide +kernel) rfl wd182 wd184 wp13 wd1 wd185 (by decide) (Nat.le_of_ble_eq_true rfl) dX3_bestThumb_2 ?_
  refine j_astore_n hC dX3_bestThumb_5 [(3, .ref (gd g (4 + a.toNat))), (0, .ref (gd g (0))), (1, vI (a)), (2, vI (s))] (by decide) rfl ?_
  refine j_aload_n hC dX3_bestThumb_6 0 rfl ?_
  refine j_iload_n hC dX3_bestThumb_7 3 rfl ?_
  refine j_callS0 (ar := 2) hC hR (c_X3_checkSign (hlJ hC) g σ hI ha5 s (by omega)) [] rfl (by decide) (by decide +kernel) rfl wd368 wd369 wd1 wd370 (by decide) (Nat.le_of_ble_eq_true rfl) dX3_bestThumb_8 ?_
  refine j_aload_n hC dX3_bestThumb_11 0 rfl ?_
  refine j_iload_n hC dX3_bestThumb_12 3 rfl ?_
  refine j_callVN1 (ar := 1) hC hR (c_X0_thumbFarthest (hlJ hC) g σ hI ha5 s (by omega)) [] rfl (4 + a.toNat) (hw_bk g _ ha5) rfl rfl (by decide) (by decide +kernel) rfl wd297 wd299 wp22 wd3 wd300 (by decide) (Nat.le_of_ble_eq_true rfl) dX3_bestThumb_13 ?_
  exact j_iret hC dX3_bestThumb_16 ⟨rfl, rfl⟩
set_option maxHeartbeats 4000000 in
set_option maxRecDepth 100000 in
theorem x1_X3_bestThumb {l : Launch} (hl : l.stackTraces = false) (g : GG) (σ : Sg) (hI : IC σ) (a s : Int) (hr : -2147483648 ≤ a ∧ a < 2147483648) (ha : ¬ (0 ≤ a ∧ a < σ.1 0)) : CX l yX3_bestThumb cX3_bestThumb 4 (some .int) 7 121 1 6 g [.ref (gd g (0)), vI (a), vI (s)] σ pF (pxE "java/lang/IndexOutOfBoundsException" (σ)) := by
  refine CX_of (own := RX3) hl (by decide) rfl (Nat.le_of_ble_eq_true rfl) (fun mc hC _ hR hE => ?_)
  refine j_lv (lv2 := [(0, .ref (gd g (0))), (1, vI (a)), (2, vI (s))]) rfl ?_
  have hI1 := hI.1
  refine j_aload_n hC dX3_bestThumb_0 0 rfl ?_
  refine j_iload_n hC dX3_bestThumb_1 1 rfl ?_
  refine j_callVT (ar := 1) hC hR (x_X3_bookOf (hlJ hC) g σ hI a (by omega) (by omega)) [] rfl 0 rfl rfl rfl (by decide) (by decide +kernel) rfl wd182 wd184 wp13 wd1 wd185 (by decide) (Nat.le_of_ble_eq_true rfl) dX3_bestThumb_2 hE
set_option maxHeartbeats 4000000 in
set_option maxRecDepth 100000 in
theorem x2_X3_bestThumb {l : Launch} (hl : l.stackTraces = false) (g : GG) (σ : Sg) (hI : IC σ) (a s : Int) (hr : -2147483648 ≤ s ∧ s < 2147483648) (ha : 0 ≤ a ∧ a < σ.1 0) (hs : ¬ (0 ≤ s ∧ s < σ.1 (2 + a.toNat))) : CX l yX3_bestThumb cX3_bestThumb 4 (some .int) 7 121 1 6 g [.ref (gd g (0)), vI (a), vI (s)] σ pF (pxE "java/lang/IndexOutOfBoundsException" (σ)) := by
  refine CX_of (own := RX3) hl (by decide) rfl (Nat.le_of_ble_eq_true rfl) (fun mc hC _ hR hE => ?_)
  refine j_lv (lv2 := [(0, .ref (gd g (0))), (1, vI (a)), (2, vI (s))]) rfl ?_
  have hI1 := hI.1
  have ha5 : a.toNat < 5 := by have := hI.1; omega
  have hna := hI.2.2.2.1 a.toNat ha5
  refine j_aload_n hC dX3_bestThumb_0 0 rfl ?_
  refine j_iload_n hC dX3_bestThumb_1 1 rfl ?_
  refine j_callV1 (ar := 1) hC hR (c_X3_bookOf (hlJ hC) g σ hI a (by omega)) [] rfl 0 rfl rfl rfl (by decide) (by decide +kernel) rfl wd182 wd184 wp13 wd1 wd185 (by decide) (Nat.le_of_ble_eq_true rfl) dX3_bestThumb_2 ?_
  refine j_astore_n hC dX3_bestThumb_5 [(3, .ref (gd g (4 + a.toNat))), (0, .ref (gd g (0))), (1, vI (a)), (2, vI (s))] (by decide) rfl ?_
  refine j_aload_n hC dX3_bestThumb_6 0 rfl ?_
  refine j_iload_n hC dX3_bestThumb_7 3 rfl ?_
  refine j_callST (ar := 2) hC hR (x_X3_checkSign (hlJ hC) g σ hI ha5 s (by omega) (by omega)) [] rfl (by decide) (by decide +kernel) rfl wd368 wd369 wd1 wd370 (by decide) (Nat.le_of_ble_eq_true rfl) dX3_bestThumb_8 hE
set_option maxHeartbeats 4000000 in
set_option maxRecDepth 100000 in
theorem c_X3_forget {l : Launch} (hl : l.stackTraces = false) (g : GG) (σ : Sg) (hI : IC σ) (a s : Int) (ha : 0 ≤ a ∧ a < σ.1 0) (hs : 0 ≤ s ∧ s < σ.1 (2 + a.toNat)) : CN l yX3_forget cX3_forget 4 (some .int) 7 111 0 0 g [.ref (gd g (0)), vI (a), vI (s)] σ (pt (some (vI (σ.2 (6 + a.toNat) s))) (rmB σ a.toNat s)) := by
  refine CN_of (own := RX3) hl (by decide) rfl (Nat.le_of_ble_eq_true rfl) (fun mc hC _ hR => ?_)
  refine j_lv (lv2 := [(0, .ref (gd g (0))), (1, vI (a)), (2, vI (s))]) rfl ?_
  have hI1 := hI.1
  have ha5 : a.toNat < 5 := by have := hI.1; omega
  have hna := hI.2.2.2.1 a.toNat ha5
  have hk := hI.2.2.2.2.1 a.toNat ha5 s (by omega) (by omega)
  refine j_aload_n hC dX3_forget_0 0 rfl ?_
  refine j_iload_n hC dX3_forget_1 1 rfl ?_
  refine j_callV1 (ar := 1) hC hR (c_X3_bookOf (hlJ hC) g σ hI a (by omega)) [] rfl 0 rfl rfl rfl (by decide) (by decide +kernel) rfl wd182 wd184 wp13 wd1 wd185 (by decide) (Nat.le_of_ble_eq_true rfl) dX3_forget_2 ?_
  refine j_astore_n hC dX3_forget_5 [(3, .ref (gd g (4 + a.toNat))), (0, .ref (gd g (0))), (1, vI (a)), (2, vI (s))] (by decide) rfl ?_
  refine j_aload_n hC dX3_forget_6 0 rfl ?_
  refine j_iload_n hC dX3_forget_7 3 rfl ?_
  refine j_callS0 (ar := 2) hC hR (c_X3_checkSign (hlJ hC) g σ hI ha5 s (by omega)) [] rfl (by decide) (by decide +kernel) rfl wd368 wd369 wd1 wd370 (by decide) (Nat.le_of_ble_eq_true rfl) dX3_forget_8 ?_
  refine j_aload_n hC dX3_forget_11 0 rfl ?_
  refine j_iload_n hC dX3_forget_12 3 rfl ?_
  refine j_callVN1 (ar := 1) hC hR (c_X0_remove (hlJ hC) g σ hI ha5 s (by omega)) [] rfl (4 + a.toNat) (hw_bk g _ ha5) rfl rfl (by decide) (by decide +kernel) rfl wd372 wd374 wp23 wd3 wd375 (by decide) (Nat.le_of_ble_eq_true rfl) dX3_forget_13 ?_
  exact j_iret hC dX3_forget_16 ⟨rfl, rfl⟩
set_option maxHeartbeats 4000000 in
set_option maxRecDepth 100000 in
theorem x1_X3_forget {l : Launch} (hl : l.stackTraces = false) (g : GG) (σ : Sg) (hI : IC σ) (a s : Int) (hr : -2147483648 ≤ a ∧ a < 2147483648) (ha : ¬ (0 ≤ a ∧ a < σ.1 0)) : CX l yX3_forget cX3_forget 4 (some .int) 7 111 1 6 g [.ref (gd g (0)), vI (a), vI (s)] σ pF (pxE "java/lang/IndexOutOfBoundsException" (σ)) := by
  refine CX_of (own := RX3) hl (by decide) rfl (Nat.le_of_ble_eq_true rfl) (fun mc hC _ hR hE => ?_)
  refine j_lv (lv2 := [(0, .ref (gd g (0))), (1, vI (a)), (2, vI (s))]) rfl ?_
  have hI1 := hI.1
  refine j_aload_n hC dX3_forget_0 0 rfl ?_
  refine j_iload_n hC dX3_forget_1 1 rfl ?_
  refine j_callVT (ar := 1) hC hR (x_X3_bookOf (hlJ hC) g σ hI a (by omega) (by omega)) [] rfl 0 rfl rfl rfl (by decide) (by decide +kernel) rfl wd182 wd184 wp13 wd1 wd185 (by decide) (Nat.le_of_ble_eq_true rfl) dX3_forget_2 hE
set_option maxHeartbeats 4000000 in
set_option maxRecDepth 100000 in
theorem x2_X3_forget {l : Launch} (hl : l.stackTraces = false) (g : GG) (σ : Sg) (hI : IC σ) (a s : Int) (hr : -2147483648 ≤ s ∧ s < 2147483648) (ha : 0 ≤ a ∧ a < σ.1 0) (hs : ¬ (0 ≤ s ∧ s < σ.1 (2 + a.toNat))) : CX l yX3_forget cX3_forget 4 (some .int) 7 111 1 6 g [.ref (gd g (0)), vI (a), vI (s)] σ pF (pxE "java/lang/IndexOutOfBoundsException" (σ)) := by
  refine CX_of (own := RX3) hl (by decide) rfl (Nat.le_of_ble_eq_true rfl) (fun mc hC _ hR hE => ?_)
  refine j_lv (lv2 := [(0, .ref (gd g (0))), (1, vI (a)), (2, vI (s))]) rfl ?_
  have hI1 := hI.1
  have ha5 : a.toNat < 5 := by have := hI.1; omega
  have hna := hI.2.2.2.1 a.toNat ha5
  refine j_aload_n hC dX3_forget_0 0 rfl ?_
  refine j_iload_n hC dX3_forget_1 1 rfl ?_
  refine j_callV1 (ar := 1) hC hR (c_X3_bookOf (hlJ hC) g σ hI a (by omega)) [] rfl 0 rfl rfl rfl (by decide) (by decide +kernel) rfl wd182 wd184 wp13 wd1 wd185 (by decide) (Nat.le_of_ble_eq_true rfl) dX3_forget_2 ?_
  refine j_astore_n hC dX3_forget_5 [(3, .ref (gd g (4 + a.toNat))), (0, .ref (gd g (0))), (1, vI (a)), (2, vI (s))] (by decide) rfl ?_
  refine j_aload_n hC dX3_forget_6 0 rfl ?_
  refine j_iload_n hC dX3_forget_7 3 rfl ?_
  refine j_callST (ar := 2) hC hR (x_X3_checkSign (hlJ hC) g σ hI ha5 s (by omega) (by omega)) [] rfl (by decide) (by decide +kernel) rfl wd368 wd369 wd1 wd370 (by decide) (Nat.le_of_ble_eq_true rfl) dX3_forget_8 hE
set_option maxHeartbeats 4000000 in
set_option maxRecDepth 100000 in
theorem c_X3_signsOf {l : Launch} (hl : l.stackTraces = false) (g : GG) (σ : Sg) (hI : IC σ) (a : Int) (ha : 0 ≤ a ∧ a < σ.1 0) : CN l yX3_signsOf cX3_signsOf 2 (some .int) 7 111 0 0 g [.ref (gd g (0)), vI (a)] σ (pt (some (vI (σ.1 (2 + a.toNat)))) (σ)) := by
  refine CN_of (own := RX3) hl (by decide) rfl (Nat.le_of_ble_eq_true rfl) (fun mc hC _ hR => ?_)
  refine j_lv (lv2 := [(0, .ref (gd g (0))), (1, vI (a))]) rfl ?_
  have hI1 := hI.1
  have ha5 : a.toNat < 5 := by have := hI.1; omega
  have hna := hI.2.2.2.1 a.toNat ha5
  refine j_aload_n hC dX3_signsOf_0 0 rfl ?_
  refine j_iload_n hC dX3_signsOf_1 1 rfl ?_
  refine j_callV1 (ar := 1) hC hR (c_X3_bookOf (hlJ hC) g σ hI a (by omega)) [] rfl 0 rfl rfl rfl (by decide) (by decide +kernel) rfl wd182 wd184 wp13 wd1 wd185 (by decide) (Nat.le_of_ble_eq_true rfl) dX3_signsOf_2 ?_
  refine j_getN hC inX0 rfl (4 + a.toNat) (hw_bk g _ ha5) 3 (by decide) wd51 rfl dX3_signsOf_5 ?_
  exact j_iret hC dX3_signsOf_8 ⟨rfl, rfl⟩
set_option maxHeartbeats 4000000 in
set_option maxRecDepth 100000 in
theorem x1_X3_signsOf {l : Launch} (hl : l.stackTraces = false) (g : GG) (σ : Sg) (hI : IC σ) (a : Int) (hr : -2147483648 ≤ a ∧ a < 2147483648) (ha : ¬ (0 ≤ a ∧ a < σ.1 0)) : CX l yX3_signsOf cX3_signsOf 2 (some .int) 7 111 1 6 g [.ref (gd g (0)), vI (a)] σ pF (pxE "java/lang/IndexOutOfBoundsException" (σ)) := by
  refine CX_of (own := RX3) hl (by decide) rfl (Nat.le_of_ble_eq_true rfl) (fun mc hC _ hR hE => ?_)
  refine j_lv (lv2 := [(0, .ref (gd g (0))), (1, vI (a))]) rfl ?_
  have hI1 := hI.1
  refine j_aload_n hC dX3_signsOf_0 0 rfl ?_
  refine j_iload_n hC dX3_signsOf_1 1 rfl ?_
  refine j_callVT (ar := 1) hC hR (x_X3_bookOf (hlJ hC) g σ hI a (by omega) (by omega)) [] rfl 0 rfl rfl rfl (by decide) (by decide +kernel) rfl wd182 wd184 wp13 wd1 wd185 (by decide) (Nat.le_of_ble_eq_true rfl) dX3_signsOf_2 hE
set_option maxHeartbeats 4000000 in
set_option maxRecDepth 100000 in
theorem c_X3_alikePairs {l : Launch} (hl : l.stackTraces = false) (g : GG) (σ : Sg) (hI : IC σ) (a : Int) (ha : 0 ≤ a ∧ a < σ.1 0) : CN l yX3_alikePairs cX3_alikePairs 2 (some .int) 7 111 0 0 g [.ref (gd g (0)), vI (a)] σ (pt (some (vI (caB σ a.toNat))) (σ)) := by
  refine CN_of (own := RX3) hl (by decide) rfl (Nat.le_of_ble_eq_true rfl) (fun mc hC _ hR => ?_)
  refine j_lv (lv2 := [(0, .ref (gd g (0))), (1, vI (a))]) rfl ?_
  have hI1 := hI.1
  have ha5 : a.toNat < 5 := by have := hI.1; omega
  have hna := hI.2.2.2.1 a.toNat ha5
  refine j_aload_n hC dX3_alikePairs_0 0 rfl ?_
  refine j_iload_n hC dX3_alikePairs_1 1 rfl ?_
  refine j_callV1 (ar := 1) hC hR (c_X3_bookOf (hlJ hC) g σ hI a (by omega)) [] rfl 0 rfl rfl rfl (by decide) (by decide +kernel) rfl wd182 wd184 wp13 wd1 wd185 (by decide) (Nat.le_of_ble_eq_true rfl) dX3_alikePairs_2 ?_
  refine j_callVN1 (ar := 0) hC hR (c_X0_countAlike (hlJ hC) g σ hI ha5  ) [] rfl (4 + a.toNat) (hw_bk g _ ha5) rfl rfl (by decide) (by decide +kernel) rfl wd98 wd100 wp0 wd3 wd101 (by decide) (Nat.le_of_ble_eq_true rfl) dX3_alikePairs_5 ?_
  exact j_iret hC dX3_alikePairs_8 ⟨rfl, rfl⟩
set_option maxHeartbeats 4000000 in
set_option maxRecDepth 100000 in
theorem x1_X3_alikePairs {l : Launch} (hl : l.stackTraces = false) (g : GG) (σ : Sg) (hI : IC σ) (a : Int) (hr : -2147483648 ≤ a ∧ a < 2147483648) (ha : ¬ (0 ≤ a ∧ a < σ.1 0)) : CX l yX3_alikePairs cX3_alikePairs 2 (some .int) 7 111 1 6 g [.ref (gd g (0)), vI (a)] σ pF (pxE "java/lang/IndexOutOfBoundsException" (σ)) := by
  refine CX_of (own := RX3) hl (by decide) rfl (Nat.le_of_ble_eq_true rfl) (fun mc hC _ hR hE => ?_)
  refine j_lv (lv2 := [(0, .ref (gd g (0))), (1, vI (a))]) rfl ?_
  have hI1 := hI.1
  refine j_aload_n hC dX3_alikePairs_0 0 rfl ?_
  refine j_iload_n hC dX3_alikePairs_1 1 rfl ?_
  refine j_callVT (ar := 1) hC hR (x_X3_bookOf (hlJ hC) g σ hI a (by omega) (by omega)) [] rfl 0 rfl rfl rfl (by decide) (by decide +kernel) rfl wd182 wd184 wp13 wd1 wd185 (by decide) (Nat.le_of_ble_eq_true rfl) dX3_alikePairs_2 hE
set_option maxHeartbeats 4000000 in
set_option maxRecDepth 100000 in
theorem c_X3_thumbPairs {l : Launch} (hl : l.stackTraces = false) (g : GG) (σ : Sg) (hI : IC σ) (a : Int) (ha : 0 ≤ a ∧ a < σ.1 0) : CN l yX3_thumbPairs cX3_thumbPairs 2 (some .int) 7 111 0 0 g [.ref (gd g (0)), vI (a)] σ (pt (some (vI (ctB σ a.toNat))) (σ)) := by
  refine CN_of (own := RX3) hl (by decide) rfl (Nat.le_of_ble_eq_true rfl) (fun mc hC _ hR => ?_)
  refine j_lv (lv2 := [(0, .ref (gd g (0))), (1, vI (a))]) rfl ?_
  have hI1 := hI.1
  have ha5 : a.toNat < 5 := by have := hI.1; omega
  have hna := hI.2.2.2.1 a.toNat ha5
  refine j_aload_n hC dX3_thumbPairs_0 0 rfl ?_
  refine j_iload_n hC dX3_thumbPairs_1 1 rfl ?_
  refine j_callV1 (ar := 1) hC hR (c_X3_bookOf (hlJ hC) g σ hI a (by omega)) [] rfl 0 rfl rfl rfl (by decide) (by decide +kernel) rfl wd182 wd184 wp13 wd1 wd185 (by decide) (Nat.le_of_ble_eq_true rfl) dX3_thumbPairs_2 ?_
  refine j_callVN1 (ar := 0) hC hR (c_X0_countThumbApart (hlJ hC) g σ hI ha5  ) [] rfl (4 + a.toNat) (hw_bk g _ ha5) rfl rfl (by decide) (by decide +kernel) rfl wd116 wd118 wp3 wd3 wd119 (by decide) (Nat.le_of_ble_eq_true rfl) dX3_thumbPairs_5 ?_
  exact j_iret hC dX3_thumbPairs_8 ⟨rfl, rfl⟩
set_option maxHeartbeats 4000000 in
set_option maxRecDepth 100000 in
theorem x1_X3_thumbPairs {l : Launch} (hl : l.stackTraces = false) (g : GG) (σ : Sg) (hI : IC σ) (a : Int) (hr : -2147483648 ≤ a ∧ a < 2147483648) (ha : ¬ (0 ≤ a ∧ a < σ.1 0)) : CX l yX3_thumbPairs cX3_thumbPairs 2 (some .int) 7 111 1 6 g [.ref (gd g (0)), vI (a)] σ pF (pxE "java/lang/IndexOutOfBoundsException" (σ)) := by
  refine CX_of (own := RX3) hl (by decide) rfl (Nat.le_of_ble_eq_true rfl) (fun mc hC _ hR hE => ?_)
  refine j_lv (lv2 := [(0, .ref (gd g (0))), (1, vI (a))]) rfl ?_
  have hI1 := hI.1
  refine j_aload_n hC dX3_thumbPairs_0 0 rfl ?_
  refine j_iload_n hC dX3_thumbPairs_1 1 rfl ?_
  refine j_callVT (ar := 1) hC hR (x_X3_bookOf (hlJ hC) g σ hI a (by omega) (by omega)) [] rfl 0 rfl rfl rfl (by decide) (by decide +kernel) rfl wd182 wd184 wp13 wd1 wd185 (by decide) (Nat.le_of_ble_eq_true rfl) dX3_thumbPairs_2 hE
set_option maxHeartbeats 4000000 in
set_option maxRecDepth 100000 in
theorem c_X3_closest {l : Launch} (hl : l.stackTraces = false) (g : GG) (σ : Sg) (hI : IC σ) (a : Int) (ha : 0 ≤ a ∧ a < σ.1 0) : CN l yX3_closest cX3_closest 2 (some .int) 7 117 0 0 g [.ref (gd g (0)), vI (a)] σ (pt (some (vI (faB σ a.toNat))) (σ)) := by
  refine CN_of (own := RX3) hl (by decide) rfl (Nat.le_of_ble_eq_true rfl) (fun mc hC _ hR => ?_)
  refine j_lv (lv2 := [(0, .ref (gd g (0))), (1, vI (a))]) rfl ?_
  have hI1 := hI.1
  have ha5 : a.toNat < 5 := by have := hI.1; omega
  have hna := hI.2.2.2.1 a.toNat ha5
  refine j_aload_n hC dX3_closest_0 0 rfl ?_
  refine j_iload_n hC dX3_closest_1 1 rfl ?_
  refine j_callV1 (ar := 1) hC hR (c_X3_bookOf (hlJ hC) g σ hI a (by omega)) [] rfl 0 rfl rfl rfl (by decide) (by decide +kernel) rfl wd182 wd184 wp13 wd1 wd185 (by decide) (Nat.le_of_ble_eq_true rfl) dX3_closest_2 ?_
  refine j_callVN1 (ar := 0) hC hR (c_X0_fewestApart (hlJ hC) g σ hI ha5  ) [] rfl (4 + a.toNat) (hw_bk g _ ha5) rfl rfl (by decide) (by decide +kernel) rfl wd147 wd149 wp6 wd3 wd150 (by decide) (Nat.le_of_ble_eq_true rfl) dX3_closest_5 ?_
  exact j_iret hC dX3_closest_8 ⟨rfl, rfl⟩
set_option maxHeartbeats 4000000 in
set_option maxRecDepth 100000 in
theorem x1_X3_closest {l : Launch} (hl : l.stackTraces = false) (g : GG) (σ : Sg) (hI : IC σ) (a : Int) (hr : -2147483648 ≤ a ∧ a < 2147483648) (ha : ¬ (0 ≤ a ∧ a < σ.1 0)) : CX l yX3_closest cX3_closest 2 (some .int) 7 117 1 6 g [.ref (gd g (0)), vI (a)] σ pF (pxE "java/lang/IndexOutOfBoundsException" (σ)) := by
  refine CX_of (own := RX3) hl (by decide) rfl (Nat.le_of_ble_eq_true rfl) (fun mc hC _ hR hE => ?_)
  refine j_lv (lv2 := [(0, .ref (gd g (0))), (1, vI (a))]) rfl ?_
  have hI1 := hI.1
  refine j_aload_n hC dX3_closest_0 0 rfl ?_
  refine j_iload_n hC dX3_closest_1 1 rfl ?_
  refine j_callVT (ar := 1) hC hR (x_X3_bookOf (hlJ hC) g σ hI a (by omega) (by omega)) [] rfl 0 rfl rfl rfl (by decide) (by decide +kernel) rfl wd182 wd184 wp13 wd1 wd185 (by decide) (Nat.le_of_ble_eq_true rfl) dX3_closest_2 hE
set_option maxHeartbeats 4000000 in
set_option maxRecDepth 100000 in
theorem c_X3_mostMistaken {l : Launch} (hl : l.stackTraces = false) (g : GG) (σ : Sg) (hI : IC σ) (a : Int) (ha : 0 ≤ a ∧ a < σ.1 0) : CN l yX3_mostMistaken cX3_mostMistaken 2 (some .int) 7 118 0 0 g [.ref (gd g (0)), vI (a)] σ (pt (some (vI (snB σ a.toNat))) (σ)) := by
  refine CN_of (own := RX3) hl (by decide) rfl (Nat.le_of_ble_eq_true rfl) (fun mc hC _ hR => ?_)
  refine j_lv (lv2 := [(0, .ref (gd g (0))), (1, vI (a))]) rfl ?_
  have hI1 := hI.1
  have ha5 : a.toNat < 5 := by have := hI.1; omega
  have hna := hI.2.2.2.1 a.toNat ha5
  refine j_aload_n hC dX3_mostMistaken_0 0 rfl ?_
  refine j_iload_n hC dX3_mostMistaken_1 1 rfl ?_
  refine j_callV1 (ar := 1) hC hR (c_X3_bookOf (hlJ hC) g σ hI a (by omega)) [] rfl 0 rfl rfl rfl (by decide) (by decide +kernel) rfl wd182 wd184 wp13 wd1 wd185 (by decide) (Nat.le_of_ble_eq_true rfl) dX3_mostMistaken_2 ?_
  refine j_callVN1 (ar := 0) hC hR (c_X0_signNearMost (hlJ hC) g σ hI ha5  ) [] rfl (4 + a.toNat) (hw_bk g _ ha5) rfl rfl (by decide) (by decide +kernel) rfl wd158 wd160 wp8 wd3 wd161 (by decide) (Nat.le_of_ble_eq_true rfl) dX3_mostMistaken_5 ?_
  exact j_iret hC dX3_mostMistaken_8 ⟨rfl, rfl⟩
set_option maxHeartbeats 4000000 in
set_option maxRecDepth 100000 in
theorem x1_X3_mostMistaken {l : Launch} (hl : l.stackTraces = false) (g : GG) (σ : Sg) (hI : IC σ) (a : Int) (hr : -2147483648 ≤ a ∧ a < 2147483648) (ha : ¬ (0 ≤ a ∧ a < σ.1 0)) : CX l yX3_mostMistaken cX3_mostMistaken 2 (some .int) 7 118 1 6 g [.ref (gd g (0)), vI (a)] σ pF (pxE "java/lang/IndexOutOfBoundsException" (σ)) := by
  refine CX_of (own := RX3) hl (by decide) rfl (Nat.le_of_ble_eq_true rfl) (fun mc hC _ hR hE => ?_)
  refine j_lv (lv2 := [(0, .ref (gd g (0))), (1, vI (a))]) rfl ?_
  have hI1 := hI.1
  refine j_aload_n hC dX3_mostMistaken_0 0 rfl ?_
  refine j_iload_n hC dX3_mostMistaken_1 1 rfl ?_
  refine j_callVT (ar := 1) hC hR (x_X3_bookOf (hlJ hC) g σ hI a (by omega) (by omega)) [] rfl 0 rfl rfl rfl (by decide) (by decide +kernel) rfl wd182 wd184 wp13 wd1 wd185 (by decide) (Nat.le_of_ble_eq_true rfl) dX3_mostMistaken_2 hE
set_option maxHeartbeats 4000000 in
set_option maxRecDepth 100000 in
theorem c_X3_groups {l : Launch} (hl : l.stackTraces = false) (g : GG) (σ : Sg) (hI : IC σ)  : CN l yX3_groups cX3_groups 1 (some .int) 0 0 0 0 g [.ref (gd g (0))] σ (pt (some (vI (σ.1 1))) (σ)) := by
  refine CN_of (own := RX3) hl (by decide) rfl (Nat.le_of_ble_eq_true rfl) (fun mc hC _ hR => ?_)
  refine j_lv (lv2 := [(0, .ref (gd g (0)))]) rfl ?_
  refine j_aload_n hC dX3_groups_0 0 rfl ?_
  refine j_get hC inX3 rfl 0 rfl 0 (by decide) wd61 rfl dX3_groups_1 ?_
  refine j_getN hC inX2 rfl 1 rfl 1 (by decide) wd31 rfl dX3_groups_4 ?_
  exact j_iret hC dX3_groups_7 ⟨rfl, rfl⟩
set_option maxHeartbeats 4000000 in
set_option maxRecDepth 100000 in
theorem c_X3_lodges {l : Launch} (hl : l.stackTraces = false) (g : GG) (σ : Sg) (hI : IC σ)  : CN l yX3_lodges cX3_lodges 1 (some .int) 0 0 0 0 g [.ref (gd g (0))] σ (pt (some (vI (σ.1 0))) (σ)) := by
  refine CN_of (own := RX3) hl (by decide) rfl (Nat.le_of_ble_eq_true rfl) (fun mc hC _ hR => ?_)
  refine j_lv (lv2 := [(0, .ref (gd g (0)))]) rfl ?_
  refine j_aload_n hC dX3_lodges_0 0 rfl ?_
  refine j_get hC inX3 rfl 0 rfl 3 (by decide) wd64 rfl dX3_lodges_1 ?_
  exact j_iret hC dX3_lodges_4 ⟨rfl, rfl⟩
set_option maxHeartbeats 4000000 in
set_option maxRecDepth 100000 in
theorem c_X3_addLodge {l : Launch} (hl : l.stackTraces = false) (g : GG) (σ : Sg) (hI : IC σ) (hn : σ.1 0 < 4) : CN l yX3_addLodge cX3_addLodge 1 (some .int) 6 90 0 0 g [.ref (gd g (0))] σ (pt (some (vI (σ.1 0))) (sF σ 0 (σ.1 0 + 1))) := by
  refine CN_of (own := RX3) hl (by decide) rfl (Nat.le_of_ble_eq_true rfl) (fun mc hC _ hR => ?_)
  refine j_lv (lv2 := [(0, .ref (gd g (0)))]) rfl ?_
  have hI1 := hI.1
  refine j_aload_n hC dX3_addLodge_0 0 rfl ?_
  refine j_get hC inX3 rfl 0 rfl 3 (by decide) wd64 rfl dX3_addLodge_1 ?_
  refine j_iconst hC dX3_addLodge_4 ?_
  refine j_icmp_lt (tgt := 18) hC dX3_addLodge_5 (by decide) (by omega) (fun _ => ?_) (fun h => absurd h (by omega))
  refine j_aload_n hC dX3_addLodge_18 0 rfl ?_
  refine j_dup hC dX3_addLodge_19 rfl ?_
  refine j_get hC inX3 rfl 0 rfl 3 (by decide) wd64 rfl dX3_addLodge_20 ?_
  refine j_iconst hC dX3_addLodge_23 ?_
  refine j_iadd hC dX3_addLodge_24 ?_
  refine j_put (τ := sF (σ) 0 (((σ).1 0) + 1)) hC inX3 tyX3_ok nmX3 rfl 0 rfl 3 (by decide) wd64 rfl rfl (Nat.le_of_ble_eq_true rfl) rfl dX3_addLodge_25 ?_
  refine j_aload_n hC dX3_addLodge_28 0 rfl ?_
  refine j_get hC inX3 rfl 0 rfl 3 (by decide) wd64 rfl dX3_addLodge_29 ?_
  refine j_iconst hC dX3_addLodge_32 ?_
  refine j_isub hC dX3_addLodge_33 ?_
  exact j_iret hC dX3_addLodge_34 ⟨congrArg (fun z => some (vI z)) (show σ.1 0 + 1 - 1 = σ.1 0 by omega), rfl⟩
set_option maxHeartbeats 4000000 in
set_option maxRecDepth 100000 in
theorem x1_X3_addLodge {l : Launch} (hl : l.stackTraces = false) (g : GG) (σ : Sg) (hI : IC σ) (hn : ¬ σ.1 0 < 4) : CX l yX3_addLodge cX3_addLodge 1 (some .int) 6 90 1 6 g [.ref (gd g (0))] σ pF (pxE "java/lang/IllegalStateException" (σ)) := by
  refine CX_of (own := RX3) hl (by decide) rfl (Nat.le_of_ble_eq_true rfl) (fun mc hC _ hR hE => ?_)
  refine j_lv (lv2 := [(0, .ref (gd g (0)))]) rfl ?_
  have hI1 := hI.1
  refine j_aload_n hC dX3_addLodge_0 0 rfl ?_
  refine j_get hC inX3 rfl 0 rfl 3 (by decide) wd64 rfl dX3_addLodge_1 ?_
  refine j_iconst hC dX3_addLodge_4 ?_
  refine j_icmp_lt (tgt := 18) hC dX3_addLodge_5 (by decide) (by omega) (fun h => absurd h (by omega)) (fun _ => ?_)
  exact j_throw (E := "java/lang/IllegalStateException") (text := "there are 4 lodges") hC hR hE (by decide) wd309 wd8 thI1 thI2 thI3 (by decide) dX3_addLodge_8 dX3_addLodge_11 dX3_addLodge_12 dX3_addLodge_14 dX3_addLodge_17 ⟨by decide, Nat.le_of_ble_eq_true rfl, by decide, by decide⟩
set_option maxHeartbeats 4000000 in
set_option maxRecDepth 100000 in
theorem c_X3_areJoined {l : Launch} (hl : l.stackTraces = false) (g : GG) (σ : Sg) (hI : IC σ) (p q : Int) (hp : 0 ≤ p ∧ p < 9 ∧ 0 ≤ q ∧ q < 9) : CN l yX3_areJoined cX3_areJoined 3 (some .boolean) 7 110 0 0 g [.ref (gd g (0)), vI (p), vI (q)] σ (pt (some (vI (if σ.2 0 p = σ.2 0 q then 1 else 0))) (σ)) := by
  refine CN_of (own := RX3) hl (by decide) rfl (Nat.le_of_ble_eq_true rfl) (fun mc hC _ hR => ?_)
  refine j_lv (lv2 := [(0, .ref (gd g (0))), (1, vI (p)), (2, vI (q))]) rfl ?_
  refine j_iload_n hC dX3_areJoined_0 1 rfl ?_
  refine j_callS0 (ar := 1) hC hR (c_X3_checkPlace (hlJ hC) g σ p (by omega)) [] rfl (by decide) (by decide +kernel) rfl wd391 wd392 wd1 wd393 (by decide) (Nat.le_of_ble_eq_true rfl) dX3_areJoined_1 ?_
  refine j_iload_n hC dX3_areJoined_4 2 rfl ?_
  refine j_callS0 (ar := 1) hC hR (c_X3_checkPlace (hlJ hC) g σ q (by omega)) [] rfl (by decide) (by decide +kernel) rfl wd391 wd392 wd1 wd393 (by decide) (Nat.le_of_ble_eq_true rfl) dX3_areJoined_5 ?_
  refine j_aload_n hC dX3_areJoined_8 0 rfl ?_
  refine j_get hC inX3 rfl 0 rfl 0 (by decide) wd61 rfl dX3_areJoined_9 ?_
  refine j_iload_n hC dX3_areJoined_12 1 rfl ?_
  refine j_iload_n hC dX3_areJoined_13 2 rfl ?_
  refine j_callVN1 (ar := 2) hC hR (c_X2_sameGroup (hlJ hC) g σ hI p q (by omega)) [] rfl 1 rfl rfl rfl (by decide) (by decide +kernel) rfl wd414 wd114 wp2 wd2 wd115 (by decide) (Nat.le_of_ble_eq_true rfl) dX3_areJoined_14 ?_
  exact j_zret hC (by omega) dX3_areJoined_17 ⟨rfl, rfl⟩
set_option maxHeartbeats 4000000 in
set_option maxRecDepth 100000 in
theorem x1_X3_areJoined {l : Launch} (hl : l.stackTraces = false) (g : GG) (σ : Sg) (hI : IC σ) (p q : Int) (hr : -2147483648 ≤ p ∧ p < 2147483648) (hp : ¬ (0 ≤ p ∧ p < 9)) : CX l yX3_areJoined cX3_areJoined 3 (some .boolean) 7 110 1 6 g [.ref (gd g (0)), vI (p), vI (q)] σ pF (pxE "java/lang/IndexOutOfBoundsException" (σ)) := by
  refine CX_of (own := RX3) hl (by decide) rfl (Nat.le_of_ble_eq_true rfl) (fun mc hC _ hR hE => ?_)
  refine j_lv (lv2 := [(0, .ref (gd g (0))), (1, vI (p)), (2, vI (q))]) rfl ?_
  refine j_iload_n hC dX3_areJoined_0 1 rfl ?_
  refine j_callST (ar := 1) hC hR (x_X3_checkPlace (hlJ hC) g σ p (by omega) (by omega)) [] rfl (by decide) (by decide +kernel) rfl wd391 wd392 wd1 wd393 (by decide) (Nat.le_of_ble_eq_true rfl) dX3_areJoined_1 hE
set_option maxHeartbeats 4000000 in
set_option maxRecDepth 100000 in
theorem x2_X3_areJoined {l : Launch} (hl : l.stackTraces = false) (g : GG) (σ : Sg) (hI : IC σ) (p q : Int) (hr : -2147483648 ≤ q ∧ q < 2147483648) (hp : 0 ≤ p ∧ p < 9) (hq : ¬ (0 ≤ q ∧ q < 9)) : CX l yX3_areJoined cX3_areJoined 3 (some .boolean) 7 110 1 6 g [.ref (gd g (0)), vI (p), vI (q)] σ pF (pxE "java/lang/IndexOutOfBoundsException" (σ)) := by
  refine CX_of (own := RX3) hl (by decide) rfl (Nat.le_of_ble_eq_true rfl) (fun mc hC _ hR hE => ?_)
  refine j_lv (lv2 := [(0, .ref (gd g (0))), (1, vI (p)), (2, vI (q))]) rfl ?_
  refine j_iload_n hC dX3_areJoined_0 1 rfl ?_
  refine j_callS0 (ar := 1) hC hR (c_X3_checkPlace (hlJ hC) g σ p (by omega)) [] rfl (by decide) (by decide +kernel) rfl wd391 wd392 wd1 wd393 (by decide) (Nat.le_of_ble_eq_true rfl) dX3_areJoined_1 ?_
  refine j_iload_n hC dX3_areJoined_4 2 rfl ?_
  refine j_callST (ar := 1) hC hR (x_X3_checkPlace (hlJ hC) g σ q (by omega) (by omega)) [] rfl (by decide) (by decide +kernel) rfl wd391 wd392 wd1 wd393 (by decide) (Nat.le_of_ble_eq_true rfl) dX3_areJoined_5 hE
set_option maxHeartbeats 4000000 in
set_option maxRecDepth 100000 in
theorem c_X3_steps {l : Launch} (hl : l.stackTraces = false) (g : GG) (σ : Sg) (hI : IC σ) (p q : Int) (hp : 0 ≤ p ∧ p < 9 ∧ 0 ≤ q ∧ q < 9) : CN l yX3_steps cX3_steps 3 (some .int) 7 110 0 0 g [.ref (gd g (0)), vI (p), vI (q)] σ (pt (some (vI (stp (σ.2 0) p q))) (σ)) := by
  refine CN_of (own := RX3) hl (by decide) rfl (Nat.le_of_ble_eq_true rfl) (fun mc hC _ hR => ?_)
  refine j_lv (lv2 := [(0, .ref (gd g (0))), (1, vI (p)), (2, vI (q))]) rfl ?_
  refine j_iload_n hC dX3_steps_0 1 rfl ?_
  refine j_callS0 (ar := 1) hC hR (c_X3_checkPlace (hlJ hC) g σ p (by omega)) [] rfl (by decide) (by decide +kernel) rfl wd391 wd392 wd1 wd393 (by decide) (Nat.le_of_ble_eq_true rfl) dX3_steps_1 ?_
  refine j_iload_n hC dX3_steps_4 2 rfl ?_
  refine j_callS0 (ar := 1) hC hR (c_X3_checkPlace (hlJ hC) g σ q (by omega)) [] rfl (by decide) (by decide +kernel) rfl wd391 wd392 wd1 wd393 (by decide) (Nat.le_of_ble_eq_true rfl) dX3_steps_5 ?_
  refine j_aload_n hC dX3_steps_8 0 rfl ?_
  refine j_get hC inX3 rfl 0 rfl 0 (by decide) wd61 rfl dX3_steps_9 ?_
  refine j_iload_n hC dX3_steps_12 1 rfl ?_
  refine j_iload_n hC dX3_steps_13 2 rfl ?_
  refine j_callVN1 (ar := 2) hC hR (c_X2_stepsBetween (hlJ hC) g σ hI p q (by omega)) [] rfl 1 rfl rfl rfl (by decide) (by decide +kernel) rfl wd422 wd142 wp5 wd2 wd143 (by decide) (Nat.le_of_ble_eq_true rfl) dX3_steps_14 ?_
  exact j_iret hC dX3_steps_17 ⟨rfl, rfl⟩
set_option maxHeartbeats 4000000 in
set_option maxRecDepth 100000 in
theorem x1_X3_steps {l : Launch} (hl : l.stackTraces = false) (g : GG) (σ : Sg) (hI : IC σ) (p q : Int) (hr : -2147483648 ≤ p ∧ p < 2147483648) (hp : ¬ (0 ≤ p ∧ p < 9)) : CX l yX3_steps cX3_steps 3 (some .int) 7 110 1 6 g [.ref (gd g (0)), vI (p), vI (q)] σ pF (pxE "java/lang/IndexOutOfBoundsException" (σ)) := by
  refine CX_of (own := RX3) hl (by decide) rfl (Nat.le_of_ble_eq_true rfl) (fun mc hC _ hR hE => ?_)
  refine j_lv (lv2 := [(0, .ref (gd g (0))), (1, vI (p)), (2, vI (q))]) rfl ?_
  refine j_iload_n hC dX3_steps_0 1 rfl ?_
  refine j_callST (ar := 1) hC hR (x_X3_checkPlace (hlJ hC) g σ p (by omega) (by omega)) [] rfl (by decide) (by decide +kernel) rfl wd391 wd392 wd1 wd393 (by decide) (Nat.le_of_ble_eq_true rfl) dX3_steps_1 hE
set_option maxHeartbeats 4000000 in
set_option maxRecDepth 100000 in
theorem x2_X3_steps {l : Launch} (hl : l.stackTraces = false) (g : GG) (σ : Sg) (hI : IC σ) (p q : Int) (hr : -2147483648 ≤ q ∧ q < 2147483648) (hp : 0 ≤ p ∧ p < 9) (hq : ¬ (0 ≤ q ∧ q < 9)) : CX l yX3_steps cX3_steps 3 (some .int) 7 110 1 6 g [.ref (gd g (0)), vI (p), vI (q)] σ pF (pxE "java/lang/IndexOutOfBoundsException" (σ)) := by
  refine CX_of (own := RX3) hl (by decide) rfl (Nat.le_of_ble_eq_true rfl) (fun mc hC _ hR hE => ?_)
  refine j_lv (lv2 := [(0, .ref (gd g (0))), (1, vI (p)), (2, vI (q))]) rfl ?_
  refine j_iload_n hC dX3_steps_0 1 rfl ?_
  refine j_callS0 (ar := 1) hC hR (c_X3_checkPlace (hlJ hC) g σ p (by omega)) [] rfl (by decide) (by decide +kernel) rfl wd391 wd392 wd1 wd393 (by decide) (Nat.le_of_ble_eq_true rfl) dX3_steps_1 ?_
  refine j_iload_n hC dX3_steps_4 2 rfl ?_
  refine j_callST (ar := 1) hC hR (x_X3_checkPlace (hlJ hC) g σ q (by omega) (by omega)) [] rfl (by decide) (by decide +kernel) rfl wd391 wd392 wd1 wd393 (by decide) (Nat.le_of_ble_eq_true rfl) dX3_steps_5 hE
set_option maxHeartbeats 4000000 in
set_option maxRecDepth 100000 in
theorem c_X3_join {l : Launch} (hl : l.stackTraces = false) (g : GG) (σ : Sg) (hI : IC σ) (p q : Int) (hp : 0 ≤ p ∧ p < 9 ∧ 0 ≤ q ∧ q < 9) : CN l yX3_join cX3_join 3 (some .int) 7 110 0 0 g [.ref (gd g (0)), vI (p), vI (q)] σ (pt (some (vI ((unP σ p q).1 1))) (unP σ p q)) := by
  refine CN_of (own := RX3) hl (by decide) rfl (Nat.le_of_ble_eq_true rfl) (fun mc hC _ hR => ?_)
  refine j_lv (lv2 := [(0, .ref (gd g (0))), (1, vI (p)), (2, vI (q))]) rfl ?_
  refine j_iload_n hC dX3_join_0 1 rfl ?_
  refine j_callS0 (ar := 1) hC hR (c_X3_checkPlace (hlJ hC) g σ p (by omega)) [] rfl (by decide) (by decide +kernel) rfl wd391 wd392 wd1 wd393 (by decide) (Nat.le_of_ble_eq_true rfl) dX3_join_1 ?_
  refine j_iload_n hC dX3_join_4 2 rfl ?_
  refine j_callS0 (ar := 1) hC hR (c_X3_checkPlace (hlJ hC) g σ q (by omega)) [] rfl (by decide) (by decide +kernel) rfl wd391 wd392 wd1 wd393 (by decide) (Nat.le_of_ble_eq_true rfl) dX3_join_5 ?_
  refine j_aload_n hC dX3_join_8 0 rfl ?_
  refine j_get hC inX3 rfl 0 rfl 0 (by decide) wd61 rfl dX3_join_9 ?_
  refine j_iload_n hC dX3_join_12 1 rfl ?_
  refine j_iload_n hC dX3_join_13 2 rfl ?_
  refine j_callVN0 (ar := 2) hC hR (c_X2_unite (hlJ hC) g σ hI p q (by omega)) [] rfl 1 rfl rfl rfl (by decide) (by decide +kernel) rfl wd394 wd396 wp24 wd2 wd397 (by decide) (Nat.le_of_ble_eq_true rfl) dX3_join_14 ?_
  refine j_aload_n hC dX3_join_17 0 rfl ?_
  refine j_get hC inX3 rfl 0 rfl 0 (by decide) wd61 rfl dX3_join_18 ?_
  refine j_getN hC inX2 rfl 1 rfl 1 (by decide) wd31 rfl dX3_join_21 ?_
  exact j_iret hC dX3_join_24 ⟨rfl, rfl⟩
set_option maxHeartbeats 4000000 in
set_option maxRecDepth 100000 in
theorem x1_X3_join {l : Launch} (hl : l.stackTraces = false) (g : GG) (σ : Sg) (hI : IC σ) (p q : Int) (hr : -2147483648 ≤ p ∧ p < 2147483648) (hp : ¬ (0 ≤ p ∧ p < 9)) : CX l yX3_join cX3_join 3 (some .int) 7 110 1 6 g [.ref (gd g (0)), vI (p), vI (q)] σ pF (pxE "java/lang/IndexOutOfBoundsException" (σ)) := by
  refine CX_of (own := RX3) hl (by decide) rfl (Nat.le_of_ble_eq_true rfl) (fun mc hC _ hR hE => ?_)
  refine j_lv (lv2 := [(0, .ref (gd g (0))), (1, vI (p)), (2, vI (q))]) rfl ?_
  refine j_iload_n hC dX3_join_0 1 rfl ?_
  refine j_callST (ar := 1) hC hR (x_X3_checkPlace (hlJ hC) g σ p (by omega) (by omega)) [] rfl (by decide) (by decide +kernel) rfl wd391 wd392 wd1 wd393 (by decide) (Nat.le_of_ble_eq_true rfl) dX3_join_1 hE
set_option maxHeartbeats 4000000 in
set_option maxRecDepth 100000 in
theorem x2_X3_join {l : Launch} (hl : l.stackTraces = false) (g : GG) (σ : Sg) (hI : IC σ) (p q : Int) (hr : -2147483648 ≤ q ∧ q < 2147483648) (hp : 0 ≤ p ∧ p < 9) (hq : ¬ (0 ≤ q ∧ q < 9)) : CX l yX3_join cX3_join 3 (some .int) 7 110 1 6 g [.ref (gd g (0)), vI (p), vI (q)] σ pF (pxE "java/lang/IndexOutOfBoundsException" (σ)) := by
  refine CX_of (own := RX3) hl (by decide) rfl (Nat.le_of_ble_eq_true rfl) (fun mc hC _ hR hE => ?_)
  refine j_lv (lv2 := [(0, .ref (gd g (0))), (1, vI (p)), (2, vI (q))]) rfl ?_
  refine j_iload_n hC dX3_join_0 1 rfl ?_
  refine j_callS0 (ar := 1) hC hR (c_X3_checkPlace (hlJ hC) g σ p (by omega)) [] rfl (by decide) (by decide +kernel) rfl wd391 wd392 wd1 wd393 (by decide) (Nat.le_of_ble_eq_true rfl) dX3_join_1 ?_
  refine j_iload_n hC dX3_join_4 2 rfl ?_
  refine j_callST (ar := 1) hC hR (x_X3_checkPlace (hlJ hC) g σ q (by omega) (by omega)) [] rfl (by decide) (by decide +kernel) rfl wd391 wd392 wd1 wd393 (by decide) (Nat.le_of_ble_eq_true rfl) dX3_join_5 hE
set_option maxHeartbeats 4000000 in
set_option maxRecDepth 100000 in
theorem c_X3_signFor {l : Launch} (hl : l.stackTraces = false) (g : GG) (σ : Sg) (hI : IC σ) (a x : Int) (ha : 0 ≤ a ∧ a < σ.1 0) (hx : 0 ≤ x ∧ x < 30) : CN l yX3_signFor cX3_signFor 4 (some .int) 7 111 0 0 g [.ref (gd g (0)), vI (a), vI (x)] σ (pt (some (vI (findB σ a.toNat x))) (σ)) := by
  refine CN_of (own := RX3) hl (by decide) rfl (Nat.le_of_ble_eq_true rfl) (fun mc hC _ hR => ?_)
  refine j_lv (lv2 := [(0, .ref (gd g (0))), (1, vI (a)), (2, vI (x))]) rfl ?_
  have hI1 := hI.1
  have ha5 : a.toNat < 5 := by have := hI.1; omega
  have hna := hI.2.2.2.1 a.toNat ha5
  refine j_aload_n hC dX3_signFor_0 0 rfl ?_
  refine j_iload_n hC dX3_signFor_1 1 rfl ?_
  refine j_callV1 (ar := 1) hC hR (c_X3_bookOf (hlJ hC) g σ hI a (by omega)) [] rfl 0 rfl rfl rfl (by decide) (by decide +kernel) rfl wd182 wd184 wp13 wd1 wd185 (by decide) (Nat.le_of_ble_eq_true rfl) dX3_signFor_2 ?_
  refine j_astore_n hC dX3_signFor_5 [(3, .ref (gd g (4 + a.toNat))), (0, .ref (gd g (0))), (1, vI (a)), (2, vI (x))] (by decide) rfl ?_
  refine j_iload_n hC dX3_signFor_6 3 rfl ?_
  refine j_bipush hC dX3_signFor_7 (by decide) ?_
  refine j_callS1 (ar := 2) hC hR (c_X3_isBelow (hlJ hC) g σ x 30 (by omega)) [] rfl (by decide) (by decide +kernel) rfl wd186 wd187 wd1 wd188 (by decide) (Nat.le_of_ble_eq_true rfl) dX3_signFor_9 ?_
  refine j_ifb_ne (tgt := 25) hC dX3_signFor_12 (by decide) (fun _ => ?_) (fun h => (h (by omega)).elim)
  refine j_aload_n hC dX3_signFor_25 0 rfl ?_
  refine j_iload_n hC dX3_signFor_26 3 rfl ?_
  refine j_callVN1 (ar := 1) hC hR (c_X0_find (hlJ hC) g σ hI ha5 x (by omega)) [] rfl (4 + a.toNat) (hw_bk g _ ha5) rfl rfl (by decide) (by decide +kernel) rfl wd469 wd267 wp17 wd3 wd268 (by decide) (Nat.le_of_ble_eq_true rfl) dX3_signFor_27 ?_
  have hf27 := findB_rg hI ha5 x
  exact j_iret hC dX3_signFor_30 ⟨rfl, rfl⟩
set_option maxHeartbeats 4000000 in
set_option maxRecDepth 100000 in
theorem x1_X3_signFor {l : Launch} (hl : l.stackTraces = false) (g : GG) (σ : Sg) (hI : IC σ) (a x : Int) (hr : -2147483648 ≤ a ∧ a < 2147483648) (ha : ¬ (0 ≤ a ∧ a < σ.1 0)) : CX l yX3_signFor cX3_signFor 4 (some .int) 7 111 1 6 g [.ref (gd g (0)), vI (a), vI (x)] σ pF (pxE "java/lang/IndexOutOfBoundsException" (σ)) := by
  refine CX_of (own := RX3) hl (by decide) rfl (Nat.le_of_ble_eq_true rfl) (fun mc hC _ hR hE => ?_)
  refine j_lv (lv2 := [(0, .ref (gd g (0))), (1, vI (a)), (2, vI (x))]) rfl ?_
  have hI1 := hI.1
  refine j_aload_n hC dX3_signFor_0 0 rfl ?_
  refine j_iload_n hC dX3_signFor_1 1 rfl ?_
  refine j_callVT (ar := 1) hC hR (x_X3_bookOf (hlJ hC) g σ hI a (by omega) (by omega)) [] rfl 0 rfl rfl rfl (by decide) (by decide +kernel) rfl wd182 wd184 wp13 wd1 wd185 (by decide) (Nat.le_of_ble_eq_true rfl) dX3_signFor_2 hE
set_option maxHeartbeats 4000000 in
set_option maxRecDepth 100000 in
theorem x2_X3_signFor {l : Launch} (hl : l.stackTraces = false) (g : GG) (σ : Sg) (hI : IC σ) (a x : Int) (hr : -2147483648 ≤ x ∧ x < 2147483648) (ha : 0 ≤ a ∧ a < σ.1 0) (hx : ¬ (0 ≤ x ∧ x < 30)) : CX l yX3_signFor cX3_signFor 4 (some .int) 7 111 1 6 g [.ref (gd g (0)), vI (a), vI (x)] σ pF (pxE "java/lang/IndexOutOfBoundsException" (σ)) := by
  refine CX_of (own := RX3) hl (by decide) rfl (Nat.le_of_ble_eq_true rfl) (fun mc hC _ hR hE => ?_)
  refine j_lv (lv2 := [(0, .ref (gd g (0))), (1, vI (a)), (2, vI (x))]) rfl ?_
  have hI1 := hI.1
  have ha5 : a.toNat < 5 := by have := hI.1; omega
  have hna := hI.2.2.2.1 a.toNat ha5
  refine j_aload_n hC dX3_signFor_0 0 rfl ?_
  refine j_iload_n hC dX3_signFor_1 1 rfl ?_
  refine j_callV1 (ar := 1) hC hR (c_X3_bookOf (hlJ hC) g σ hI a (by omega)) [] rfl 0 rfl rfl rfl (by decide) (by decide +kernel) rfl wd182 wd184 wp13 wd1 wd185 (by decide) (Nat.le_of_ble_eq_true rfl) dX3_signFor_2 ?_
  refine j_astore_n hC dX3_signFor_5 [(3, .ref (gd g (4 + a.toNat))), (0, .ref (gd g (0))), (1, vI (a)), (2, vI (x))] (by decide) rfl ?_
  refine j_iload_n hC dX3_signFor_6 3 rfl ?_
  refine j_bipush hC dX3_signFor_7 (by decide) ?_
  refine j_callS1 (ar := 2) hC hR (c_X3_isBelow (hlJ hC) g σ x 30 (by omega)) [] rfl (by decide) (by decide +kernel) rfl wd186 wd187 wd1 wd188 (by decide) (Nat.le_of_ble_eq_true rfl) dX3_signFor_9 ?_
  refine j_ifb_ne (tgt := 25) hC dX3_signFor_12 (by decide) (fun h => absurd h (by omega)) (fun _ => ?_)
  exact j_throw (E := "java/lang/IndexOutOfBoundsException") (text := "meaning is not 0 to 29") hC hR hE (by decide) wd189 wd9 thX1 thX2 thX3 (by decide) dX3_signFor_15 dX3_signFor_18 dX3_signFor_19 dX3_signFor_21 dX3_signFor_24 ⟨by decide, Nat.le_of_ble_eq_true rfl, by decide, by decide⟩
set_option maxHeartbeats 4000000 in
set_option maxRecDepth 100000 in
theorem c_X3_apart {l : Launch} (hl : l.stackTraces = false) (g : GG) (σ : Sg) (hI : IC σ) (a s t : Int) (ha : 0 ≤ a ∧ a < σ.1 0) (hs : 0 ≤ s ∧ s < σ.1 (2 + a.toNat)) (ht : 0 ≤ t ∧ t < σ.1 (2 + a.toNat)) : CN l yX3_apart cX3_apart 5 (some .int) 7 111 0 0 g [.ref (gd g (0)), vI (a), vI (s), vI (t)] σ (pt (some (vI (dst (σ.2 0) (σ.2 (1 + a.toNat) s) (σ.2 (1 + a.toNat) t)))) (σ)) := by
  refine CN_of (own := RX3) hl (by decide) rfl (Nat.le_of_ble_eq_true rfl) (fun mc hC _ hR => ?_)
  refine j_lv (lv2 := [(0, .ref (gd g (0))), (1, vI (a)), (2, vI (s)), (3, vI (t))]) rfl ?_
  have hI1 := hI.1
  have ha5 : a.toNat < 5 := by have := hI.1; omega
  have hna := hI.2.2.2.1 a.toNat ha5
  have hk := hI.2.2.2.2.1 a.toNat ha5 s (by omega) (by omega)
  have hk2 := hI.2.2.2.2.1 a.toNat ha5 t (by omega) (by omega)
  refine j_aload_n hC dX3_apart_0 0 rfl ?_
  refine j_iload_n hC dX3_apart_1 1 rfl ?_
  refine j_callV1 (ar := 1) hC hR (c_X3_bookOf (hlJ hC) g σ hI a (by omega)) [] rfl 0 rfl rfl rfl (by decide) (by decide +kernel) rfl wd182 wd184 wp13 wd1 wd185 (by decide) (Nat.le_of_ble_eq_true rfl) dX3_apart_2 ?_
  refine j_astore hC dX3_apart_5 [(4, .ref (gd g (4 + a.toNat))), (0, .ref (gd g (0))), (1, vI (a)), (2, vI (s)), (3, vI (t))] (by decide) rfl ?_
  refine j_aload hC dX3_apart_7 0 rfl ?_
  refine j_iload_n hC dX3_apart_9 3 rfl ?_
  refine j_callS0 (ar := 2) hC hR (c_X3_checkSign (hlJ hC) g σ hI ha5 s (by omega)) [] rfl (by decide) (by decide +kernel) rfl wd368 wd369 wd1 wd370 (by decide) (Nat.le_of_ble_eq_true rfl) dX3_apart_10 ?_
  refine j_aload hC dX3_apart_13 0 rfl ?_
  refine j_iload_n hC dX3_apart_15 4 rfl ?_
  refine j_callS0 (ar := 2) hC hR (c_X3_checkSign (hlJ hC) g σ hI ha5 t (by omega)) [] rfl (by decide) (by decide +kernel) rfl wd368 wd369 wd1 wd370 (by decide) (Nat.le_of_ble_eq_true rfl) dX3_apart_16 ?_
  refine j_aload_n hC dX3_apart_19 1 rfl ?_
  refine j_get hC inX3 rfl 0 rfl 0 (by decide) wd61 rfl dX3_apart_20 ?_
  refine j_aload hC dX3_apart_23 0 rfl ?_
  refine j_getN hC inX0 rfl (4 + a.toNat) (hw_bk g _ ha5) 1 (by decide) wd47 rfl dX3_apart_25 ?_
  refine j_iload_n hC dX3_apart_28 3 rfl ?_
  refine j_iald hC (9 + a.toNat) (hw_lk g _ ha5) (by omega) dX3_apart_29 ?_
  refine j_aload hC dX3_apart_30 0 rfl ?_
  refine j_getN hC inX0 rfl (4 + a.toNat) (hw_bk g _ ha5) 1 (by decide) wd47 rfl dX3_apart_32 ?_
  refine j_iload_n hC dX3_apart_35 4 rfl ?_
  refine j_iald hC (9 + a.toNat) (hw_lk g _ ha5) (by omega) dX3_apart_36 ?_
  refine j_callVN1 (ar := 2) hC hR (c_X2_distance (hlJ hC) g σ hI ((σ).2 (1 + a.toNat) s) ((σ).2 (1 + a.toNat) t) (by omega)) [] rfl 1 rfl rfl rfl (by decide) (by decide +kernel) rfl wd477 wd125 wp4 wd2 wd126 (by decide) (Nat.le_of_ble_eq_true rfl) dX3_apart_37 ?_
  exact j_iret hC dX3_apart_40 ⟨rfl, rfl⟩
set_option maxHeartbeats 4000000 in
set_option maxRecDepth 100000 in
theorem x1_X3_apart {l : Launch} (hl : l.stackTraces = false) (g : GG) (σ : Sg) (hI : IC σ) (a s t : Int) (hr : -2147483648 ≤ a ∧ a < 2147483648) (ha : ¬ (0 ≤ a ∧ a < σ.1 0)) : CX l yX3_apart cX3_apart 5 (some .int) 7 111 1 6 g [.ref (gd g (0)), vI (a), vI (s), vI (t)] σ pF (pxE "java/lang/IndexOutOfBoundsException" (σ)) := by
  refine CX_of (own := RX3) hl (by decide) rfl (Nat.le_of_ble_eq_true rfl) (fun mc hC _ hR hE => ?_)
  refine j_lv (lv2 := [(0, .ref (gd g (0))), (1, vI (a)), (2, vI (s)), (3, vI (t))]) rfl ?_
  have hI1 := hI.1
  refine j_aload_n hC dX3_apart_0 0 rfl ?_
  refine j_iload_n hC dX3_apart_1 1 rfl ?_
  refine j_callVT (ar := 1) hC hR (x_X3_bookOf (hlJ hC) g σ hI a (by omega) (by omega)) [] rfl 0 rfl rfl rfl (by decide) (by decide +kernel) rfl wd182 wd184 wp13 wd1 wd185 (by decide) (Nat.le_of_ble_eq_true rfl) dX3_apart_2 hE
set_option maxHeartbeats 4000000 in
set_option maxRecDepth 100000 in
theorem x2_X3_apart {l : Launch} (hl : l.stackTraces = false) (g : GG) (σ : Sg) (hI : IC σ) (a s t : Int) (hr : -2147483648 ≤ s ∧ s < 2147483648) (ha : 0 ≤ a ∧ a < σ.1 0) (hs : ¬ (0 ≤ s ∧ s < σ.1 (2 + a.toNat))) : CX l yX3_apart cX3_apart 5 (some .int) 7 111 1 6 g [.ref (gd g (0)), vI (a), vI (s), vI (t)] σ pF (pxE "java/lang/IndexOutOfBoundsException" (σ)) := by
  refine CX_of (own := RX3) hl (by decide) rfl (Nat.le_of_ble_eq_true rfl) (fun mc hC _ hR hE => ?_)
  refine j_lv (lv2 := [(0, .ref (gd g (0))), (1, vI (a)), (2, vI (s)), (3, vI (t))]) rfl ?_
  have hI1 := hI.1
  have ha5 : a.toNat < 5 := by have := hI.1; omega
  have hna := hI.2.2.2.1 a.toNat ha5
  refine j_aload_n hC dX3_apart_0 0 rfl ?_
  refine j_iload_n hC dX3_apart_1 1 rfl ?_
  refine j_callV1 (ar := 1) hC hR (c_X3_bookOf (hlJ hC) g σ hI a (by omega)) [] rfl 0 rfl rfl rfl (by decide) (by decide +kernel) rfl wd182 wd184 wp13 wd1 wd185 (by decide) (Nat.le_of_ble_eq_true rfl) dX3_apart_2 ?_
  refine j_astore hC dX3_apart_5 [(4, .ref (gd g (4 + a.toNat))), (0, .ref (gd g (0))), (1, vI (a)), (2, vI (s)), (3, vI (t))] (by decide) rfl ?_
  refine j_aload hC dX3_apart_7 0 rfl ?_
  refine j_iload_n hC dX3_apart_9 3 rfl ?_
  refine j_callST (ar := 2) hC hR (x_X3_checkSign (hlJ hC) g σ hI ha5 s (by omega) (by omega)) [] rfl (by decide) (by decide +kernel) rfl wd368 wd369 wd1 wd370 (by decide) (Nat.le_of_ble_eq_true rfl) dX3_apart_10 hE
set_option maxHeartbeats 4000000 in
set_option maxRecDepth 100000 in
theorem x3_X3_apart {l : Launch} (hl : l.stackTraces = false) (g : GG) (σ : Sg) (hI : IC σ) (a s t : Int) (hr : -2147483648 ≤ t ∧ t < 2147483648) (ha : 0 ≤ a ∧ a < σ.1 0) (hs : 0 ≤ s ∧ s < σ.1 (2 + a.toNat)) (ht : ¬ (0 ≤ t ∧ t < σ.1 (2 + a.toNat))) : CX l yX3_apart cX3_apart 5 (some .int) 7 111 1 6 g [.ref (gd g (0)), vI (a), vI (s), vI (t)] σ pF (pxE "java/lang/IndexOutOfBoundsException" (σ)) := by
  refine CX_of (own := RX3) hl (by decide) rfl (Nat.le_of_ble_eq_true rfl) (fun mc hC _ hR hE => ?_)
  refine j_lv (lv2 := [(0, .ref (gd g (0))), (1, vI (a)), (2, vI (s)), (3, vI (t))]) rfl ?_
  have hI1 := hI.1
  have ha5 : a.toNat < 5 := by have := hI.1; omega
  have hna := hI.2.2.2.1 a.toNat ha5
  refine j_aload_n hC dX3_apart_0 0 rfl ?_
  refine j_iload_n hC dX3_apart_1 1 rfl ?_
  refine j_callV1 (ar := 1) hC hR (c_X3_bookOf (hlJ hC) g σ hI a (by omega)) [] rfl 0 rfl rfl rfl (by decide) (by decide +kernel) rfl wd182 wd184 wp13 wd1 wd185 (by decide) (Nat.le_of_ble_eq_true rfl) dX3_apart_2 ?_
  refine j_astore hC dX3_apart_5 [(4, .ref (gd g (4 + a.toNat))), (0, .ref (gd g (0))), (1, vI (a)), (2, vI (s)), (3, vI (t))] (by decide) rfl ?_
  refine j_aload hC dX3_apart_7 0 rfl ?_
  refine j_iload_n hC dX3_apart_9 3 rfl ?_
  refine j_callS0 (ar := 2) hC hR (c_X3_checkSign (hlJ hC) g σ hI ha5 s (by omega)) [] rfl (by decide) (by decide +kernel) rfl wd368 wd369 wd1 wd370 (by decide) (Nat.le_of_ble_eq_true rfl) dX3_apart_10 ?_
  refine j_aload hC dX3_apart_13 0 rfl ?_
  refine j_iload_n hC dX3_apart_15 4 rfl ?_
  refine j_callST (ar := 2) hC hR (x_X3_checkSign (hlJ hC) g σ hI ha5 t (by omega) (by omega)) [] rfl (by decide) (by decide +kernel) rfl wd368 wd369 wd1 wd370 (by decide) (Nat.le_of_ble_eq_true rfl) dX3_apart_16 hE
set_option maxHeartbeats 4000000 in
set_option maxRecDepth 100000 in
theorem c_X3_understood {l : Launch} (hl : l.stackTraces = false) (g : GG) (σ : Sg) (hI : IC σ) (a c : Int) (ha : 0 ≤ a ∧ a < σ.1 0) (hc : 0 ≤ c ∧ c < σ.1 0) : CN l yX3_understood cX3_understood 4 (some .int) 7 119 0 0 g [.ref (gd g (0)), vI (a), vI (c)] σ (pt (some (vI (cuB σ c.toNat a.toNat))) (σ)) := by
  refine CN_of (own := RX3) hl (by decide) rfl (Nat.le_of_ble_eq_true rfl) (fun mc hC _ hR => ?_)
  refine j_lv (lv2 := [(0, .ref (gd g (0))), (1, vI (a)), (2, vI (c))]) rfl ?_
  have hI1 := hI.1
  have ha5 : a.toNat < 5 := by have := hI.1; omega
  have hna := hI.2.2.2.1 a.toNat ha5
  have hc5 : c.toNat < 5 := by have := hI.1; omega
  have hnc := hI.2.2.2.1 c.toNat hc5
  refine j_aload_n hC dX3_understood_0 0 rfl ?_
  refine j_iload_n hC dX3_understood_1 1 rfl ?_
  refine j_callV1 (ar := 1) hC hR (c_X3_bookOf (hlJ hC) g σ hI a (by omega)) [] rfl 0 rfl rfl rfl (by decide) (by decide +kernel) rfl wd182 wd184 wp13 wd1 wd185 (by decide) (Nat.le_of_ble_eq_true rfl) dX3_understood_2 ?_
  refine j_astore_n hC dX3_understood_5 [(3, .ref (gd g (4 + a.toNat))), (0, .ref (gd g (0))), (1, vI (a)), (2, vI (c))] (by decide) rfl ?_
  refine j_aload_n hC dX3_understood_6 1 rfl ?_
  refine j_iload_n hC dX3_understood_7 3 rfl ?_
  refine j_callV1 (ar := 1) hC hR (c_X3_bookOf (hlJ hC) g σ hI c (by omega)) [] rfl 0 rfl rfl rfl (by decide) (by decide +kernel) rfl wd182 wd184 wp13 wd1 wd185 (by decide) (Nat.le_of_ble_eq_true rfl) dX3_understood_8 ?_
  refine j_aload_n hC dX3_understood_11 0 rfl ?_
  refine j_callVN1 (ar := 1) hC hR (c_X0_countUnderstood (hlJ hC) g σ hI hc5 ha5  ) [] rfl (4 + c.toNat) (hw_bk g _ hc5) rfl rfl (by decide) (by decide +kernel) rfl wd166 wd168 wp10 wd3 wd169 (by decide) (Nat.le_of_ble_eq_true rfl) dX3_understood_12 ?_
  have hf12 : 0 ≤ cuB σ c.toNat a.toNat ∧ cuB σ c.toNat a.toNat ≤ 16 := cnt0_rg _ hI ha5
  exact j_iret hC dX3_understood_15 ⟨rfl, rfl⟩
set_option maxHeartbeats 4000000 in
set_option maxRecDepth 100000 in
theorem x1_X3_understood {l : Launch} (hl : l.stackTraces = false) (g : GG) (σ : Sg) (hI : IC σ) (a c : Int) (hr : -2147483648 ≤ a ∧ a < 2147483648) (ha : ¬ (0 ≤ a ∧ a < σ.1 0)) : CX l yX3_understood cX3_understood 4 (some .int) 7 119 1 6 g [.ref (gd g (0)), vI (a), vI (c)] σ pF (pxE "java/lang/IndexOutOfBoundsException" (σ)) := by
  refine CX_of (own := RX3) hl (by decide) rfl (Nat.le_of_ble_eq_true rfl) (fun mc hC _ hR hE => ?_)
  refine j_lv (lv2 := [(0, .ref (gd g (0))), (1, vI (a)), (2, vI (c))]) rfl ?_
  have hI1 := hI.1
  refine j_aload_n hC dX3_understood_0 0 rfl ?_
  refine j_iload_n hC dX3_understood_1 1 rfl ?_
  refine j_callVT (ar := 1) hC hR (x_X3_bookOf (hlJ hC) g σ hI a (by omega) (by omega)) [] rfl 0 rfl rfl rfl (by decide) (by decide +kernel) rfl wd182 wd184 wp13 wd1 wd185 (by decide) (Nat.le_of_ble_eq_true rfl) dX3_understood_2 hE
set_option maxHeartbeats 4000000 in
set_option maxRecDepth 100000 in
theorem x2_X3_understood {l : Launch} (hl : l.stackTraces = false) (g : GG) (σ : Sg) (hI : IC σ) (a c : Int) (hr : -2147483648 ≤ c ∧ c < 2147483648) (ha : 0 ≤ a ∧ a < σ.1 0) (hc : ¬ (0 ≤ c ∧ c < σ.1 0)) : CX l yX3_understood cX3_understood 4 (some .int) 7 119 1 6 g [.ref (gd g (0)), vI (a), vI (c)] σ pF (pxE "java/lang/IndexOutOfBoundsException" (σ)) := by
  refine CX_of (own := RX3) hl (by decide) rfl (Nat.le_of_ble_eq_true rfl) (fun mc hC _ hR hE => ?_)
  refine j_lv (lv2 := [(0, .ref (gd g (0))), (1, vI (a)), (2, vI (c))]) rfl ?_
  have hI1 := hI.1
  have ha5 : a.toNat < 5 := by have := hI.1; omega
  have hna := hI.2.2.2.1 a.toNat ha5
  refine j_aload_n hC dX3_understood_0 0 rfl ?_
  refine j_iload_n hC dX3_understood_1 1 rfl ?_
  refine j_callV1 (ar := 1) hC hR (c_X3_bookOf (hlJ hC) g σ hI a (by omega)) [] rfl 0 rfl rfl rfl (by decide) (by decide +kernel) rfl wd182 wd184 wp13 wd1 wd185 (by decide) (Nat.le_of_ble_eq_true rfl) dX3_understood_2 ?_
  refine j_astore_n hC dX3_understood_5 [(3, .ref (gd g (4 + a.toNat))), (0, .ref (gd g (0))), (1, vI (a)), (2, vI (c))] (by decide) rfl ?_
  refine j_aload_n hC dX3_understood_6 1 rfl ?_
  refine j_iload_n hC dX3_understood_7 3 rfl ?_
  refine j_callVT (ar := 1) hC hR (x_X3_bookOf (hlJ hC) g σ hI c (by omega) (by omega)) [] rfl 0 rfl rfl rfl (by decide) (by decide +kernel) rfl wd182 wd184 wp13 wd1 wd185 (by decide) (Nat.le_of_ble_eq_true rfl) dX3_understood_8 hE
set_option maxHeartbeats 4000000 in
set_option maxRecDepth 100000 in
theorem c_X3_misread {l : Launch} (hl : l.stackTraces = false) (g : GG) (σ : Sg) (hI : IC σ) (a c : Int) (ha : 0 ≤ a ∧ a < σ.1 0) (hc : 0 ≤ c ∧ c < σ.1 0) : CN l yX3_misread cX3_misread 4 (some .int) 7 120 0 0 g [.ref (gd g (0)), vI (a), vI (c)] σ (pt (some (vI (cmB σ c.toNat a.toNat))) (σ)) := by
  refine CN_of (own := RX3) hl (by decide) rfl (Nat.le_of_ble_eq_true rfl) (fun mc hC _ hR => ?_)
  refine j_lv (lv2 := [(0, .ref (gd g (0))), (1, vI (a)), (2, vI (c))]) rfl ?_
  have hI1 := hI.1
  have ha5 : a.toNat < 5 := by have := hI.1; omega
  have hna := hI.2.2.2.1 a.toNat ha5
  have hc5 : c.toNat < 5 := by have := hI.1; omega
  have hnc := hI.2.2.2.1 c.toNat hc5
  refine j_aload_n hC dX3_misread_0 0 rfl ?_
  refine j_iload_n hC dX3_misread_1 1 rfl ?_
  refine j_callV1 (ar := 1) hC hR (c_X3_bookOf (hlJ hC) g σ hI a (by omega)) [] rfl 0 rfl rfl rfl (by decide) (by decide +kernel) rfl wd182 wd184 wp13 wd1 wd185 (by decide) (Nat.le_of_ble_eq_true rfl) dX3_misread_2 ?_
  refine j_astore_n hC dX3_misread_5 [(3, .ref (gd g (4 + a.toNat))), (0, .ref (gd g (0))), (1, vI (a)), (2, vI (c))] (by decide) rfl ?_
  refine j_aload_n hC dX3_misread_6 1 rfl ?_
  refine j_iload_n hC dX3_misread_7 3 rfl ?_
  refine j_callV1 (ar := 1) hC hR (c_X3_bookOf (hlJ hC) g σ hI c (by omega)) [] rfl 0 rfl rfl rfl (by decide) (by decide +kernel) rfl wd182 wd184 wp13 wd1 wd185 (by decide) (Nat.le_of_ble_eq_true rfl) dX3_misread_8 ?_
  refine j_aload_n hC dX3_misread_11 0 rfl ?_
  refine j_callVN1 (ar := 1) hC hR (c_X0_countMisread (hlJ hC) g σ hI hc5 ha5  ) [] rfl (4 + c.toNat) (hw_bk g _ hc5) rfl rfl (by decide) (by decide +kernel) rfl wd174 wd176 wp12 wd3 wd177 (by decide) (Nat.le_of_ble_eq_true rfl) dX3_misread_12 ?_
  exact j_iret hC dX3_misread_15 ⟨rfl, rfl⟩
set_option maxHeartbeats 4000000 in
set_option maxRecDepth 100000 in
theorem x1_X3_misread {l : Launch} (hl : l.stackTraces = false) (g : GG) (σ : Sg) (hI : IC σ) (a c : Int) (hr : -2147483648 ≤ a ∧ a < 2147483648) (ha : ¬ (0 ≤ a ∧ a < σ.1 0)) : CX l yX3_misread cX3_misread 4 (some .int) 7 120 1 6 g [.ref (gd g (0)), vI (a), vI (c)] σ pF (pxE "java/lang/IndexOutOfBoundsException" (σ)) := by
  refine CX_of (own := RX3) hl (by decide) rfl (Nat.le_of_ble_eq_true rfl) (fun mc hC _ hR hE => ?_)
  refine j_lv (lv2 := [(0, .ref (gd g (0))), (1, vI (a)), (2, vI (c))]) rfl ?_
  have hI1 := hI.1
  refine j_aload_n hC dX3_misread_0 0 rfl ?_
  refine j_iload_n hC dX3_misread_1 1 rfl ?_
  refine j_callVT (ar := 1) hC hR (x_X3_bookOf (hlJ hC) g σ hI a (by omega) (by omega)) [] rfl 0 rfl rfl rfl (by decide) (by decide +kernel) rfl wd182 wd184 wp13 wd1 wd185 (by decide) (Nat.le_of_ble_eq_true rfl) dX3_misread_2 hE
set_option maxHeartbeats 4000000 in
set_option maxRecDepth 100000 in
theorem x2_X3_misread {l : Launch} (hl : l.stackTraces = false) (g : GG) (σ : Sg) (hI : IC σ) (a c : Int) (hr : -2147483648 ≤ c ∧ c < 2147483648) (ha : 0 ≤ a ∧ a < σ.1 0) (hc : ¬ (0 ≤ c ∧ c < σ.1 0)) : CX l yX3_misread cX3_misread 4 (some .int) 7 120 1 6 g [.ref (gd g (0)), vI (a), vI (c)] σ pF (pxE "java/lang/IndexOutOfBoundsException" (σ)) := by
  refine CX_of (own := RX3) hl (by decide) rfl (Nat.le_of_ble_eq_true rfl) (fun mc hC _ hR hE => ?_)
  refine j_lv (lv2 := [(0, .ref (gd g (0))), (1, vI (a)), (2, vI (c))]) rfl ?_
  have hI1 := hI.1
  have ha5 : a.toNat < 5 := by have := hI.1; omega
  have hna := hI.2.2.2.1 a.toNat ha5
  refine j_aload_n hC dX3_misread_0 0 rfl ?_
  refine j_iload_n hC dX3_misread_1 1 rfl ?_
  refine j_callV1 (ar := 1) hC hR (c_X3_bookOf (hlJ hC) g σ hI a (by omega)) [] rfl 0 rfl rfl rfl (by decide) (by decide +kernel) rfl wd182 wd184 wp13 wd1 wd185 (by decide) (Nat.le_of_ble_eq_true rfl) dX3_misread_2 ?_
  refine j_astore_n hC dX3_misread_5 [(3, .ref (gd g (4 + a.toNat))), (0, .ref (gd g (0))), (1, vI (a)), (2, vI (c))] (by decide) rfl ?_
  refine j_aload_n hC dX3_misread_6 1 rfl ?_
  refine j_iload_n hC dX3_misread_7 3 rfl ?_
  refine j_callVT (ar := 1) hC hR (x_X3_bookOf (hlJ hC) g σ hI c (by omega) (by omega)) [] rfl 0 rfl rfl rfl (by decide) (by decide +kernel) rfl wd182 wd184 wp13 wd1 wd185 (by decide) (Nat.le_of_ble_eq_true rfl) dX3_misread_8 hE
set_option maxHeartbeats 4000000 in
set_option maxRecDepth 100000 in
theorem c_X3_common {l : Launch} (hl : l.stackTraces = false) (g : GG) (σ : Sg) (hI : IC σ) (a c : Int) (ha : 0 ≤ a ∧ a < σ.1 0) (hc : 0 ≤ c ∧ c < σ.1 0) : CN l yX3_common cX3_common 4 (some .int) 7 121 0 0 g [.ref (gd g (0)), vI (a), vI (c)] σ (pt (some (vI (ccB σ c.toNat a.toNat))) (σ)) := by
  refine CN_of (own := RX3) hl (by decide) rfl (Nat.le_of_ble_eq_true rfl) (fun mc hC _ hR => ?_)
  refine j_lv (lv2 := [(0, .ref (gd g (0))), (1, vI (a)), (2, vI (c))]) rfl ?_
  have hI1 := hI.1
  have ha5 : a.toNat < 5 := by have := hI.1; omega
  have hna := hI.2.2.2.1 a.toNat ha5
  have hc5 : c.toNat < 5 := by have := hI.1; omega
  have hnc := hI.2.2.2.1 c.toNat hc5
  refine j_aload_n hC dX3_common_0 0 rfl ?_
  refine j_iload_n hC dX3_common_1 1 rfl ?_
  refine j_callV1 (ar := 1) hC hR (c_X3_bookOf (hlJ hC) g σ hI a (by omega)) [] rfl 0 rfl rfl rfl (by decide) (by decide +kernel) rfl wd182 wd184 wp13 wd1 wd185 (by decide) (Nat.le_of_ble_eq_true rfl) dX3_common_2 ?_
  refine j_astore_n hC dX3_common_5 [(3, .ref (gd g (4 + a.toNat))), (0, .ref (gd g (0))), (1, vI (a)), (2, vI (c))] (by decide) rfl ?_
  refine j_aload_n hC dX3_common_6 1 rfl ?_
  refine j_iload_n hC dX3_common_7 3 rfl ?_
  refine j_callV1 (ar := 1) hC hR (c_X3_bookOf (hlJ hC) g σ hI c (by omega)) [] rfl 0 rfl rfl rfl (by decide) (by decide +kernel) rfl wd182 wd184 wp13 wd1 wd185 (by decide) (Nat.le_of_ble_eq_true rfl) dX3_common_8 ?_
  refine j_aload_n hC dX3_common_11 0 rfl ?_
  refine j_callVN1 (ar := 1) hC hR (c_X0_countCommon (hlJ hC) g σ hI hc5 ha5  ) [] rfl (4 + c.toNat) (hw_bk g _ hc5) rfl rfl (by decide) (by decide +kernel) rfl wd542 wd544 wp26 wd3 wd545 (by decide) (Nat.le_of_ble_eq_true rfl) dX3_common_12 ?_
  exact j_iret hC dX3_common_15 ⟨rfl, rfl⟩
set_option maxHeartbeats 4000000 in
set_option maxRecDepth 100000 in
theorem x1_X3_common {l : Launch} (hl : l.stackTraces = false) (g : GG) (σ : Sg) (hI : IC σ) (a c : Int) (hr : -2147483648 ≤ a ∧ a < 2147483648) (ha : ¬ (0 ≤ a ∧ a < σ.1 0)) : CX l yX3_common cX3_common 4 (some .int) 7 121 1 6 g [.ref (gd g (0)), vI (a), vI (c)] σ pF (pxE "java/lang/IndexOutOfBoundsException" (σ)) := by
  refine CX_of (own := RX3) hl (by decide) rfl (Nat.le_of_ble_eq_true rfl) (fun mc hC _ hR hE => ?_)
  refine j_lv (lv2 := [(0, .ref (gd g (0))), (1, vI (a)), (2, vI (c))]) rfl ?_
  have hI1 := hI.1
  refine j_aload_n hC dX3_common_0 0 rfl ?_
  refine j_iload_n hC dX3_common_1 1 rfl ?_
  refine j_callVT (ar := 1) hC hR (x_X3_bookOf (hlJ hC) g σ hI a (by omega) (by omega)) [] rfl 0 rfl rfl rfl (by decide) (by decide +kernel) rfl wd182 wd184 wp13 wd1 wd185 (by decide) (Nat.le_of_ble_eq_true rfl) dX3_common_2 hE
set_option maxHeartbeats 4000000 in
set_option maxRecDepth 100000 in
theorem x2_X3_common {l : Launch} (hl : l.stackTraces = false) (g : GG) (σ : Sg) (hI : IC σ) (a c : Int) (hr : -2147483648 ≤ c ∧ c < 2147483648) (ha : 0 ≤ a ∧ a < σ.1 0) (hc : ¬ (0 ≤ c ∧ c < σ.1 0)) : CX l yX3_common cX3_common 4 (some .int) 7 121 1 6 g [.ref (gd g (0)), vI (a), vI (c)] σ pF (pxE "java/lang/IndexOutOfBoundsException" (σ)) := by
  refine CX_of (own := RX3) hl (by decide) rfl (Nat.le_of_ble_eq_true rfl) (fun mc hC _ hR hE => ?_)
  refine j_lv (lv2 := [(0, .ref (gd g (0))), (1, vI (a)), (2, vI (c))]) rfl ?_
  have hI1 := hI.1
  have ha5 : a.toNat < 5 := by have := hI.1; omega
  have hna := hI.2.2.2.1 a.toNat ha5
  refine j_aload_n hC dX3_common_0 0 rfl ?_
  refine j_iload_n hC dX3_common_1 1 rfl ?_
  refine j_callV1 (ar := 1) hC hR (c_X3_bookOf (hlJ hC) g σ hI a (by omega)) [] rfl 0 rfl rfl rfl (by decide) (by decide +kernel) rfl wd182 wd184 wp13 wd1 wd185 (by decide) (Nat.le_of_ble_eq_true rfl) dX3_common_2 ?_
  refine j_astore_n hC dX3_common_5 [(3, .ref (gd g (4 + a.toNat))), (0, .ref (gd g (0))), (1, vI (a)), (2, vI (c))] (by decide) rfl ?_
  refine j_aload_n hC dX3_common_6 1 rfl ?_
  refine j_iload_n hC dX3_common_7 3 rfl ?_
  refine j_callVT (ar := 1) hC hR (x_X3_bookOf (hlJ hC) g σ hI c (by omega) (by omega)) [] rfl 0 rfl rfl rfl (by decide) (by decide +kernel) rfl wd182 wd184 wp13 wd1 wd185 (by decide) (Nat.le_of_ble_eq_true rfl) dX3_common_8 hE
set_option maxHeartbeats 4000000 in
set_option maxRecDepth 100000 in
theorem c_X3_read {l : Launch} (hl : l.stackTraces = false) (g : GG) (σ : Sg) (hI : IC σ) (a s c : Int) (ha : 0 ≤ a ∧ a < σ.1 0) (hs : 0 ≤ s ∧ s < σ.1 (2 + a.toNat)) (hc : 0 ≤ c ∧ c < σ.1 0) : CN l yX3_read cX3_read 5 (some .int) 8 134 0 0 g [.ref (gd g (0)), vI (a), vI (s), vI (c)] σ (pt (some (vI (mrB σ c.toNat (σ.2 (1 + a.toNat) s)))) (σ)) := by
  refine CN_of (own := RX3) hl (by decide) rfl (Nat.le_of_ble_eq_true rfl) (fun mc hC _ hR => ?_)
  refine j_lv (lv2 := [(0, .ref (gd g (0))), (1, vI (a)), (2, vI (s)), (3, vI (c))]) rfl ?_
  have hI1 := hI.1
  have ha5 : a.toNat < 5 := by have := hI.1; omega
  have hna := hI.2.2.2.1 a.toNat ha5
  have hc5 : c.toNat < 5 := by have := hI.1; omega
  have hnc := hI.2.2.2.1 c.toNat hc5
  have hk := hI.2.2.2.2.1 a.toNat ha5 s (by omega) (by omega)
  refine j_aload_n hC dX3_read_0 0 rfl ?_
  refine j_iload_n hC dX3_read_1 3 rfl ?_
  refine j_callV1 (ar := 1) hC hR (c_X3_bookOf (hlJ hC) g σ hI c (by omega)) [] rfl 0 rfl rfl rfl (by decide) (by decide +kernel) rfl wd182 wd184 wp13 wd1 wd185 (by decide) (Nat.le_of_ble_eq_true rfl) dX3_read_2 ?_
  refine j_astore hC dX3_read_5 [(4, .ref (gd g (4 + c.toNat))), (0, .ref (gd g (0))), (1, vI (a)), (2, vI (s)), (3, vI (c))] (by decide) rfl ?_
  refine j_aload hC dX3_read_7 0 rfl ?_
  refine j_aload_n hC dX3_read_9 1 rfl ?_
  refine j_iload_n hC dX3_read_10 2 rfl ?_
  refine j_iload_n hC dX3_read_11 3 rfl ?_
  refine j_callV1 (ar := 2) hC hR (c_X3_lookOf (hlJ hC) g σ hI a s (by omega) (by omega)) [.ref (gd g (4 + c.toNat))] rfl 0 rfl rfl rfl (by decide) (by decide +kernel) rfl wd437 wd439 wp25 wd1 wd440 (by decide) (Nat.le_of_ble_eq_true rfl) dX3_read_12 ?_
  refine j_callVN1 (ar := 1) hC hR (c_X0_meaningRead (hlJ hC) g σ hI hc5 (σ.2 (1 + a.toNat) s) (by omega)) [] rfl (4 + c.toNat) (hw_bk g _ hc5) rfl rfl (by decide) (by decide +kernel) rfl wd513 wd172 wp11 wd3 wd173 (by decide) (Nat.le_of_ble_eq_true rfl) dX3_read_15 ?_
  have hf15 := mrB_rg hI hc5 (σ.2 (1 + a.toNat) s)
  exact j_iret hC dX3_read_18 ⟨rfl, rfl⟩
set_option maxHeartbeats 4000000 in
set_option maxRecDepth 100000 in
theorem x1_X3_read {l : Launch} (hl : l.stackTraces = false) (g : GG) (σ : Sg) (hI : IC σ) (a s c : Int) (hr : -2147483648 ≤ c ∧ c < 2147483648) (hc : ¬ (0 ≤ c ∧ c < σ.1 0)) : CX l yX3_read cX3_read 5 (some .int) 8 134 1 6 g [.ref (gd g (0)), vI (a), vI (s), vI (c)] σ pF (pxE "java/lang/IndexOutOfBoundsException" (σ)) := by
  refine CX_of (own := RX3) hl (by decide) rfl (Nat.le_of_ble_eq_true rfl) (fun mc hC _ hR hE => ?_)
  refine j_lv (lv2 := [(0, .ref (gd g (0))), (1, vI (a)), (2, vI (s)), (3, vI (c))]) rfl ?_
  have hI1 := hI.1
  refine j_aload_n hC dX3_read_0 0 rfl ?_
  refine j_iload_n hC dX3_read_1 3 rfl ?_
  refine j_callVT (ar := 1) hC hR (x_X3_bookOf (hlJ hC) g σ hI c (by omega) (by omega)) [] rfl 0 rfl rfl rfl (by decide) (by decide +kernel) rfl wd182 wd184 wp13 wd1 wd185 (by decide) (Nat.le_of_ble_eq_true rfl) dX3_read_2 hE
set_option maxHeartbeats 4000000 in
set_option maxRecDepth 100000 in
theorem x2_X3_read {l : Launch} (hl : l.stackTraces = false) (g : GG) (σ : Sg) (hI : IC σ) (a s c : Int) (hr : -2147483648 ≤ a ∧ a < 2147483648) (hc : 0 ≤ c ∧ c < σ.1 0) (ha : ¬ (0 ≤ a ∧ a < σ.1 0)) : CX l yX3_read cX3_read 5 (some .int) 8 134 1 6 g [.ref (gd g (0)), vI (a), vI (s), vI (c)] σ pF (pxE "java/lang/IndexOutOfBoundsException" (σ)) := by
  refine CX_of (own := RX3) hl (by decide) rfl (Nat.le_of_ble_eq_true rfl) (fun mc hC _ hR hE => ?_)
  refine j_lv (lv2 := [(0, .ref (gd g (0))), (1, vI (a)), (2, vI (s)), (3, vI (c))]) rfl ?_
  have hI1 := hI.1
  have hc5 : c.toNat < 5 := by have := hI.1; omega
  have hnc := hI.2.2.2.1 c.toNat hc5
  refine j_aload_n hC dX3_read_0 0 rfl ?_
  refine j_iload_n hC dX3_read_1 3 rfl ?_
  refine j_callV1 (ar := 1) hC hR (c_X3_bookOf (hlJ hC) g σ hI c (by omega)) [] rfl 0 rfl rfl rfl (by decide) (by decide +kernel) rfl wd182 wd184 wp13 wd1 wd185 (by decide) (Nat.le_of_ble_eq_true rfl) dX3_read_2 ?_
  refine j_astore hC dX3_read_5 [(4, .ref (gd g (4 + c.toNat))), (0, .ref (gd g (0))), (1, vI (a)), (2, vI (s)), (3, vI (c))] (by decide) rfl ?_
  refine j_aload hC dX3_read_7 0 rfl ?_
  refine j_aload_n hC dX3_read_9 1 rfl ?_
  refine j_iload_n hC dX3_read_10 2 rfl ?_
  refine j_iload_n hC dX3_read_11 3 rfl ?_
  refine j_callVT (ar := 2) hC hR (x1_X3_lookOf (hlJ hC) g σ hI a s (by omega) (by omega)) [.ref (gd g (4 + c.toNat))] rfl 0 rfl rfl rfl (by decide) (by decide +kernel) rfl wd437 wd439 wp25 wd1 wd440 (by decide) (Nat.le_of_ble_eq_true rfl) dX3_read_12 hE
set_option maxHeartbeats 4000000 in
set_option maxRecDepth 100000 in
theorem x3_X3_read {l : Launch} (hl : l.stackTraces = false) (g : GG) (σ : Sg) (hI : IC σ) (a s c : Int) (hr : -2147483648 ≤ s ∧ s < 2147483648) (hc : 0 ≤ c ∧ c < σ.1 0) (ha : 0 ≤ a ∧ a < σ.1 0) (hs : ¬ (0 ≤ s ∧ s < σ.1 (2 + a.toNat))) : CX l yX3_read cX3_read 5 (some .int) 8 134 1 6 g [.ref (gd g (0)), vI (a), vI (s), vI (c)] σ pF (pxE "java/lang/IndexOutOfBoundsException" (σ)) := by
  refine CX_of (own := RX3) hl (by decide) rfl (Nat.le_of_ble_eq_true rfl) (fun mc hC _ hR hE => ?_)
  refine j_lv (lv2 := [(0, .ref (gd g (0))), (1, vI (a)), (2, vI (s)), (3, vI (c))]) rfl ?_
  have hI1 := hI.1
  have ha5 : a.toNat < 5 := by have := hI.1; omega
  have hna := hI.2.2.2.1 a.toNat ha5
  have hc5 : c.toNat < 5 := by have := hI.1; omega
  have hnc := hI.2.2.2.1 c.toNat hc5
  refine j_aload_n hC dX3_read_0 0 rfl ?_
  refine j_iload_n hC dX3_read_1 3 rfl ?_
  refine j_callV1 (ar := 1) hC hR (c_X3_bookOf (hlJ hC) g σ hI c (by omega)) [] rfl 0 rfl rfl rfl (by decide) (by decide +kernel) rfl wd182 wd184 wp13 wd1 wd185 (by decide) (Nat.le_of_ble_eq_true rfl) dX3_read_2 ?_
  refine j_astore hC dX3_read_5 [(4, .ref (gd g (4 + c.toNat))), (0, .ref (gd g (0))), (1, vI (a)), (2, vI (s)), (3, vI (c))] (by decide) rfl ?_
  refine j_aload hC dX3_read_7 0 rfl ?_
  refine j_aload_n hC dX3_read_9 1 rfl ?_
  refine j_iload_n hC dX3_read_10 2 rfl ?_
  refine j_iload_n hC dX3_read_11 3 rfl ?_
  refine j_callVT (ar := 2) hC hR (x2_X3_lookOf (hlJ hC) g σ hI a s (by omega) (by omega) (by omega)) [.ref (gd g (4 + c.toNat))] rfl 0 rfl rfl rfl (by decide) (by decide +kernel) rfl wd437 wd439 wp25 wd1 wd440 (by decide) (Nat.le_of_ble_eq_true rfl) dX3_read_12 hE
set_option maxHeartbeats 4000000 in
set_option maxRecDepth 100000 in
theorem c_X3_readShown {l : Launch} (hl : l.stackTraces = false) (g : GG) (σ : Sg) (hI : IC σ) (sh th pl mv a : Int) (hp : 0 ≤ sh ∧ sh < 16 ∧ 0 ≤ th ∧ th < 4 ∧ 0 ≤ pl ∧ pl < 9 ∧ 0 ≤ mv ∧ mv < 4) (ha : 0 ≤ a ∧ a < σ.1 0) : CN l yX3_readShown cX3_readShown 7 (some .int) 7 113 0 0 g [.ref (gd g (0)), vI (sh), vI (th), vI (pl), vI (mv), vI (a)] σ (pt (some (vI (mrB σ a.toNat (mkL sh th pl mv)))) (σ)) := by
  refine CN_of (own := RX3) hl (by decide) rfl (Nat.le_of_ble_eq_true rfl) (fun mc hC _ hR => ?_)
  refine j_lv (lv2 := [(0, .ref (gd g (0))), (1, vI (sh)), (2, vI (th)), (3, vI (pl)), (4, vI (mv)), (5, vI (a))]) rfl ?_
  have hI1 := hI.1
  have ha5 : a.toNat < 5 := by have := hI.1; omega
  have hna := hI.2.2.2.1 a.toNat ha5
  have hmk : 0 ≤ mkL sh th pl mv ∧ mkL sh th pl mv < 2304 := by unfold mkL; omega
  refine j_aload_n hC dX3_readShown_0 0 rfl ?_
  refine j_iload hC dX3_readShown_1 5 rfl ?_
  refine j_callV1 (ar := 1) hC hR (c_X3_bookOf (hlJ hC) g σ hI a (by omega)) [] rfl 0 rfl rfl rfl (by decide) (by decide +kernel) rfl wd182 wd184 wp13 wd1 wd185 (by decide) (Nat.le_of_ble_eq_true rfl) dX3_readShown_3 ?_
  refine j_astore hC dX3_readShown_6 [(6, .ref (gd g (4 + a.toNat))), (0, .ref (gd g (0))), (1, vI (sh)), (2, vI (th)), (3, vI (pl)), (4, vI (mv)), (5, vI (a))] (by decide) rfl ?_
  refine j_iload_n hC dX3_readShown_8 2 rfl ?_
  refine j_iload_n hC dX3_readShown_9 3 rfl ?_
  refine j_iload_n hC dX3_readShown_10 4 rfl ?_
  refine j_iload hC dX3_readShown_11 5 rfl ?_
  refine j_callS0 (ar := 4) hC hR (c_X3_checkLook (hlJ hC) g σ sh th pl mv (by omega)) [] rfl (by decide) (by decide +kernel) rfl wd334 wd335 wd1 wd336 (by decide) (Nat.le_of_ble_eq_true rfl) dX3_readShown_13 ?_
  refine j_aload hC dX3_readShown_16 0 rfl ?_
  refine j_iload_n hC dX3_readShown_18 2 rfl ?_
  refine j_iload_n hC dX3_readShown_19 3 rfl ?_
  refine j_iload_n hC dX3_readShown_20 4 rfl ?_
  refine j_iload hC dX3_readShown_21 5 rfl ?_
  refine j_callSN1 (ar := 4) hC hR (c_X1_of (hlJ hC) g σ sh th pl mv (by omega)) [.ref (gd g (4 + a.toNat))] rfl (by decide) (by decide +kernel) rfl wd358 wd359 wd11 wd360 (by decide) (Nat.le_of_ble_eq_true rfl) dX3_readShown_23 ?_
  refine j_callVN1 (ar := 1) hC hR (c_X0_meaningRead (hlJ hC) g σ hI ha5 (mkL sh th pl mv) (by omega)) [] rfl (4 + a.toNat) (hw_bk g _ ha5) rfl rfl (by decide) (by decide +kernel) rfl wd513 wd172 wp11 wd3 wd173 (by decide) (Nat.le_of_ble_eq_true rfl) dX3_readShown_26 ?_
  have hf26 := mrB_rg hI ha5 (mkL sh th pl mv)
  exact j_iret hC dX3_readShown_29 ⟨rfl, rfl⟩
set_option maxHeartbeats 4000000 in
set_option maxRecDepth 100000 in
theorem x1_X3_readShown {l : Launch} (hl : l.stackTraces = false) (g : GG) (σ : Sg) (hI : IC σ) (sh th pl mv a : Int) (hr : -2147483648 ≤ a ∧ a < 2147483648) (ha : ¬ (0 ≤ a ∧ a < σ.1 0)) : CX l yX3_readShown cX3_readShown 7 (some .int) 7 113 1 6 g [.ref (gd g (0)), vI (sh), vI (th), vI (pl), vI (mv), vI (a)] σ pF (pxE "java/lang/IndexOutOfBoundsException" (σ)) := by
  refine CX_of (own := RX3) hl (by decide) rfl (Nat.le_of_ble_eq_true rfl) (fun mc hC _ hR hE => ?_)
  refine j_lv (lv2 := [(0, .ref (gd g (0))), (1, vI (sh)), (2, vI (th)), (3, vI (pl)), (4, vI (mv)), (5, vI (a))]) rfl ?_
  have hI1 := hI.1
  refine j_aload_n hC dX3_readShown_0 0 rfl ?_
  refine j_iload hC dX3_readShown_1 5 rfl ?_
  refine j_callVT (ar := 1) hC hR (x_X3_bookOf (hlJ hC) g σ hI a (by omega) (by omega)) [] rfl 0 rfl rfl rfl (by decide) (by decide +kernel) rfl wd182 wd184 wp13 wd1 wd185 (by decide) (Nat.le_of_ble_eq_true rfl) dX3_readShown_3 hE
set_option maxHeartbeats 4000000 in
set_option maxRecDepth 100000 in
theorem x2_X3_readShown {l : Launch} (hl : l.stackTraces = false) (g : GG) (σ : Sg) (hI : IC σ) (sh th pl mv a : Int) (hr : -2147483648 ≤ sh ∧ sh < 2147483648 ∧ -2147483648 ≤ th ∧ th < 2147483648 ∧ -2147483648 ≤ pl ∧ pl < 2147483648 ∧ -2147483648 ≤ mv ∧ mv < 2147483648) (ha : 0 ≤ a ∧ a < σ.1 0) (hp : ¬ (0 ≤ sh ∧ sh < 16 ∧ 0 ≤ th ∧ th < 4 ∧ 0 ≤ pl ∧ pl < 9 ∧ 0 ≤ mv ∧ mv < 4)) : CX l yX3_readShown cX3_readShown 7 (some .int) 7 113 1 6 g [.ref (gd g (0)), vI (sh), vI (th), vI (pl), vI (mv), vI (a)] σ pF (pxE "java/lang/IllegalArgumentException" (σ)) := by
  refine CX_of (own := RX3) hl (by decide) rfl (Nat.le_of_ble_eq_true rfl) (fun mc hC _ hR hE => ?_)
  refine j_lv (lv2 := [(0, .ref (gd g (0))), (1, vI (sh)), (2, vI (th)), (3, vI (pl)), (4, vI (mv)), (5, vI (a))]) rfl ?_
  have hI1 := hI.1
  have ha5 : a.toNat < 5 := by have := hI.1; omega
  have hna := hI.2.2.2.1 a.toNat ha5
  refine j_aload_n hC dX3_readShown_0 0 rfl ?_
  refine j_iload hC dX3_readShown_1 5 rfl ?_
  refine j_callV1 (ar := 1) hC hR (c_X3_bookOf (hlJ hC) g σ hI a (by omega)) [] rfl 0 rfl rfl rfl (by decide) (by decide +kernel) rfl wd182 wd184 wp13 wd1 wd185 (by decide) (Nat.le_of_ble_eq_true rfl) dX3_readShown_3 ?_
  refine j_astore hC dX3_readShown_6 [(6, .ref (gd g (4 + a.toNat))), (0, .ref (gd g (0))), (1, vI (sh)), (2, vI (th)), (3, vI (pl)), (4, vI (mv)), (5, vI (a))] (by decide) rfl ?_
  refine j_iload_n hC dX3_readShown_8 2 rfl ?_
  refine j_iload_n hC dX3_readShown_9 3 rfl ?_
  refine j_iload_n hC dX3_readShown_10 4 rfl ?_
  refine j_iload hC dX3_readShown_11 5 rfl ?_
  refine j_callST (ar := 4) hC hR (x_X3_checkLook (hlJ hC) g σ sh th pl mv (by omega) (by omega)) [] rfl (by decide) (by decide +kernel) rfl wd334 wd335 wd1 wd336 (by decide) (Nat.le_of_ble_eq_true rfl) dX3_readShown_13 hE
set_option maxHeartbeats 4000000 in
set_option maxRecDepth 100000 in
theorem c_X3_setThumb {l : Launch} (hl : l.stackTraces = false) (g : GG) (σ : Sg) (hI : IC σ) (a s t : Int) (ha : 0 ≤ a ∧ a < σ.1 0) (hs : 0 ≤ s ∧ s < σ.1 (2 + a.toNat)) (ht : 0 ≤ t ∧ t < 4) : CN l yX3_setThumb cX3_setThumb 6 (some .int) 7 111 0 0 g [.ref (gd g (0)), vI (a), vI (s), vI (t)] σ (pt (some (vI (σ.2 (1 + a.toNat) s / 16 % 4))) (sG σ (1 + a.toNat) s (wth (σ.2 (1 + a.toNat) s) t))) := by
  refine CN_of (own := RX3) hl (by decide) rfl (Nat.le_of_ble_eq_true rfl) (fun mc hC _ hR => ?_)
  refine j_lv (lv2 := [(0, .ref (gd g (0))), (1, vI (a)), (2, vI (s)), (3, vI (t))]) rfl ?_
  have hI1 := hI.1
  have ha5 : a.toNat < 5 := by have := hI.1; omega
  have hna := hI.2.2.2.1 a.toNat ha5
  have hk := hI.2.2.2.2.1 a.toNat ha5 s (by omega) (by omega)
  refine j_aload_n hC dX3_setThumb_0 0 rfl ?_
  refine j_iload_n hC dX3_setThumb_1 1 rfl ?_
  refine j_callV1 (ar := 1) hC hR (c_X3_bookOf (hlJ hC) g σ hI a (by omega)) [] rfl 0 rfl rfl rfl (by decide) (by decide +kernel) rfl wd182 wd184 wp13 wd1 wd185 (by decide) (Nat.le_of_ble_eq_true rfl) dX3_setThumb_2 ?_
  refine j_astore hC dX3_setThumb_5 [(4, .ref (gd g (4 + a.toNat))), (0, .ref (gd g (0))), (1, vI (a)), (2, vI (s)), (3, vI (t))] (by decide) rfl ?_
  refine j_aload hC dX3_setThumb_7 0 rfl ?_
  refine j_iload_n hC dX3_setThumb_9 3 rfl ?_
  refine j_callS0 (ar := 2) hC hR (c_X3_checkSign (hlJ hC) g σ hI ha5 s (by omega)) [] rfl (by decide) (by decide +kernel) rfl wd368 wd369 wd1 wd370 (by decide) (Nat.le_of_ble_eq_true rfl) dX3_setThumb_10 ?_
  refine j_iload_n hC dX3_setThumb_13 4 rfl ?_
  refine j_iconst hC dX3_setThumb_14 ?_
  refine j_callS1 (ar := 2) hC hR (c_X3_isBelow (hlJ hC) g σ t 4 (by omega)) [] rfl (by decide) (by decide +kernel) rfl wd186 wd187 wd1 wd188 (by decide) (Nat.le_of_ble_eq_true rfl) dX3_setThumb_15 ?_
  refine j_ifb_ne (tgt := 31) hC dX3_setThumb_18 (by decide) (fun _ => ?_) (fun h => (h (by omega)).elim)
  refine j_aload hC dX3_setThumb_31 0 rfl ?_
  refine j_getN hC inX0 rfl (4 + a.toNat) (hw_bk g _ ha5) 1 (by decide) wd47 rfl dX3_setThumb_33 ?_
  refine j_iload_n hC dX3_setThumb_36 3 rfl ?_
  refine j_iald hC (9 + a.toNat) (hw_lk g _ ha5) (by omega) dX3_setThumb_37 ?_
  refine j_callSN1 (ar := 1) hC hR (c_X1_thumb (hlJ hC) g σ ((σ).2 (1 + a.toNat) s) (by omega)) [] rfl (by decide) (by decide +kernel) rfl wd295 wd121 wd11 wd122 (by decide) (Nat.le_of_ble_eq_true rfl) dX3_setThumb_38 ?_
  refine j_istore hC dX3_setThumb_41 [(5, vI (((σ).2 (1 + a.toNat) s) / 16 % 4)), (4, .ref (gd g (4 + a.toNat))), (0, .ref (gd g (0))), (1, vI (a)), (2, vI (s)), (3, vI (t))] (by decide) rfl ?_
  refine j_aload hC dX3_setThumb_43 1 rfl ?_
  refine j_getN hC inX0 rfl (4 + a.toNat) (hw_bk g _ ha5) 1 (by decide) wd47 rfl dX3_setThumb_45 ?_
  refine j_iload_n hC dX3_setThumb_48 4 rfl ?_
  refine j_aload hC dX3_setThumb_49 1 rfl ?_
  refine j_getN hC inX0 rfl (4 + a.toNat) (hw_bk g _ ha5) 1 (by decide) wd47 rfl dX3_setThumb_51 ?_
  refine j_iload_n hC dX3_setThumb_54 4 rfl ?_
  refine j_iald hC (9 + a.toNat) (hw_lk g _ ha5) (by omega) dX3_setThumb_55 ?_
  refine j_iload_n hC dX3_setThumb_56 5 rfl ?_
  refine j_callSN1 (ar := 2) hC hR (c_X1_withThumb (hlJ hC) g σ ((σ).2 (1 + a.toNat) s) t (by omega)) [vI (s), .ref (gd g (9 + a.toNat))] rfl (by decide) (by decide +kernel) rfl wd383 wd274 wd11 wd275 (by decide) (Nat.le_of_ble_eq_true rfl) dX3_setThumb_57 ?_
  refine j_iast (τ := sG (σ) (1 + a.toNat) (s) (wth ((σ).2 (1 + a.toNat) s) t)) hC (9 + a.toNat) (hw_lk g _ ha5) (hs_lk g _ ha5 _ _) (by omega) dX3_setThumb_60 ?_
  refine j_iload hC dX3_setThumb_61 0 rfl ?_
  exact j_iret hC dX3_setThumb_63 ⟨rfl, rfl⟩
set_option maxHeartbeats 4000000 in
set_option maxRecDepth 100000 in
theorem x1_X3_setThumb {l : Launch} (hl : l.stackTraces = false) (g : GG) (σ : Sg) (hI : IC σ) (a s t : Int) (hr : -2147483648 ≤ a ∧ a < 2147483648) (ha : ¬ (0 ≤ a ∧ a < σ.1 0)) : CX l yX3_setThumb cX3_setThumb 6 (some .int) 7 111 1 6 g [.ref (gd g (0)), vI (a), vI (s), vI (t)] σ pF (pxE "java/lang/IndexOutOfBoundsException" (σ)) := by
  refine CX_of (own := RX3) hl (by decide) rfl (Nat.le_of_ble_eq_true rfl) (fun mc hC _ hR hE => ?_)
  refine j_lv (lv2 := [(0, .ref (gd g (0))), (1, vI (a)), (2, vI (s)), (3, vI (t))]) rfl ?_
  have hI1 := hI.1
  refine j_aload_n hC dX3_setThumb_0 0 rfl ?_
  refine j_iload_n hC dX3_setThumb_1 1 rfl ?_
  refine j_callVT (ar := 1) hC hR (x_X3_bookOf (hlJ hC) g σ hI a (by omega) (by omega)) [] rfl 0 rfl rfl rfl (by decide) (by decide +kernel) rfl wd182 wd184 wp13 wd1 wd185 (by decide) (Nat.le_of_ble_eq_true rfl) dX3_setThumb_2 hE
set_option maxHeartbeats 4000000 in
set_option maxRecDepth 100000 in
theorem x2_X3_setThumb {l : Launch} (hl : l.stackTraces = false) (g : GG) (σ : Sg) (hI : IC σ) (a s t : Int) (hr : -2147483648 ≤ s ∧ s < 2147483648) (ha : 0 ≤ a ∧ a < σ.1 0) (hs : ¬ (0 ≤ s ∧ s < σ.1 (2 + a.toNat))) : CX l yX3_setThumb cX3_setThumb 6 (some .int) 7 111 1 6 g [.ref (gd g (0)), vI (a), vI (s), vI (t)] σ pF (pxE "java/lang/IndexOutOfBoundsException" (σ)) := by
  refine CX_of (own := RX3) hl (by decide) rfl (Nat.le_of_ble_eq_true rfl) (fun mc hC _ hR hE => ?_)
  refine j_lv (lv2 := [(0, .ref (gd g (0))), (1, vI (a)), (2, vI (s)), (3, vI (t))]) rfl ?_
  have hI1 := hI.1
  have ha5 : a.toNat < 5 := by have := hI.1; omega
  have hna := hI.2.2.2.1 a.toNat ha5
  refine j_aload_n hC dX3_setThumb_0 0 rfl ?_
  refine j_iload_n hC dX3_setThumb_1 1 rfl ?_
  refine j_callV1 (ar := 1) hC hR (c_X3_bookOf (hlJ hC) g σ hI a (by omega)) [] rfl 0 rfl rfl rfl (by decide) (by decide +kernel) rfl wd182 wd184 wp13 wd1 wd185 (by decide) (Nat.le_of_ble_eq_true rfl) dX3_setThumb_2 ?_
  refine j_astore hC dX3_setThumb_5 [(4, .ref (gd g (4 + a.toNat))), (0, .ref (gd g (0))), (1, vI (a)), (2, vI (s)), (3, vI (t))] (by decide) rfl ?_
  refine j_aload hC dX3_setThumb_7 0 rfl ?_
  refine j_iload_n hC dX3_setThumb_9 3 rfl ?_
  refine j_callST (ar := 2) hC hR (x_X3_checkSign (hlJ hC) g σ hI ha5 s (by omega) (by omega)) [] rfl (by decide) (by decide +kernel) rfl wd368 wd369 wd1 wd370 (by decide) (Nat.le_of_ble_eq_true rfl) dX3_setThumb_10 hE
set_option maxHeartbeats 4000000 in
set_option maxRecDepth 100000 in
theorem x3_X3_setThumb {l : Launch} (hl : l.stackTraces = false) (g : GG) (σ : Sg) (hI : IC σ) (a s t : Int) (hr : -2147483648 ≤ t ∧ t < 2147483648) (ha : 0 ≤ a ∧ a < σ.1 0) (hs : 0 ≤ s ∧ s < σ.1 (2 + a.toNat)) (ht : ¬ (0 ≤ t ∧ t < 4)) : CX l yX3_setThumb cX3_setThumb 6 (some .int) 7 111 1 6 g [.ref (gd g (0)), vI (a), vI (s), vI (t)] σ pF (pxE "java/lang/IllegalArgumentException" (σ)) := by
  refine CX_of (own := RX3) hl (by decide) rfl (Nat.le_of_ble_eq_true rfl) (fun mc hC _ hR hE => ?_)
  refine j_lv (lv2 := [(0, .ref (gd g (0))), (1, vI (a)), (2, vI (s)), (3, vI (t))]) rfl ?_
  have hI1 := hI.1
  have ha5 : a.toNat < 5 := by have := hI.1; omega
  have hna := hI.2.2.2.1 a.toNat ha5
  refine j_aload_n hC dX3_setThumb_0 0 rfl ?_
  refine j_iload_n hC dX3_setThumb_1 1 rfl ?_
  refine j_callV1 (ar := 1) hC hR (c_X3_bookOf (hlJ hC) g σ hI a (by omega)) [] rfl 0 rfl rfl rfl (by decide) (by decide +kernel) rfl wd182 wd184 wp13 wd1 wd185 (by decide) (Nat.le_of_ble_eq_true rfl) dX3_setThumb_2 ?_
  refine j_astore hC dX3_setThumb_5 [(4, .ref (gd g (4 + a.toNat))), (0, .ref (gd g (0))), (1, vI (a)), (2, vI (s)), (3, vI (t))] (by decide) rfl ?_
  refine j_aload hC dX3_setThumb_7 0 rfl ?_
  refine j_iload_n hC dX3_setThumb_9 3 rfl ?_
  refine j_callS0 (ar := 2) hC hR (c_X3_checkSign (hlJ hC) g σ hI ha5 s (by omega)) [] rfl (by decide) (by decide +kernel) rfl wd368 wd369 wd1 wd370 (by decide) (Nat.le_of_ble_eq_true rfl) dX3_setThumb_10 ?_
  refine j_iload_n hC dX3_setThumb_13 4 rfl ?_
  refine j_iconst hC dX3_setThumb_14 ?_
  refine j_callS1 (ar := 2) hC hR (c_X3_isBelow (hlJ hC) g σ t 4 (by omega)) [] rfl (by decide) (by decide +kernel) rfl wd186 wd187 wd1 wd188 (by decide) (Nat.le_of_ble_eq_true rfl) dX3_setThumb_15 ?_
  refine j_ifb_ne (tgt := 31) hC dX3_setThumb_18 (by decide) (fun h => absurd h (by omega)) (fun _ => ?_)
  exact j_throw (E := "java/lang/IllegalArgumentException") (text := "thumb is not 0 to 3") hC hR hE (by decide) wd337 wd10 thA1 thA2 thA3 (by decide) dX3_setThumb_21 dX3_setThumb_24 dX3_setThumb_25 dX3_setThumb_27 dX3_setThumb_30 ⟨by decide, Nat.le_of_ble_eq_true rfl, by decide, by decide⟩
set_option maxHeartbeats 4000000 in
set_option maxRecDepth 100000 in
theorem c_X3_addSign {l : Launch} (hl : l.stackTraces = false) (g : GG) (σ : Sg) (hI : IC σ) (a sh th pl mv x : Int) (ha : 0 ≤ a ∧ a < σ.1 0) (hp : 0 ≤ sh ∧ sh < 16 ∧ 0 ≤ th ∧ th < 4 ∧ 0 ≤ pl ∧ pl < 9 ∧ 0 ≤ mv ∧ mv < 4) (hx : 0 ≤ x ∧ x < 30) (hm : σ.1 (2 + a.toNat) < 16 ∧ findB σ a.toNat x = -1) : CN l yX3_addSign cX3_addSign 8 (some .int) 7 113 0 0 g [.ref (gd g (0)), vI (a), vI (sh), vI (th), vI (pl), vI (mv), vI (x)] σ (pt (some (vI (σ.1 (2 + a.toNat)))) (apB σ a.toNat (mkL sh th pl mv) x)) := by
  refine CN_of (own := RX3) hl (by decide) rfl (Nat.le_of_ble_eq_true rfl) (fun mc hC _ hR => ?_)
  refine j_lv (lv2 := [(0, .ref (gd g (0))), (1, vI (a)), (2, vI (sh)), (3, vI (th)), (4, vI (pl)), (5, vI (mv)), (6, vI (x))]) rfl ?_
  have hI1 := hI.1
  have ha5 : a.toNat < 5 := by have := hI.1; omega
  have hna := hI.2.2.2.1 a.toNat ha5
  have hmk : 0 ≤ mkL sh th pl mv ∧ mkL sh th pl mv < 2304 := by unfold mkL; omega
  refine j_aload_n hC dX3_addSign_0 0 rfl ?_
  refine j_iload_n hC dX3_addSign_1 1 rfl ?_
  refine j_callV1 (ar := 1) hC hR (c_X3_bookOf (hlJ hC) g σ hI a (by omega)) [] rfl 0 rfl rfl rfl (by decide) (by decide +kernel) rfl wd182 wd184 wp13 wd1 wd185 (by decide) (Nat.le_of_ble_eq_true rfl) dX3_addSign_2 ?_
  refine j_astore hC dX3_addSign_5 [(7, .ref (gd g (4 + a.toNat))), (0, .ref (gd g (0))), (1, vI (a)), (2, vI (sh)), (3, vI (th)), (4, vI (pl)), (5, vI (mv)), (6, vI (x))] (by decide) rfl ?_
  refine j_iload_n hC dX3_addSign_7 3 rfl ?_
  refine j_iload_n hC dX3_addSign_8 4 rfl ?_
  refine j_iload hC dX3_addSign_9 5 rfl ?_
  refine j_iload hC dX3_addSign_11 6 rfl ?_
  refine j_callS0 (ar := 4) hC hR (c_X3_checkLook (hlJ hC) g σ sh th pl mv (by omega)) [] rfl (by decide) (by decide +kernel) rfl wd334 wd335 wd1 wd336 (by decide) (Nat.le_of_ble_eq_true rfl) dX3_addSign_13 ?_
  refine j_iload hC dX3_addSign_16 7 rfl ?_
  refine j_bipush hC dX3_addSign_18 (by decide) ?_
  refine j_callS1 (ar := 2) hC hR (c_X3_isBelow (hlJ hC) g σ x 30 (by omega)) [] rfl (by decide) (by decide +kernel) rfl wd186 wd187 wd1 wd188 (by decide) (Nat.le_of_ble_eq_true rfl) dX3_addSign_20 ?_
  refine j_ifb_ne (tgt := 36) hC dX3_addSign_23 (by decide) (fun _ => ?_) (fun h => (h (by omega)).elim)
  refine j_aload hC dX3_addSign_36 0 rfl ?_
  refine j_iload hC dX3_addSign_38 7 rfl ?_
  refine j_callVN1 (ar := 1) hC hR (c_X0_hasRoomFor (hlJ hC) g σ hI ha5 x (by omega)) [] rfl (4 + a.toNat) (hw_bk g _ ha5) rfl rfl (by decide) (by decide +kernel) rfl wd261 wd263 wp16 wd3 wd264 (by decide) (Nat.le_of_ble_eq_true rfl) dX3_addSign_40 ?_
  refine j_ifb_ne (tgt := 56) hC dX3_addSign_43 (by decide) (fun _ => ?_) (fun h => (h (by omega)).elim)
  refine j_aload hC dX3_addSign_56 0 rfl ?_
  refine j_iload_n hC dX3_addSign_58 3 rfl ?_
  refine j_iload_n hC dX3_addSign_59 4 rfl ?_
  refine j_iload hC dX3_addSign_60 5 rfl ?_
  refine j_iload hC dX3_addSign_62 6 rfl ?_
  refine j_callSN1 (ar := 4) hC hR (c_X1_of (hlJ hC) g σ sh th pl mv (by omega)) [.ref (gd g (4 + a.toNat))] rfl (by decide) (by decide +kernel) rfl wd358 wd359 wd11 wd360 (by decide) (Nat.le_of_ble_eq_true rfl) dX3_addSign_64 ?_
  refine j_iload hC dX3_addSign_67 7 rfl ?_
  refine j_callVN1 (ar := 2) hC hR (c_X0_append (hlJ hC) g σ ha5 (mkL sh th pl mv) x (by omega)) [] rfl (4 + a.toNat) (hw_bk g _ ha5) rfl rfl (by decide) (by decide +kernel) rfl wd287 wd289 wp21 wd3 wd290 (by decide) (Nat.le_of_ble_eq_true rfl) dX3_addSign_69 ?_
  exact j_iret hC dX3_addSign_72 ⟨rfl, rfl⟩
set_option maxHeartbeats 4000000 in
set_option maxRecDepth 100000 in
theorem x1_X3_addSign {l : Launch} (hl : l.stackTraces = false) (g : GG) (σ : Sg) (hI : IC σ) (a sh th pl mv x : Int) (hr : -2147483648 ≤ a ∧ a < 2147483648) (ha : ¬ (0 ≤ a ∧ a < σ.1 0)) : CX l yX3_addSign cX3_addSign 8 (some .int) 7 113 1 6 g [.ref (gd g (0)), vI (a), vI (sh), vI (th), vI (pl), vI (mv), vI (x)] σ pF (pxE "java/lang/IndexOutOfBoundsException" (σ)) := by
  refine CX_of (own := RX3) hl (by decide) rfl (Nat.le_of_ble_eq_true rfl) (fun mc hC _ hR hE => ?_)
  refine j_lv (lv2 := [(0, .ref (gd g (0))), (1, vI (a)), (2, vI (sh)), (3, vI (th)), (4, vI (pl)), (5, vI (mv)), (6, vI (x))]) rfl ?_
  have hI1 := hI.1
  refine j_aload_n hC dX3_addSign_0 0 rfl ?_
  refine j_iload_n hC dX3_addSign_1 1 rfl ?_
  refine j_callVT (ar := 1) hC hR (x_X3_bookOf (hlJ hC) g σ hI a (by omega) (by omega)) [] rfl 0 rfl rfl rfl (by decide) (by decide +kernel) rfl wd182 wd184 wp13 wd1 wd185 (by decide) (Nat.le_of_ble_eq_true rfl) dX3_addSign_2 hE
set_option maxHeartbeats 4000000 in
set_option maxRecDepth 100000 in
theorem x2_X3_addSign {l : Launch} (hl : l.stackTraces = false) (g : GG) (σ : Sg) (hI : IC σ) (a sh th pl mv x : Int) (hr : -2147483648 ≤ sh ∧ sh < 2147483648 ∧ -2147483648 ≤ th ∧ th < 2147483648 ∧ -2147483648 ≤ pl ∧ pl < 2147483648 ∧ -2147483648 ≤ mv ∧ mv < 2147483648) (ha : 0 ≤ a ∧ a < σ.1 0) (hp : ¬ (0 ≤ sh ∧ sh < 16 ∧ 0 ≤ th ∧ th < 4 ∧ 0 ≤ pl ∧ pl < 9 ∧ 0 ≤ mv ∧ mv < 4)) : CX l yX3_addSign cX3_addSign 8 (some .int) 7 113 1 6 g [.ref (gd g (0)), vI (a), vI (sh), vI (th), vI (pl), vI (mv), vI (x)] σ pF (pxE "java/lang/IllegalArgumentException" (σ)) := by
  refine CX_of (own := RX3) hl (by decide) rfl (Nat.le_of_ble_eq_true rfl) (fun mc hC _ hR hE => ?_)
  refine j_lv (lv2 := [(0, .ref (gd g (0))), (1, vI (a)), (2, vI (sh)), (3, vI (th)), (4, vI (pl)), (5, vI (mv)), (6, vI (x))]) rfl ?_
  have hI1 := hI.1
  have ha5 : a.toNat < 5 := by have := hI.1; omega
  have hna := hI.2.2.2.1 a.toNat ha5
  refine j_aload_n hC dX3_addSign_0 0 rfl ?_
  refine j_iload_n hC dX3_addSign_1 1 rfl ?_
  refine j_callV1 (ar := 1) hC hR (c_X3_bookOf (hlJ hC) g σ hI a (by omega)) [] rfl 0 rfl rfl rfl (by decide) (by decide +kernel) rfl wd182 wd184 wp13 wd1 wd185 (by decide) (Nat.le_of_ble_eq_true rfl) dX3_addSign_2 ?_
  refine j_astore hC dX3_addSign_5 [(7, .ref (gd g (4 + a.toNat))), (0, .ref (gd g (0))), (1, vI (a)), (2, vI (sh)), (3, vI (th)), (4, vI (pl)), (5, vI (mv)), (6, vI (x))] (by decide) rfl ?_
  refine j_iload_n hC dX3_addSign_7 3 rfl ?_
  refine j_iload_n hC dX3_addSign_8 4 rfl ?_
  refine j_iload hC dX3_addSign_9 5 rfl ?_
  refine j_iload hC dX3_addSign_11 6 rfl ?_
  refine j_callST (ar := 4) hC hR (x_X3_checkLook (hlJ hC) g σ sh th pl mv (by omega) (by omega)) [] rfl (by decide) (by decide +kernel) rfl wd334 wd335 wd1 wd336 (by decide) (Nat.le_of_ble_eq_true rfl) dX3_addSign_13 hE
set_option maxHeartbeats 4000000 in
set_option maxRecDepth 100000 in
theorem x3_X3_addSign {l : Launch} (hl : l.stackTraces = false) (g : GG) (σ : Sg) (hI : IC σ) (a sh th pl mv x : Int) (hr : -2147483648 ≤ x ∧ x < 2147483648) (ha : 0 ≤ a ∧ a < σ.1 0) (hp : 0 ≤ sh ∧ sh < 16 ∧ 0 ≤ th ∧ th < 4 ∧ 0 ≤ pl ∧ pl < 9 ∧ 0 ≤ mv ∧ mv < 4) (hx : ¬ (0 ≤ x ∧ x < 30)) : CX l yX3_addSign cX3_addSign 8 (some .int) 7 113 1 6 g [.ref (gd g (0)), vI (a), vI (sh), vI (th), vI (pl), vI (mv), vI (x)] σ pF (pxE "java/lang/IllegalArgumentException" (σ)) := by
  refine CX_of (own := RX3) hl (by decide) rfl (Nat.le_of_ble_eq_true rfl) (fun mc hC _ hR hE => ?_)
  refine j_lv (lv2 := [(0, .ref (gd g (0))), (1, vI (a)), (2, vI (sh)), (3, vI (th)), (4, vI (pl)), (5, vI (mv)), (6, vI (x))]) rfl ?_
  have hI1 := hI.1
  have ha5 : a.toNat < 5 := by have := hI.1; omega
  have hna := hI.2.2.2.1 a.toNat ha5
  refine j_aload_n hC dX3_addSign_0 0 rfl ?_
  refine j_iload_n hC dX3_addSign_1 1 rfl ?_
  refine j_callV1 (ar := 1) hC hR (c_X3_bookOf (hlJ hC) g σ hI a (by omega)) [] rfl 0 rfl rfl rfl (by decide) (by decide +kernel) rfl wd182 wd184 wp13 wd1 wd185 (by decide) (Nat.le_of_ble_eq_true rfl) dX3_addSign_2 ?_
  refine j_astore hC dX3_addSign_5 [(7, .ref (gd g (4 + a.toNat))), (0, .ref (gd g (0))), (1, vI (a)), (2, vI (sh)), (3, vI (th)), (4, vI (pl)), (5, vI (mv)), (6, vI (x))] (by decide) rfl ?_
  refine j_iload_n hC dX3_addSign_7 3 rfl ?_
  refine j_iload_n hC dX3_addSign_8 4 rfl ?_
  refine j_iload hC dX3_addSign_9 5 rfl ?_
  refine j_iload hC dX3_addSign_11 6 rfl ?_
  refine j_callS0 (ar := 4) hC hR (c_X3_checkLook (hlJ hC) g σ sh th pl mv (by omega)) [] rfl (by decide) (by decide +kernel) rfl wd334 wd335 wd1 wd336 (by decide) (Nat.le_of_ble_eq_true rfl) dX3_addSign_13 ?_
  refine j_iload hC dX3_addSign_16 7 rfl ?_
  refine j_bipush hC dX3_addSign_18 (by decide) ?_
  refine j_callS1 (ar := 2) hC hR (c_X3_isBelow (hlJ hC) g σ x 30 (by omega)) [] rfl (by decide) (by decide +kernel) rfl wd186 wd187 wd1 wd188 (by decide) (Nat.le_of_ble_eq_true rfl) dX3_addSign_20 ?_
  refine j_ifb_ne (tgt := 36) hC dX3_addSign_23 (by decide) (fun h => absurd h (by omega)) (fun _ => ?_)
  exact j_throw (E := "java/lang/IllegalArgumentException") (text := "meaning is not 0 to 29") hC hR hE (by decide) wd337 wd10 thA1 thA2 thA3 (by decide) dX3_addSign_26 dX3_addSign_29 dX3_addSign_30 dX3_addSign_32 dX3_addSign_35 ⟨by decide, Nat.le_of_ble_eq_true rfl, by decide, by decide⟩
set_option maxHeartbeats 4000000 in
set_option maxRecDepth 100000 in
theorem x4_X3_addSign {l : Launch} (hl : l.stackTraces = false) (g : GG) (σ : Sg) (hI : IC σ) (a sh th pl mv x : Int) (ha : 0 ≤ a ∧ a < σ.1 0) (hp : 0 ≤ sh ∧ sh < 16 ∧ 0 ≤ th ∧ th < 4 ∧ 0 ≤ pl ∧ pl < 9 ∧ 0 ≤ mv ∧ mv < 4) (hx : 0 ≤ x ∧ x < 30) (hm : ¬ (σ.1 (2 + a.toNat) < 16 ∧ findB σ a.toNat x = -1)) : CX l yX3_addSign cX3_addSign 8 (some .int) 7 113 1 6 g [.ref (gd g (0)), vI (a), vI (sh), vI (th), vI (pl), vI (mv), vI (x)] σ pF (pxE "java/lang/IllegalStateException" (σ)) := by
  refine CX_of (own := RX3) hl (by decide) rfl (Nat.le_of_ble_eq_true rfl) (fun mc hC _ hR hE => ?_)
  refine j_lv (lv2 := [(0, .ref (gd g (0))), (1, vI (a)), (2, vI (sh)), (3, vI (th)), (4, vI (pl)), (5, vI (mv)), (6, vI (x))]) rfl ?_
  have hI1 := hI.1
  have ha5 : a.toNat < 5 := by have := hI.1; omega
  have hna := hI.2.2.2.1 a.toNat ha5
  refine j_aload_n hC dX3_addSign_0 0 rfl ?_
  refine j_iload_n hC dX3_addSign_1 1 rfl ?_
  refine j_callV1 (ar := 1) hC hR (c_X3_bookOf (hlJ hC) g σ hI a (by omega)) [] rfl 0 rfl rfl rfl (by decide) (by decide +kernel) rfl wd182 wd184 wp13 wd1 wd185 (by decide) (Nat.le_of_ble_eq_true rfl) dX3_addSign_2 ?_
  refine j_astore hC dX3_addSign_5 [(7, .ref (gd g (4 + a.toNat))), (0, .ref (gd g (0))), (1, vI (a)), (2, vI (sh)), (3, vI (th)), (4, vI (pl)), (5, vI (mv)), (6, vI (x))] (by decide) rfl ?_
  refine j_iload_n hC dX3_addSign_7 3 rfl ?_
  refine j_iload_n hC dX3_addSign_8 4 rfl ?_
  refine j_iload hC dX3_addSign_9 5 rfl ?_
  refine j_iload hC dX3_addSign_11 6 rfl ?_
  refine j_callS0 (ar := 4) hC hR (c_X3_checkLook (hlJ hC) g σ sh th pl mv (by omega)) [] rfl (by decide) (by decide +kernel) rfl wd334 wd335 wd1 wd336 (by decide) (Nat.le_of_ble_eq_true rfl) dX3_addSign_13 ?_
  refine j_iload hC dX3_addSign_16 7 rfl ?_
  refine j_bipush hC dX3_addSign_18 (by decide) ?_
  refine j_callS1 (ar := 2) hC hR (c_X3_isBelow (hlJ hC) g σ x 30 (by omega)) [] rfl (by decide) (by decide +kernel) rfl wd186 wd187 wd1 wd188 (by decide) (Nat.le_of_ble_eq_true rfl) dX3_addSign_20 ?_
  refine j_ifb_ne (tgt := 36) hC dX3_addSign_23 (by decide) (fun _ => ?_) (fun h => (h (by omega)).elim)
  refine j_aload hC dX3_addSign_36 0 rfl ?_
  refine j_iload hC dX3_addSign_38 7 rfl ?_
  refine j_callVN1 (ar := 1) hC hR (c_X0_hasRoomFor (hlJ hC) g σ hI ha5 x (by omega)) [] rfl (4 + a.toNat) (hw_bk g _ ha5) rfl rfl (by decide) (by decide +kernel) rfl wd261 wd263 wp16 wd3 wd264 (by decide) (Nat.le_of_ble_eq_true rfl) dX3_addSign_40 ?_
  refine j_ifb_ne (tgt := 56) hC dX3_addSign_43 (by decide) (fun h => absurd h (by omega)) (fun _ => ?_)
  exact j_throw (E := "java/lang/IllegalStateException") (text := "the book has 16 signs, or one for this meaning") hC hR hE (by decide) wd309 wd8 thI1 thI2 thI3 (by decide) dX3_addSign_46 dX3_addSign_49 dX3_addSign_50 dX3_addSign_52 dX3_addSign_55 ⟨by decide, Nat.le_of_ble_eq_true rfl, by decide, by decide⟩
set_option maxHeartbeats 4000000 in
set_option maxRecDepth 100000 in
theorem c_X3_borrow {l : Launch} (hl : l.stackTraces = false) (g : GG) (σ : Sg) (hI : IC σ) (a s c : Int) (ha : 0 ≤ a ∧ a < σ.1 0) (hc : 0 ≤ c ∧ c < σ.1 0) (hs : 0 ≤ s ∧ s < σ.1 (2 + a.toNat)) (hne : a ≠ c) (hm : σ.1 (2 + c.toNat) < 16 ∧ findB σ c.toNat (σ.2 (6 + a.toNat) s) = -1) (hf : fuB σ c.toNat (σ.2 (1 + a.toNat) s) ≠ -1) : CN l yX3_borrow cX3_borrow 8 (some .int) 7 111 0 0 g [.ref (gd g (0)), vI (a), vI (s), vI (c)] σ (pt (some (vI (σ.1 (2 + c.toNat)))) (apB σ c.toNat (fuB σ c.toNat (σ.2 (1 + a.toNat) s)) (σ.2 (6 + a.toNat) s))) := by
  refine CN_of (own := RX3) hl (by decide) rfl (Nat.le_of_ble_eq_true rfl) (fun mc hC _ hR => ?_)
  refine j_lv (lv2 := [(0, .ref (gd g (0))), (1, vI (a)), (2, vI (s)), (3, vI (c))]) rfl ?_
  have hI1 := hI.1
  have ha5 : a.toNat < 5 := by have := hI.1; omega
  have hna := hI.2.2.2.1 a.toNat ha5
  have hc5 : c.toNat < 5 := by have := hI.1; omega
  have hnc := hI.2.2.2.1 c.toNat hc5
  have hk := hI.2.2.2.2.1 a.toNat ha5 s (by omega) (by omega)
  have hm := hI.2.2.2.2.2 a.toNat ha5 s (by omega) (by omega)
  have hfu : fuB σ c.toNat (σ.2 (1 + a.toNat) s) = -1 ∨ (0 ≤ fuB σ c.toNat (σ.2 (1 + a.toNat) s) ∧ fuB σ c.toNat (σ.2 (1 + a.toNat) s) < 2304) := fuF_rg _ _ _ (by omega) 4 0 (by omega)
  refine j_aload_n hC dX3_borrow_0 0 rfl ?_
  refine j_iload_n hC dX3_borrow_1 1 rfl ?_
  refine j_callV1 (ar := 1) hC hR (c_X3_bookOf (hlJ hC) g σ hI a (by omega)) [] rfl 0 rfl rfl rfl (by decide) (by decide +kernel) rfl wd182 wd184 wp13 wd1 wd185 (by decide) (Nat.le_of_ble_eq_true rfl) dX3_borrow_2 ?_
  refine j_astore hC dX3_borrow_5 [(4, .ref (gd g (4 + a.toNat))), (0, .ref (gd g (0))), (1, vI (a)), (2, vI (s)), (3, vI (c))] (by decide) rfl ?_
  refine j_aload_n hC dX3_borrow_7 1 rfl ?_
  refine j_iload_n hC dX3_borrow_8 4 rfl ?_
  refine j_callV1 (ar := 1) hC hR (c_X3_bookOf (hlJ hC) g σ hI c (by omega)) [] rfl 0 rfl rfl rfl (by decide) (by decide +kernel) rfl wd182 wd184 wp13 wd1 wd185 (by decide) (Nat.le_of_ble_eq_true rfl) dX3_borrow_9 ?_
  refine j_astore hC dX3_borrow_12 [(5, .ref (gd g (4 + c.toNat))), (4, .ref (gd g (4 + a.toNat))), (0, .ref (gd g (0))), (1, vI (a)), (2, vI (s)), (3, vI (c))] (by decide) rfl ?_
  refine j_aload hC dX3_borrow_14 1 rfl ?_
  refine j_iload_n hC dX3_borrow_16 4 rfl ?_
  refine j_callS0 (ar := 2) hC hR (c_X3_checkSign (hlJ hC) g σ hI ha5 s (by omega)) [] rfl (by decide) (by decide +kernel) rfl wd368 wd369 wd1 wd370 (by decide) (Nat.le_of_ble_eq_true rfl) dX3_borrow_17 ?_
  refine j_iload_n hC dX3_borrow_20 3 rfl ?_
  refine j_iload_n hC dX3_borrow_21 5 rfl ?_
  refine j_icmp_ne (tgt := 35) hC dX3_borrow_22 (by decide) (by omega) (fun _ => ?_) (fun h => absurd h (by omega))
  refine j_aload hC dX3_borrow_35 1 rfl ?_
  refine j_getN hC inX0 rfl (4 + a.toNat) (hw_bk g _ ha5) 2 (by decide) wd49 rfl dX3_borrow_37 ?_
  refine j_iload_n hC dX3_borrow_40 4 rfl ?_
  refine j_iald hC (14 + a.toNat) (hw_mn g _ ha5) (by omega) dX3_borrow_41 ?_
  refine j_istore hC dX3_borrow_42 [(6, vI ((σ).2 (6 + a.toNat) s)), (5, .ref (gd g (4 + c.toNat))), (4, .ref (gd g (4 + a.toNat))), (0, .ref (gd g (0))), (1, vI (a)), (2, vI (s)), (3, vI (c))] (by decide) rfl ?_
  refine j_aload hC dX3_borrow_44 1 rfl ?_
  refine j_iload hC dX3_borrow_46 0 rfl ?_
  refine j_callVN1 (ar := 1) hC hR (c_X0_hasRoomFor (hlJ hC) g σ hI hc5 ((σ).2 (6 + a.toNat) s) (by omega)) [] rfl (4 + c.toNat) (hw_bk g _ hc5) rfl rfl (by decide) (by decide +kernel) rfl wd261 wd263 wp16 wd3 wd264 (by decide) (Nat.le_of_ble_eq_true rfl) dX3_borrow_48 ?_
  refine j_ifb_ne (tgt := 64) hC dX3_borrow_51 (by decide) (fun _ => ?_) (fun h => (h (by omega)).elim)
  refine j_aload hC dX3_borrow_64 1 rfl ?_
  refine j_aload hC dX3_borrow_66 2 rfl ?_
  refine j_getN hC inX0 rfl (4 + a.toNat) (hw_bk g _ ha5) 1 (by decide) wd47 rfl dX3_borrow_68 ?_
  refine j_iload_n hC dX3_borrow_71 5 rfl ?_
  refine j_iald hC (9 + a.toNat) (hw_lk g _ ha5) (by omega) dX3_borrow_72 ?_
  refine j_callVN1 (ar := 1) hC hR (c_X0_firstUnlike (hlJ hC) g σ hI hc5 ((σ).2 (1 + a.toNat) s) (by omega)) [] rfl (4 + c.toNat) (hw_bk g _ hc5) rfl rfl (by decide) (by decide +kernel) rfl wd269 wd271 wp18 wd3 wd272 (by decide) (Nat.le_of_ble_eq_true rfl) dX3_borrow_73 ?_
  have hf73 : fuB σ c.toNat ((σ).2 (1 + a.toNat) s) = -1 ∨ (0 ≤ fuB σ c.toNat ((σ).2 (1 + a.toNat) s) ∧ fuB σ c.toNat ((σ).2 (1 + a.toNat) s) < 2304) := fuF_rg _ _ _ (by omega) 4 0 (by omega)
  refine j_istore hC dX3_borrow_76 [(7, vI (fuB σ c.toNat ((σ).2 (1 + a.toNat) s))), (6, vI ((σ).2 (6 + a.toNat) s)), (5, .ref (gd g (4 + c.toNat))), (4, .ref (gd g (4 + a.toNat))), (0, .ref (gd g (0))), (1, vI (a)), (2, vI (s)), (3, vI (c))] (by decide) rfl ?_
  refine j_iload hC dX3_borrow_78 0 rfl ?_
  refine j_iconst hC dX3_borrow_80 ?_
  refine j_icmp_ne (tgt := 94) hC dX3_borrow_81 (by decide) (by omega) (fun _ => ?_) (fun h => absurd h (by omega))
  refine j_aload hC dX3_borrow_94 2 rfl ?_
  refine j_iload hC dX3_borrow_96 0 rfl ?_
  refine j_iload hC dX3_borrow_98 1 rfl ?_
  refine j_callVN1 (ar := 2) hC hR (c_X0_append (hlJ hC) g σ hc5 (fuB σ c.toNat ((σ).2 (1 + a.toNat) s)) ((σ).2 (6 + a.toNat) s) (by omega)) [] rfl (4 + c.toNat) (hw_bk g _ hc5) rfl rfl (by decide) (by decide +kernel) rfl wd287 wd289 wp21 wd3 wd290 (by decide) (Nat.le_of_ble_eq_true rfl) dX3_borrow_100 ?_
  exact j_iret hC dX3_borrow_103 ⟨rfl, rfl⟩
set_option maxHeartbeats 4000000 in
set_option maxRecDepth 100000 in
theorem x1_X3_borrow {l : Launch} (hl : l.stackTraces = false) (g : GG) (σ : Sg) (hI : IC σ) (a s c : Int) (hr : -2147483648 ≤ a ∧ a < 2147483648) (ha : ¬ (0 ≤ a ∧ a < σ.1 0)) : CX l yX3_borrow cX3_borrow 8 (some .int) 7 111 1 6 g [.ref (gd g (0)), vI (a), vI (s), vI (c)] σ pF (pxE "java/lang/IndexOutOfBoundsException" (σ)) := by
  refine CX_of (own := RX3) hl (by decide) rfl (Nat.le_of_ble_eq_true rfl) (fun mc hC _ hR hE => ?_)
  refine j_lv (lv2 := [(0, .ref (gd g (0))), (1, vI (a)), (2, vI (s)), (3, vI (c))]) rfl ?_
  have hI1 := hI.1
  refine j_aload_n hC dX3_borrow_0 0 rfl ?_
  refine j_iload_n hC dX3_borrow_1 1 rfl ?_
  refine j_callVT (ar := 1) hC hR (x_X3_bookOf (hlJ hC) g σ hI a (by omega) (by omega)) [] rfl 0 rfl rfl rfl (by decide) (by decide +kernel) rfl wd182 wd184 wp13 wd1 wd185 (by decide) (Nat.le_of_ble_eq_true rfl) dX3_borrow_2 hE
set_option maxHeartbeats 4000000 in
set_option maxRecDepth 100000 in
theorem x2_X3_borrow {l : Launch} (hl : l.stackTraces = false) (g : GG) (σ : Sg) (hI : IC σ) (a s c : Int) (hr : -2147483648 ≤ c ∧ c < 2147483648) (ha : 0 ≤ a ∧ a < σ.1 0) (hc : ¬ (0 ≤ c ∧ c < σ.1 0)) : CX l yX3_borrow cX3_borrow 8 (some .int) 7 111 1 6 g [.ref (gd g (0)), vI (a), vI (s), vI (c)] σ pF (pxE "java/lang/IndexOutOfBoundsException" (σ)) := by
  refine CX_of (own := RX3) hl (by decide) rfl (Nat.le_of_ble_eq_true rfl) (fun mc hC _ hR hE => ?_)
  refine j_lv (lv2 := [(0, .ref (gd g (0))), (1, vI (a)), (2, vI (s)), (3, vI (c))]) rfl ?_
  have hI1 := hI.1
  have ha5 : a.toNat < 5 := by have := hI.1; omega
  have hna := hI.2.2.2.1 a.toNat ha5
  refine j_aload_n hC dX3_borrow_0 0 rfl ?_
  refine j_iload_n hC dX3_borrow_1 1 rfl ?_
  refine j_callV1 (ar := 1) hC hR (c_X3_bookOf (hlJ hC) g σ hI a (by omega)) [] rfl 0 rfl rfl rfl (by decide) (by decide +kernel) rfl wd182 wd184 wp13 wd1 wd185 (by decide) (Nat.le_of_ble_eq_true rfl) dX3_borrow_2 ?_
  refine j_astore hC dX3_borrow_5 [(4, .ref (gd g (4 + a.toNat))), (0, .ref (gd g (0))), (1, vI (a)), (2, vI (s)), (3, vI (c))] (by decide) rfl ?_
  refine j_aload_n hC dX3_borrow_7 1 rfl ?_
  refine j_iload_n hC dX3_borrow_8 4 rfl ?_
  refine j_callVT (ar := 1) hC hR (x_X3_bookOf (hlJ hC) g σ hI c (by omega) (by omega)) [] rfl 0 rfl rfl rfl (by decide) (by decide +kernel) rfl wd182 wd184 wp13 wd1 wd185 (by decide) (Nat.le_of_ble_eq_true rfl) dX3_borrow_9 hE
set_option maxHeartbeats 4000000 in
set_option maxRecDepth 100000 in
theorem x3_X3_borrow {l : Launch} (hl : l.stackTraces = false) (g : GG) (σ : Sg) (hI : IC σ) (a s c : Int) (hr : -2147483648 ≤ s ∧ s < 2147483648) (ha : 0 ≤ a ∧ a < σ.1 0) (hc : 0 ≤ c ∧ c < σ.1 0) (hs : ¬ (0 ≤ s ∧ s < σ.1 (2 + a.toNat))) : CX l yX3_borrow cX3_borrow 8 (some .int) 7 111 1 6 g [.ref (gd g (0)), vI (a), vI (s), vI (c)] σ pF (pxE "java/lang/IndexOutOfBoundsException" (σ)) := by
  refine CX_of (own := RX3) hl (by decide) rfl (Nat.le_of_ble_eq_true rfl) (fun mc hC _ hR hE => ?_)
  refine j_lv (lv2 := [(0, .ref (gd g (0))), (1, vI (a)), (2, vI (s)), (3, vI (c))]) rfl ?_
  have hI1 := hI.1
  have ha5 : a.toNat < 5 := by have := hI.1; omega
  have hna := hI.2.2.2.1 a.toNat ha5
  have hc5 : c.toNat < 5 := by have := hI.1; omega
  have hnc := hI.2.2.2.1 c.toNat hc5
  refine j_aload_n hC dX3_borrow_0 0 rfl ?_
  refine j_iload_n hC dX3_borrow_1 1 rfl ?_
  refine j_callV1 (ar := 1) hC hR (c_X3_bookOf (hlJ hC) g σ hI a (by omega)) [] rfl 0 rfl rfl rfl (by decide) (by decide +kernel) rfl wd182 wd184 wp13 wd1 wd185 (by decide) (Nat.le_of_ble_eq_true rfl) dX3_borrow_2 ?_
  refine j_astore hC dX3_borrow_5 [(4, .ref (gd g (4 + a.toNat))), (0, .ref (gd g (0))), (1, vI (a)), (2, vI (s)), (3, vI (c))] (by decide) rfl ?_
  refine j_aload_n hC dX3_borrow_7 1 rfl ?_
  refine j_iload_n hC dX3_borrow_8 4 rfl ?_
  refine j_callV1 (ar := 1) hC hR (c_X3_bookOf (hlJ hC) g σ hI c (by omega)) [] rfl 0 rfl rfl rfl (by decide) (by decide +kernel) rfl wd182 wd184 wp13 wd1 wd185 (by decide) (Nat.le_of_ble_eq_true rfl) dX3_borrow_9 ?_
  refine j_astore hC dX3_borrow_12 [(5, .ref (gd g (4 + c.toNat))), (4, .ref (gd g (4 + a.toNat))), (0, .ref (gd g (0))), (1, vI (a)), (2, vI (s)), (3, vI (c))] (by decide) rfl ?_
  refine j_aload hC dX3_borrow_14 1 rfl ?_
  refine j_iload_n hC dX3_borrow_16 4 rfl ?_
  refine j_callST (ar := 2) hC hR (x_X3_checkSign (hlJ hC) g σ hI ha5 s (by omega) (by omega)) [] rfl (by decide) (by decide +kernel) rfl wd368 wd369 wd1 wd370 (by decide) (Nat.le_of_ble_eq_true rfl) dX3_borrow_17 hE
set_option maxHeartbeats 4000000 in
set_option maxRecDepth 100000 in
theorem x4_X3_borrow {l : Launch} (hl : l.stackTraces = false) (g : GG) (σ : Sg) (hI : IC σ) (a s c : Int) (ha : 0 ≤ a ∧ a < σ.1 0) (hc : 0 ≤ c ∧ c < σ.1 0) (hs : 0 ≤ s ∧ s < σ.1 (2 + a.toNat)) (hne : a = c) : CX l yX3_borrow cX3_borrow 8 (some .int) 7 111 1 6 g [.ref (gd g (0)), vI (a), vI (s), vI (c)] σ pF (pxE "java/lang/IllegalArgumentException" (σ)) := by
  refine CX_of (own := RX3) hl (by decide) rfl (Nat.le_of_ble_eq_true rfl) (fun mc hC _ hR hE => ?_)
  refine j_lv (lv2 := [(0, .ref (gd g (0))), (1, vI (a)), (2, vI (s)), (3, vI (c))]) rfl ?_
  have hI1 := hI.1
  have ha5 : a.toNat < 5 := by have := hI.1; omega
  have hna := hI.2.2.2.1 a.toNat ha5
  have hc5 : c.toNat < 5 := by have := hI.1; omega
  have hnc := hI.2.2.2.1 c.toNat hc5
  have hk := hI.2.2.2.2.1 a.toNat ha5 s (by omega) (by omega)
  have hm := hI.2.2.2.2.2 a.toNat ha5 s (by omega) (by omega)
  refine j_aload_n hC dX3_borrow_0 0 rfl ?_
  refine j_iload_n hC dX3_borrow_1 1 rfl ?_
  refine j_callV1 (ar := 1) hC hR (c_X3_bookOf (hlJ hC) g σ hI a (by omega)) [] rfl 0 rfl rfl rfl (by decide) (by decide +kernel) rfl wd182 wd184 wp13 wd1 wd185 (by decide) (Nat.le_of_ble_eq_true rfl) dX3_borrow_2 ?_
  refine j_astore hC dX3_borrow_5 [(4, .ref (gd g (4 + a.toNat))), (0, .ref (gd g (0))), (1, vI (a)), (2, vI (s)), (3, vI (c))] (by decide) rfl ?_
  refine j_aload_n hC dX3_borrow_7 1 rfl ?_
  refine j_iload_n hC dX3_borrow_8 4 rfl ?_
  refine j_callV1 (ar := 1) hC hR (c_X3_bookOf (hlJ hC) g σ hI c (by omega)) [] rfl 0 rfl rfl rfl (by decide) (by decide +kernel) rfl wd182 wd184 wp13 wd1 wd185 (by decide) (Nat.le_of_ble_eq_true rfl) dX3_borrow_9 ?_
  refine j_astore hC dX3_borrow_12 [(5, .ref (gd g (4 + c.toNat))), (4, .ref (gd g (4 + a.toNat))), (0, .ref (gd g (0))), (1, vI (a)), (2, vI (s)), (3, vI (c))] (by decide) rfl ?_
  refine j_aload hC dX3_borrow_14 1 rfl ?_
  refine j_iload_n hC dX3_borrow_16 4 rfl ?_
  refine j_callS0 (ar := 2) hC hR (c_X3_checkSign (hlJ hC) g σ hI ha5 s (by omega)) [] rfl (by decide) (by decide +kernel) rfl wd368 wd369 wd1 wd370 (by decide) (Nat.le_of_ble_eq_true rfl) dX3_borrow_17 ?_
  refine j_iload_n hC dX3_borrow_20 3 rfl ?_
  refine j_iload_n hC dX3_borrow_21 5 rfl ?_
  refine j_icmp_ne (tgt := 35) hC dX3_borrow_22 (by decide) (by omega) (fun h => absurd h (by omega)) (fun _ => ?_)
  exact j_throw (E := "java/lang/IllegalArgumentException") (text := "both lodges are the same") hC hR hE (by decide) wd337 wd10 thA1 thA2 thA3 (by decide) dX3_borrow_25 dX3_borrow_28 dX3_borrow_29 dX3_borrow_31 dX3_borrow_34 ⟨by decide, Nat.le_of_ble_eq_true rfl, by decide, by decide⟩
set_option maxHeartbeats 4000000 in
set_option maxRecDepth 100000 in
theorem x5_X3_borrow {l : Launch} (hl : l.stackTraces = false) (g : GG) (σ : Sg) (hI : IC σ) (a s c : Int) (ha : 0 ≤ a ∧ a < σ.1 0) (hc : 0 ≤ c ∧ c < σ.1 0) (hs : 0 ≤ s ∧ s < σ.1 (2 + a.toNat)) (hne : a ≠ c) (hm : ¬ (σ.1 (2 + c.toNat) < 16 ∧ findB σ c.toNat (σ.2 (6 + a.toNat) s) = -1)) : CX l yX3_borrow cX3_borrow 8 (some .int) 7 111 1 6 g [.ref (gd g (0)), vI (a), vI (s), vI (c)] σ pF (pxE "java/lang/IllegalStateException" (σ)) := by
  refine CX_of (own := RX3) hl (by decide) rfl (Nat.le_of_ble_eq_true rfl) (fun mc hC _ hR hE => ?_)
  refine j_lv (lv2 := [(0, .ref (gd g (0))), (1, vI (a)), (2, vI (s)), (3, vI (c))]) rfl ?_
  have hI1 := hI.1
  have ha5 : a.toNat < 5 := by have := hI.1; omega
  have hna := hI.2.2.2.1 a.toNat ha5
  have hc5 : c.toNat < 5 := by have := hI.1; omega
  have hnc := hI.2.2.2.1 c.toNat hc5
  have hk := hI.2.2.2.2.1 a.toNat ha5 s (by omega) (by omega)
  have hm := hI.2.2.2.2.2 a.toNat ha5 s (by omega) (by omega)
  refine j_aload_n hC dX3_borrow_0 0 rfl ?_
  refine j_iload_n hC dX3_borrow_1 1 rfl ?_
  refine j_callV1 (ar := 1) hC hR (c_X3_bookOf (hlJ hC) g σ hI a (by omega)) [] rfl 0 rfl rfl rfl (by decide) (by decide +kernel) rfl wd182 wd184 wp13 wd1 wd185 (by decide) (Nat.le_of_ble_eq_true rfl) dX3_borrow_2 ?_
  refine j_astore hC dX3_borrow_5 [(4, .ref (gd g (4 + a.toNat))), (0, .ref (gd g (0))), (1, vI (a)), (2, vI (s)), (3, vI (c))] (by decide) rfl ?_
  refine j_aload_n hC dX3_borrow_7 1 rfl ?_
  refine j_iload_n hC dX3_borrow_8 4 rfl ?_
  refine j_callV1 (ar := 1) hC hR (c_X3_bookOf (hlJ hC) g σ hI c (by omega)) [] rfl 0 rfl rfl rfl (by decide) (by decide +kernel) rfl wd182 wd184 wp13 wd1 wd185 (by decide) (Nat.le_of_ble_eq_true rfl) dX3_borrow_9 ?_
  refine j_astore hC dX3_borrow_12 [(5, .ref (gd g (4 + c.toNat))), (4, .ref (gd g (4 + a.toNat))), (0, .ref (gd g (0))), (1, vI (a)), (2, vI (s)), (3, vI (c))] (by decide) rfl ?_
  refine j_aload hC dX3_borrow_14 1 rfl ?_
  refine j_iload_n hC dX3_borrow_16 4 rfl ?_
  refine j_callS0 (ar := 2) hC hR (c_X3_checkSign (hlJ hC) g σ hI ha5 s (by omega)) [] rfl (by decide) (by decide +kernel) rfl wd368 wd369 wd1 wd370 (by decide) (Nat.le_of_ble_eq_true rfl) dX3_borrow_17 ?_
  refine j_iload_n hC dX3_borrow_20 3 rfl ?_
  refine j_iload_n hC dX3_borrow_21 5 rfl ?_
  refine j_icmp_ne (tgt := 35) hC dX3_borrow_22 (by decide) (by omega) (fun _ => ?_) (fun h => absurd h (by omega))
  refine j_aload hC dX3_borrow_35 1 rfl ?_
  refine j_getN hC inX0 rfl (4 + a.toNat) (hw_bk g _ ha5) 2 (by decide) wd49 rfl dX3_borrow_37 ?_
  refine j_iload_n hC dX3_borrow_40 4 rfl ?_
  refine j_iald hC (14 + a.toNat) (hw_mn g _ ha5) (by omega) dX3_borrow_41 ?_
  refine j_istore hC dX3_borrow_42 [(6, vI ((σ).2 (6 + a.toNat) s)), (5, .ref (gd g (4 + c.toNat))), (4, .ref (gd g (4 + a.toNat))), (0, .ref (gd g (0))), (1, vI (a)), (2, vI (s)), (3, vI (c))] (by decide) rfl ?_
  refine j_aload hC dX3_borrow_44 1 rfl ?_
  refine j_iload hC dX3_borrow_46 0 rfl ?_
  refine j_callVN1 (ar := 1) hC hR (c_X0_hasRoomFor (hlJ hC) g σ hI hc5 ((σ).2 (6 + a.toNat) s) (by omega)) [] rfl (4 + c.toNat) (hw_bk g _ hc5) rfl rfl (by decide) (by decide +kernel) rfl wd261 wd263 wp16 wd3 wd264 (by decide) (Nat.le_of_ble_eq_true rfl) dX3_borrow_48 ?_
  refine j_ifb_ne (tgt := 64) hC dX3_borrow_51 (by decide) (fun h => absurd h (by omega)) (fun _ => ?_)
  exact j_throw (E := "java/lang/IllegalStateException") (text := "the book has 16 signs, or one for this meaning") hC hR hE (by decide) wd309 wd8 thI1 thI2 thI3 (by decide) dX3_borrow_54 dX3_borrow_57 dX3_borrow_58 dX3_borrow_60 dX3_borrow_63 ⟨by decide, Nat.le_of_ble_eq_true rfl, by decide, by decide⟩
set_option maxHeartbeats 4000000 in
set_option maxRecDepth 100000 in
theorem x6_X3_borrow {l : Launch} (hl : l.stackTraces = false) (g : GG) (σ : Sg) (hI : IC σ) (a s c : Int) (ha : 0 ≤ a ∧ a < σ.1 0) (hc : 0 ≤ c ∧ c < σ.1 0) (hs : 0 ≤ s ∧ s < σ.1 (2 + a.toNat)) (hne : a ≠ c) (hm : σ.1 (2 + c.toNat) < 16 ∧ findB σ c.toNat (σ.2 (6 + a.toNat) s) = -1) (hf : fuB σ c.toNat (σ.2 (1 + a.toNat) s) = -1) : CX l yX3_borrow cX3_borrow 8 (some .int) 7 111 1 6 g [.ref (gd g (0)), vI (a), vI (s), vI (c)] σ pF (pxE "java/lang/IllegalStateException" (σ)) := by
  refine CX_of (own := RX3) hl (by decide) rfl (Nat.le_of_ble_eq_true rfl) (fun mc hC _ hR hE => ?_)
  refine j_lv (lv2 := [(0, .ref (gd g (0))), (1, vI (a)), (2, vI (s)), (3, vI (c))]) rfl ?_
  have hI1 := hI.1
  have ha5 : a.toNat < 5 := by have := hI.1; omega
  have hna := hI.2.2.2.1 a.toNat ha5
  have hc5 : c.toNat < 5 := by have := hI.1; omega
  have hnc := hI.2.2.2.1 c.toNat hc5
  have hk := hI.2.2.2.2.1 a.toNat ha5 s (by omega) (by omega)
  have hm := hI.2.2.2.2.2 a.toNat ha5 s (by omega) (by omega)
  have hfu : fuB σ c.toNat (σ.2 (1 + a.toNat) s) = -1 ∨ (0 ≤ fuB σ c.toNat (σ.2 (1 + a.toNat) s) ∧ fuB σ c.toNat (σ.2 (1 + a.toNat) s) < 2304) := fuF_rg _ _ _ (by omega) 4 0 (by omega)
  refine j_aload_n hC dX3_borrow_0 0 rfl ?_
  refine j_iload_n hC dX3_borrow_1 1 rfl ?_
  refine j_callV1 (ar := 1) hC hR (c_X3_bookOf (hlJ hC) g σ hI a (by omega)) [] rfl 0 rfl rfl rfl (by decide) (by decide +kernel) rfl wd182 wd184 wp13 wd1 wd185 (by decide) (Nat.le_of_ble_eq_true rfl) dX3_borrow_2 ?_
  refine j_astore hC dX3_borrow_5 [(4, .ref (gd g (4 + a.toNat))), (0, .ref (gd g (0))), (1, vI (a)), (2, vI (s)), (3, vI (c))] (by decide) rfl ?_
  refine j_aload_n hC dX3_borrow_7 1 rfl ?_
  refine j_iload_n hC dX3_borrow_8 4 rfl ?_
  refine j_callV1 (ar := 1) hC hR (c_X3_bookOf (hlJ hC) g σ hI c (by omega)) [] rfl 0 rfl rfl rfl (by decide) (by decide +kernel) rfl wd182 wd184 wp13 wd1 wd185 (by decide) (Nat.le_of_ble_eq_true rfl) dX3_borrow_9 ?_
  refine j_astore hC dX3_borrow_12 [(5, .ref (gd g (4 + c.toNat))), (4, .ref (gd g (4 + a.toNat))), (0, .ref (gd g (0))), (1, vI (a)), (2, vI (s)), (3, vI (c))] (by decide) rfl ?_
  refine j_aload hC dX3_borrow_14 1 rfl ?_
  refine j_iload_n hC dX3_borrow_16 4 rfl ?_
  refine j_callS0 (ar := 2) hC hR (c_X3_checkSign (hlJ hC) g σ hI ha5 s (by omega)) [] rfl (by decide) (by decide +kernel) rfl wd368 wd369 wd1 wd370 (by decide) (Nat.le_of_ble_eq_true rfl) dX3_borrow_17 ?_
  refine j_iload_n hC dX3_borrow_20 3 rfl ?_
  refine j_iload_n hC dX3_borrow_21 5 rfl ?_
  refine j_icmp_ne (tgt := 35) hC dX3_borrow_22 (by decide) (by omega) (fun _ => ?_) (fun h => absurd h (by omega))
  refine j_aload hC dX3_borrow_35 1 rfl ?_
  refine j_getN hC inX0 rfl (4 + a.toNat) (hw_bk g _ ha5) 2 (by decide) wd49 rfl dX3_borrow_37 ?_
  refine j_iload_n hC dX3_borrow_40 4 rfl ?_
  refine j_iald hC (14 + a.toNat) (hw_mn g _ ha5) (by omega) dX3_borrow_41 ?_
  refine j_istore hC dX3_borrow_42 [(6, vI ((σ).2 (6 + a.toNat) s)), (5, .ref (gd g (4 + c.toNat))), (4, .ref (gd g (4 + a.toNat))), (0, .ref (gd g (0))), (1, vI (a)), (2, vI (s)), (3, vI (c))] (by decide) rfl ?_
  refine j_aload hC dX3_borrow_44 1 rfl ?_
  refine j_iload hC dX3_borrow_46 0 rfl ?_
  refine j_callVN1 (ar := 1) hC hR (c_X0_hasRoomFor (hlJ hC) g σ hI hc5 ((σ).2 (6 + a.toNat) s) (by omega)) [] rfl (4 + c.toNat) (hw_bk g _ hc5) rfl rfl (by decide) (by decide +kernel) rfl wd261 wd263 wp16 wd3 wd264 (by decide) (Nat.le_of_ble_eq_true rfl) dX3_borrow_48 ?_
  refine j_ifb_ne (tgt := 64) hC dX3_borrow_51 (by decide) (fun _ => ?_) (fun h => (h (by omega)).elim)
  refine j_aload hC dX3_borrow_64 1 rfl ?_
  refine j_aload hC dX3_borrow_66 2 rfl ?_
  refine j_getN hC inX0 rfl (4 + a.toNat) (hw_bk g _ ha5) 1 (by decide) wd47 rfl dX3_borrow_68 ?_
  refine j_iload_n hC dX3_borrow_71 5 rfl ?_
  refine j_iald hC (9 + a.toNat) (hw_lk g _ ha5) (by omega) dX3_borrow_72 ?_
  refine j_callVN1 (ar := 1) hC hR (c_X0_firstUnlike (hlJ hC) g σ hI hc5 ((σ).2 (1 + a.toNat) s) (by omega)) [] rfl (4 + c.toNat) (hw_bk g _ hc5) rfl rfl (by decide) (by decide +kernel) rfl wd269 wd271 wp18 wd3 wd272 (by decide) (Nat.le_of_ble_eq_true rfl) dX3_borrow_73 ?_
  have hf73 : fuB σ c.toNat ((σ).2 (1 + a.toNat) s) = -1 ∨ (0 ≤ fuB σ c.toNat ((σ).2 (1 + a.toNat) s) ∧ fuB σ c.toNat ((σ).2 (1 + a.toNat) s) < 2304) := fuF_rg _ _ _ (by omega) 4 0 (by omega)
  refine j_istore hC dX3_borrow_76 [(7, vI (fuB σ c.toNat ((σ).2 (1 + a.toNat) s))), (6, vI ((σ).2 (6 + a.toNat) s)), (5, .ref (gd g (4 + c.toNat))), (4, .ref (gd g (4 + a.toNat))), (0, .ref (gd g (0))), (1, vI (a)), (2, vI (s)), (3, vI (c))] (by decide) rfl ?_
  refine j_iload hC dX3_borrow_78 0 rfl ?_
  refine j_iconst hC dX3_borrow_80 ?_
  refine j_icmp_ne (tgt := 94) hC dX3_borrow_81 (by decide) (by omega) (fun h => absurd h (by omega)) (fun _ => ?_)
  exact j_throw (E := "java/lang/IllegalStateException") (text := "it would be alike to some sign with each thumb") hC hR hE (by decide) wd309 wd8 thI1 thI2 thI3 (by decide) dX3_borrow_84 dX3_borrow_87 dX3_borrow_88 dX3_borrow_90 dX3_borrow_93 ⟨by decide, Nat.le_of_ble_eq_true rfl, by decide, by decide⟩
end
section
theorem sG_2 (σ : Sg) (a : Nat) (i x : Int) (b : Nat) (j : Int) : (sG σ a i x).2 b j = if b = a then (if j = i then x else σ.2 a j) else σ.2 b j := by
  show (if b = a then (fun j => if j = i then x else σ.2 a j) else σ.2 b) j = _
  split <;> rfl
theorem sR_2 (σ : Sg) (a : Nat) (f : Int → Int) (b : Nat) (j : Int) : (sR σ a f).2 b j = if b = a then f j else σ.2 b j := by
  show (if b = a then f else σ.2 b) j = _
  split <;> rfl
theorem IC_ap {σ : Sg} (hI : IC σ) {b : Nat} (hb : b < 5) {L m : Int} (hn : 0 ≤ σ.1 (2 + b) ∧ σ.1 (2 + b) < 16) (hL : 0 ≤ L ∧ L < 2304) (hm : 0 ≤ m ∧ m < 30) : IC (apB σ b L m) := by
  refine ⟨?_, ?_, ?_, fun c hc => ?_, fun c hc j h0 h1 => ?_, fun c hc j h0 h1 => ?_⟩
  · show 0 ≤ (if 0 = 2 + b then _ else σ.1 0) ∧ (if 0 = 2 + b then _ else σ.1 0) ≤ 4
    rw [if_neg (by omega)]
    exact hI.1
  · show 0 ≤ (if 1 = 2 + b then _ else σ.1 1) ∧ (if 1 = 2 + b then _ else σ.1 1) ≤ 9
    rw [if_neg (by omega)]
    exact hI.2.1
  · intro j h0 h1
    show 0 ≤ (sG (sG σ (1 + b) (σ.1 (2 + b)) L) (6 + b) (σ.1 (2 + b)) m).2 0 j ∧ (sG (sG σ (1 + b) (σ.1 (2 + b)) L) (6 + b) (σ.1 (2 + b)) m).2 0 j < 9
    rw [sG_2, if_neg (by omega), sG_2, if_neg (by omega)]
    exact hI.2.2.1 j h0 h1
  · show 0 ≤ (if 2 + c = 2 + b then σ.1 (2 + b) + 1 else σ.1 (2 + c)) ∧ (if 2 + c = 2 + b then σ.1 (2 + b) + 1 else σ.1 (2 + c)) ≤ 16
    split
    · omega
    · exact hI.2.2.2.1 c hc
  · show 0 ≤ (sG (sG σ (1 + b) (σ.1 (2 + b)) L) (6 + b) (σ.1 (2 + b)) m).2 (1 + c) j ∧ (sG (sG σ (1 + b) (σ.1 (2 + b)) L) (6 + b) (σ.1 (2 + b)) m).2 (1 + c) j < 2304
    rw [sG_2, if_neg (by omega), sG_2]
    split
    · split
      · exact hL
      · exact hI.2.2.2.2.1 b hb j h0 h1
    · exact hI.2.2.2.2.1 c hc j h0 h1
  · show 0 ≤ (sG (sG σ (1 + b) (σ.1 (2 + b)) L) (6 + b) (σ.1 (2 + b)) m).2 (6 + c) j ∧ (sG (sG σ (1 + b) (σ.1 (2 + b)) L) (6 + b) (σ.1 (2 + b)) m).2 (6 + c) j < 30
    rw [sG_2]
    split
    · split
      · exact hm
      · rw [sG_2, if_neg (by omega)]
        exact hI.2.2.2.2.2 b hb j h0 h1
    · rw [sG_2, if_neg (by omega)]
      exact hI.2.2.2.2.2 c hc j h0 h1
theorem IC_cp {σ : Sg} (hI : IC σ) {b e : Nat} (hb : b < 5) (he : e < 5) : IC (cpB σ b e) := by
  refine ⟨?_, ?_, ?_, fun c hc => ?_, fun c hc j h0 h1 => ?_, fun c hc j h0 h1 => ?_⟩
  · show 0 ≤ (if 0 = 2 + b then _ else σ.1 0) ∧ (if 0 = 2 + b then _ else σ.1 0) ≤ 4
    rw [if_neg (by omega)]
    exact hI.1
  · show 0 ≤ (if 1 = 2 + b then _ else σ.1 1) ∧ (if 1 = 2 + b then _ else σ.1 1) ≤ 9
    rw [if_neg (by omega)]
    exact hI.2.1
  · intro j h0 h1
    show 0 ≤ (sR (sR σ (1 + b) _) (6 + b) _).2 0 j ∧ (sR (sR σ (1 + b) _) (6 + b) _).2 0 j < 9
    rw [sR_2, if_neg (by omega), sR_2, if_neg (by omega)]
    exact hI.2.2.1 j h0 h1
  · show 0 ≤ (if 2 + c = 2 + b then σ.1 (2 + e) else σ.1 (2 + c)) ∧ (if 2 + c = 2 + b then σ.1 (2 + e) else σ.1 (2 + c)) ≤ 16
    split
    · exact hI.2.2.2.1 e he
    · exact hI.2.2.2.1 c hc
  · show 0 ≤ (sR (sR σ (1 + b) _) (6 + b) _).2 (1 + c) j ∧ (sR (sR σ (1 + b) _) (6 + b) _).2 (1 + c) j < 2304
    rw [sR_2, if_neg (by omega), sR_2]
    split
    · split
      · exact hI.2.2.2.2.1 e he j h0 h1
      · exact hI.2.2.2.2.1 b hb j h0 h1
    · exact hI.2.2.2.2.1 c hc j h0 h1
  · show 0 ≤ (sR (sR σ (1 + b) _) (6 + b) _).2 (6 + c) j ∧ (sR (sR σ (1 + b) _) (6 + b) _).2 (6 + c) j < 30
    rw [sR_2]
    split
    · split
      · rw [sR_2, if_neg (by omega)]
        exact hI.2.2.2.2.2 e he j h0 h1
      · rw [sR_2, if_neg (by omega)]
        exact hI.2.2.2.2.2 b hb j h0 h1
    · rw [sR_2, if_neg (by omega)]
      exact hI.2.2.2.2.2 c hc j h0 h1
/-- a loan, tried -/
abbrev tlOK (σ : Sg) (b : Nat) (s : Int) (e : Nat) : Prop := (σ.1 (2 + e) < 16 ∧ findB σ e (σ.2 (6 + b) s) = -1) ∧ fuB σ e (σ.2 (1 + b) s) ≠ -1
def tlS (σ : Sg) (b : Nat) (s : Int) (e : Nat) : Sg := apB (cpB σ 4 e) 4 (fuB σ e (σ.2 (1 + b) s)) (σ.2 (6 + b) s)
theorem fuB_rg {σ : Sg} {e : Nat} {L : Int} (hL : 0 ≤ L ∧ L < 2304) : fuB σ e L = -1 ∨ (0 ≤ fuB σ e L ∧ fuB σ e L < 2304) := fuF_rg _ _ _ hL 4 0 (by omega)
theorem IC_tl {σ : Sg} (hI : IC σ) {b e : Nat} (hb : b < 5) (he : e < 5) {s : Int} (hs : 0 ≤ s ∧ s < 16) (ht : tlOK σ b s e) : IC (tlS σ b s e) := by
  have h1 := hI.2.2.2.2.1 b hb s hs.1 hs.2
  have h2 := hI.2.2.2.2.2 b hb s hs.1 hs.2
  have h3 := fuB_rg (σ := σ) (e := e) h1
  have h4 := hI.2.2.2.1 e he
  have h5 := ht.1.1
  have h6 := ht.2
  refine IC_ap (IC_cp hI (by decide) he) (by decide) ?_ (by omega) h2
  show 0 ≤ σ.1 (2 + e) ∧ σ.1 (2 + e) < 16
  omega
theorem tlS_1 {σ : Sg} {b e : Nat} {s : Int} {v : Nat} (hv : v ≠ 6) : (tlS σ b s e).1 v = σ.1 v := by
  show (if v = 2 + 4 then _ else (if v = 2 + 4 then _ else σ.1 v)) = σ.1 v
  rw [if_neg (by omega), if_neg (by omega)]
def bbF (b e : Nat) : Nat → Int → Int → Int → Sg → Int × Sg
  | 0, _, fo, _, τ => (fo, τ)
  | d + 1, z, fo, mo, τ => if tlOK τ b z e then (if mo < cuB (tlS τ b z e) 4 b then bbF b e d (z + 1) z (cuB (tlS τ b z e) 4 b) (tlS τ b z e) else bbF b e d (z + 1) fo mo (tlS τ b z e)) else bbF b e d (z + 1) fo mo τ
def bbB (σ : Sg) (a c : Int) : Int × Sg := if a = c then (-1, σ) else bbF a.toNat c.toNat (cN σ a.toNat) 0 (-1) (-1) σ
theorem bbF_IC {b e : Nat} (hb : b < 4) (he : e < 5) : ∀ (d : Nat) (z fo mo : Int) (τ : Sg), IC τ → 0 ≤ z → z + d = τ.1 (2 + b) → -1 ≤ fo → fo < 16 → IC (bbF b e d z fo mo τ).2 ∧ -1 ≤ (bbF b e d z fo mo τ).1 ∧ (bbF b e d z fo mo τ).1 < 16 ∧ ∀ v : Nat, v ≠ 6 → (bbF b e d z fo mo τ).2.1 v = τ.1 v := by
  intro d
  induction d with
  | zero => intro z fo mo τ hI _ _ h1 h2; exact ⟨hI, h1, h2, fun _ _ => rfl⟩
  | succ d ih =>
    intro z fo mo τ hI h0 hz h1 h2
    have hn := hI.2.2.2.1 b (by omega)
    unfold bbF
    by_cases ht : tlOK τ b z e
    · rw [if_pos ht]
      have hI2 := IC_tl hI (b := b) (by omega) he (s := z) (by omega) ht
      have hz2 : z + 1 + (d : Int) = (tlS τ b z e).1 (2 + b) := by rw [tlS_1 (by omega)]; omega
      split
      · have h := ih (z + 1) z (cuB (tlS τ b z e) 4 b) (tlS τ b z e) hI2 (by omega) hz2 (by omega) (by omega)
        exact ⟨h.1, h.2.1, h.2.2.1, fun v hv => (h.2.2.2 v hv).trans (tlS_1 hv)⟩
      · have h := ih (z + 1) fo mo _ hI2 (by omega) hz2 h1 h2
        exact ⟨h.1, h.2.1, h.2.2.1, fun v hv => (h.2.2.2 v hv).trans (tlS_1 hv)⟩
    · rw [if_neg ht]
      exact ih (z + 1) fo mo τ hI (by omega) (by omega) h1 h2
theorem bbB_IC {σ : Sg} (hI : IC σ) {a c : Int} (ha : 0 ≤ a ∧ a < σ.1 0) (hc : 0 ≤ c ∧ c < σ.1 0) : IC (bbB σ a c).2 ∧ -1 ≤ (bbB σ a c).1 ∧ (bbB σ a c).1 < 16 ∧ ∀ v : Nat, v ≠ 6 → (bbB σ a c).2.1 v = σ.1 v := by
  unfold bbB
  have h4 := hI.1
  split
  · exact ⟨hI, by omega, by omega, fun _ _ => rfl⟩
  · exact bbF_IC (by omega) (by omega) (cN σ a.toNat) 0 (-1) (-1) σ hI (by omega) (by have := cN_eq hI (b := a.toNat) (by omega); omega) (by omega) (by omega)
theorem pO_rg (c : Int → Int → Bool) : ∀ (d : Nat) (z a : Int), d ≤ 16 → a ≤ pO c d z a ∧ pO c d z a ≤ a + 16 * d := by
  intro d
  induction d with
  | zero => intro z a _; exact ⟨Int.le_refl _, by simp [pO]⟩
  | succ d ih =>
    intro z a h
    unfold pO
    have h1 := cnt_rg (c z) d (z + 1) a
    have h2 := ih (z + 1) (cnt (c z) d (z + 1) a) (by omega)
    omega
theorem pOB_rg (c : Int → Int → Bool) {σ : Sg} (hI : IC σ) {b : Nat} (hb : b < 5) : 0 ≤ pO c (cN σ b) 0 0 ∧ pO c (cN σ b) 0 0 ≤ 256 := by
  have h1 := cN_eq hI hb
  have h2 := hI.2.2.2.1 b hb
  have h3 := pO_rg c (cN σ b) 0 0 (by omega)
  omega
theorem faB_rg {σ : Sg} (hI : IC σ) {b : Nat} (hb : b < 5) : 0 ≤ faB σ b ∧ faB σ b ≤ 100 := by
  have h1 := cN_eq hI hb
  have h2 := hI.2.2.2.1 b hb
  unfold faB
  split
  · omega
  · refine nbF_rg _ (-1) (cN σ b) 0 100 (fun y h3 h4 => ?_) (by omega) (by omega)
    exact nbB_rg hI hb y (hI.2.2.2.2.1 b hb y h3 (by omega))
theorem snB_rg {σ : Sg} (hI : IC σ) {b : Nat} (hb : b < 5) : -1 ≤ snB σ b ∧ snB σ b ≤ 16 := by
  have h1 := cN_eq hI hb
  have h2 := hI.2.2.2.1 b hb
  exact amF_rg _ (cN σ b) 0 (-1) (-1) (by omega) (by omega) (by omega) (by omega)
theorem tfB_rg {σ : Sg} (hI : IC σ) {b : Nat} (hb : b < 5) {s : Int} (hs : 0 ≤ s ∧ s < 16) : 0 ≤ tfB σ b s ∧ tfB σ b s ≤ 4 := by
  have h1 := hI.2.2.2.2.1 b hb s hs.1 hs.2
  unfold tfB
  split
  · have : lkB σ b s = σ.2 (1 + b) s := rfl
    omega
  · exact amF_rg _ 4 0 0 (-1) (by omega) (by omega) (by omega) (by omega)
/-- all lodges' sums -/
def ajF (σ : Sg) (p q : Int) : Nat → Int → Int → Int
  | 0, _, a => a
  | d + 1, z, a => ajF σ p q d (z + 1) (a + cajB σ z.toNat p q)
def ajB (σ : Sg) (p q : Int) : Int := ajF σ p q (σ.1 0).toNat 0 0
def msF (σ : Sg) : Nat → Int → Int → Int
  | 0, _, a => a
  | d + 1, z, a => msF σ d (z + 1) (a + σ.1 (2 + z.toNat))
def msB (σ : Sg) : UInt64 := if σ.1 0 = 0 then 0 else FP.ddiv (FP.i2d (iI (msF σ (σ.1 0).toNat 0 0))) (FP.i2d (iI (σ.1 0)))
theorem msF_rg {σ : Sg} (hI : IC σ) : ∀ (d : Nat) (z a : Int), 0 ≤ z → z + d ≤ 4 → a ≤ msF σ d z a ∧ msF σ d z a ≤ a + 16 * d := by
  intro d
  induction d with
  | zero => intro z a _ _; exact ⟨Int.le_refl _, by simp [msF]⟩
  | succ d ih =>
    intro z a h0 h
    have h1 := hI.2.2.2.1 z.toNat (by omega)
    have h2 := ih (z + 1) (a + σ.1 (2 + z.toNat)) (by omega) (by omega)
    unfold msF
    omega
theorem dv_a : ∀ x : Fin 65, ∀ y : Fin 5, y.1 = 0 ∨ (FP.ddiv (FP.i2d (Int32.ofNat x.1)) (FP.i2d (Int32.ofNat y.1))) &&& 0x7fffffffffffffff ≤ 0x7ff0000000000000 := by decide +kernel
theorem dv_ok {x y : Int} (hx : 0 ≤ x ∧ x ≤ 64) (hy : 0 < y ∧ y ≤ 4) : vf_n64 (FP.ddiv (FP.i2d (iI x)) (FP.i2d (iI y))) := by
  obtain ⟨x, rfl⟩ := Int.eq_ofNat_of_zero_le hx.1
  obtain ⟨y, rfl⟩ := Int.eq_ofNat_of_zero_le (show 0 ≤ y by omega)
  rcases dv_a ⟨x, by omega⟩ ⟨y, by omega⟩ with h | h
  · have : y = 0 := h
    omega
  · rw [iI_nat, iI_nat]
    exact h
/-- the checksum -/
def mx (d x : Int) : Int := d * 31 + x
def mbB (σ : Sg) (b : Nat) (d : Int) : Int := mx (mx (mx (mx (mx d (σ.1 (2 + b))) (caB σ b)) (ctB σ b)) (faB σ b)) (snB σ b)
def msgF (σ : Sg) (b : Nat) : Nat → Int → Int → Int
  | 0, _, a => a
  | d + 1, z, a => msgF σ b d (z + 1) (mx (mx (mx (mx (mx a (σ.2 (1 + b) z % 16)) (σ.2 (1 + b) z / 16 % 4)) (σ.2 (1 + b) z / 256)) (σ.2 (6 + b) z)) (tfB σ b z))
def dgI (a : Int) : Nat → Int → Int → Sg → Int × Sg
  | 0, _, D, τ => (D, τ)
  | d + 1, z, D, τ => dgI a d (z + 1) (mx (mx (mx D (cuB τ z.toNat a.toNat)) (cmB τ z.toNat a.toNat)) (bbB τ a z).1) (bbB τ a z).2
def dgO : Nat → Int → Int → Sg → Int × Sg
  | 0, _, D, τ => (D, τ)
  | d + 1, z, D, τ => dgO d (z + 1) (msgF (dgI z (τ.1 0).toNat 0 (mbB τ z.toNat D) τ).2 z.toNat (cN (dgI z (τ.1 0).toNat 0 (mbB τ z.toNat D) τ).2 z.toNat) 0 (dgI z (τ.1 0).toNat 0 (mbB τ z.toNat D) τ).1) (dgI z (τ.1 0).toNat 0 (mbB τ z.toNat D) τ).2
def dgB (σ : Sg) : Int × Sg := dgO (σ.1 0).toNat 0 (mx (mx 2099 (σ.1 0)) (σ.1 1)) σ
theorem dgI_IC {a : Int} : ∀ (d : Nat) (z D : Int) (τ : Sg), IC τ → 0 ≤ a → a < τ.1 0 → 0 ≤ z → z + d = τ.1 0 → IC (dgI a d z D τ).2 ∧ ∀ v : Nat, v ≠ 6 → (dgI a d z D τ).2.1 v = τ.1 v := by
  intro d
  induction d with
  | zero => intro z D τ hI _ _ _ _; exact ⟨hI, fun _ _ => rfl⟩
  | succ d ih =>
    intro z D τ hI h0 h1 h2 h3
    have hb := bbB_IC hI (a := a) (c := z) ⟨h0, h1⟩ (by omega)
    have h00 := hb.2.2.2 0 (by decide)
    have h := ih (z + 1) (mx (mx (mx D (cuB τ z.toNat a.toNat)) (cmB τ z.toNat a.toNat)) (bbB τ a z).1) (bbB τ a z).2 hb.1 h0 (by omega) (by omega) (by omega)
    unfold dgI
    exact ⟨h.1, fun v hv => (h.2 v hv).trans (hb.2.2.2 v hv)⟩
theorem dgO_IC : ∀ (d : Nat) (z D : Int) (τ : Sg), IC τ → 0 ≤ z → z + d = τ.1 0 → IC (dgO d z D τ).2 ∧ ∀ v : Nat, v ≠ 6 → (dgO d z D τ).2.1 v = τ.1 v := by
  intro d
  induction d with
  | zero => intro z D τ hI _ _; exact ⟨hI, fun _ _ => rfl⟩
  | succ d ih =>
    intro z D τ hI h0 h1
    have h2 := hI.1
    have hi := dgI_IC (a := z) (τ.1 0).toNat 0 (mbB τ z.toNat D) τ hI h0 (by omega) (by omega) (by omega)
    have h00 := hi.2 0 (by decide)
    unfold dgO
    have h := ih (z + 1) (msgF (dgI z (τ.1 0).toNat 0 (mbB τ z.toNat D) τ).2 z.toNat (cN (dgI z (τ.1 0).toNat 0 (mbB τ z.toNat D) τ).2 z.toNat) 0 (dgI z (τ.1 0).toNat 0 (mbB τ z.toNat D) τ).1) _ hi.1 (by omega) (by omega)
    exact ⟨h.1, fun v hv => (h.2 v hv).trans (hi.2 v hv)⟩
end
section
set_option maxHeartbeats 4000000 in
set_option maxRecDepth 100000 in
theorem c_X3_tryLoan_ok {l : Launch} (hl : l.stackTraces = false) (g : GG) (σ : Sg) (hI : IC σ) {b : Nat} (hb : b < 5) {e : Nat} (he : e < 5) (s : Int) (hs : 0 ≤ s ∧ s < σ.1 (2 + b)) (ht : tlOK σ b s e) : CN l yX3_tryLoan cX3_tryLoan 6 (some .boolean) 4 90 0 0 g [.ref (gd g (0)), .ref (gd g (4 + b)), vI (s), .ref (gd g (4 + e))] σ (pt (some (vI 1)) (tlS σ b s e)) := by
  refine CN_of (own := RX3) hl (by decide) rfl (Nat.le_of_ble_eq_true rfl) (fun mc hC _ hR => ?_)
  refine j_lv (lv2 := [(0, .ref (gd g (0))), (1, .ref (gd g (4 + b))), (2, vI (s)), (3, .ref (gd g (4 + e)))]) rfl ?_
  have hn := hI.2.2.2.1 b hb
  have hne := hI.2.2.2.1 e he
  have hk := hI.2.2.2.2.1 b hb s (by omega) (by omega)
  have hm := hI.2.2.2.2.2 b hb s (by omega) (by omega)
  have hfu := fuB_rg (σ := σ) (e := e) hk
  have ht1 := ht.1
  have ht2 := ht.2
  refine j_aload_n hC dX3_tryLoan_0 1 rfl ?_
  refine j_getN hC inX0 rfl (4 + b) (hw_bk g _ hb) 2 (by decide) wd49 rfl dX3_tryLoan_1 ?_
  refine j_iload_n hC dX3_tryLoan_4 2 rfl ?_
  refine j_iald hC (14 + b) (hw_mn g _ hb) (by omega) dX3_tryLoan_5 ?_
  refine j_istore hC dX3_tryLoan_6 [(4, vI ((σ).2 (6 + b) s)), (0, .ref (gd g (0))), (1, .ref (gd g (4 + b))), (2, vI (s)), (3, .ref (gd g (4 + e)))] (by decide) rfl ?_
  refine j_aload_n hC dX3_tryLoan_8 4 rfl ?_
  refine j_iload hC dX3_tryLoan_9 0 rfl ?_
  refine j_callVN1 (ar := 1) hC hR (c_X0_hasRoomFor (hlJ hC) g σ hI he ((σ).2 (6 + b) s) (by omega)) [] rfl (4 + e) (hw_bk g _ he) rfl rfl (by decide) (by decide +kernel) rfl wd261 wd263 wp16 wd3 wd264 (by decide) (Nat.le_of_ble_eq_true rfl) dX3_tryLoan_11 ?_
  refine j_ifb_ne (tgt := 19) hC dX3_tryLoan_14 (by decide) (fun _ => ?_) (fun h => (h (by omega)).elim)
  refine j_aload_n hC dX3_tryLoan_19 4 rfl ?_
  refine j_aload_n hC dX3_tryLoan_20 2 rfl ?_
  refine j_getN hC inX0 rfl (4 + b) (hw_bk g _ hb) 1 (by decide) wd47 rfl dX3_tryLoan_21 ?_
  refine j_iload_n hC dX3_tryLoan_24 3 rfl ?_
  refine j_iald hC (9 + b) (hw_lk g _ hb) (by omega) dX3_tryLoan_25 ?_
  refine j_callVN1 (ar := 1) hC hR (c_X0_firstUnlike (hlJ hC) g σ hI he ((σ).2 (1 + b) s) (by omega)) [] rfl (4 + e) (hw_bk g _ he) rfl rfl (by decide) (by decide +kernel) rfl wd269 wd271 wp18 wd3 wd272 (by decide) (Nat.le_of_ble_eq_true rfl) dX3_tryLoan_26 ?_
  have hf26 : fuB σ e ((σ).2 (1 + b) s) = -1 ∨ (0 ≤ fuB σ e ((σ).2 (1 + b) s) ∧ fuB σ e ((σ).2 (1 + b) s) < 2304) := fuF_rg _ _ _ (by omega) 4 0 (by omega)
  refine j_istore hC dX3_tryLoan_29 [(5, vI (fuB σ e ((σ).2 (1 + b) s))), (4, vI ((σ).2 (6 + b) s)), (0, .ref (gd g (0))), (1, .ref (gd g (4 + b))), (2, vI (s)), (3, .ref (gd g (4 + e)))] (by decide) rfl ?_
  refine j_iload hC dX3_tryLoan_31 0 rfl ?_
  refine j_iconst hC dX3_tryLoan_33 ?_
  refine j_icmp_ne (tgt := 39) hC dX3_tryLoan_34 (by decide) (by omega) (fun _ => ?_) (fun h => absurd h (by omega))
  refine j_aload_n hC dX3_tryLoan_39 2 rfl ?_
  refine j_get hC inX3 rfl 0 rfl 2 (by decide) wd63 rfl dX3_tryLoan_40 ?_
  refine j_aload_n hC dX3_tryLoan_43 5 rfl ?_
  refine j_callVN0 (ar := 1) hC hR (c_X0_copyFrom (hlJ hC) g σ hI (show 4 < 5 by decide) he) [] rfl 8 rfl rfl rfl (by decide) (by decide +kernel) rfl wd280 wd282 wp20 wd3 wd283 (by decide) (Nat.le_of_ble_eq_true rfl) dX3_tryLoan_44 ?_
  refine j_aload_n hC dX3_tryLoan_47 2 rfl ?_
  refine j_get hC inX3 rfl 0 rfl 2 (by decide) wd63 rfl dX3_tryLoan_48 ?_
  refine j_iload hC dX3_tryLoan_51 0 rfl ?_
  refine j_iload hC dX3_tryLoan_53 1 rfl ?_
  refine j_callVN1 (ar := 2) hC hR (c_X0_append (hlJ hC) g (cpB σ 4 e) (by decide : 4 < 5) (fuB σ e ((σ).2 (1 + b) s)) ((σ).2 (6 + b) s) (by show 0 ≤ σ.1 (2 + e) ∧ σ.1 (2 + e) < 16; omega)) [] rfl 8 rfl rfl rfl (by decide) (by decide +kernel) rfl wd287 wd289 wp21 wd3 wd290 (by decide) (Nat.le_of_ble_eq_true rfl) dX3_tryLoan_55 ?_
  refine j_pop hC dX3_tryLoan_58 rfl ?_
  refine j_iconst hC dX3_tryLoan_59 ?_
  exact j_zret hC (by decide) dX3_tryLoan_60 ⟨rfl, rfl⟩
set_option maxHeartbeats 4000000 in
set_option maxRecDepth 100000 in
theorem c_X3_tryLoan_no {l : Launch} (hl : l.stackTraces = false) (g : GG) (σ : Sg) (hI : IC σ) {b : Nat} (hb : b < 5) {e : Nat} (he : e < 5) (s : Int) (hs : 0 ≤ s ∧ s < σ.1 (2 + b)) (ht : ¬ tlOK σ b s e) : CN l yX3_tryLoan cX3_tryLoan 6 (some .boolean) 4 90 0 0 g [.ref (gd g (0)), .ref (gd g (4 + b)), vI (s), .ref (gd g (4 + e))] σ (pt (some (vI 0)) (σ)) := by
  refine CN_of (own := RX3) hl (by decide) rfl (Nat.le_of_ble_eq_true rfl) (fun mc hC _ hR => ?_)
  refine j_lv (lv2 := [(0, .ref (gd g (0))), (1, .ref (gd g (4 + b))), (2, vI (s)), (3, .ref (gd g (4 + e)))]) rfl ?_
  have hn := hI.2.2.2.1 b hb
  have hne := hI.2.2.2.1 e he
  have hk := hI.2.2.2.2.1 b hb s (by omega) (by omega)
  have hm := hI.2.2.2.2.2 b hb s (by omega) (by omega)
  have hfu := fuB_rg (σ := σ) (e := e) hk
  refine j_aload_n hC dX3_tryLoan_0 1 rfl ?_
  refine j_getN hC inX0 rfl (4 + b) (hw_bk g _ hb) 2 (by decide) wd49 rfl dX3_tryLoan_1 ?_
  refine j_iload_n hC dX3_tryLoan_4 2 rfl ?_
  refine j_iald hC (14 + b) (hw_mn g _ hb) (by omega) dX3_tryLoan_5 ?_
  refine j_istore hC dX3_tryLoan_6 [(4, vI ((σ).2 (6 + b) s)), (0, .ref (gd g (0))), (1, .ref (gd g (4 + b))), (2, vI (s)), (3, .ref (gd g (4 + e)))] (by decide) rfl ?_
  refine j_aload_n hC dX3_tryLoan_8 4 rfl ?_
  refine j_iload hC dX3_tryLoan_9 0 rfl ?_
  refine j_callVN1 (ar := 1) hC hR (c_X0_hasRoomFor (hlJ hC) g σ hI he ((σ).2 (6 + b) s) (by omega)) [] rfl (4 + e) (hw_bk g _ he) rfl rfl (by decide) (by decide +kernel) rfl wd261 wd263 wp16 wd3 wd264 (by decide) (Nat.le_of_ble_eq_true rfl) dX3_tryLoan_11 ?_
  refine j_ifb_ne (tgt := 19) hC dX3_tryLoan_14 (by decide) (fun h14 => ?_) (fun h14 => ?_)
  · refine j_aload_n hC dX3_tryLoan_19 4 rfl ?_
    refine j_aload_n hC dX3_tryLoan_20 2 rfl ?_
    refine j_getN hC inX0 rfl (4 + b) (hw_bk g _ hb) 1 (by decide) wd47 rfl dX3_tryLoan_21 ?_
    refine j_iload_n hC dX3_tryLoan_24 3 rfl ?_
    refine j_iald hC (9 + b) (hw_lk g _ hb) (by omega) dX3_tryLoan_25 ?_
    refine j_callVN1 (ar := 1) hC hR (c_X0_firstUnlike (hlJ hC) g σ hI he ((σ).2 (1 + b) s) (by omega)) [] rfl (4 + e) (hw_bk g _ he) rfl rfl (by decide) (by decide +kernel) rfl wd269 wd271 wp18 wd3 wd272 (by decide) (Nat.le_of_ble_eq_true rfl) dX3_tryLoan_26 ?_
    have hf26 : fuB σ e ((σ).2 (1 + b) s) = -1 ∨ (0 ≤ fuB σ e ((σ).2 (1 + b) s) ∧ fuB σ e ((σ).2 (1 + b) s) < 2304) := fuF_rg _ _ _ (by omega) 4 0 (by omega)
    refine j_istore hC dX3_tryLoan_29 [(5, vI (fuB σ e ((σ).2 (1 + b) s))), (4, vI ((σ).2 (6 + b) s)), (0, .ref (gd g (0))), (1, .ref (gd g (4 + b))), (2, vI (s)), (3, .ref (gd g (4 + e)))] (by decide) rfl ?_
    refine j_iload hC dX3_tryLoan_31 0 rfl ?_
    refine j_iconst hC dX3_tryLoan_33 ?_
    refine j_icmp_ne (tgt := 39) hC dX3_tryLoan_34 (by decide) (by omega) (fun h34 => ?_) (fun h34 => ?_)
    · exact (ht ⟨h14, h34⟩).elim
    · refine j_iconst hC dX3_tryLoan_37 ?_
      exact j_zret hC (by decide) dX3_tryLoan_38 ⟨rfl, rfl⟩
  · refine j_iconst hC dX3_tryLoan_17 ?_
    exact j_zret hC (by decide) dX3_tryLoan_18 ⟨rfl, rfl⟩
set_option maxHeartbeats 4000000 in
set_option maxRecDepth 100000 in
theorem lp_bestToBorrow {mc : MC} {g : GG} (hC : Cx mc g cX3_bestToBorrow RX3 9 (some .int)) (hR : mR mc = rmJ 7 119 0 0) (a c : Int) {b : Nat} (hb : b < 5) (hb4 : b < 4) {e : Nat} (he : e < 5) : ∀ (d : Nat) (τ : Sg) (z : Int) (fo : Int) (mo : Int), (IC τ) → (0 ≤ z) → (z + (d : Int) = τ.1 (2 + b)) → (-1 ≤ mo ∧ mo ≤ 16) → J mc g 0 0 (QN mc g (pt (some (vI (bbF b e d z fo mo τ).1)) ((bbF b e d z fo mo τ).2)) 0 0) 29 [(7, vI (z)), (5, vI (fo)), (6, vI (mo)), (0, .ref (gd g (0))), (1, vI (a)), (2, vI (c)), (3, .ref (gd g (4 + b))), (4, .ref (gd g (4 + e)))] [] τ := by
  intro d
  induction d with
  | zero =>
    intro τ z fo mo hI h0 hz hm
    have hn := hI.2.2.2.1 b hb
    refine j_iload hC dX3_bestToBorrow_29 0 rfl ?_
    refine j_aload_n hC dX3_bestToBorrow_31 6 rfl ?_
    refine j_getN hC inX0 rfl (4 + b) (hw_bk g _ hb) 3 (by decide) wd51 rfl dX3_bestToBorrow_32 ?_
    refine j_icmp_ge (tgt := 81) hC dX3_bestToBorrow_35 (by decide) (by omega) (fun _ => ?_) (fun h => absurd h (by omega))
    refine j_iload hC dX3_bestToBorrow_81 1 rfl ?_
    exact j_iret hC dX3_bestToBorrow_83 ⟨rfl, rfl⟩
  | succ d ih =>
    intro τ z fo mo hI h0 hz hm
    have hn := hI.2.2.2.1 b hb
    rw [show bbF b e (d + 1) z fo mo τ = if tlOK τ b z e then (if mo < cuB (tlS τ b z e) 4 b then bbF b e d (z + 1) z (cuB (tlS τ b z e) 4 b) (tlS τ b z e) else bbF b e d (z + 1) fo mo (tlS τ b z e)) else bbF b e d (z + 1) fo mo τ from rfl]
    refine j_iload hC dX3_bestToBorrow_29 0 rfl ?_
    refine j_aload_n hC dX3_bestToBorrow_31 6 rfl ?_
    refine j_getN hC inX0 rfl (4 + b) (hw_bk g _ hb) 3 (by decide) wd51 rfl dX3_bestToBorrow_32 ?_
    refine j_icmp_ge (tgt := 81) hC dX3_bestToBorrow_35 (by decide) (by omega) (fun h => absurd h (by omega)) (fun _ => ?_)
    by_cases htl : tlOK τ b z e
    · rw [if_pos htl]
      have hI2 := IC_tl hI (b := b) (by omega) he (s := z) (by omega) htl
      have hf55 : 0 ≤ cuB (tlS τ b z e) 4 b ∧ cuB (tlS τ b z e) 4 b ≤ 16 := cnt0_rg _ hI2 hb
      have hz2 : z + 1 + (d : Int) = (tlS τ b z e).1 (2 + b) := by rw [tlS_1 (by omega)]; omega
      refine j_aload_n hC dX3_bestToBorrow_38 3 rfl ?_
      refine j_aload_n hC dX3_bestToBorrow_39 6 rfl ?_
      refine j_iload hC dX3_bestToBorrow_40 0 rfl ?_
      refine j_aload hC dX3_bestToBorrow_42 7 rfl ?_
      refine j_callV1 (ar := 3) hC hR (c_X3_tryLoan_ok (hlJ hC) g τ hI hb he z (by omega) htl) [] rfl 0 rfl rfl rfl (by decide) (by decide +kernel) rfl wd257 wd259 wp15 wd1 wd260 (by decide) (Nat.le_of_ble_eq_true rfl) dX3_bestToBorrow_44 ?_
      refine j_if_eq (tgt := 75) hC dX3_bestToBorrow_47 (by decide) (by omega) (fun h => absurd h (by omega)) (fun _ => ?_)
      refine j_aload_n hC dX3_bestToBorrow_50 3 rfl ?_
      refine j_get hC inX3 rfl 0 rfl 2 (by decide) wd63 rfl dX3_bestToBorrow_51 ?_
      refine j_aload_n hC dX3_bestToBorrow_54 6 rfl ?_
      refine j_callVN1 (ar := 1) hC hR (c_X0_countUnderstood (hlJ hC) g (tlS τ b z e) hI2 (by decide : 4 < 5) hb) [] rfl 8 rfl rfl rfl (by decide) (by decide +kernel) rfl wd166 wd168 wp10 wd3 wd169 (by decide) (Nat.le_of_ble_eq_true rfl) dX3_bestToBorrow_55 ?_
      refine j_istore hC dX3_bestToBorrow_58 [(8, vI (cuB (tlS τ b z e) 4 b)), (7, vI (z)), (5, vI (fo)), (6, vI (mo)), (0, .ref (gd g (0))), (1, vI (a)), (2, vI (c)), (3, .ref (gd g (4 + b))), (4, .ref (gd g (4 + e)))] (by decide) rfl ?_
      refine j_iload hC dX3_bestToBorrow_60 0 rfl ?_
      refine j_iload hC dX3_bestToBorrow_62 3 rfl ?_
      refine j_icmp_le (tgt := 75) hC dX3_bestToBorrow_64 (by decide) (by omega) (fun h64 => ?_) (fun h64 => ?_)
      · refine j_iinc hC dX3_bestToBorrow_75 1 [(7, vI (z + 1)), (8, vI (cuB (tlS τ b z e) 4 b)), (5, vI (fo)), (6, vI (mo)), (0, .ref (gd g (0))), (1, vI (a)), (2, vI (c)), (3, .ref (gd g (4 + b))), (4, .ref (gd g (4 + e)))] rfl (by decide) rfl ?_
        refine j_goto (tgt := 29) hC dX3_bestToBorrow_78 (by decide) ?_
        refine j_sub [0, 2, 3, 4, 5, 6, 7, 8] rfl ?_
        first | (rw [if_pos h64]; exact ih (tlS τ b z e) (z + 1) z _ hI2 (by omega) hz2 (by omega)) | (rw [if_neg (show ¬ mo < cuB (tlS τ b z e) 4 b by omega)]; exact ih (tlS τ b z e) (z + 1) fo mo hI2 (by omega) hz2 hm)
      · refine j_iload hC dX3_bestToBorrow_67 0 rfl ?_
        refine j_istore hC dX3_bestToBorrow_69 [(6, vI (cuB (tlS τ b z e) 4 b)), (8, vI (cuB (tlS τ b z e) 4 b)), (7, vI (z)), (5, vI (fo)), (0, .ref (gd g (0))), (1, vI (a)), (2, vI (c)), (3, .ref (gd g (4 + b))), (4, .ref (gd g (4 + e)))] (by decide) rfl ?_
        refine j_iload hC dX3_bestToBorrow_71 2 rfl ?_
        refine j_istore hC dX3_bestToBorrow_73 [(5, vI (z)), (6, vI (cuB (tlS τ b z e) 4 b)), (8, vI (cuB (tlS τ b z e) 4 b)), (7, vI (z)), (0, .ref (gd g (0))), (1, vI (a)), (2, vI (c)), (3, .ref (gd g (4 + b))), (4, .ref (gd g (4 + e)))] (by decide) rfl ?_
        refine j_iinc hC dX3_bestToBorrow_75 3 [(7, vI (z + 1)), (5, vI (z)), (6, vI (cuB (tlS τ b z e) 4 b)), (8, vI (cuB (tlS τ b z e) 4 b)), (0, .ref (gd g (0))), (1, vI (a)), (2, vI (c)), (3, .ref (gd g (4 + b))), (4, .ref (gd g (4 + e)))] rfl (by decide) rfl ?_
        refine j_goto (tgt := 29) hC dX3_bestToBorrow_78 (by decide) ?_
        refine j_sub [0, 1, 2, 4, 5, 6, 7, 8] rfl ?_
        first | (rw [if_pos h64]; exact ih (tlS τ b z e) (z + 1) z _ hI2 (by omega) hz2 (by omega)) | (rw [if_neg (show ¬ mo < cuB (tlS τ b z e) 4 b by omega)]; exact ih (tlS τ b z e) (z + 1) fo mo hI2 (by omega) hz2 hm)
    · rw [if_neg htl]
      refine j_aload_n hC dX3_bestToBorrow_38 3 rfl ?_
      refine j_aload_n hC dX3_bestToBorrow_39 6 rfl ?_
      refine j_iload hC dX3_bestToBorrow_40 0 rfl ?_
      refine j_aload hC dX3_bestToBorrow_42 7 rfl ?_
      refine j_callV1 (ar := 3) hC hR (c_X3_tryLoan_no (hlJ hC) g τ hI hb he z (by omega) htl) [] rfl 0 rfl rfl rfl (by decide) (by decide +kernel) rfl wd257 wd259 wp15 wd1 wd260 (by decide) (Nat.le_of_ble_eq_true rfl) dX3_bestToBorrow_44 ?_
      refine j_if_eq (tgt := 75) hC dX3_bestToBorrow_47 (by decide) (by omega) (fun _ => ?_) (fun h => absurd h (by omega))
      refine j_iinc hC dX3_bestToBorrow_75 0 [(7, vI (z + 1)), (5, vI (fo)), (6, vI (mo)), (0, .ref (gd g (0))), (1, vI (a)), (2, vI (c)), (3, .ref (gd g (4 + b))), (4, .ref (gd g (4 + e)))] rfl (by decide) rfl ?_
      refine j_goto (tgt := 29) hC dX3_bestToBorrow_78 (by decide) ?_
      refine j_sub [0, 1, 2, 3, 4, 5, 6, 7] rfl ?_
      exact ih τ (z + 1) fo mo hI (by omega) (by omega) hm
set_option maxHeartbeats 4000000 in
set_option maxRecDepth 100000 in
theorem c_X3_bestToBorrow {l : Launch} (hl : l.stackTraces = false) (g : GG) (σ : Sg) (hI : IC σ) (a c : Int) (ha : 0 ≤ a ∧ a < σ.1 0) (hc : 0 ≤ c ∧ c < σ.1 0) : CN l yX3_bestToBorrow cX3_bestToBorrow 9 (some .int) 7 119 0 0 g [.ref (gd g (0)), vI (a), vI (c)] σ (pt (some (vI (bbB σ a c).1)) ((bbB σ a c).2)) := by
  refine CN_of (own := RX3) hl (by decide) rfl (Nat.le_of_ble_eq_true rfl) (fun mc hC _ hR => ?_)
  refine j_lv (lv2 := [(0, .ref (gd g (0))), (1, vI (a)), (2, vI (c))]) rfl ?_
  have hI1 := hI.1
  have ha5 : a.toNat < 5 := by have := hI.1; omega
  have hna := hI.2.2.2.1 a.toNat ha5
  have hc5 : c.toNat < 5 := by have := hI.1; omega
  have hnc := hI.2.2.2.1 c.toNat hc5
  have hn2 := cN_eq hI ha5
  refine j_aload_n hC dX3_bestToBorrow_0 0 rfl ?_
  refine j_iload_n hC dX3_bestToBorrow_1 1 rfl ?_
  refine j_callV1 (ar := 1) hC hR (c_X3_bookOf (hlJ hC) g σ hI a (by omega)) [] rfl 0 rfl rfl rfl (by decide) (by decide +kernel) rfl wd182 wd184 wp13 wd1 wd185 (by decide) (Nat.le_of_ble_eq_true rfl) dX3_bestToBorrow_2 ?_
  refine j_astore_n hC dX3_bestToBorrow_5 [(3, .ref (gd g (4 + a.toNat))), (0, .ref (gd g (0))), (1, vI (a)), (2, vI (c))] (by decide) rfl ?_
  refine j_aload_n hC dX3_bestToBorrow_6 1 rfl ?_
  refine j_iload_n hC dX3_bestToBorrow_7 3 rfl ?_
  refine j_callV1 (ar := 1) hC hR (c_X3_bookOf (hlJ hC) g σ hI c (by omega)) [] rfl 0 rfl rfl rfl (by decide) (by decide +kernel) rfl wd182 wd184 wp13 wd1 wd185 (by decide) (Nat.le_of_ble_eq_true rfl) dX3_bestToBorrow_8 ?_
  refine j_astore hC dX3_bestToBorrow_11 [(4, .ref (gd g (4 + c.toNat))), (3, .ref (gd g (4 + a.toNat))), (0, .ref (gd g (0))), (1, vI (a)), (2, vI (c))] (by decide) rfl ?_
  refine j_iload_n hC dX3_bestToBorrow_13 3 rfl ?_
  refine j_iload_n hC dX3_bestToBorrow_14 4 rfl ?_
  refine j_icmp_ne (tgt := 20) hC dX3_bestToBorrow_15 (by decide) (by omega) (fun h15 => ?_) (fun h15 => ?_)
  · refine j_iconst hC dX3_bestToBorrow_20 ?_
    refine j_istore hC dX3_bestToBorrow_21 [(5, vI (-1)), (4, .ref (gd g (4 + c.toNat))), (3, .ref (gd g (4 + a.toNat))), (0, .ref (gd g (0))), (1, vI (a)), (2, vI (c))] (by decide) rfl ?_
    refine j_iconst hC dX3_bestToBorrow_23 ?_
    refine j_istore hC dX3_bestToBorrow_24 [(6, vI (-1)), (5, vI (-1)), (4, .ref (gd g (4 + c.toNat))), (3, .ref (gd g (4 + a.toNat))), (0, .ref (gd g (0))), (1, vI (a)), (2, vI (c))] (by decide) rfl ?_
    refine j_iconst hC dX3_bestToBorrow_26 ?_
    refine j_istore hC dX3_bestToBorrow_27 [(7, vI (0)), (6, vI (-1)), (5, vI (-1)), (4, .ref (gd g (4 + c.toNat))), (3, .ref (gd g (4 + a.toNat))), (0, .ref (gd g (0))), (1, vI (a)), (2, vI (c))] (by decide) rfl ?_
    refine j_sub [0, 2, 1, 5, 6, 7, 4, 3] rfl ?_
    rw [show bbB σ a c = bbF a.toNat c.toNat (cN σ a.toNat) 0 (-1) (-1) σ from if_neg h15]
    exact lp_bestToBorrow hC hR a c ha5 (by omega) hc5 (cN σ a.toNat) σ 0 (-1) (-1) hI (by omega) (by omega) (by omega)
  · refine j_iconst hC dX3_bestToBorrow_18 ?_
    exact j_iret hC dX3_bestToBorrow_19 ⟨by unfold bbB; rw [if_pos h15], by unfold bbB; rw [if_pos h15]⟩
set_option maxHeartbeats 4000000 in
set_option maxRecDepth 100000 in
theorem x1_X3_bestToBorrow {l : Launch} (hl : l.stackTraces = false) (g : GG) (σ : Sg) (hI : IC σ) (a c : Int) (hr : -2147483648 ≤ a ∧ a < 2147483648) (ha : ¬ (0 ≤ a ∧ a < σ.1 0)) : CX l yX3_bestToBorrow cX3_bestToBorrow 9 (some .int) 7 119 1 6 g [.ref (gd g (0)), vI (a), vI (c)] σ pF (pxE "java/lang/IndexOutOfBoundsException" (σ)) := by
  refine CX_of (own := RX3) hl (by decide) rfl (Nat.le_of_ble_eq_true rfl) (fun mc hC _ hR hE => ?_)
  refine j_lv (lv2 := [(0, .ref (gd g (0))), (1, vI (a)), (2, vI (c))]) rfl ?_
  have hI1 := hI.1
  refine j_aload_n hC dX3_bestToBorrow_0 0 rfl ?_
  refine j_iload_n hC dX3_bestToBorrow_1 1 rfl ?_
  refine j_callVT (ar := 1) hC hR (x_X3_bookOf (hlJ hC) g σ hI a (by omega) (by omega)) [] rfl 0 rfl rfl rfl (by decide) (by decide +kernel) rfl wd182 wd184 wp13 wd1 wd185 (by decide) (Nat.le_of_ble_eq_true rfl) dX3_bestToBorrow_2 hE
set_option maxHeartbeats 4000000 in
set_option maxRecDepth 100000 in
theorem x2_X3_bestToBorrow {l : Launch} (hl : l.stackTraces = false) (g : GG) (σ : Sg) (hI : IC σ) (a c : Int) (hr : -2147483648 ≤ c ∧ c < 2147483648) (ha : 0 ≤ a ∧ a < σ.1 0) (hc : ¬ (0 ≤ c ∧ c < σ.1 0)) : CX l yX3_bestToBorrow cX3_bestToBorrow 9 (some .int) 7 119 1 6 g [.ref (gd g (0)), vI (a), vI (c)] σ pF (pxE "java/lang/IndexOutOfBoundsException" (σ)) := by
  refine CX_of (own := RX3) hl (by decide) rfl (Nat.le_of_ble_eq_true rfl) (fun mc hC _ hR hE => ?_)
  refine j_lv (lv2 := [(0, .ref (gd g (0))), (1, vI (a)), (2, vI (c))]) rfl ?_
  have hI1 := hI.1
  have ha5 : a.toNat < 5 := by have := hI.1; omega
  have hna := hI.2.2.2.1 a.toNat ha5
  refine j_aload_n hC dX3_bestToBorrow_0 0 rfl ?_
  refine j_iload_n hC dX3_bestToBorrow_1 1 rfl ?_
  refine j_callV1 (ar := 1) hC hR (c_X3_bookOf (hlJ hC) g σ hI a (by omega)) [] rfl 0 rfl rfl rfl (by decide) (by decide +kernel) rfl wd182 wd184 wp13 wd1 wd185 (by decide) (Nat.le_of_ble_eq_true rfl) dX3_bestToBorrow_2 ?_
  refine j_astore_n hC dX3_bestToBorrow_5 [(3, .ref (gd g (4 + a.toNat))), (0, .ref (gd g (0))), (1, vI (a)), (2, vI (c))] (by decide) rfl ?_
  refine j_aload_n hC dX3_bestToBorrow_6 1 rfl ?_
  refine j_iload_n hC dX3_bestToBorrow_7 3 rfl ?_
  refine j_callVT (ar := 1) hC hR (x_X3_bookOf (hlJ hC) g σ hI c (by omega) (by omega)) [] rfl 0 rfl rfl rfl (by decide) (by decide +kernel) rfl wd182 wd184 wp13 wd1 wd185 (by decide) (Nat.le_of_ble_eq_true rfl) dX3_bestToBorrow_8 hE
set_option maxHeartbeats 4000000 in
set_option maxRecDepth 100000 in
theorem lp_alikeIfJoined {mc : MC} {g : GG} {σ : Sg} (hC : Cx mc g cX3_alikeIfJoined RX3 5 (some .int)) (hR : mR mc = rmJ 7 110 0 0) (hI : IC σ) (p q : Int) (hp : 0 ≤ p ∧ p < 9 ∧ 0 ≤ q ∧ q < 9) : ∀ (d : Nat) (z : Int) (a : Int), (0 ≤ z) → (z + (d : Int) = σ.1 0) → J mc g 0 0 (QN mc g (pt (some (vI (ajF σ p q d z a))) (σ)) 0 0) 13 [(4, vI (z)), (3, vI (a)), (0, .ref (gd g (0))), (1, vI (p)), (2, vI (q))] [] σ := by
  intro d
  induction d with
  | zero =>
    intro z a h0 hz
    have hI1 := hI.1
    refine j_iload hC dX3_alikeIfJoined_13 0 rfl ?_
    refine j_aload_n hC dX3_alikeIfJoined_15 2 rfl ?_
    refine j_get hC inX3 rfl 0 rfl 3 (by decide) wd64 rfl dX3_alikeIfJoined_16 ?_
    refine j_icmp_ge (tgt := 43) hC dX3_alikeIfJoined_19 (by decide) (by omega) (fun _ => ?_) (fun h => absurd h (by omega))
    refine j_iload_n hC dX3_alikeIfJoined_43 1 rfl ?_
    exact j_iret hC dX3_alikeIfJoined_44 ⟨rfl, rfl⟩
  | succ d ih =>
    intro z a h0 hz
    have hI1 := hI.1
    have hz5 : z.toNat < 5 := by omega
    rw [show ajF σ p q (d + 1) z a = ajF σ p q d (z + 1) (a + cajB σ z.toNat p q) from rfl]
    refine j_iload hC dX3_alikeIfJoined_13 0 rfl ?_
    refine j_aload_n hC dX3_alikeIfJoined_15 2 rfl ?_
    refine j_get hC inX3 rfl 0 rfl 3 (by decide) wd64 rfl dX3_alikeIfJoined_16 ?_
    refine j_icmp_ge (tgt := 43) hC dX3_alikeIfJoined_19 (by decide) (by omega) (fun h => absurd h (by omega)) (fun _ => ?_)
    refine j_iload_n hC dX3_alikeIfJoined_22 1 rfl ?_
    refine j_aload_n hC dX3_alikeIfJoined_23 2 rfl ?_
    refine j_get hC inX3 rfl 0 rfl 1 (by decide) wd62 rfl dX3_alikeIfJoined_24 ?_
    refine j_iload hC dX3_alikeIfJoined_27 0 rfl ?_
    refine j_aald hC (by omega) dX3_alikeIfJoined_29 ?_
    refine j_iload_n hC dX3_alikeIfJoined_30 3 rfl ?_
    refine j_iload_n hC dX3_alikeIfJoined_31 4 rfl ?_
    refine j_callVN1 (ar := 2) hC hR (c_X0_countAlikeIfJoined (hlJ hC) g σ hI hz5 p q (by omega)) [vI (a)] rfl (4 + z.toNat) (hw_bk g _ hz5) rfl rfl (by decide) (by decide +kernel) rfl wd564 wd566 wp27 wd3 wd567 (by decide) (Nat.le_of_ble_eq_true rfl) dX3_alikeIfJoined_32 ?_
    refine j_iadd hC dX3_alikeIfJoined_35 ?_
    refine j_istore_n hC dX3_alikeIfJoined_36 [(3, vI (a + (cajB σ z.toNat p q))), (4, vI (z)), (0, .ref (gd g (0))), (1, vI (p)), (2, vI (q))] (by decide) rfl ?_
    refine j_iinc hC dX3_alikeIfJoined_37 1 [(4, vI (z + 1)), (3, vI (a + (cajB σ z.toNat p q))), (0, .ref (gd g (0))), (1, vI (p)), (2, vI (q))] rfl (by decide) rfl ?_
    refine j_goto (tgt := 13) hC dX3_alikeIfJoined_40 (by decide) ?_
    refine j_sub [0, 1, 2, 3, 4] rfl ?_
    exact ih (z + 1) _ (by omega) (by omega)
set_option maxHeartbeats 4000000 in
set_option maxRecDepth 100000 in
theorem c_X3_alikeIfJoined {l : Launch} (hl : l.stackTraces = false) (g : GG) (σ : Sg) (hI : IC σ) (p q : Int) (hp : 0 ≤ p ∧ p < 9 ∧ 0 ≤ q ∧ q < 9) : CN l yX3_alikeIfJoined cX3_alikeIfJoined 5 (some .int) 7 110 0 0 g [.ref (gd g (0)), vI (p), vI (q)] σ (pt (some (vI (ajB σ p q))) (σ)) := by
  refine CN_of (own := RX3) hl (by decide) rfl (Nat.le_of_ble_eq_true rfl) (fun mc hC _ hR => ?_)
  refine j_lv (lv2 := [(0, .ref (gd g (0))), (1, vI (p)), (2, vI (q))]) rfl ?_
  have hI1 := hI.1
  refine j_iload_n hC dX3_alikeIfJoined_0 1 rfl ?_
  refine j_callS0 (ar := 1) hC hR (c_X3_checkPlace (hlJ hC) g σ p (by omega)) [] rfl (by decide) (by decide +kernel) rfl wd391 wd392 wd1 wd393 (by decide) (Nat.le_of_ble_eq_true rfl) dX3_alikeIfJoined_1 ?_
  refine j_iload_n hC dX3_alikeIfJoined_4 2 rfl ?_
  refine j_callS0 (ar := 1) hC hR (c_X3_checkPlace (hlJ hC) g σ q (by omega)) [] rfl (by decide) (by decide +kernel) rfl wd391 wd392 wd1 wd393 (by decide) (Nat.le_of_ble_eq_true rfl) dX3_alikeIfJoined_5 ?_
  refine j_iconst hC dX3_alikeIfJoined_8 ?_
  refine j_istore_n hC dX3_alikeIfJoined_9 [(3, vI (0)), (0, .ref (gd g (0))), (1, vI (p)), (2, vI (q))] (by decide) rfl ?_
  refine j_iconst hC dX3_alikeIfJoined_10 ?_
  refine j_istore hC dX3_alikeIfJoined_11 [(4, vI (0)), (3, vI (0)), (0, .ref (gd g (0))), (1, vI (p)), (2, vI (q))] (by decide) rfl ?_
  refine j_sub [0, 1, 2, 3, 4] rfl ?_
  exact lp_alikeIfJoined hC hR hI p q hp (σ.1 0).toNat 0 0 (by omega) (by omega)
set_option maxHeartbeats 4000000 in
set_option maxRecDepth 100000 in
theorem x1_X3_alikeIfJoined {l : Launch} (hl : l.stackTraces = false) (g : GG) (σ : Sg) (hI : IC σ) (p q : Int) (hr : -2147483648 ≤ p ∧ p < 2147483648) (hp : ¬ (0 ≤ p ∧ p < 9)) : CX l yX3_alikeIfJoined cX3_alikeIfJoined 5 (some .int) 7 110 1 6 g [.ref (gd g (0)), vI (p), vI (q)] σ pF (pxE "java/lang/IndexOutOfBoundsException" (σ)) := by
  refine CX_of (own := RX3) hl (by decide) rfl (Nat.le_of_ble_eq_true rfl) (fun mc hC _ hR hE => ?_)
  refine j_lv (lv2 := [(0, .ref (gd g (0))), (1, vI (p)), (2, vI (q))]) rfl ?_
  refine j_iload_n hC dX3_alikeIfJoined_0 1 rfl ?_
  refine j_callST (ar := 1) hC hR (x_X3_checkPlace (hlJ hC) g σ p (by omega) (by omega)) [] rfl (by decide) (by decide +kernel) rfl wd391 wd392 wd1 wd393 (by decide) (Nat.le_of_ble_eq_true rfl) dX3_alikeIfJoined_1 hE
set_option maxHeartbeats 4000000 in
set_option maxRecDepth 100000 in
theorem x2_X3_alikeIfJoined {l : Launch} (hl : l.stackTraces = false) (g : GG) (σ : Sg) (hI : IC σ) (p q : Int) (hr : -2147483648 ≤ q ∧ q < 2147483648) (hp : 0 ≤ p ∧ p < 9) (hq : ¬ (0 ≤ q ∧ q < 9)) : CX l yX3_alikeIfJoined cX3_alikeIfJoined 5 (some .int) 7 110 1 6 g [.ref (gd g (0)), vI (p), vI (q)] σ pF (pxE "java/lang/IndexOutOfBoundsException" (σ)) := by
  refine CX_of (own := RX3) hl (by decide) rfl (Nat.le_of_ble_eq_true rfl) (fun mc hC _ hR hE => ?_)
  refine j_lv (lv2 := [(0, .ref (gd g (0))), (1, vI (p)), (2, vI (q))]) rfl ?_
  refine j_iload_n hC dX3_alikeIfJoined_0 1 rfl ?_
  refine j_callS0 (ar := 1) hC hR (c_X3_checkPlace (hlJ hC) g σ p (by omega)) [] rfl (by decide) (by decide +kernel) rfl wd391 wd392 wd1 wd393 (by decide) (Nat.le_of_ble_eq_true rfl) dX3_alikeIfJoined_1 ?_
  refine j_iload_n hC dX3_alikeIfJoined_4 2 rfl ?_
  refine j_callST (ar := 1) hC hR (x_X3_checkPlace (hlJ hC) g σ q (by omega) (by omega)) [] rfl (by decide) (by decide +kernel) rfl wd391 wd392 wd1 wd393 (by decide) (Nat.le_of_ble_eq_true rfl) dX3_alikeIfJoined_5 hE
set_option maxHeartbeats 4000000 in
set_option maxRecDepth 100000 in
theorem lp_meanSigns {mc : MC} {g : GG} {σ : Sg} (hC : Cx mc g cX3_meanSigns RX3 3 (some .double)) (hR : mR mc = rmJ 0 0 0 0) (hI : IC σ) (h1 : 0 < σ.1 0) : ∀ (d : Nat) (z : Int) (a : Int), (0 ≤ z) → (z + (d : Int) = σ.1 0) → (0 ≤ a ∧ a ≤ 16 * z) → J mc g 0 0 (QN mc g (pt (some (.double (FP.ddiv (FP.i2d (iI (msF σ d z a))) (FP.i2d (iI (σ.1 0)))))) (σ)) 0 0) 13 [(2, vI (z)), (1, vI (a)), (0, .ref (gd g (0)))] [] σ := by
  intro d
  induction d with
  | zero =>
    intro z a h0 hz ha
    have hI1 := hI.1
    have hdv := dv_ok (x := a) (y := σ.1 0) (by omega) (by omega)
    refine j_iload_n hC dX3_meanSigns_13 0 rfl ?_
    refine j_aload_n hC dX3_meanSigns_14 2 rfl ?_
    refine j_get hC inX3 rfl 0 rfl 3 (by decide) wd64 rfl dX3_meanSigns_15 ?_
    refine j_icmp_ge (tgt := 39) hC dX3_meanSigns_18 (by decide) (by omega) (fun _ => ?_) (fun h => absurd h (by omega))
    refine j_iload_n hC dX3_meanSigns_39 1 rfl ?_
    refine j_i2d hC dX3_meanSigns_40 ?_
    refine j_aload_n hC dX3_meanSigns_41 2 rfl ?_
    refine j_get hC inX3 rfl 0 rfl 3 (by decide) wd64 rfl dX3_meanSigns_42 ?_
    refine j_i2d hC dX3_meanSigns_45 ?_
    refine j_ddiv hC dX3_meanSigns_46 hdv ?_
    exact j_dret hC dX3_meanSigns_47 ⟨rfl, rfl⟩
  | succ d ih =>
    intro z a h0 hz ha
    have hI1 := hI.1
    have hz5 : z.toNat < 5 := by omega
    have hcz := hI.2.2.2.1 z.toNat hz5
    rw [show msF σ (d + 1) z a = msF σ d (z + 1) (a + σ.1 (2 + z.toNat)) from rfl]
    refine j_iload_n hC dX3_meanSigns_13 0 rfl ?_
    refine j_aload_n hC dX3_meanSigns_14 2 rfl ?_
    refine j_get hC inX3 rfl 0 rfl 3 (by decide) wd64 rfl dX3_meanSigns_15 ?_
    refine j_icmp_ge (tgt := 39) hC dX3_meanSigns_18 (by decide) (by omega) (fun h => absurd h (by omega)) (fun _ => ?_)
    refine j_iload_n hC dX3_meanSigns_21 1 rfl ?_
    refine j_aload_n hC dX3_meanSigns_22 2 rfl ?_
    refine j_get hC inX3 rfl 0 rfl 1 (by decide) wd62 rfl dX3_meanSigns_23 ?_
    refine j_iload_n hC dX3_meanSigns_26 0 rfl ?_
    refine j_aald hC (by omega) dX3_meanSigns_27 ?_
    refine j_getN hC inX0 rfl (4 + z.toNat) (hw_bk g _ hz5) 3 (by decide) wd51 rfl dX3_meanSigns_28 ?_
    refine j_iadd hC dX3_meanSigns_31 ?_
    refine j_istore_n hC dX3_meanSigns_32 [(1, vI (a + ((σ).1 (2 + z.toNat)))), (2, vI (z)), (0, .ref (gd g (0)))] (by decide) rfl ?_
    refine j_iinc hC dX3_meanSigns_33 1 [(2, vI (z + 1)), (1, vI (a + ((σ).1 (2 + z.toNat)))), (0, .ref (gd g (0)))] rfl (by decide) rfl ?_
    refine j_goto (tgt := 13) hC dX3_meanSigns_36 (by decide) ?_
    refine j_sub [0, 1, 2] rfl ?_
    exact ih (z + 1) _ (by omega) (by omega) (by omega)
set_option maxHeartbeats 4000000 in
set_option maxRecDepth 100000 in
theorem c_X3_meanSigns {l : Launch} (hl : l.stackTraces = false) (g : GG) (σ : Sg) (hI : IC σ)  : CN l yX3_meanSigns cX3_meanSigns 3 (some .double) 0 0 0 0 g [.ref (gd g (0))] σ (pt (some (.double (msB σ))) (σ)) := by
  refine CN_of (own := RX3) hl (by decide) rfl (Nat.le_of_ble_eq_true rfl) (fun mc hC _ hR => ?_)
  refine j_lv (lv2 := [(0, .ref (gd g (0)))]) rfl ?_
  have hI1 := hI.1
  refine j_aload_n hC dX3_meanSigns_0 0 rfl ?_
  refine j_get hC inX3 rfl 0 rfl 3 (by decide) wd64 rfl dX3_meanSigns_1 ?_
  refine j_if_ne (tgt := 9) hC dX3_meanSigns_4 (by decide) (by omega) (fun h4 => ?_) (fun h4 => ?_)
  · refine j_iconst hC dX3_meanSigns_9 ?_
    refine j_istore_n hC dX3_meanSigns_10 [(1, vI (0)), (0, .ref (gd g (0)))] (by decide) rfl ?_
    refine j_iconst hC dX3_meanSigns_11 ?_
    refine j_istore_n hC dX3_meanSigns_12 [(2, vI (0)), (1, vI (0)), (0, .ref (gd g (0)))] (by decide) rfl ?_
    refine j_sub [0, 1, 2] rfl ?_
    rw [show msB σ = FP.ddiv (FP.i2d (iI (msF σ (σ.1 0).toNat 0 0))) (FP.i2d (iI (σ.1 0))) from if_neg (by omega)]
    exact lp_meanSigns hC hR hI (by omega) (σ.1 0).toNat 0 0 (by omega) (by omega) (by omega)
  · refine j_dconst0 hC dX3_meanSigns_7 ?_
    exact j_dret hC dX3_meanSigns_8 ⟨by unfold msB; rw [if_pos h4], rfl⟩
set_option maxHeartbeats 4000000 in
set_option maxRecDepth 100000 in
theorem c_X3_mix {l : Launch} (hl : l.stackTraces = false) (g : GG) (σ : Sg) (D x : Int) : CN l yX3_mix cX3_mix 4 (some .long) 0 0 0 0 g [.long (jI (D)), .long (jI (x))] σ (pt (some (.long (jI (mx D x)))) (σ)) := by
  refine CN_of (own := RX3) hl (by decide) rfl (Nat.le_of_ble_eq_true rfl) (fun mc hC _ hR => ?_)
  refine j_lv (lv2 := [(0, .long (jI (D))), (2, .long (jI (x)))]) rfl ?_
  refine j_lload_n hC dX3_mix_0 0 rfl ?_
  refine j_ldc2 (v := jI 31) hC dX3_mix_1 wd94 ?_
  refine j_lmul hC dX3_mix_4 ?_
  refine j_lload_n hC dX3_mix_5 1 rfl ?_
  refine j_ladd hC dX3_mix_6 ?_
  exact j_lret hC dX3_mix_7 ⟨rfl, rfl⟩
set_option maxHeartbeats 4000000 in
set_option maxRecDepth 100000 in
theorem c_X3_mixBook {l : Launch} (hl : l.stackTraces = false) (g : GG) (σ : Sg) (hI : IC σ) {b : Nat} (hb : b < 5) (D : Int) : CN l yX3_mixBook cX3_mixBook 5 (some .long) 5 118 0 0 g [.long (jI (D)), .ref (gd g (4 + b))] σ (pt (some (.long (jI (mbB σ b D)))) (σ)) := by
  refine CN_of (own := RX3) hl (by decide) rfl (Nat.le_of_ble_eq_true rfl) (fun mc hC _ hR => ?_)
  refine j_lv (lv2 := [(0, .long (jI (D))), (2, .ref (gd g (4 + b)))]) rfl ?_
  have hn := hI.2.2.2.1 b hb
  have hq1 : 0 ≤ caB σ b ∧ caB σ b ≤ 256 := pOB_rg _ hI hb
  have hq2 : 0 ≤ ctB σ b ∧ ctB σ b ≤ 256 := pOB_rg _ hI hb
  have hq3 := faB_rg hI hb
  have hq4 := snB_rg hI hb
  refine j_lload_n hC dX3_mixBook_0 0 rfl ?_
  refine j_aload_n hC dX3_mixBook_1 1 rfl ?_
  refine j_getN hC inX0 rfl (4 + b) (hw_bk g _ hb) 3 (by decide) wd51 rfl dX3_mixBook_2 ?_
  refine j_i2l hC dX3_mixBook_5 (by omega) ?_
  refine j_callS1 (ar := 2) hC hR (c_X3_mix (hlJ hC) g σ D ((σ).1 (2 + b))) [] rfl (by decide) (by decide +kernel) rfl wd91 wd92 wd1 wd93 (by decide) (Nat.le_of_ble_eq_true rfl) dX3_mixBook_6 ?_
  refine j_lstore_n hC dX3_mixBook_9 [(3, .long (jI (mx D ((σ).1 (2 + b))))), (0, .long (jI (D))), (2, .ref (gd g (4 + b)))] (by decide) rfl ?_
  refine j_lload_n hC dX3_mixBook_10 0 rfl ?_
  refine j_aload_n hC dX3_mixBook_11 2 rfl ?_
  refine j_callVN1 (ar := 0) hC hR (c_X0_countAlike (hlJ hC) g σ hI hb  ) [.long (jI (mx D ((σ).1 (2 + b))))] rfl (4 + b) (hw_bk g _ hb) rfl rfl (by decide) (by decide +kernel) rfl wd98 wd100 wp0 wd3 wd101 (by decide) (Nat.le_of_ble_eq_true rfl) dX3_mixBook_12 ?_
  refine j_i2l hC dX3_mixBook_15 (by omega) ?_
  refine j_callS1 (ar := 2) hC hR (c_X3_mix (hlJ hC) g σ (mx D ((σ).1 (2 + b))) (caB σ b)) [] rfl (by decide) (by decide +kernel) rfl wd91 wd92 wd1 wd93 (by decide) (Nat.le_of_ble_eq_true rfl) dX3_mixBook_16 ?_
  refine j_lstore_n hC dX3_mixBook_19 [(3, .long (jI (mx (mx D ((σ).1 (2 + b))) (caB σ b)))), (0, .long (jI (D))), (2, .ref (gd g (4 + b)))] (by decide) rfl ?_
  refine j_lload_n hC dX3_mixBook_20 0 rfl ?_
  refine j_aload_n hC dX3_mixBook_21 2 rfl ?_
  refine j_callVN1 (ar := 0) hC hR (c_X0_countThumbApart (hlJ hC) g σ hI hb  ) [.long (jI (mx (mx D ((σ).1 (2 + b))) (caB σ b)))] rfl (4 + b) (hw_bk g _ hb) rfl rfl (by decide) (by decide +kernel) rfl wd116 wd118 wp3 wd3 wd119 (by decide) (Nat.le_of_ble_eq_true rfl) dX3_mixBook_22 ?_
  refine j_i2l hC dX3_mixBook_25 (by omega) ?_
  refine j_callS1 (ar := 2) hC hR (c_X3_mix (hlJ hC) g σ (mx (mx D ((σ).1 (2 + b))) (caB σ b)) (ctB σ b)) [] rfl (by decide) (by decide +kernel) rfl wd91 wd92 wd1 wd93 (by decide) (Nat.le_of_ble_eq_true rfl) dX3_mixBook_26 ?_
  refine j_lstore_n hC dX3_mixBook_29 [(3, .long (jI (mx (mx (mx D ((σ).1 (2 + b))) (caB σ b)) (ctB σ b)))), (0, .long (jI (D))), (2, .ref (gd g (4 + b)))] (by decide) rfl ?_
  refine j_lload_n hC dX3_mixBook_30 0 rfl ?_
  refine j_aload_n hC dX3_mixBook_31 2 rfl ?_
  refine j_callVN1 (ar := 0) hC hR (c_X0_fewestApart (hlJ hC) g σ hI hb  ) [.long (jI (mx (mx (mx D ((σ).1 (2 + b))) (caB σ b)) (ctB σ b)))] rfl (4 + b) (hw_bk g _ hb) rfl rfl (by decide) (by decide +kernel) rfl wd147 wd149 wp6 wd3 wd150 (by decide) (Nat.le_of_ble_eq_true rfl) dX3_mixBook_32 ?_
  refine j_i2l hC dX3_mixBook_35 (by omega) ?_
  refine j_callS1 (ar := 2) hC hR (c_X3_mix (hlJ hC) g σ (mx (mx (mx D ((σ).1 (2 + b))) (caB σ b)) (ctB σ b)) (faB σ b)) [] rfl (by decide) (by decide +kernel) rfl wd91 wd92 wd1 wd93 (by decide) (Nat.le_of_ble_eq_true rfl) dX3_mixBook_36 ?_
  refine j_lstore_n hC dX3_mixBook_39 [(3, .long (jI (mx (mx (mx (mx D ((σ).1 (2 + b))) (caB σ b)) (ctB σ b)) (faB σ b)))), (0, .long (jI (D))), (2, .ref (gd g (4 + b)))] (by decide) rfl ?_
  refine j_lload_n hC dX3_mixBook_40 0 rfl ?_
  refine j_aload_n hC dX3_mixBook_41 2 rfl ?_
  refine j_callVN1 (ar := 0) hC hR (c_X0_signNearMost (hlJ hC) g σ hI hb  ) [.long (jI (mx (mx (mx (mx D ((σ).1 (2 + b))) (caB σ b)) (ctB σ b)) (faB σ b)))] rfl (4 + b) (hw_bk g _ hb) rfl rfl (by decide) (by decide +kernel) rfl wd158 wd160 wp8 wd3 wd161 (by decide) (Nat.le_of_ble_eq_true rfl) dX3_mixBook_42 ?_
  refine j_i2l hC dX3_mixBook_45 (by omega) ?_
  refine j_callS1 (ar := 2) hC hR (c_X3_mix (hlJ hC) g σ (mx (mx (mx (mx D ((σ).1 (2 + b))) (caB σ b)) (ctB σ b)) (faB σ b)) (snB σ b)) [] rfl (by decide) (by decide +kernel) rfl wd91 wd92 wd1 wd93 (by decide) (Nat.le_of_ble_eq_true rfl) dX3_mixBook_46 ?_
  exact j_lret hC dX3_mixBook_49 ⟨rfl, rfl⟩
set_option maxHeartbeats 4000000 in
set_option maxRecDepth 100000 in
theorem lp_mixSigns {mc : MC} {g : GG} {σ : Sg} (hC : Cx mc g cX3_mixSigns RX3 7 (some .long)) (hR : mR mc = rmJ 5 121 0 0) (hI : IC σ) {b : Nat} (hb : b < 5) (D0 : Int) : ∀ (d : Nat) (z : Int) (a : Int), (0 ≤ z) → (z + (d : Int) = σ.1 (2 + b)) → J mc g 0 0 (QN mc g (pt (some (.long (jI (msgF σ b d z a)))) (σ)) 0 0) 5 [(5, vI (z)), (3, .long (jI (a))), (0, .long (jI (D0))), (2, .ref (gd g (4 + b)))] [] σ := by
  intro d
  induction d with
  | zero =>
    intro z a h0 hz
    have hn := hI.2.2.2.1 b hb
    refine j_iload hC dX3_mixSigns_5 0 rfl ?_
    refine j_aload_n hC dX3_mixSigns_7 3 rfl ?_
    refine j_getN hC inX0 rfl (4 + b) (hw_bk g _ hb) 3 (by decide) wd51 rfl dX3_mixSigns_8 ?_
    refine j_icmp_ge (tgt := 87) hC dX3_mixSigns_11 (by decide) (by omega) (fun _ => ?_) (fun h => absurd h (by omega))
    refine j_lload_n hC dX3_mixSigns_87 1 rfl ?_
    exact j_lret hC dX3_mixSigns_88 ⟨rfl, rfl⟩
  | succ d ih =>
    intro z a h0 hz
    have hn := hI.2.2.2.1 b hb
    have hk := hI.2.2.2.2.1 b hb z (by omega) (by omega)
    have hm := hI.2.2.2.2.2 b hb z (by omega) (by omega)
    have hq := tfB_rg hI hb (s := z) (by omega)
    rw [show msgF σ b (d + 1) z a = msgF σ b d (z + 1) (mx (mx (mx (mx (mx a (σ.2 (1 + b) z % 16)) (σ.2 (1 + b) z / 16 % 4)) (σ.2 (1 + b) z / 256)) (σ.2 (6 + b) z)) (tfB σ b z)) from rfl]
    refine j_iload hC dX3_mixSigns_5 0 rfl ?_
    refine j_aload_n hC dX3_mixSigns_7 3 rfl ?_
    refine j_getN hC inX0 rfl (4 + b) (hw_bk g _ hb) 3 (by decide) wd51 rfl dX3_mixSigns_8 ?_
    refine j_icmp_ge (tgt := 87) hC dX3_mixSigns_11 (by decide) (by omega) (fun h => absurd h (by omega)) (fun _ => ?_)
    refine j_aload_n hC dX3_mixSigns_14 3 rfl ?_
    refine j_getN hC inX0 rfl (4 + b) (hw_bk g _ hb) 1 (by decide) wd47 rfl dX3_mixSigns_15 ?_
    refine j_iload hC dX3_mixSigns_18 0 rfl ?_
    refine j_iald hC (9 + b) (hw_lk g _ hb) (by omega) dX3_mixSigns_20 ?_
    refine j_istore hC dX3_mixSigns_21 [(6, vI ((σ).2 (1 + b) z)), (5, vI (z)), (3, .long (jI (a))), (0, .long (jI (D0))), (2, .ref (gd g (4 + b)))] (by decide) rfl ?_
    refine j_lload_n hC dX3_mixSigns_23 2 rfl ?_
    refine j_iload hC dX3_mixSigns_24 0 rfl ?_
    refine j_callSN1 (ar := 1) hC hR (c_X1_shape (hlJ hC) g σ ((σ).2 (1 + b) z) (by omega)) [.long (jI (a))] rfl (by decide) (by decide +kernel) rfl wd294 wd128 wd11 wd129 (by decide) (Nat.le_of_ble_eq_true rfl) dX3_mixSigns_26 ?_
    refine j_i2l hC dX3_mixSigns_29 (by omega) ?_
    refine j_callS1 (ar := 2) hC hR (c_X3_mix (hlJ hC) g σ a (((σ).2 (1 + b) z) % 16)) [] rfl (by decide) (by decide +kernel) rfl wd91 wd92 wd1 wd93 (by decide) (Nat.le_of_ble_eq_true rfl) dX3_mixSigns_30 ?_
    refine j_lstore_n hC dX3_mixSigns_33 [(3, .long (jI (mx a (((σ).2 (1 + b) z) % 16)))), (6, vI ((σ).2 (1 + b) z)), (5, vI (z)), (0, .long (jI (D0))), (2, .ref (gd g (4 + b)))] (by decide) rfl ?_
    refine j_lload_n hC dX3_mixSigns_34 0 rfl ?_
    refine j_iload hC dX3_mixSigns_35 1 rfl ?_
    refine j_callSN1 (ar := 1) hC hR (c_X1_thumb (hlJ hC) g σ ((σ).2 (1 + b) z) (by omega)) [.long (jI (mx a (((σ).2 (1 + b) z) % 16)))] rfl (by decide) (by decide +kernel) rfl wd295 wd121 wd11 wd122 (by decide) (Nat.le_of_ble_eq_true rfl) dX3_mixSigns_37 ?_
    refine j_i2l hC dX3_mixSigns_40 (by omega) ?_
    refine j_callS1 (ar := 2) hC hR (c_X3_mix (hlJ hC) g σ (mx a (((σ).2 (1 + b) z) % 16)) (((σ).2 (1 + b) z) / 16 % 4)) [] rfl (by decide) (by decide +kernel) rfl wd91 wd92 wd1 wd93 (by decide) (Nat.le_of_ble_eq_true rfl) dX3_mixSigns_41 ?_
    refine j_lstore_n hC dX3_mixSigns_44 [(3, .long (jI (mx (mx a (((σ).2 (1 + b) z) % 16)) (((σ).2 (1 + b) z) / 16 % 4)))), (6, vI ((σ).2 (1 + b) z)), (5, vI (z)), (0, .long (jI (D0))), (2, .ref (gd g (4 + b)))] (by decide) rfl ?_
    refine j_lload_n hC dX3_mixSigns_45 0 rfl ?_
    refine j_iload hC dX3_mixSigns_46 1 rfl ?_
    refine j_callSN1 (ar := 1) hC hR (c_X1_place (hlJ hC) g σ ((σ).2 (1 + b) z) (by omega)) [.long (jI (mx (mx a (((σ).2 (1 + b) z) % 16)) (((σ).2 (1 + b) z) / 16 % 4)))] rfl (by decide) (by decide +kernel) rfl wd296 wd110 wd11 wd111 (by decide) (Nat.le_of_ble_eq_true rfl) dX3_mixSigns_48 ?_
    refine j_i2l hC dX3_mixSigns_51 (by omega) ?_
    refine j_callS1 (ar := 2) hC hR (c_X3_mix (hlJ hC) g σ (mx (mx a (((σ).2 (1 + b) z) % 16)) (((σ).2 (1 + b) z) / 16 % 4)) (((σ).2 (1 + b) z) / 256)) [] rfl (by decide) (by decide +kernel) rfl wd91 wd92 wd1 wd93 (by decide) (Nat.le_of_ble_eq_true rfl) dX3_mixSigns_52 ?_
    refine j_lstore_n hC dX3_mixSigns_55 [(3, .long (jI (mx (mx (mx a (((σ).2 (1 + b) z) % 16)) (((σ).2 (1 + b) z) / 16 % 4)) (((σ).2 (1 + b) z) / 256)))), (6, vI ((σ).2 (1 + b) z)), (5, vI (z)), (0, .long (jI (D0))), (2, .ref (gd g (4 + b)))] (by decide) rfl ?_
    refine j_lload_n hC dX3_mixSigns_56 0 rfl ?_
    refine j_aload_n hC dX3_mixSigns_57 4 rfl ?_
    refine j_getN hC inX0 rfl (4 + b) (hw_bk g _ hb) 2 (by decide) wd49 rfl dX3_mixSigns_58 ?_
    refine j_iload hC dX3_mixSigns_61 2 rfl ?_
    refine j_iald hC (14 + b) (hw_mn g _ hb) (by omega) dX3_mixSigns_63 ?_
    refine j_i2l hC dX3_mixSigns_64 (by omega) ?_
    refine j_callS1 (ar := 2) hC hR (c_X3_mix (hlJ hC) g σ (mx (mx (mx a (((σ).2 (1 + b) z) % 16)) (((σ).2 (1 + b) z) / 16 % 4)) (((σ).2 (1 + b) z) / 256)) ((σ).2 (6 + b) z)) [] rfl (by decide) (by decide +kernel) rfl wd91 wd92 wd1 wd93 (by decide) (Nat.le_of_ble_eq_true rfl) dX3_mixSigns_65 ?_
    refine j_lstore_n hC dX3_mixSigns_68 [(3, .long (jI (mx (mx (mx (mx a (((σ).2 (1 + b) z) % 16)) (((σ).2 (1 + b) z) / 16 % 4)) (((σ).2 (1 + b) z) / 256)) ((σ).2 (6 + b) z)))), (6, vI ((σ).2 (1 + b) z)), (5, vI (z)), (0, .long (jI (D0))), (2, .ref (gd g (4 + b)))] (by decide) rfl ?_
    refine j_lload_n hC dX3_mixSigns_69 0 rfl ?_
    refine j_aload_n hC dX3_mixSigns_70 4 rfl ?_
    refine j_iload hC dX3_mixSigns_71 2 rfl ?_
    refine j_callVN1 (ar := 1) hC hR (c_X0_thumbFarthest (hlJ hC) g σ hI hb z (by omega)) [.long (jI (mx (mx (mx (mx a (((σ).2 (1 + b) z) % 16)) (((σ).2 (1 + b) z) / 16 % 4)) (((σ).2 (1 + b) z) / 256)) ((σ).2 (6 + b) z)))] rfl (4 + b) (hw_bk g _ hb) rfl rfl (by decide) (by decide +kernel) rfl wd297 wd299 wp22 wd3 wd300 (by decide) (Nat.le_of_ble_eq_true rfl) dX3_mixSigns_73 ?_
    refine j_i2l hC dX3_mixSigns_76 (by omega) ?_
    refine j_callS1 (ar := 2) hC hR (c_X3_mix (hlJ hC) g σ (mx (mx (mx (mx a (((σ).2 (1 + b) z) % 16)) (((σ).2 (1 + b) z) / 16 % 4)) (((σ).2 (1 + b) z) / 256)) ((σ).2 (6 + b) z)) (tfB σ b z)) [] rfl (by decide) (by decide +kernel) rfl wd91 wd92 wd1 wd93 (by decide) (Nat.le_of_ble_eq_true rfl) dX3_mixSigns_77 ?_
    refine j_lstore_n hC dX3_mixSigns_80 [(3, .long (jI (mx (mx (mx (mx (mx a (((σ).2 (1 + b) z) % 16)) (((σ).2 (1 + b) z) / 16 % 4)) (((σ).2 (1 + b) z) / 256)) ((σ).2 (6 + b) z)) (tfB σ b z)))), (6, vI ((σ).2 (1 + b) z)), (5, vI (z)), (0, .long (jI (D0))), (2, .ref (gd g (4 + b)))] (by decide) rfl ?_
    refine j_iinc hC dX3_mixSigns_81 2 [(5, vI (z + 1)), (3, .long (jI (mx (mx (mx (mx (mx a (((σ).2 (1 + b) z) % 16)) (((σ).2 (1 + b) z) / 16 % 4)) (((σ).2 (1 + b) z) / 256)) ((σ).2 (6 + b) z)) (tfB σ b z)))), (6, vI ((σ).2 (1 + b) z)), (0, .long (jI (D0))), (2, .ref (gd g (4 + b)))] rfl (by decide) rfl ?_
    refine j_goto (tgt := 5) hC dX3_mixSigns_84 (by decide) ?_
    refine j_sub [0, 1, 3, 4] rfl ?_
    exact ih (z + 1) _ (by omega) (by omega)
set_option maxHeartbeats 4000000 in
set_option maxRecDepth 100000 in
theorem c_X3_mixSigns {l : Launch} (hl : l.stackTraces = false) (g : GG) (σ : Sg) (hI : IC σ) {b : Nat} (hb : b < 5) (D : Int) : CN l yX3_mixSigns cX3_mixSigns 7 (some .long) 5 121 0 0 g [.long (jI (D)), .ref (gd g (4 + b))] σ (pt (some (.long (jI (msgF σ b (cN σ b) 0 D)))) (σ)) := by
  refine CN_of (own := RX3) hl (by decide) rfl (Nat.le_of_ble_eq_true rfl) (fun mc hC _ hR => ?_)
  refine j_lv (lv2 := [(0, .long (jI (D))), (2, .ref (gd g (4 + b)))]) rfl ?_
  have hn2 := cN_eq hI hb
  refine j_lload_n hC dX3_mixSigns_0 0 rfl ?_
  refine j_lstore_n hC dX3_mixSigns_1 [(3, .long (jI (D))), (0, .long (jI (D))), (2, .ref (gd g (4 + b)))] (by decide) rfl ?_
  refine j_iconst hC dX3_mixSigns_2 ?_
  refine j_istore hC dX3_mixSigns_3 [(5, vI (0)), (3, .long (jI (D))), (0, .long (jI (D))), (2, .ref (gd g (4 + b)))] (by decide) rfl ?_
  refine j_sub [0, 1, 2, 3] rfl ?_
  exact lp_mixSigns hC hR hI hb D (cN σ b) 0 D (by omega) (by omega)
set_option maxHeartbeats 4000000 in
set_option maxRecDepth 100000 in
theorem lp_digest_i {mc : MC} {g : GG} {Q : State → Prop} (hC : Cx mc g cX3_digest RX3 5 (some .long)) (hR : mR mc = rmJ 8 147 0 0) (a : Int) : ∀ (d : Nat) (τ : Sg) (z : Int) (D : Int), (IC τ) → (0 ≤ z) → (z + (d : Int) = τ.1 0) → (0 ≤ a ∧ a < τ.1 0) → (J mc g 0 0 Q 123 [(1, .long (jI ((dgI a d z D τ).1))), (0, .ref (gd g (0))), (3, vI (a))] [] ((dgI a d z D τ).2)) → J mc g 0 0 Q 51 [(4, vI (z)), (1, .long (jI (D))), (0, .ref (gd g (0))), (3, vI (a))] [] τ := by
  intro d
  induction d with
  | zero =>
    intro τ z D hI h0 hz ha kx
    have hI1 := hI.1
    refine j_iload hC dX3_digest_51 0 rfl ?_
    refine j_aload_n hC dX3_digest_53 2 rfl ?_
    refine j_get hC inX3 rfl 0 rfl 3 (by decide) wd64 rfl dX3_digest_54 ?_
    refine j_icmp_ge (tgt := 123) hC dX3_digest_57 (by decide) (by omega) (fun _ => ?_) (fun h => absurd h (by omega))
    refine j_sub [1, 2, 3] rfl ?_
    exact kx
  | succ d ih =>
    intro τ z D hI h0 hz ha kx
    have hI1 := hI.1
    have hz5 : z.toNat < 5 := by omega
    have ha5 : a.toNat < 5 := by omega
    have hb := bbB_IC hI (a := a) (c := z) ha (by omega)
    have hu : 0 ≤ cuB τ z.toNat a.toNat ∧ cuB τ z.toNat a.toNat ≤ 16 := cnt0_rg _ hI ha5
    have hu2 : 0 ≤ cmB τ z.toNat a.toNat ∧ cmB τ z.toNat a.toNat ≤ 16 := cnt0_rg _ hI ha5
    have h00 := hb.2.2.2 0 (by decide)
    rw [show dgI a (d + 1) z D τ = dgI a d (z + 1) (mx (mx (mx D (cuB τ z.toNat a.toNat)) (cmB τ z.toNat a.toNat)) (bbB τ a z).1) (bbB τ a z).2 from rfl] at kx
    refine j_iload hC dX3_digest_51 0 rfl ?_
    refine j_aload_n hC dX3_digest_53 2 rfl ?_
    refine j_get hC inX3 rfl 0 rfl 3 (by decide) wd64 rfl dX3_digest_54 ?_
    refine j_icmp_ge (tgt := 123) hC dX3_digest_57 (by decide) (by omega) (fun h => absurd h (by omega)) (fun _ => ?_)
    refine j_lload_n hC dX3_digest_60 1 rfl ?_
    refine j_aload_n hC dX3_digest_61 2 rfl ?_
    refine j_get hC inX3 rfl 0 rfl 1 (by decide) wd62 rfl dX3_digest_62 ?_
    refine j_iload hC dX3_digest_65 0 rfl ?_
    refine j_aald hC (by omega) dX3_digest_67 ?_
    refine j_aload_n hC dX3_digest_68 2 rfl ?_
    refine j_get hC inX3 rfl 0 rfl 1 (by decide) wd62 rfl dX3_digest_69 ?_
    refine j_iload_n hC dX3_digest_72 3 rfl ?_
    refine j_aald hC (by omega) dX3_digest_73 ?_
    refine j_callVN1 (ar := 1) hC hR (c_X0_countUnderstood (hlJ hC) g τ hI hz5 ha5  ) [.long (jI (D))] rfl (4 + z.toNat) (hw_bk g _ hz5) rfl rfl (by decide) (by decide +kernel) rfl wd166 wd168 wp10 wd3 wd169 (by decide) (Nat.le_of_ble_eq_true rfl) dX3_digest_74 ?_
    have hf74 : 0 ≤ cuB τ z.toNat a.toNat ∧ cuB τ z.toNat a.toNat ≤ 16 := cnt0_rg _ hI ha5
    refine j_i2l hC dX3_digest_77 (by omega) ?_
    refine j_callS1 (ar := 2) hC hR (c_X3_mix (hlJ hC) g τ D (cuB τ z.toNat a.toNat)) [] rfl (by decide) (by decide +kernel) rfl wd91 wd92 wd1 wd93 (by decide) (Nat.le_of_ble_eq_true rfl) dX3_digest_78 ?_
    refine j_lstore_n hC dX3_digest_81 [(1, .long (jI (mx D (cuB τ z.toNat a.toNat)))), (4, vI (z)), (0, .ref (gd g (0))), (3, vI (a))] (by decide) rfl ?_
    refine j_lload_n hC dX3_digest_82 0 rfl ?_
    refine j_aload_n hC dX3_digest_83 2 rfl ?_
    refine j_get hC inX3 rfl 0 rfl 1 (by decide) wd62 rfl dX3_digest_84 ?_
    refine j_iload hC dX3_digest_87 1 rfl ?_
    refine j_aald hC (by omega) dX3_digest_89 ?_
    refine j_aload_n hC dX3_digest_90 2 rfl ?_
    refine j_get hC inX3 rfl 0 rfl 1 (by decide) wd62 rfl dX3_digest_91 ?_
    refine j_iload_n hC dX3_digest_94 3 rfl ?_
    refine j_aald hC (by omega) dX3_digest_95 ?_
    refine j_callVN1 (ar := 1) hC hR (c_X0_countMisread (hlJ hC) g τ hI hz5 ha5  ) [.long (jI (mx D (cuB τ z.toNat a.toNat)))] rfl (4 + z.toNat) (hw_bk g _ hz5) rfl rfl (by decide) (by decide +kernel) rfl wd174 wd176 wp12 wd3 wd177 (by decide) (Nat.le_of_ble_eq_true rfl) dX3_digest_96 ?_
    refine j_i2l hC dX3_digest_99 (by omega) ?_
    refine j_callS1 (ar := 2) hC hR (c_X3_mix (hlJ hC) g τ (mx D (cuB τ z.toNat a.toNat)) (cmB τ z.toNat a.toNat)) [] rfl (by decide) (by decide +kernel) rfl wd91 wd92 wd1 wd93 (by decide) (Nat.le_of_ble_eq_true rfl) dX3_digest_100 ?_
    refine j_lstore_n hC dX3_digest_103 [(1, .long (jI (mx (mx D (cuB τ z.toNat a.toNat)) (cmB τ z.toNat a.toNat)))), (4, vI (z)), (0, .ref (gd g (0))), (3, vI (a))] (by decide) rfl ?_
    refine j_lload_n hC dX3_digest_104 0 rfl ?_
    refine j_aload_n hC dX3_digest_105 2 rfl ?_
    refine j_iload_n hC dX3_digest_106 3 rfl ?_
    refine j_iload hC dX3_digest_107 1 rfl ?_
    refine j_callV1 (ar := 2) hC hR (c_X3_bestToBorrow (hlJ hC) g τ hI a z (by omega) (by omega)) [.long (jI (mx (mx D (cuB τ z.toNat a.toNat)) (cmB τ z.toNat a.toNat)))] rfl 0 rfl rfl rfl (by decide) (by decide +kernel) rfl wd178 wd179 wd180 wd1 wd181 (by decide) (Nat.le_of_ble_eq_true rfl) dX3_digest_109 ?_
    refine j_i2l hC dX3_digest_112 (by omega) ?_
    refine j_callS1 (ar := 2) hC hR (c_X3_mix (hlJ hC) g ((bbB τ a z).2) (mx (mx D (cuB τ z.toNat a.toNat)) (cmB τ z.toNat a.toNat)) ((bbB τ a z).1)) [] rfl (by decide) (by decide +kernel) rfl wd91 wd92 wd1 wd93 (by decide) (Nat.le_of_ble_eq_true rfl) dX3_digest_113 ?_
    refine j_lstore_n hC dX3_digest_116 [(1, .long (jI (mx (mx (mx D (cuB τ z.toNat a.toNat)) (cmB τ z.toNat a.toNat)) ((bbB τ a z).1)))), (4, vI (z)), (0, .ref (gd g (0))), (3, vI (a))] (by decide) rfl ?_
    refine j_iinc hC dX3_digest_117 1 [(4, vI (z + 1)), (1, .long (jI (mx (mx (mx D (cuB τ z.toNat a.toNat)) (cmB τ z.toNat a.toNat)) ((bbB τ a z).1)))), (0, .ref (gd g (0))), (3, vI (a))] rfl (by decide) rfl ?_
    refine j_goto (tgt := 51) hC dX3_digest_120 (by decide) ?_
    refine j_sub [0, 1, 2, 3] rfl ?_
    exact ih (bbB τ a z).2 (z + 1) _ hb.1 (by omega) (by omega) (by omega) kx
set_option maxHeartbeats 4000000 in
set_option maxRecDepth 100000 in
theorem lp_digest_o {mc : MC} {g : GG} (hC : Cx mc g cX3_digest RX3 5 (some .long)) (hR : mR mc = rmJ 8 147 0 0)  : ∀ (d : Nat) (τ : Sg) (z : Int) (D : Int), (IC τ) → (0 ≤ z) → (z + (d : Int) = τ.1 0) → J mc g 0 0 (QN mc g (pt (some (.long (jI (dgO d z D τ).1))) ((dgO d z D τ).2)) 0 0) 29 [(3, vI (z)), (1, .long (jI (D))), (0, .ref (gd g (0)))] [] τ := by
  intro d
  induction d with
  | zero =>
    intro τ z D hI h0 hz
    have hI1 := hI.1
    refine j_iload_n hC dX3_digest_29 0 rfl ?_
    refine j_aload_n hC dX3_digest_30 2 rfl ?_
    refine j_get hC inX3 rfl 0 rfl 3 (by decide) wd64 rfl dX3_digest_31 ?_
    refine j_icmp_ge (tgt := 140) hC dX3_digest_34 (by decide) (by omega) (fun _ => ?_) (fun h => absurd h (by omega))
    refine j_lload_n hC dX3_digest_140 1 rfl ?_
    exact j_lret hC dX3_digest_141 ⟨rfl, rfl⟩
  | succ d ih =>
    intro τ z D hI h0 hz
    have hI1 := hI.1
    have hz5 : z.toNat < 5 := by omega
    have hi := dgI_IC (a := z) (τ.1 0).toNat 0 (mbB τ z.toNat D) τ hI h0 (by omega) (by omega) (by omega)
    have h00 := hi.2 0 (by decide)
    rw [show dgO (d + 1) z D τ = dgO d (z + 1) (msgF (dgI z (τ.1 0).toNat 0 (mbB τ z.toNat D) τ).2 z.toNat (cN (dgI z (τ.1 0).toNat 0 (mbB τ z.toNat D) τ).2 z.toNat) 0 (dgI z (τ.1 0).toNat 0 (mbB τ z.toNat D) τ).1) (dgI z (τ.1 0).toNat 0 (mbB τ z.toNat D) τ).2 from rfl]
    refine j_iload_n hC dX3_digest_29 0 rfl ?_
    refine j_aload_n hC dX3_digest_30 2 rfl ?_
    refine j_get hC inX3 rfl 0 rfl 3 (by decide) wd64 rfl dX3_digest_31 ?_
    refine j_icmp_ge (tgt := 140) hC dX3_digest_34 (by decide) (by omega) (fun h => absurd h (by omega)) (fun _ => ?_)
    refine j_lload_n hC dX3_digest_37 1 rfl ?_
    refine j_aload_n hC dX3_digest_38 2 rfl ?_
    refine j_get hC inX3 rfl 0 rfl 1 (by decide) wd62 rfl dX3_digest_39 ?_
    refine j_iload_n hC dX3_digest_42 0 rfl ?_
    refine j_aald hC (by omega) dX3_digest_43 ?_
    refine j_callS1 (ar := 2) hC hR (c_X3_mixBook (hlJ hC) g τ hI hz5 D) [] rfl (by decide) (by decide +kernel) rfl wd95 wd96 wd1 wd97 (by decide) (Nat.le_of_ble_eq_true rfl) dX3_digest_44 ?_
    refine j_lstore_n hC dX3_digest_47 [(1, .long (jI (mbB τ z.toNat D))), (3, vI (z)), (0, .ref (gd g (0)))] (by decide) rfl ?_
    refine j_iconst hC dX3_digest_48 ?_
    refine j_istore hC dX3_digest_49 [(4, vI (0)), (1, .long (jI (mbB τ z.toNat D))), (3, vI (z)), (0, .ref (gd g (0)))] (by decide) rfl ?_
    refine j_sub [0, 1, 3, 2] rfl ?_
    refine lp_digest_i hC hR z (τ.1 0).toNat τ 0 (mbB τ z.toNat D) hI (by omega) (by omega) (by omega) ?_
    refine j_lload_n hC dX3_digest_123 0 rfl ?_
    refine j_aload_n hC dX3_digest_124 1 rfl ?_
    refine j_get hC inX3 rfl 0 rfl 1 (by decide) wd62 rfl dX3_digest_125 ?_
    refine j_iload_n hC dX3_digest_128 2 rfl ?_
    refine j_aald hC (by omega) dX3_digest_129 ?_
    refine j_callS1 (ar := 2) hC hR (c_X3_mixSigns (hlJ hC) g (dgI z (τ.1 0).toNat 0 (mbB τ z.toNat D) τ).2 hi.1 hz5 (dgI z (τ.1 0).toNat 0 (mbB τ z.toNat D) τ).1) [] rfl (by decide) (by decide +kernel) rfl wd291 wd292 wd1 wd293 (by decide) (Nat.le_of_ble_eq_true rfl) dX3_digest_130 ?_
    refine j_lstore_n hC dX3_digest_133 [(1, .long (jI (msgF (dgI z (τ.1 0).toNat 0 (mbB τ z.toNat D) τ).2 z.toNat (cN (dgI z (τ.1 0).toNat 0 (mbB τ z.toNat D) τ).2 z.toNat) 0 (dgI z (τ.1 0).toNat 0 (mbB τ z.toNat D) τ).1))), (0, .ref (gd g (0))), (3, vI (z))] (by decide) rfl ?_
    refine j_iinc hC dX3_digest_134 2 [(3, vI (z + 1)), (1, .long (jI (msgF (dgI z (τ.1 0).toNat 0 (mbB τ z.toNat D) τ).2 z.toNat (cN (dgI z (τ.1 0).toNat 0 (mbB τ z.toNat D) τ).2 z.toNat) 0 (dgI z (τ.1 0).toNat 0 (mbB τ z.toNat D) τ).1))), (0, .ref (gd g (0)))] rfl (by decide) rfl ?_
    refine j_goto (tgt := 29) hC dX3_digest_137 (by decide) ?_
    refine j_sub [0, 1, 2] rfl ?_
    exact ih (dgI z (τ.1 0).toNat 0 (mbB τ z.toNat D) τ).2 (z + 1) _ hi.1 (by omega) (by omega)
set_option maxHeartbeats 4000000 in
set_option maxRecDepth 100000 in
theorem c_X3_digest {l : Launch} (hl : l.stackTraces = false) (g : GG) (σ : Sg) (hI : IC σ)  : CN l yX3_digest cX3_digest 5 (some .long) 8 147 0 0 g [.ref (gd g (0))] σ (pt (some (.long (jI (dgB σ).1))) ((dgB σ).2)) := by
  refine CN_of (own := RX3) hl (by decide) rfl (Nat.le_of_ble_eq_true rfl) (fun mc hC _ hR => ?_)
  refine j_lv (lv2 := [(0, .ref (gd g (0)))]) rfl ?_
  have hI1 := hI.1
  have hI2 := hI.2.1
  refine j_ldc2 (v := jI 2099) hC dX3_digest_0 wd90 ?_
  refine j_lstore_n hC dX3_digest_3 [(1, .long (jI (2099))), (0, .ref (gd g (0)))] (by decide) rfl ?_
  refine j_lload_n hC dX3_digest_4 0 rfl ?_
  refine j_aload_n hC dX3_digest_5 1 rfl ?_
  refine j_get hC inX3 rfl 0 rfl 3 (by decide) wd64 rfl dX3_digest_6 ?_
  refine j_i2l hC dX3_digest_9 (by omega) ?_
  refine j_callS1 (ar := 2) hC hR (c_X3_mix (hlJ hC) g σ 2099 ((σ).1 0)) [] rfl (by decide) (by decide +kernel) rfl wd91 wd92 wd1 wd93 (by decide) (Nat.le_of_ble_eq_true rfl) dX3_digest_10 ?_
  refine j_lstore_n hC dX3_digest_13 [(1, .long (jI (mx 2099 ((σ).1 0)))), (0, .ref (gd g (0)))] (by decide) rfl ?_
  refine j_lload_n hC dX3_digest_14 0 rfl ?_
  refine j_aload_n hC dX3_digest_15 1 rfl ?_
  refine j_get hC inX3 rfl 0 rfl 0 (by decide) wd61 rfl dX3_digest_16 ?_
  refine j_getN hC inX2 rfl 1 rfl 1 (by decide) wd31 rfl dX3_digest_19 ?_
  refine j_i2l hC dX3_digest_22 (by omega) ?_
  refine j_callS1 (ar := 2) hC hR (c_X3_mix (hlJ hC) g σ (mx 2099 ((σ).1 0)) ((σ).1 1)) [] rfl (by decide) (by decide +kernel) rfl wd91 wd92 wd1 wd93 (by decide) (Nat.le_of_ble_eq_true rfl) dX3_digest_23 ?_
  refine j_lstore_n hC dX3_digest_26 [(1, .long (jI (mx (mx 2099 ((σ).1 0)) ((σ).1 1)))), (0, .ref (gd g (0)))] (by decide) rfl ?_
  refine j_iconst hC dX3_digest_27 ?_
  refine j_istore_n hC dX3_digest_28 [(3, vI (0)), (1, .long (jI (mx (mx 2099 ((σ).1 0)) ((σ).1 1)))), (0, .ref (gd g (0)))] (by decide) rfl ?_
  refine j_sub [0, 1, 2] rfl ?_
  exact lp_digest_o hC hR (σ.1 0).toNat σ 0 _ hI (by omega) (by omega)
end
