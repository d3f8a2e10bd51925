section
-- ===== PART A: goes FIRST, ahead of the names: the tables' words, and 'selects' of the private methods out of them =====
/-- a private method of a class that the tables say can be made, by its rows of tables_1 -/
def lw_okq (q : MethodName × Nat) : Prop := (q.1.cls ≠ "java/lang/invoke/MethodHandle" ∧ q.1.cls ≠ "java/lang/invoke/VarHandle") ∧ Cond.instantiable q.1.cls q.2 ∈ tables_1 ∧ Cond.privateMethod q.1 ∈ tables_1 ∧ Cond.instanceMethod q.1 ∈ tables_1
theorem lw_p0 : lw_okq (⟨"NearDesk$Ranking", "precedes", "(IIII)Z"⟩, 5) := ⟨⟨by decide +kernel, by decide +kernel⟩, List.mem_of_getElem? (i := 79) (by decide +kernel), List.mem_of_getElem? (i := 246) (by decide +kernel), List.mem_of_getElem? (i := 247) (by decide +kernel)⟩
theorem lw_p1 : lw_okq (⟨"NearDesk$Walker", "begin", "(I)V"⟩, 4) := ⟨⟨by decide +kernel, by decide +kernel⟩, List.mem_of_getElem? (i := 73) (by decide +kernel), List.mem_of_getElem? (i := 258) (by decide +kernel), List.mem_of_getElem? (i := 259) (by decide +kernel)⟩
theorem lw_p2 : lw_okq (⟨"NearDesk$Walker", "lookAround", "(LNearDesk$Links;II)V"⟩, 4) := ⟨⟨by decide +kernel, by decide +kernel⟩, List.mem_of_getElem? (i := 73) (by decide +kernel), List.mem_of_getElem? (i := 290) (by decide +kernel), List.mem_of_getElem? (i := 291) (by decide +kernel)⟩
theorem lw_p3 : lw_okq (⟨"NearDesk$Graph", "link", "(LNearDesk$Documents;II)V"⟩, 7) := ⟨⟨by decide +kernel, by decide +kernel⟩, List.mem_of_getElem? (i := 42) (by decide +kernel), List.mem_of_getElem? (i := 311) (by decide +kernel), List.mem_of_getElem? (i := 312) (by decide +kernel)⟩
theorem lw_p4 : lw_okq (⟨"NearDesk$Chooser", "isNearestToVector", "(LNearDesk$Documents;II)Z"⟩, 3) := ⟨⟨by decide +kernel, by decide +kernel⟩, List.mem_of_getElem? (i := 114) (by decide +kernel), List.mem_of_getElem? (i := 326) (by decide +kernel), List.mem_of_getElem? (i := 327) (by decide +kernel)⟩
theorem lw_p5 : lw_okq (⟨"NearDesk$Chooser", "take", "(I)V"⟩, 3) := ⟨⟨by decide +kernel, by decide +kernel⟩, List.mem_of_getElem? (i := 114) (by decide +kernel), List.mem_of_getElem? (i := 332) (by decide +kernel), List.mem_of_getElem? (i := 333) (by decide +kernel)⟩
theorem lw_p6 : lw_okq (⟨"NearDesk$Graph", "shorten", "(LNearDesk$Documents;II)V"⟩, 7) := ⟨⟨by decide +kernel, by decide +kernel⟩, List.mem_of_getElem? (i := 42) (by decide +kernel), List.mem_of_getElem? (i := 360) (by decide +kernel), List.mem_of_getElem? (i := 361) (by decide +kernel)⟩
theorem lw_p7 : lw_okq (⟨"NearDesk", "searchInto", "(LNearDesk$Ranking;I)V"⟩, 6) := ⟨⟨by decide +kernel, by decide +kernel⟩, List.mem_of_getElem? (i := 12) (by decide +kernel), List.mem_of_getElem? (i := 416) (by decide +kernel), List.mem_of_getElem? (i := 417) (by decide +kernel)⟩
theorem lw_p8 : lw_okq (⟨"NearDesk$Documents", "weighWords", "()V"⟩, 4) := ⟨⟨by decide +kernel, by decide +kernel⟩, List.mem_of_getElem? (i := 20) (by decide +kernel), List.mem_of_getElem? (i := 449) (by decide +kernel), List.mem_of_getElem? (i := 450) (by decide +kernel)⟩
theorem lw_p9 : lw_okq (⟨"NearDesk$Documents", "liveWith", "(I)I"⟩, 4) := ⟨⟨by decide +kernel, by decide +kernel⟩, List.mem_of_getElem? (i := 20) (by decide +kernel), List.mem_of_getElem? (i := 453) (by decide +kernel), List.mem_of_getElem? (i := 454) (by decide +kernel)⟩
theorem lw_p10 : lw_okq (⟨"NearDesk$Documents", "countOfWord", "(II)I"⟩, 4) := ⟨⟨by decide +kernel, by decide +kernel⟩, List.mem_of_getElem? (i := 20) (by decide +kernel), List.mem_of_getElem? (i := 457) (by decide +kernel), List.mem_of_getElem? (i := 458) (by decide +kernel)⟩
theorem lw_p11 : lw_okq (⟨"NearDesk$Documents", "score", "(II)I"⟩, 4) := ⟨⟨by decide +kernel, by decide +kernel⟩, List.mem_of_getElem? (i := 20) (by decide +kernel), List.mem_of_getElem? (i := 462) (by decide +kernel), List.mem_of_getElem? (i := 463) (by decide +kernel)⟩
theorem lw_p12 : lw_okq (⟨"NearDesk", "clearPoints", "()V"⟩, 6) := ⟨⟨by decide +kernel, by decide +kernel⟩, List.mem_of_getElem? (i := 12) (by decide +kernel), List.mem_of_getElem? (i := 470) (by decide +kernel), List.mem_of_getElem? (i := 471) (by decide +kernel)⟩
theorem lw_p13 : lw_okq (⟨"NearDesk", "addPoints", "(LNearDesk$Ranking;)V"⟩, 6) := ⟨⟨by decide +kernel, by decide +kernel⟩, List.mem_of_getElem? (i := 12) (by decide +kernel), List.mem_of_getElem? (i := 474) (by decide +kernel), List.mem_of_getElem? (i := 475) (by decide +kernel)⟩
theorem lw_p14 : lw_okq (⟨"NearDesk", "rankByPoints", "(LNearDesk$Ranking;)V"⟩, 6) := ⟨⟨by decide +kernel, by decide +kernel⟩, List.mem_of_getElem? (i := 12) (by decide +kernel), List.mem_of_getElem? (i := 478) (by decide +kernel), List.mem_of_getElem? (i := 479) (by decide +kernel)⟩
theorem lw_p15 : lw_okq (⟨"NearDesk", "foundAmongNearest", "()I"⟩, 6) := ⟨⟨by decide +kernel, by decide +kernel⟩, List.mem_of_getElem? (i := 12) (by decide +kernel), List.mem_of_getElem? (i := 537) (by decide +kernel), List.mem_of_getElem? (i := 538) (by decide +kernel)⟩
def lw_privs_1 : List (MethodName × Nat) := [(⟨"NearDesk$Ranking", "precedes", "(IIII)Z"⟩, 5), (⟨"NearDesk$Walker", "begin", "(I)V"⟩, 4), (⟨"NearDesk$Walker", "lookAround", "(LNearDesk$Links;II)V"⟩, 4), (⟨"NearDesk$Graph", "link", "(LNearDesk$Documents;II)V"⟩, 7), (⟨"NearDesk$Chooser", "isNearestToVector", "(LNearDesk$Documents;II)Z"⟩, 3), (⟨"NearDesk$Chooser", "take", "(I)V"⟩, 3), (⟨"NearDesk$Graph", "shorten", "(LNearDesk$Documents;II)V"⟩, 7), (⟨"NearDesk", "searchInto", "(LNearDesk$Ranking;I)V"⟩, 6), (⟨"NearDesk$Documents", "weighWords", "()V"⟩, 4), (⟨"NearDesk$Documents", "liveWith", "(I)I"⟩, 4), (⟨"NearDesk$Documents", "countOfWord", "(II)I"⟩, 4), (⟨"NearDesk$Documents", "score", "(II)I"⟩, 4), (⟨"NearDesk", "clearPoints", "()V"⟩, 6), (⟨"NearDesk", "addPoints", "(LNearDesk$Ranking;)V"⟩, 6), (⟨"NearDesk", "rankByPoints", "(LNearDesk$Ranking;)V"⟩, 6), (⟨"NearDesk", "foundAmongNearest", "()I"⟩, 6)]
theorem lw_r1 : ∀ q ∈ lw_privs_1, lw_okq q := List.forall_mem_cons.mpr ⟨lw_p0, List.forall_mem_cons.mpr ⟨lw_p1, List.forall_mem_cons.mpr ⟨lw_p2, List.forall_mem_cons.mpr ⟨lw_p3, List.forall_mem_cons.mpr ⟨lw_p4, List.forall_mem_cons.mpr ⟨lw_p5, List.forall_mem_cons.mpr ⟨lw_p6, List.forall_mem_cons.mpr ⟨lw_p7, List.forall_mem_cons.mpr ⟨lw_p8, List.forall_mem_cons.mpr ⟨lw_p9, List.forall_mem_cons.mpr ⟨lw_p10, List.forall_mem_cons.mpr ⟨lw_p11, List.forall_mem_cons.mpr ⟨lw_p12, List.forall_mem_cons.mpr ⟨lw_p13, List.forall_mem_cons.mpr ⟨lw_p14, List.forall_mem_cons.mpr ⟨lw_p15, fun _ h => absurd h List.not_mem_nil⟩⟩⟩⟩⟩⟩⟩⟩⟩⟩⟩⟩⟩⟩⟩⟩
theorem lw_p16 : lw_okq (⟨"NearDesk$Links", "unreturned", "(I)I"⟩, 6) := ⟨⟨by decide +kernel, by decide +kernel⟩, List.mem_of_getElem? (i := 48) (by decide +kernel), List.mem_of_getElem? (i := 549) (by decide +kernel), List.mem_of_getElem? (i := 550) (by decide +kernel)⟩
theorem lw_p17 : lw_okq (⟨"NearDesk$Links", "isLinked", "(II)Z"⟩, 6) := ⟨⟨by decide +kernel, by decide +kernel⟩, List.mem_of_getElem? (i := 48) (by decide +kernel), List.mem_of_getElem? (i := 555) (by decide +kernel), List.mem_of_getElem? (i := 556) (by decide +kernel)⟩
theorem lw_p18 : lw_okq (⟨"NearDeskModel", "enter", "(I)V"⟩, 28) := ⟨⟨by decide +kernel, by decide +kernel⟩, List.mem_of_getElem? (i := 564) (by decide +kernel), List.mem_of_getElem? (i := 664) (by decide +kernel), List.mem_of_getElem? (i := 665) (by decide +kernel)⟩
theorem lw_p19 : lw_okq (⟨"NearDeskModel", "aimAt", "(I)V"⟩, 28) := ⟨⟨by decide +kernel, by decide +kernel⟩, List.mem_of_getElem? (i := 564) (by decide +kernel), List.mem_of_getElem? (i := 668) (by decide +kernel), List.mem_of_getElem? (i := 669) (by decide +kernel)⟩
theorem lw_p20 : lw_okq (⟨"NearDeskModel", "walk", "(II)I"⟩, 28) := ⟨⟨by decide +kernel, by decide +kernel⟩, List.mem_of_getElem? (i := 564) (by decide +kernel), List.mem_of_getElem? (i := 672) (by decide +kernel), List.mem_of_getElem? (i := 673) (by decide +kernel)⟩
theorem lw_p21 : lw_okq (⟨"NearDeskModel", "farthest", "([Z)I"⟩, 28) := ⟨⟨by decide +kernel, by decide +kernel⟩, List.mem_of_getElem? (i := 564) (by decide +kernel), List.mem_of_getElem? (i := 679) (by decide +kernel), List.mem_of_getElem? (i := 680) (by decide +kernel)⟩
theorem lw_p22 : lw_okq (⟨"NearDeskModel", "isNearer", "(II)Z"⟩, 28) := ⟨⟨by decide +kernel, by decide +kernel⟩, List.mem_of_getElem? (i := 564) (by decide +kernel), List.mem_of_getElem? (i := 683) (by decide +kernel), List.mem_of_getElem? (i := 684) (by decide +kernel)⟩
theorem lw_p23 : lw_okq (⟨"NearDeskModel", "far", "(I)I"⟩, 28) := ⟨⟨by decide +kernel, by decide +kernel⟩, List.mem_of_getElem? (i := 564) (by decide +kernel), List.mem_of_getElem? (i := 687) (by decide +kernel), List.mem_of_getElem? (i := 688) (by decide +kernel)⟩
theorem lw_p24 : lw_okq (⟨"NearDeskModel", "nearest", "([Z)I"⟩, 28) := ⟨⟨by decide +kernel, by decide +kernel⟩, List.mem_of_getElem? (i := 564) (by decide +kernel), List.mem_of_getElem? (i := 691) (by decide +kernel), List.mem_of_getElem? (i := 692) (by decide +kernel)⟩
theorem lw_p25 : lw_okq (⟨"NearDeskModel", "look", "(II)V"⟩, 28) := ⟨⟨by decide +kernel, by decide +kernel⟩, List.mem_of_getElem? (i := 564) (by decide +kernel), List.mem_of_getElem? (i := 695) (by decide +kernel), List.mem_of_getElem? (i := 696) (by decide +kernel)⟩
theorem lw_p26 : lw_okq (⟨"NearDeskModel", "tie", "(II)V"⟩, 28) := ⟨⟨by decide +kernel, by decide +kernel⟩, List.mem_of_getElem? (i := 564) (by decide +kernel), List.mem_of_getElem? (i := 699) (by decide +kernel), List.mem_of_getElem? (i := 700) (by decide +kernel)⟩
theorem lw_p27 : lw_okq (⟨"NearDeskModel", "choose", "(I)V"⟩, 28) := ⟨⟨by decide +kernel, by decide +kernel⟩, List.mem_of_getElem? (i := 564) (by decide +kernel), List.mem_of_getElem? (i := 703) (by decide +kernel), List.mem_of_getElem? (i := 704) (by decide +kernel)⟩
theorem lw_p28 : lw_okq (⟨"NearDeskModel", "between", "(II)I"⟩, 28) := ⟨⟨by decide +kernel, by decide +kernel⟩, List.mem_of_getElem? (i := 564) (by decide +kernel), List.mem_of_getElem? (i := 707) (by decide +kernel), List.mem_of_getElem? (i := 708) (by decide +kernel)⟩
theorem lw_p29 : lw_okq (⟨"NearDeskModel", "pick", "(I)V"⟩, 28) := ⟨⟨by decide +kernel, by decide +kernel⟩, List.mem_of_getElem? (i := 564) (by decide +kernel), List.mem_of_getElem? (i := 711) (by decide +kernel), List.mem_of_getElem? (i := 712) (by decide +kernel)⟩
theorem lw_p30 : lw_okq (⟨"NearDeskModel", "take", "(I)V"⟩, 28) := ⟨⟨by decide +kernel, by decide +kernel⟩, List.mem_of_getElem? (i := 564) (by decide +kernel), List.mem_of_getElem? (i := 715) (by decide +kernel), List.mem_of_getElem? (i := 716) (by decide +kernel)⟩
theorem lw_p31 : lw_okq (⟨"NearDeskModel", "search", "(I)V"⟩, 28) := ⟨⟨by decide +kernel, by decide +kernel⟩, List.mem_of_getElem? (i := 564) (by decide +kernel), List.mem_of_getElem? (i := 735) (by decide +kernel), List.mem_of_getElem? (i := 736) (by decide +kernel)⟩
def lw_privs_2 : List (MethodName × Nat) := [(⟨"NearDesk$Links", "unreturned", "(I)I"⟩, 6), (⟨"NearDesk$Links", "isLinked", "(II)Z"⟩, 6), (⟨"NearDeskModel", "enter", "(I)V"⟩, 28), (⟨"NearDeskModel", "aimAt", "(I)V"⟩, 28), (⟨"NearDeskModel", "walk", "(II)I"⟩, 28), (⟨"NearDeskModel", "farthest", "([Z)I"⟩, 28), (⟨"NearDeskModel", "isNearer", "(II)Z"⟩, 28), (⟨"NearDeskModel", "far", "(I)I"⟩, 28), (⟨"NearDeskModel", "nearest", "([Z)I"⟩, 28), (⟨"NearDeskModel", "look", "(II)V"⟩, 28), (⟨"NearDeskModel", "tie", "(II)V"⟩, 28), (⟨"NearDeskModel", "choose", "(I)V"⟩, 28), (⟨"NearDeskModel", "between", "(II)I"⟩, 28), (⟨"NearDeskModel", "pick", "(I)V"⟩, 28), (⟨"NearDeskModel", "take", "(I)V"⟩, 28), (⟨"NearDeskModel", "search", "(I)V"⟩, 28)]
theorem lw_r2 : ∀ q ∈ lw_privs_2, lw_okq q := List.forall_mem_cons.mpr ⟨lw_p16, List.forall_mem_cons.mpr ⟨lw_p17, List.forall_mem_cons.mpr ⟨lw_p18, List.forall_mem_cons.mpr ⟨lw_p19, List.forall_mem_cons.mpr ⟨lw_p20, List.forall_mem_cons.mpr ⟨lw_p21, List.forall_mem_cons.mpr ⟨lw_p22, List.forall_mem_cons.mpr ⟨lw_p23, List.forall_mem_cons.mpr ⟨lw_p24, List.forall_mem_cons.mpr ⟨lw_p25, List.forall_mem_cons.mpr ⟨lw_p26, List.forall_mem_cons.mpr ⟨lw_p27, List.forall_mem_cons.mpr ⟨lw_p28, List.forall_mem_cons.mpr ⟨lw_p29, List.forall_mem_cons.mpr ⟨lw_p30, List.forall_mem_cons.mpr ⟨lw_p31, fun _ h => absurd h List.not_mem_nil⟩⟩⟩⟩⟩⟩⟩⟩⟩⟩⟩⟩⟩⟩⟩⟩
theorem lw_p32 : lw_okq (⟨"NearDeskModel", "aimAsked", "()V"⟩, 28) := ⟨⟨by decide +kernel, by decide +kernel⟩, List.mem_of_getElem? (i := 564) (by decide +kernel), List.mem_of_getElem? (i := 739) (by decide +kernel), List.mem_of_getElem? (i := 740) (by decide +kernel)⟩
theorem lw_p33 : lw_okq (⟨"NearDeskModel", "score", "(I)V"⟩, 28) := ⟨⟨by decide +kernel, by decide +kernel⟩, List.mem_of_getElem? (i := 564) (by decide +kernel), List.mem_of_getElem? (i := 751) (by decide +kernel), List.mem_of_getElem? (i := 752) (by decide +kernel)⟩
theorem lw_p34 : lw_okq (⟨"NearDeskModel", "scoreOf", "(II)I"⟩, 28) := ⟨⟨by decide +kernel, by decide +kernel⟩, List.mem_of_getElem? (i := 564) (by decide +kernel), List.mem_of_getElem? (i := 755) (by decide +kernel), List.mem_of_getElem? (i := 756) (by decide +kernel)⟩
theorem lw_p35 : lw_okq (⟨"NearDeskModel", "countOf", "(II)I"⟩, 28) := ⟨⟨by decide +kernel, by decide +kernel⟩, List.mem_of_getElem? (i := 564) (by decide +kernel), List.mem_of_getElem? (i := 759) (by decide +kernel), List.mem_of_getElem? (i := 760) (by decide +kernel)⟩
theorem lw_p36 : lw_okq (⟨"NearDeskModel", "best", "(I)I"⟩, 28) := ⟨⟨by decide +kernel, by decide +kernel⟩, List.mem_of_getElem? (i := 564) (by decide +kernel), List.mem_of_getElem? (i := 763) (by decide +kernel), List.mem_of_getElem? (i := 764) (by decide +kernel)⟩
theorem lw_p37 : lw_okq (⟨"NearDeskModel", "placeOf", "(I)I"⟩, 28) := ⟨⟨by decide +kernel, by decide +kernel⟩, List.mem_of_getElem? (i := 564) (by decide +kernel), List.mem_of_getElem? (i := 767) (by decide +kernel), List.mem_of_getElem? (i := 768) (by decide +kernel)⟩
theorem lw_p38 : lw_okq (⟨"NearDeskModel", "right", "()I"⟩, 28) := ⟨⟨by decide +kernel, by decide +kernel⟩, List.mem_of_getElem? (i := 564) (by decide +kernel), List.mem_of_getElem? (i := 791) (by decide +kernel), List.mem_of_getElem? (i := 792) (by decide +kernel)⟩
theorem lw_p39 : lw_okq (⟨"NearDeskModel", "oneSided", "()I"⟩, 28) := ⟨⟨by decide +kernel, by decide +kernel⟩, List.mem_of_getElem? (i := 564) (by decide +kernel), List.mem_of_getElem? (i := 795) (by decide +kernel), List.mem_of_getElem? (i := 796) (by decide +kernel)⟩
theorem lw_p40 : lw_okq (⟨"NearDeskModel", "isNeighbour", "(II)Z"⟩, 28) := ⟨⟨by decide +kernel, by decide +kernel⟩, List.mem_of_getElem? (i := 564) (by decide +kernel), List.mem_of_getElem? (i := 799) (by decide +kernel), List.mem_of_getElem? (i := 800) (by decide +kernel)⟩
theorem lw_p41 : lw_okq (⟨"NearDeskModel", "reached", "()I"⟩, 28) := ⟨⟨by decide +kernel, by decide +kernel⟩, List.mem_of_getElem? (i := 564) (by decide +kernel), List.mem_of_getElem? (i := 803) (by decide +kernel), List.mem_of_getElem? (i := 804) (by decide +kernel)⟩
def lw_privs_3 : List (MethodName × Nat) := [(⟨"NearDeskModel", "aimAsked", "()V"⟩, 28), (⟨"NearDeskModel", "score", "(I)V"⟩, 28), (⟨"NearDeskModel", "scoreOf", "(II)I"⟩, 28), (⟨"NearDeskModel", "countOf", "(II)I"⟩, 28), (⟨"NearDeskModel", "best", "(I)I"⟩, 28), (⟨"NearDeskModel", "placeOf", "(I)I"⟩, 28), (⟨"NearDeskModel", "right", "()I"⟩, 28), (⟨"NearDeskModel", "oneSided", "()I"⟩, 28), (⟨"NearDeskModel", "isNeighbour", "(II)Z"⟩, 28), (⟨"NearDeskModel", "reached", "()I"⟩, 28)]
theorem lw_r3 : ∀ q ∈ lw_privs_3, lw_okq q := List.forall_mem_cons.mpr ⟨lw_p32, List.forall_mem_cons.mpr ⟨lw_p33, List.forall_mem_cons.mpr ⟨lw_p34, List.forall_mem_cons.mpr ⟨lw_p35, List.forall_mem_cons.mpr ⟨lw_p36, List.forall_mem_cons.mpr ⟨lw_p37, List.forall_mem_cons.mpr ⟨lw_p38, List.forall_mem_cons.mpr ⟨lw_p39, List.forall_mem_cons.mpr ⟨lw_p40, List.forall_mem_cons.mpr ⟨lw_p41, fun _ h => absurd h List.not_mem_nil⟩⟩⟩⟩⟩⟩⟩⟩⟩⟩
def lw_privs : List (MethodName × Nat) := lw_privs_1 ++ (lw_privs_2 ++ (lw_privs_3))
def lw_tbl : List Cond := k2_sels lw_privs ++ tables_1
theorem lw_privs_ok : ∀ q ∈ lw_privs, lw_okq q := by
  show ∀ q ∈ lw_privs_1 ++ (lw_privs_2 ++ (lw_privs_3)), lw_okq q
  exact List.forall_mem_append.mpr ⟨lw_r1, List.forall_mem_append.mpr ⟨lw_r2, lw_r3⟩⟩
end
section
def R_Ch : String := "NearDesk$Chooser"
def F_Ch : u_T := fun k => match k with
  | 0 => ("NearDesk$Chooser", "row", "[I", true)
  | 1 => ("NearDesk$Chooser", "size", "I", false)
  | _ => ("NearDesk$Chooser", "taken", "I", false)
def t_Ch : Nat → FieldType := fun k => match k with
  | 0 => .array .int
  | 1 => .int
  | _ => .int
theorem n_Ch : ∀ a, a < 3 → ∀ b, b < 3 → a ≠ b → (F_Ch a).2.1 ≠ (F_Ch b).2.1 := by decide +kernel
theorem t_Ch_ok : ∀ k, k < 3 → parseFieldDescriptor (F_Ch k).2.2.1 = some (t_Ch k) := by decide +kernel
def R_Do : String := "NearDesk$Documents"
def F_Do : u_T := fun k => match k with
  | 0 => ("NearDesk$Documents", "vectors", "[[I", true)
  | 1 => ("NearDesk$Documents", "countsOfWords", "[I", true)
  | 2 => ("NearDesk$Documents", "weights", "[I", true)
  | _ => ("NearDesk$Documents", "live", "I", false)
def t_Do : Nat → FieldType := fun k => match k with
  | 0 => .array (.array .int)
  | 1 => .array .int
  | 2 => .array .int
  | _ => .int
theorem n_Do : ∀ a, a < 4 → ∀ b, b < 4 → a ≠ b → (F_Do a).2.1 ≠ (F_Do b).2.1 := by decide +kernel
theorem t_Do_ok : ∀ k, k < 4 → parseFieldDescriptor (F_Do k).2.2.1 = some (t_Do k) := by decide +kernel
def R_Gr : String := "NearDesk$Graph"
def F_Gr : u_T := fun k => match k with
  | 0 => ("NearDesk$Graph", "links", "LNearDesk$Links;", true)
  | 1 => ("NearDesk$Graph", "walker", "LNearDesk$Walker;", true)
  | 2 => ("NearDesk$Graph", "chooser", "LNearDesk$Chooser;", true)
  | 3 => ("NearDesk$Graph", "candidates", "LNearDesk$Ranking;", true)
  | 4 => ("NearDesk$Graph", "entry", "I", false)
  | 5 => ("NearDesk$Graph", "seenInSearches", "I", false)
  | _ => ("NearDesk$Graph", "seenInEntering", "I", false)
def t_Gr : Nat → FieldType := fun k => match k with
  | 0 => .object "NearDesk$Links"
  | 1 => .object "NearDesk$Walker"
  | 2 => .object "NearDesk$Chooser"
  | 3 => .object "NearDesk$Ranking"
  | 4 => .int
  | 5 => .int
  | _ => .int
theorem n_Gr : ∀ a, a < 7 → ∀ b, b < 7 → a ≠ b → (F_Gr a).2.1 ≠ (F_Gr b).2.1 := by decide +kernel
theorem t_Gr_ok : ∀ k, k < 7 → parseFieldDescriptor (F_Gr k).2.2.1 = some (t_Gr k) := by decide +kernel
def R_Li : String := "NearDesk$Links"
def F_Li : u_T := fun k => match k with
  | 0 => ("NearDesk$Links", "orders", "[I", true)
  | 1 => ("NearDesk$Links", "levels", "[I", true)
  | 2 => ("NearDesk$Links", "degrees", "[I", true)
  | 3 => ("NearDesk$Links", "rows", "[I", true)
  | 4 => ("NearDesk$Links", "queue", "[I", true)
  | _ => ("NearDesk$Links", "size", "I", false)
def t_Li : Nat → FieldType := fun k => match k with
  | 0 => .array .int
  | 1 => .array .int
  | 2 => .array .int
  | 3 => .array .int
  | 4 => .array .int
  | _ => .int
theorem n_Li : ∀ a, a < 6 → ∀ b, b < 6 → a ≠ b → (F_Li a).2.1 ≠ (F_Li b).2.1 := by decide +kernel
theorem t_Li_ok : ∀ k, k < 6 → parseFieldDescriptor (F_Li k).2.2.1 = some (t_Li k) := by decide +kernel
def R_Rk : String := "NearDesk$Ranking"
def F_Rk : u_T := fun k => match k with
  | 0 => ("NearDesk$Ranking", "numbers", "[I", true)
  | 1 => ("NearDesk$Ranking", "values", "[I", true)
  | 2 => ("NearDesk$Ranking", "size", "I", false)
  | 3 => ("NearDesk$Ranking", "room", "I", false)
  | _ => ("NearDesk$Ranking", "greatestFirst", "Z", false)
def t_Rk : Nat → FieldType := fun k => match k with
  | 0 => .array .int
  | 1 => .array .int
  | 2 => .int
  | 3 => .int
  | _ => .boolean
theorem n_Rk : ∀ a, a < 5 → ∀ b, b < 5 → a ≠ b → (F_Rk a).2.1 ≠ (F_Rk b).2.1 := by decide +kernel
theorem t_Rk_ok : ∀ k, k < 5 → parseFieldDescriptor (F_Rk k).2.2.1 = some (t_Rk k) := by decide +kernel
def R_Wa : String := "NearDesk$Walker"
def F_Wa : u_T := fun k => match k with
  | 0 => ("NearDesk$Walker", "held", "LNearDesk$Ranking;", true)
  | 1 => ("NearDesk$Walker", "open", "LNearDesk$Ranking;", true)
  | 2 => ("NearDesk$Walker", "distances", "[I", true)
  | _ => ("NearDesk$Walker", "seen", "I", false)
def t_Wa : Nat → FieldType := fun k => match k with
  | 0 => .object "NearDesk$Ranking"
  | 1 => .object "NearDesk$Ranking"
  | 2 => .array .int
  | _ => .int
theorem n_Wa : ∀ a, a < 4 → ∀ b, b < 4 → a ≠ b → (F_Wa a).2.1 ≠ (F_Wa b).2.1 := by decide +kernel
theorem t_Wa_ok : ∀ k, k < 4 → parseFieldDescriptor (F_Wa k).2.2.1 = some (t_Wa k) := by decide +kernel
def R_Nd : String := "NearDesk"
def F_Nd : u_T := fun k => match k with
  | 0 => ("NearDesk", "documents", "LNearDesk$Documents;", true)
  | 1 => ("NearDesk", "graph", "LNearDesk$Graph;", true)
  | 2 => ("NearDesk", "results", "LNearDesk$Ranking;", true)
  | 3 => ("NearDesk", "scratch", "LNearDesk$Ranking;", true)
  | 4 => ("NearDesk", "asked", "[I", true)
  | _ => ("NearDesk", "points", "[I", true)
def t_Nd : Nat → FieldType := fun k => match k with
  | 0 => .object "NearDesk$Documents"
  | 1 => .object "NearDesk$Graph"
  | 2 => .object "NearDesk$Ranking"
  | 3 => .object "NearDesk$Ranking"
  | 4 => .array .int
  | _ => .array .int
theorem n_Nd : ∀ a, a < 6 → ∀ b, b < 6 → a ≠ b → (F_Nd a).2.1 ≠ (F_Nd b).2.1 := by decide +kernel
theorem t_Nd_ok : ∀ k, k < 6 → parseFieldDescriptor (F_Nd k).2.2.1 = some (t_Nd k) := by decide +kernel
def R_Mo : String := "NearDeskModel"
def F_Mo : u_T := fun k => match k with
  | 0 => ("NearDeskModel", "isNode", "[Z", true)
  | 1 => ("NearDeskModel", "isLive", "[Z", true)
  | 2 => ("NearDeskModel", "vector", "[I", true)
  | 3 => ("NearDeskModel", "words", "[I", true)
  | 4 => ("NearDeskModel", "level", "[I", true)
  | 5 => ("NearDeskModel", "entered", "[I", true)
  | 6 => ("NearDeskModel", "row", "[I", true)
  | 7 => ("NearDeskModel", "rows", "[I", true)
  | 8 => ("NearDeskModel", "entry", "I", false)
  | 9 => ("NearDeskModel", "many", "I", false)
  | 10 => ("NearDeskModel", "aim", "[I", true)
  | 11 => ("NearDeskModel", "asked", "[I", true)
  | 12 => ("NearDeskModel", "seen", "[Z", true)
  | 13 => ("NearDeskModel", "held", "[Z", true)
  | 14 => ("NearDeskModel", "open", "[Z", true)
  | 15 => ("NearDeskModel", "chosen", "[Z", true)
  | 16 => ("NearDeskModel", "here", "[I", true)
  | 17 => ("NearDeskModel", "picked", "[I", true)
  | 18 => ("NearDeskModel", "pool", "[I", true)
  | 19 => ("NearDeskModel", "heres", "I", false)
  | 20 => ("NearDeskModel", "picks", "I", false)
  | 21 => ("NearDeskModel", "pools", "I", false)
  | 22 => ("NearDeskModel", "number", "[I", true)
  | 23 => ("NearDeskModel", "worth", "[I", true)
  | 24 => ("NearDeskModel", "scores", "[I", true)
  | 25 => ("NearDeskModel", "found", "I", false)
  | 26 => ("NearDeskModel", "seenAsking", "J", false)
  | _ => ("NearDeskModel", "seenEntering", "J", false)
def t_Mo : Nat → FieldType := fun k => match k with
  | 0 => .array .boolean
  | 1 => .array .boolean
  | 2 => .array .int
  | 3 => .array .int
  | 4 => .array .int
  | 5 => .array .int
  | 6 => .array .int
  | 7 => .array .int
  | 8 => .int
  | 9 => .int
  | 10 => .array .int
  | 11 => .array .int
  | 12 => .array .boolean
  | 13 => .array .boolean
  | 14 => .array .boolean
  | 15 => .array .boolean
  | 16 => .array .int
  | 17 => .array .int
  | 18 => .array .int
  | 19 => .int
  | 20 => .int
  | 21 => .int
  | 22 => .array .int
  | 23 => .array .int
  | 24 => .array .int
  | 25 => .int
  | 26 => .long
  | _ => .long
theorem n_Mo : ∀ a, a < 28 → ∀ b, b < 28 → a ≠ b → (F_Mo a).2.1 ≠ (F_Mo b).2.1 := by decide +kernel
theorem t_Mo_ok : ∀ k, k < 28 → parseFieldDescriptor (F_Mo k).2.2.1 = some (t_Mo k) := by decide +kernel
def R_La : String := "NearDeskLaw"
def R_In : String := "java/lang/Integer"
abbrev classes : List vw_C := [(R_Ch, F_Ch, 3), (R_Do, F_Do, 4), (R_Gr, F_Gr, 7), (R_Li, F_Li, 6), (R_Rk, F_Rk, 5), (R_Wa, F_Wa, 4), (R_Nd, F_Nd, 6), (R_Mo, F_Mo, 28)]
abbrev b_Nd_init : ByteArray := prog_1_method_1_code
def y_Nd_init : MethodName := ⟨R_Nd, "<init>", "()V"⟩
abbrev b_Do_init : ByteArray := prog_3_method_1_code
def y_Do_init : MethodName := ⟨R_Do, "<init>", "()V"⟩
abbrev b_Gr_init : ByteArray := prog_4_method_1_code
def y_Gr_init : MethodName := ⟨R_Gr, "<init>", "()V"⟩
abbrev b_Li_init : ByteArray := prog_5_method_1_code
def y_Li_init : MethodName := ⟨R_Li, "<init>", "()V"⟩
abbrev b_Wa_init : ByteArray := prog_7_method_1_code
def y_Wa_init : MethodName := ⟨R_Wa, "<init>", "()V"⟩
abbrev b_Rk_init : ByteArray := prog_6_method_1_code
def y_Rk_init : MethodName := ⟨R_Rk, "<init>", "()V"⟩
abbrev b_Ch_init : ByteArray := prog_2_method_1_code
def y_Ch_init : MethodName := ⟨R_Ch, "<init>", "()V"⟩
abbrev b_Nd_put : ByteArray := prog_1_method_2_code
def y_Nd_put : MethodName := ⟨R_Nd, "put", "(IIIII)I"⟩
abbrev b_Nd_isVector : ByteArray := prog_1_method_21_code
def y_Nd_isVector : MethodName := ⟨R_Nd, "isVector", "(IIII)Z"⟩
abbrev b_Nd_isCoordinate : ByteArray := prog_1_method_20_code
def y_Nd_isCoordinate : MethodName := ⟨R_Nd, "isCoordinate", "(I)Z"⟩
abbrev b_Nd_isWithin : ByteArray := prog_1_method_19_code
def y_Nd_isWithin : MethodName := ⟨R_Nd, "isWithin", "(III)Z"⟩
abbrev b_Li_freeNumber : ByteArray := prog_5_method_5_code
def y_Li_freeNumber : MethodName := ⟨R_Li, "freeNumber", "()I"⟩
abbrev b_Do_store : ByteArray := prog_3_method_2_code
def y_Do_store : MethodName := ⟨R_Do, "store", "(IIIIII)V"⟩
abbrev b_Nd_writeVector : ByteArray := prog_1_method_24_code
def y_Nd_writeVector : MethodName := ⟨R_Nd, "writeVector", "([IIIII)V"⟩
abbrev b_Gr_enter : ByteArray := prog_4_method_7_code
def y_Gr_enter : MethodName := ⟨R_Gr, "enter", "(LNearDesk$Documents;I)V"⟩
abbrev b_Li_addNode : ByteArray := prog_5_method_3_code
def y_Li_addNode : MethodName := ⟨R_Li, "addNode", "(I)V"⟩
abbrev b_Li_levelOf : ByteArray := prog_5_method_19_code
def y_Li_levelOf : MethodName := ⟨R_Li, "levelOf", "(I)I"⟩
abbrev b_Li_level : ByteArray := prog_5_method_9_code
def y_Li_level : MethodName := ⟨R_Li, "level", "(I)I"⟩
abbrev b_Do_vector : ByteArray := prog_3_method_6_code
def y_Do_vector : MethodName := ⟨R_Do, "vector", "(I)[I"⟩
abbrev b_Wa_standAt : ByteArray := prog_7_method_2_code
def y_Wa_standAt : MethodName := ⟨R_Wa, "standAt", "(LNearDesk$Documents;[II)V"⟩
abbrev b_Do_measure : ByteArray := prog_3_method_9_code
def y_Do_measure : MethodName := ⟨R_Do, "measure", "([I[I)V"⟩
abbrev b_Nd_distance : ByteArray := prog_1_method_25_code
def y_Nd_distance : MethodName := ⟨R_Nd, "distance", "([I[I)I"⟩
abbrev b_Rk_start : ByteArray := prog_6_method_2_code
def y_Rk_start : MethodName := ⟨R_Rk, "start", "(IZ)V"⟩
abbrev b_Rk_add : ByteArray := prog_6_method_10_code
def y_Rk_add : MethodName := ⟨R_Rk, "add", "(II)Z"⟩
abbrev b_Rk_isFull : ByteArray := prog_6_method_7_code
def y_Rk_isFull : MethodName := ⟨R_Rk, "isFull", "()Z"⟩
abbrev b_Rk_precedes : ByteArray := prog_6_method_12_code
def y_Rk_precedes : MethodName := ⟨R_Rk, "precedes", "(IIII)Z"⟩
abbrev b_Gr_top : ByteArray := prog_4_method_3_code
def y_Gr_top : MethodName := ⟨R_Gr, "top", "()I"⟩
abbrev b_Wa_walk : ByteArray := prog_7_method_5_code
def y_Wa_walk : MethodName := ⟨R_Wa, "walk", "(LNearDesk$Links;II)I"⟩
abbrev b_Wa_begin : ByteArray := prog_7_method_6_code
def y_Wa_begin : MethodName := ⟨R_Wa, "begin", "(I)V"⟩
abbrev b_Rk_size : ByteArray := prog_6_method_4_code
def y_Rk_size : MethodName := ⟨R_Rk, "size", "()I"⟩
abbrev b_Rk_numberAt : ByteArray := prog_6_method_5_code
def y_Rk_numberAt : MethodName := ⟨R_Rk, "numberAt", "(I)I"⟩
abbrev b_Rk_changeRoom : ByteArray := prog_6_method_3_code
def y_Rk_changeRoom : MethodName := ⟨R_Rk, "changeRoom", "(I)V"⟩
abbrev b_Rk_valueAt : ByteArray := prog_6_method_6_code
def y_Rk_valueAt : MethodName := ⟨R_Rk, "valueAt", "(I)I"⟩
abbrev b_Rk_dropFirst : ByteArray := prog_6_method_11_code
def y_Rk_dropFirst : MethodName := ⟨R_Rk, "dropFirst", "()V"⟩
abbrev b_Rk_lastPrecedes : ByteArray := prog_6_method_8_code
def y_Rk_lastPrecedes : MethodName := ⟨R_Rk, "lastPrecedes", "(II)Z"⟩
abbrev b_Wa_lookAround : ByteArray := prog_7_method_7_code
def y_Wa_lookAround : MethodName := ⟨R_Wa, "lookAround", "(LNearDesk$Links;II)V"⟩
abbrev b_Li_degree : ByteArray := prog_5_method_10_code
def y_Li_degree : MethodName := ⟨R_Li, "degree", "(II)I"⟩
abbrev b_Li_linked : ByteArray := prog_5_method_11_code
def y_Li_linked : MethodName := ⟨R_Li, "linked", "(III)I"⟩
abbrev b_Nd_isIn : ByteArray := prog_1_method_23_code
def y_Nd_isIn : MethodName := ⟨R_Nd, "isIn", "(II)Z"⟩
abbrev b_In_bitCount : ByteArray := prog_10_method_49_code
def y_In_bitCount : MethodName := ⟨R_In, "bitCount", "(I)I"⟩
abbrev b_Gr_link : ByteArray := prog_4_method_9_code
def y_Gr_link : MethodName := ⟨R_Gr, "link", "(LNearDesk$Documents;II)V"⟩
abbrev b_Wa_held : ByteArray := prog_7_method_4_code
def y_Wa_held : MethodName := ⟨R_Wa, "held", "()LNearDesk$Ranking;"⟩
abbrev b_Ch_choose : ByteArray := prog_2_method_4_code
def y_Ch_choose : MethodName := ⟨R_Ch, "choose", "(LNearDesk$Documents;LNearDesk$Ranking;I)V"⟩
abbrev b_Ch_isNearestToVector : ByteArray := prog_2_method_6_code
def y_Ch_isNearestToVector : MethodName := ⟨R_Ch, "isNearestToVector", "(LNearDesk$Documents;II)Z"⟩
abbrev b_Ch_take : ByteArray := prog_2_method_5_code
def y_Ch_take : MethodName := ⟨R_Ch, "take", "(I)V"⟩
abbrev b_Li_replace : ByteArray := prog_5_method_14_code
def y_Li_replace : MethodName := ⟨R_Li, "replace", "(IILNearDesk$Chooser;)V"⟩
abbrev b_Ch_size : ByteArray := prog_2_method_2_code
def y_Ch_size : MethodName := ⟨R_Ch, "size", "()I"⟩
abbrev b_Ch_chosen : ByteArray := prog_2_method_3_code
def y_Ch_chosen : MethodName := ⟨R_Ch, "chosen", "(I)I"⟩
abbrev b_Li_append : ByteArray := prog_5_method_13_code
def y_Li_append : MethodName := ⟨R_Li, "append", "(III)V"⟩
abbrev b_Li_most : ByteArray := prog_5_method_12_code
def y_Li_most : MethodName := ⟨R_Li, "most", "(I)I"⟩
abbrev b_Gr_shorten : ByteArray := prog_4_method_10_code
def y_Gr_shorten : MethodName := ⟨R_Gr, "shorten", "(LNearDesk$Documents;II)V"⟩
abbrev b_Nd_remove : ByteArray := prog_1_method_3_code
def y_Nd_remove : MethodName := ⟨R_Nd, "remove", "(I)Z"⟩
abbrev b_Do_retire : ByteArray := prog_3_method_3_code
def y_Do_retire : MethodName := ⟨R_Do, "retire", "(I)Z"⟩
abbrev b_Do_isLive : ByteArray := prog_3_method_4_code
def y_Do_isLive : MethodName := ⟨R_Do, "isLive", "(I)Z"⟩
abbrev b_Nd_isDocumentNumber : ByteArray := prog_1_method_22_code
def y_Nd_isDocumentNumber : MethodName := ⟨R_Nd, "isDocumentNumber", "(I)Z"⟩
abbrev b_Nd_renew : ByteArray := prog_1_method_4_code
def y_Nd_renew : MethodName := ⟨R_Nd, "renew", "()I"⟩
abbrev b_Li_size : ByteArray := prog_5_method_4_code
def y_Li_size : MethodName := ⟨R_Li, "size", "()I"⟩
abbrev b_Do_liveCount : ByteArray := prog_3_method_5_code
def y_Do_liveCount : MethodName := ⟨R_Do, "liveCount", "()I"⟩
abbrev b_Gr_clear : ByteArray := prog_4_method_6_code
def y_Gr_clear : MethodName := ⟨R_Gr, "clear", "()V"⟩
abbrev b_Li_clear : ByteArray := prog_5_method_2_code
def y_Li_clear : MethodName := ⟨R_Li, "clear", "()V"⟩
abbrev b_Nd_ask : ByteArray := prog_1_method_5_code
def y_Nd_ask : MethodName := ⟨R_Nd, "ask", "(IIII)Z"⟩
abbrev b_Nd_near : ByteArray := prog_1_method_6_code
def y_Nd_near : MethodName := ⟨R_Nd, "near", "(II)I"⟩
abbrev b_Nd_searchInto : ByteArray := prog_1_method_14_code
def y_Nd_searchInto : MethodName := ⟨R_Nd, "searchInto", "(LNearDesk$Ranking;I)V"⟩
abbrev b_Gr_search : ByteArray := prog_4_method_8_code
def y_Gr_search : MethodName := ⟨R_Gr, "search", "(LNearDesk$Documents;[II)LNearDesk$Ranking;"⟩
abbrev b_Wa_standNowhere : ByteArray := prog_7_method_3_code
def y_Wa_standNowhere : MethodName := ⟨R_Wa, "standNowhere", "()V"⟩
abbrev b_Nd_exact : ByteArray := prog_1_method_7_code
def y_Nd_exact : MethodName := ⟨R_Nd, "exact", "(I)I"⟩
abbrev b_Do_rankByDistance : ByteArray := prog_3_method_10_code
def y_Do_rankByDistance : MethodName := ⟨R_Do, "rankByDistance", "([ILNearDesk$Ranking;)V"⟩
abbrev b_Nd_match : ByteArray := prog_1_method_8_code
def y_Nd_match : MethodName := ⟨R_Nd, "match", "(II)I"⟩
abbrev b_Do_rankByScore : ByteArray := prog_3_method_11_code
def y_Do_rankByScore : MethodName := ⟨R_Do, "rankByScore", "(ILNearDesk$Ranking;)V"⟩
abbrev b_Do_weighWords : ByteArray := prog_3_method_12_code
def y_Do_weighWords : MethodName := ⟨R_Do, "weighWords", "()V"⟩
abbrev b_Do_liveWith : ByteArray := prog_3_method_13_code
def y_Do_liveWith : MethodName := ⟨R_Do, "liveWith", "(I)I"⟩
abbrev b_Do_countOfWord : ByteArray := prog_3_method_15_code
def y_Do_countOfWord : MethodName := ⟨R_Do, "countOfWord", "(II)I"⟩
abbrev b_Do_score : ByteArray := prog_3_method_14_code
def y_Do_score : MethodName := ⟨R_Do, "score", "(II)I"⟩
abbrev b_Nd_fuse : ByteArray := prog_1_method_9_code
def y_Nd_fuse : MethodName := ⟨R_Nd, "fuse", "(II)I"⟩
abbrev b_Nd_clearPoints : ByteArray := prog_1_method_15_code
def y_Nd_clearPoints : MethodName := ⟨R_Nd, "clearPoints", "()V"⟩
abbrev b_Nd_addPoints : ByteArray := prog_1_method_16_code
def y_Nd_addPoints : MethodName := ⟨R_Nd, "addPoints", "(LNearDesk$Ranking;)V"⟩
abbrev b_Nd_rankByPoints : ByteArray := prog_1_method_17_code
def y_Nd_rankByPoints : MethodName := ⟨R_Nd, "rankByPoints", "(LNearDesk$Ranking;)V"⟩
abbrev b_Nd_found : ByteArray := prog_1_method_10_code
def y_Nd_found : MethodName := ⟨R_Nd, "found", "(II)I"⟩
abbrev b_Nd_node : ByteArray := prog_1_method_11_code
def y_Nd_node : MethodName := ⟨R_Nd, "node", "(II)I"⟩
abbrev b_Li_isNode : ByteArray := prog_5_method_6_code
def y_Li_isNode : MethodName := ⟨R_Li, "isNode", "(I)Z"⟩
abbrev b_Li_isInLayer : ByteArray := prog_5_method_7_code
def y_Li_isInLayer : MethodName := ⟨R_Li, "isInLayer", "(II)Z"⟩
abbrev b_Li_order : ByteArray := prog_5_method_8_code
def y_Li_order : MethodName := ⟨R_Li, "order", "(I)I"⟩
abbrev b_Do_counts : ByteArray := prog_3_method_8_code
def y_Do_counts : MethodName := ⟨R_Do, "counts", "(I)I"⟩
abbrev b_Do_coordinate : ByteArray := prog_3_method_7_code
def y_Do_coordinate : MethodName := ⟨R_Do, "coordinate", "(II)I"⟩
abbrev b_Nd_neighbour : ByteArray := prog_1_method_12_code
def y_Nd_neighbour : MethodName := ⟨R_Nd, "neighbour", "(III)I"⟩
abbrev b_Nd_count : ByteArray := prog_1_method_13_code
def y_Nd_count : MethodName := ⟨R_Nd, "count", "(I)I"⟩
abbrev b_Gr_entry : ByteArray := prog_4_method_2_code
def y_Gr_entry : MethodName := ⟨R_Gr, "entry", "()I"⟩
abbrev b_Gr_seenInSearches : ByteArray := prog_4_method_4_code
def y_Gr_seenInSearches : MethodName := ⟨R_Gr, "seenInSearches", "()I"⟩
abbrev b_Gr_seenInEntering : ByteArray := prog_4_method_5_code
def y_Gr_seenInEntering : MethodName := ⟨R_Gr, "seenInEntering", "()I"⟩
abbrev b_Nd_foundAmongNearest : ByteArray := prog_1_method_18_code
def y_Nd_foundAmongNearest : MethodName := ⟨R_Nd, "foundAmongNearest", "()I"⟩
abbrev b_Rk_holds : ByteArray := prog_6_method_9_code
def y_Rk_holds : MethodName := ⟨R_Rk, "holds", "(I)Z"⟩
abbrev b_Li_oneSidedPairs : ByteArray := prog_5_method_15_code
def y_Li_oneSidedPairs : MethodName := ⟨R_Li, "oneSidedPairs", "()I"⟩
abbrev b_Li_unreturned : ByteArray := prog_5_method_17_code
def y_Li_unreturned : MethodName := ⟨R_Li, "unreturned", "(I)I"⟩
abbrev b_Li_isLinked : ByteArray := prog_5_method_18_code
def y_Li_isLinked : MethodName := ⟨R_Li, "isLinked", "(II)Z"⟩
abbrev b_Li_reachedFrom : ByteArray := prog_5_method_16_code
def y_Li_reachedFrom : MethodName := ⟨R_Li, "reachedFrom", "(I)I"⟩
abbrev b_Mo_init : ByteArray := prog_9_method_1_code
def y_Mo_init : MethodName := ⟨R_Mo, "<init>", "()V"⟩
abbrev b_Mo_put : ByteArray := prog_9_method_17_code
def y_Mo_put : MethodName := ⟨R_Mo, "put", "(IIIII)I"⟩
abbrev b_Mo_in : ByteArray := prog_9_method_2_code
def y_Mo_in : MethodName := ⟨R_Mo, "in", "(III)Z"⟩
abbrev b_Mo_enter : ByteArray := prog_9_method_15_code
def y_Mo_enter : MethodName := ⟨R_Mo, "enter", "(I)V"⟩
abbrev b_Mo_aimAt : ByteArray := prog_9_method_14_code
def y_Mo_aimAt : MethodName := ⟨R_Mo, "aimAt", "(I)V"⟩
abbrev b_Mo_walk : ByteArray := prog_9_method_9_code
def y_Mo_walk : MethodName := ⟨R_Mo, "walk", "(II)I"⟩
abbrev b_Mo_size : ByteArray := prog_9_method_8_code
def y_Mo_size : MethodName := ⟨R_Mo, "size", "([Z)I"⟩
abbrev b_Mo_farthest : ByteArray := prog_9_method_7_code
def y_Mo_farthest : MethodName := ⟨R_Mo, "farthest", "([Z)I"⟩
abbrev b_Mo_isNearer : ByteArray := prog_9_method_5_code
def y_Mo_isNearer : MethodName := ⟨R_Mo, "isNearer", "(II)Z"⟩
abbrev b_Mo_far : ByteArray := prog_9_method_3_code
def y_Mo_far : MethodName := ⟨R_Mo, "far", "(I)I"⟩
abbrev b_Mo_nearest : ByteArray := prog_9_method_6_code
def y_Mo_nearest : MethodName := ⟨R_Mo, "nearest", "([Z)I"⟩
abbrev b_Mo_look : ByteArray := prog_9_method_10_code
def y_Mo_look : MethodName := ⟨R_Mo, "look", "(II)V"⟩
abbrev b_Mo_tie : ByteArray := prog_9_method_16_code
def y_Mo_tie : MethodName := ⟨R_Mo, "tie", "(II)V"⟩
abbrev b_Mo_choose : ByteArray := prog_9_method_11_code
def y_Mo_choose : MethodName := ⟨R_Mo, "choose", "(I)V"⟩
abbrev b_Mo_between : ByteArray := prog_9_method_4_code
def y_Mo_between : MethodName := ⟨R_Mo, "between", "(II)I"⟩
abbrev b_Mo_pick : ByteArray := prog_9_method_12_code
def y_Mo_pick : MethodName := ⟨R_Mo, "pick", "(I)V"⟩
abbrev b_Mo_take : ByteArray := prog_9_method_13_code
def y_Mo_take : MethodName := ⟨R_Mo, "take", "(I)V"⟩
abbrev b_Mo_remove : ByteArray := prog_9_method_18_code
def y_Mo_remove : MethodName := ⟨R_Mo, "remove", "(I)Z"⟩
abbrev b_Mo_renew : ByteArray := prog_9_method_19_code
def y_Mo_renew : MethodName := ⟨R_Mo, "renew", "()I"⟩
abbrev b_Mo_ask : ByteArray := prog_9_method_20_code
def y_Mo_ask : MethodName := ⟨R_Mo, "ask", "(IIII)Z"⟩
abbrev b_Mo_near : ByteArray := prog_9_method_23_code
def y_Mo_near : MethodName := ⟨R_Mo, "near", "(II)I"⟩
abbrev b_Mo_search : ByteArray := prog_9_method_22_code
def y_Mo_search : MethodName := ⟨R_Mo, "search", "(I)V"⟩
abbrev b_Mo_aimAsked : ByteArray := prog_9_method_21_code
def y_Mo_aimAsked : MethodName := ⟨R_Mo, "aimAsked", "()V"⟩
abbrev b_Mo_exact : ByteArray := prog_9_method_24_code
def y_Mo_exact : MethodName := ⟨R_Mo, "exact", "(I)I"⟩
abbrev b_Mo_match : ByteArray := prog_9_method_30_code
def y_Mo_match : MethodName := ⟨R_Mo, "match", "(II)I"⟩
abbrev b_Mo_score : ByteArray := prog_9_method_27_code
def y_Mo_score : MethodName := ⟨R_Mo, "score", "(I)V"⟩
abbrev b_Mo_scoreOf : ByteArray := prog_9_method_26_code
def y_Mo_scoreOf : MethodName := ⟨R_Mo, "scoreOf", "(II)I"⟩
abbrev b_Mo_countOf : ByteArray := prog_9_method_25_code
def y_Mo_countOf : MethodName := ⟨R_Mo, "countOf", "(II)I"⟩
abbrev b_Mo_best : ByteArray := prog_9_method_29_code
def y_Mo_best : MethodName := ⟨R_Mo, "best", "(I)I"⟩
abbrev b_Mo_placeOf : ByteArray := prog_9_method_28_code
def y_Mo_placeOf : MethodName := ⟨R_Mo, "placeOf", "(I)I"⟩
abbrev b_Mo_fuse : ByteArray := prog_9_method_31_code
def y_Mo_fuse : MethodName := ⟨R_Mo, "fuse", "(II)I"⟩
abbrev b_Mo_found : ByteArray := prog_9_method_32_code
def y_Mo_found : MethodName := ⟨R_Mo, "found", "(II)I"⟩
abbrev b_Mo_node : ByteArray := prog_9_method_33_code
def y_Mo_node : MethodName := ⟨R_Mo, "node", "(II)I"⟩
abbrev b_Mo_neighbour : ByteArray := prog_9_method_34_code
def y_Mo_neighbour : MethodName := ⟨R_Mo, "neighbour", "(III)I"⟩
abbrev b_Mo_count : ByteArray := prog_9_method_39_code
def y_Mo_count : MethodName := ⟨R_Mo, "count", "(I)I"⟩
abbrev b_Mo_right : ByteArray := prog_9_method_36_code
def y_Mo_right : MethodName := ⟨R_Mo, "right", "()I"⟩
abbrev b_Mo_oneSided : ByteArray := prog_9_method_37_code
def y_Mo_oneSided : MethodName := ⟨R_Mo, "oneSided", "()I"⟩
abbrev b_Mo_isNeighbour : ByteArray := prog_9_method_35_code
def y_Mo_isNeighbour : MethodName := ⟨R_Mo, "isNeighbour", "(II)Z"⟩
abbrev b_Mo_reached : ByteArray := prog_9_method_38_code
def y_Mo_reached : MethodName := ⟨R_Mo, "reached", "()I"⟩
def hw_G : List Cond := lw_tbl.filter goodWord
theorem hw_in {w : Cond} (i : Nat) (h : lw_tbl[i]? = some w) (g : goodWord w = true) : w ∈ hw_G := List.mem_filter.mpr ⟨List.mem_of_getElem? h, g⟩
def hw_isN (w : Cond) : Bool := match w with
  | .fieldLinkNest _ _ _ _ _ _ => true
  | .methodLinkNest _ _ _ _ => true
  | _ => false
def hw_NW : List Cond := lw_tbl.filter hw_isN
theorem hw_inN {w : Cond} (i : Nat) (h : lw_tbl[i]? = some w) (g : hw_isN w = true) : w ∈ hw_NW := List.mem_filter.mpr ⟨List.mem_of_getElem? h, g⟩
theorem i_Ch : ∀ w ∈ u_ws R_Ch F_Ch 3, w ∈ hw_G := by decide +kernel
theorem i_Do : ∀ w ∈ u_ws R_Do F_Do 4, w ∈ hw_G := by decide +kernel
theorem i_Gr : ∀ w ∈ u_ws R_Gr F_Gr 7, w ∈ hw_G := by decide +kernel
theorem i_Li : ∀ w ∈ u_ws R_Li F_Li 6, w ∈ hw_G := by decide +kernel
theorem i_Rk : ∀ w ∈ u_ws R_Rk F_Rk 5, w ∈ hw_G := by decide +kernel
theorem i_Wa : ∀ w ∈ u_ws R_Wa F_Wa 4, w ∈ hw_G := by decide +kernel
theorem i_Nd : ∀ w ∈ u_ws R_Nd F_Nd 6, w ∈ hw_G := by decide +kernel
theorem i_Mo : ∀ w ∈ u_ws R_Mo F_Mo 28, w ∈ hw_G := by decide +kernel
end
section
theorem hw_good : GoodIn hw_G hw_G := fun w h => ⟨h, good_of_word (List.mem_filter.mp h).2⟩
theorem hw_gc {c : Cond} (h : c ∈ hw_G) : GoodIn hw_G (c :: hw_G) := fun w hw => (List.mem_cons.mp hw).elim (fun e => by subst e; exact hw_good _ h) (fun q => hw_good _ q)
theorem hw_g1 {c : Cond} {ws : List Cond} (h : c ∈ hw_G) (g : GoodIn hw_G ws) : GoodIn hw_G (c :: ws) := fun w hw => (List.mem_cons.mp hw).elim (fun e => by subst e; exact hw_good _ h) (fun q => g _ q)
theorem hw_g2 {a b : Cond} {ws : List Cond} (h1 : a ∈ hw_G) (h2 : b ∈ hw_G) (g : GoodIn hw_G ws) : GoodIn hw_G ([a, b] ++ ws) := hw_g1 h1 (hw_g1 h2 g)
theorem hw_g3 {a b c : Cond} {ws : List Cond} (h1 : a ∈ hw_G) (h2 : b ∈ hw_G) (h3 : c ∈ hw_G) (g : GoodIn hw_G ws) : GoodIn hw_G ([a, b, c] ++ ws) := hw_g1 h1 (hw_g1 h2 (hw_g1 h3 g))
theorem hw_gV {own C : String} {idx : Nat} {y : MethodName} {ws : List Cond} (h : Cond.methodLink own idx y ∈ hw_G) (g : GoodIn hw_G ([.instanceMethod y, .selects C y y, .initialized C] ++ ws)) : GoodIn hw_G (wsV own idx C y ws) := hw_g1 h g
theorem hw_gS {own : String} {idx : Nat} {y : MethodName} {ws : List Cond} (h : Cond.methodLink own idx y ∈ hw_G) (g : GoodIn hw_G ([.static y, .initialized y.cls] ++ ws)) : GoodIn hw_G (va_wsS own idx y ws) := hw_g1 h g
theorem iw_m42 : (Cond.selects "NearDeskModel" ({ cls := "NearDeskModel", name := "reached", desc := "()I" } : MethodName) ({ cls := "NearDeskModel", name := "reached", desc := "()I" } : MethodName)) ∈ hw_G := hw_in 41 (by decide +kernel) rfl
theorem iw_m41 : (Cond.selects "NearDeskModel" ({ cls := "NearDeskModel", name := "isNeighbour", desc := "(II)Z" } : MethodName) ({ cls := "NearDeskModel", name := "isNeighbour", desc := "(II)Z" } : MethodName)) ∈ hw_G := hw_in 40 (by decide +kernel) rfl
theorem iw_m40 : (Cond.selects "NearDeskModel" ({ cls := "NearDeskModel", name := "oneSided", desc := "()I" } : MethodName) ({ cls := "NearDeskModel", name := "oneSided", desc := "()I" } : MethodName)) ∈ hw_G := hw_in 39 (by decide +kernel) rfl
theorem iw_m39 : (Cond.selects "NearDeskModel" ({ cls := "NearDeskModel", name := "right", desc := "()I" } : MethodName) ({ cls := "NearDeskModel", name := "right", desc := "()I" } : MethodName)) ∈ hw_G := hw_in 38 (by decide +kernel) rfl
theorem iw_m38 : (Cond.selects "NearDeskModel" ({ cls := "NearDeskModel", name := "placeOf", desc := "(I)I" } : MethodName) ({ cls := "NearDeskModel", name := "placeOf", desc := "(I)I" } : MethodName)) ∈ hw_G := hw_in 37 (by decide +kernel) rfl
theorem iw_m37 : (Cond.selects "NearDeskModel" ({ cls := "NearDeskModel", name := "best", desc := "(I)I" } : MethodName) ({ cls := "NearDeskModel", name := "best", desc := "(I)I" } : MethodName)) ∈ hw_G := hw_in 36 (by decide +kernel) rfl
theorem iw_m36 : (Cond.selects "NearDeskModel" ({ cls := "NearDeskModel", name := "countOf", desc := "(II)I" } : MethodName) ({ cls := "NearDeskModel", name := "countOf", desc := "(II)I" } : MethodName)) ∈ hw_G := hw_in 35 (by decide +kernel) rfl
theorem iw_m35 : (Cond.selects "NearDeskModel" ({ cls := "NearDeskModel", name := "scoreOf", desc := "(II)I" } : MethodName) ({ cls := "NearDeskModel", name := "scoreOf", desc := "(II)I" } : MethodName)) ∈ hw_G := hw_in 34 (by decide +kernel) rfl
theorem iw_m34 : (Cond.selects "NearDeskModel" ({ cls := "NearDeskModel", name := "score", desc := "(I)V" } : MethodName) ({ cls := "NearDeskModel", name := "score", desc := "(I)V" } : MethodName)) ∈ hw_G := hw_in 33 (by decide +kernel) rfl
theorem iw_m33 : (Cond.selects "NearDeskModel" ({ cls := "NearDeskModel", name := "aimAsked", desc := "()V" } : MethodName) ({ cls := "NearDeskModel", name := "aimAsked", desc := "()V" } : MethodName)) ∈ hw_G := hw_in 32 (by decide +kernel) rfl
theorem iw_m32 : (Cond.selects "NearDeskModel" ({ cls := "NearDeskModel", name := "search", desc := "(I)V" } : MethodName) ({ cls := "NearDeskModel", name := "search", desc := "(I)V" } : MethodName)) ∈ hw_G := hw_in 31 (by decide +kernel) rfl
theorem iw_m31 : (Cond.selects "NearDeskModel" ({ cls := "NearDeskModel", name := "take", desc := "(I)V" } : MethodName) ({ cls := "NearDeskModel", name := "take", desc := "(I)V" } : MethodName)) ∈ hw_G := hw_in 30 (by decide +kernel) rfl
theorem iw_m30 : (Cond.selects "NearDeskModel" ({ cls := "NearDeskModel", name := "pick", desc := "(I)V" } : MethodName) ({ cls := "NearDeskModel", name := "pick", desc := "(I)V" } : MethodName)) ∈ hw_G := hw_in 29 (by decide +kernel) rfl
theorem iw_m29 : (Cond.selects "NearDeskModel" ({ cls := "NearDeskModel", name := "between", desc := "(II)I" } : MethodName) ({ cls := "NearDeskModel", name := "between", desc := "(II)I" } : MethodName)) ∈ hw_G := hw_in 28 (by decide +kernel) rfl
theorem iw_m28 : (Cond.selects "NearDeskModel" ({ cls := "NearDeskModel", name := "choose", desc := "(I)V" } : MethodName) ({ cls := "NearDeskModel", name := "choose", desc := "(I)V" } : MethodName)) ∈ hw_G := hw_in 27 (by decide +kernel) rfl
theorem iw_m27 : (Cond.selects "NearDeskModel" ({ cls := "NearDeskModel", name := "tie", desc := "(II)V" } : MethodName) ({ cls := "NearDeskModel", name := "tie", desc := "(II)V" } : MethodName)) ∈ hw_G := hw_in 26 (by decide +kernel) rfl
theorem iw_m26 : (Cond.selects "NearDeskModel" ({ cls := "NearDeskModel", name := "look", desc := "(II)V" } : MethodName) ({ cls := "NearDeskModel", name := "look", desc := "(II)V" } : MethodName)) ∈ hw_G := hw_in 25 (by decide +kernel) rfl
theorem iw_m25 : (Cond.selects "NearDeskModel" ({ cls := "NearDeskModel", name := "nearest", desc := "([Z)I" } : MethodName) ({ cls := "NearDeskModel", name := "nearest", desc := "([Z)I" } : MethodName)) ∈ hw_G := hw_in 24 (by decide +kernel) rfl
theorem iw_m24 : (Cond.selects "NearDeskModel" ({ cls := "NearDeskModel", name := "far", desc := "(I)I" } : MethodName) ({ cls := "NearDeskModel", name := "far", desc := "(I)I" } : MethodName)) ∈ hw_G := hw_in 23 (by decide +kernel) rfl
theorem iw_m23 : (Cond.selects "NearDeskModel" ({ cls := "NearDeskModel", name := "isNearer", desc := "(II)Z" } : MethodName) ({ cls := "NearDeskModel", name := "isNearer", desc := "(II)Z" } : MethodName)) ∈ hw_G := hw_in 22 (by decide +kernel) rfl
theorem iw_m22 : (Cond.selects "NearDeskModel" ({ cls := "NearDeskModel", name := "farthest", desc := "([Z)I" } : MethodName) ({ cls := "NearDeskModel", name := "farthest", desc := "([Z)I" } : MethodName)) ∈ hw_G := hw_in 21 (by decide +kernel) rfl
theorem iw_m21 : (Cond.selects "NearDeskModel" ({ cls := "NearDeskModel", name := "walk", desc := "(II)I" } : MethodName) ({ cls := "NearDeskModel", name := "walk", desc := "(II)I" } : MethodName)) ∈ hw_G := hw_in 20 (by decide +kernel) rfl
theorem iw_m20 : (Cond.selects "NearDeskModel" ({ cls := "NearDeskModel", name := "aimAt", desc := "(I)V" } : MethodName) ({ cls := "NearDeskModel", name := "aimAt", desc := "(I)V" } : MethodName)) ∈ hw_G := hw_in 19 (by decide +kernel) rfl
theorem iw_m19 : (Cond.selects "NearDeskModel" ({ cls := "NearDeskModel", name := "enter", desc := "(I)V" } : MethodName) ({ cls := "NearDeskModel", name := "enter", desc := "(I)V" } : MethodName)) ∈ hw_G := hw_in 18 (by decide +kernel) rfl
theorem iw_m18 : (Cond.selects "NearDesk$Links" ({ cls := "NearDesk$Links", name := "isLinked", desc := "(II)Z" } : MethodName) ({ cls := "NearDesk$Links", name := "isLinked", desc := "(II)Z" } : MethodName)) ∈ hw_G := hw_in 17 (by decide +kernel) rfl
theorem iw_m17 : (Cond.selects "NearDesk$Links" ({ cls := "NearDesk$Links", name := "unreturned", desc := "(I)I" } : MethodName) ({ cls := "NearDesk$Links", name := "unreturned", desc := "(I)I" } : MethodName)) ∈ hw_G := hw_in 16 (by decide +kernel) rfl
theorem iw_m16 : (Cond.selects "NearDesk" ({ cls := "NearDesk", name := "foundAmongNearest", desc := "()I" } : MethodName) ({ cls := "NearDesk", name := "foundAmongNearest", desc := "()I" } : MethodName)) ∈ hw_G := hw_in 15 (by decide +kernel) rfl
theorem iw_m15 : (Cond.selects "NearDesk" ({ cls := "NearDesk", name := "rankByPoints", desc := "(LNearDesk$Ranking;)V" } : MethodName) ({ cls := "NearDesk", name := "rankByPoints", desc := "(LNearDesk$Ranking;)V" } : MethodName)) ∈ hw_G := hw_in 14 (by decide +kernel) rfl
theorem iw_m14 : (Cond.selects "NearDesk" ({ cls := "NearDesk", name := "addPoints", desc := "(LNearDesk$Ranking;)V" } : MethodName) ({ cls := "NearDesk", name := "addPoints", desc := "(LNearDesk$Ranking;)V" } : MethodName)) ∈ hw_G := hw_in 13 (by decide +kernel) rfl
theorem iw_m13 : (Cond.selects "NearDesk" ({ cls := "NearDesk", name := "clearPoints", desc := "()V" } : MethodName) ({ cls := "NearDesk", name := "clearPoints", desc := "()V" } : MethodName)) ∈ hw_G := hw_in 12 (by decide +kernel) rfl
theorem iw_m12 : (Cond.selects "NearDesk$Documents" ({ cls := "NearDesk$Documents", name := "score", desc := "(II)I" } : MethodName) ({ cls := "NearDesk$Documents", name := "score", desc := "(II)I" } : MethodName)) ∈ hw_G := hw_in 11 (by decide +kernel) rfl
theorem iw_m11 : (Cond.selects "NearDesk$Documents" ({ cls := "NearDesk$Documents", name := "countOfWord", desc := "(II)I" } : MethodName) ({ cls := "NearDesk$Documents", name := "countOfWord", desc := "(II)I" } : MethodName)) ∈ hw_G := hw_in 10 (by decide +kernel) rfl
theorem iw_m10 : (Cond.selects "NearDesk$Documents" ({ cls := "NearDesk$Documents", name := "liveWith", desc := "(I)I" } : MethodName) ({ cls := "NearDesk$Documents", name := "liveWith", desc := "(I)I" } : MethodName)) ∈ hw_G := hw_in 9 (by decide +kernel) rfl
theorem iw_m9 : (Cond.selects "NearDesk$Documents" ({ cls := "NearDesk$Documents", name := "weighWords", desc := "()V" } : MethodName) ({ cls := "NearDesk$Documents", name := "weighWords", desc := "()V" } : MethodName)) ∈ hw_G := hw_in 8 (by decide +kernel) rfl
theorem iw_m8 : (Cond.selects "NearDesk" ({ cls := "NearDesk", name := "searchInto", desc := "(LNearDesk$Ranking;I)V" } : MethodName) ({ cls := "NearDesk", name := "searchInto", desc := "(LNearDesk$Ranking;I)V" } : MethodName)) ∈ hw_G := hw_in 7 (by decide +kernel) rfl
theorem iw_m7 : (Cond.selects "NearDesk$Graph" ({ cls := "NearDesk$Graph", name := "shorten", desc := "(LNearDesk$Documents;II)V" } : MethodName) ({ cls := "NearDesk$Graph", name := "shorten", desc := "(LNearDesk$Documents;II)V" } : MethodName)) ∈ hw_G := hw_in 6 (by decide +kernel) rfl
theorem iw_m6 : (Cond.selects "NearDesk$Chooser" ({ cls := "NearDesk$Chooser", name := "take", desc := "(I)V" } : MethodName) ({ cls := "NearDesk$Chooser", name := "take", desc := "(I)V" } : MethodName)) ∈ hw_G := hw_in 5 (by decide +kernel) rfl
theorem iw_m5 : (Cond.selects "NearDesk$Chooser" ({ cls := "NearDesk$Chooser", name := "isNearestToVector", desc := "(LNearDesk$Documents;II)Z" } : MethodName) ({ cls := "NearDesk$Chooser", name := "isNearestToVector", desc := "(LNearDesk$Documents;II)Z" } : MethodName)) ∈ hw_G := hw_in 4 (by decide +kernel) rfl
theorem iw_m4 : (Cond.selects "NearDesk$Graph" ({ cls := "NearDesk$Graph", name := "link", desc := "(LNearDesk$Documents;II)V" } : MethodName) ({ cls := "NearDesk$Graph", name := "link", desc := "(LNearDesk$Documents;II)V" } : MethodName)) ∈ hw_G := hw_in 3 (by decide +kernel) rfl
theorem iw_m3 : (Cond.selects "NearDesk$Walker" ({ cls := "NearDesk$Walker", name := "lookAround", desc := "(LNearDesk$Links;II)V" } : MethodName) ({ cls := "NearDesk$Walker", name := "lookAround", desc := "(LNearDesk$Links;II)V" } : MethodName)) ∈ hw_G := hw_in 2 (by decide +kernel) rfl
theorem iw_m2 : (Cond.selects "NearDesk$Walker" ({ cls := "NearDesk$Walker", name := "begin", desc := "(I)V" } : MethodName) ({ cls := "NearDesk$Walker", name := "begin", desc := "(I)V" } : MethodName)) ∈ hw_G := hw_in 1 (by decide +kernel) rfl
theorem iw_m1 : (Cond.selects "NearDesk$Ranking" ({ cls := "NearDesk$Ranking", name := "precedes", desc := "(IIII)Z" } : MethodName) ({ cls := "NearDesk$Ranking", name := "precedes", desc := "(IIII)Z" } : MethodName)) ∈ hw_G := hw_in 0 (by decide +kernel) rfl
theorem iw_1 : (Cond.initialized "NearDesk") ∈ hw_G := hw_in 43 (by decide +kernel) rfl
theorem iw_2 : (Cond.initialized "NearDesk$Documents") ∈ hw_G := hw_in 44 (by decide +kernel) rfl
theorem iw_3 : (Cond.initialized "NearDesk$Graph") ∈ hw_G := hw_in 45 (by decide +kernel) rfl
theorem iw_4 : (Cond.initialized "NearDesk$Links") ∈ hw_G := hw_in 46 (by decide +kernel) rfl
theorem iw_5 : (Cond.initialized "NearDesk$Walker") ∈ hw_G := hw_in 47 (by decide +kernel) rfl
theorem iw_6 : (Cond.initialized "NearDesk$Ranking") ∈ hw_G := hw_in 48 (by decide +kernel) rfl
theorem iw_7 : (Cond.initialized "NearDesk$Chooser") ∈ hw_G := hw_in 49 (by decide +kernel) rfl
theorem iw_8 : (Cond.initialized "NearDeskModel") ∈ hw_G := hw_in 50 (by decide +kernel) rfl
theorem iw_10 : (Cond.initialized "java/lang/Integer") ∈ hw_G := hw_in 52 (by decide +kernel) rfl
theorem iw_27 : (Cond.fieldLink "NearDesk$Documents" (11 : Nat) "NearDesk$Documents" "vectors" "[[I") ∈ hw_G := hw_in 69 (by decide +kernel) rfl
theorem iw_28 : (Cond.fieldLink "NearDesk$Documents" (16 : Nat) "NearDesk$Documents" "countsOfWords" "[I") ∈ hw_G := hw_in 70 (by decide +kernel) rfl
theorem iw_29 : (Cond.fieldLink "NearDesk$Documents" (20 : Nat) "NearDesk$Documents" "weights" "[I") ∈ hw_G := hw_in 71 (by decide +kernel) rfl
theorem iw_30 : (Cond.fieldLink "NearDesk$Documents" (27 : Nat) "NearDesk$Documents" "live" "I") ∈ hw_G := hw_in 72 (by decide +kernel) rfl
theorem iw_53 : (Cond.fieldLink "NearDesk$Links" (9 : Nat) "NearDesk$Links" "orders" "[I") ∈ hw_G := hw_in 95 (by decide +kernel) rfl
theorem iw_54 : (Cond.fieldLink "NearDesk$Links" (15 : Nat) "NearDesk$Links" "levels" "[I") ∈ hw_G := hw_in 96 (by decide +kernel) rfl
theorem iw_55 : (Cond.fieldLink "NearDesk$Links" (18 : Nat) "NearDesk$Links" "degrees" "[I") ∈ hw_G := hw_in 97 (by decide +kernel) rfl
theorem iw_56 : (Cond.fieldLink "NearDesk$Links" (21 : Nat) "NearDesk$Links" "rows" "[I") ∈ hw_G := hw_in 98 (by decide +kernel) rfl
theorem iw_57 : (Cond.fieldLink "NearDesk$Links" (24 : Nat) "NearDesk$Links" "queue" "[I") ∈ hw_G := hw_in 99 (by decide +kernel) rfl
theorem iw_58 : (Cond.fieldLink "NearDesk$Links" (27 : Nat) "NearDesk$Links" "size" "I") ∈ hw_G := hw_in 100 (by decide +kernel) rfl
theorem iw_84 : (Cond.fieldLink "NearDesk$Ranking" (9 : Nat) "NearDesk$Ranking" "numbers" "[I") ∈ hw_G := hw_in 126 (by decide +kernel) rfl
theorem iw_85 : (Cond.fieldLink "NearDesk$Ranking" (15 : Nat) "NearDesk$Ranking" "values" "[I") ∈ hw_G := hw_in 127 (by decide +kernel) rfl
theorem iw_86 : (Cond.fieldLink "NearDesk$Ranking" (18 : Nat) "NearDesk$Ranking" "size" "I") ∈ hw_G := hw_in 128 (by decide +kernel) rfl
theorem iw_87 : (Cond.fieldLink "NearDesk$Ranking" (28 : Nat) "NearDesk$Ranking" "room" "I") ∈ hw_G := hw_in 129 (by decide +kernel) rfl
theorem iw_88 : (Cond.fieldLink "NearDesk$Ranking" (31 : Nat) "NearDesk$Ranking" "greatestFirst" "Z") ∈ hw_G := hw_in 130 (by decide +kernel) rfl
theorem iw_100 : (Cond.fieldLink "NearDesk$Walker" (12 : Nat) "NearDesk$Walker" "held" "LNearDesk$Ranking;") ∈ hw_G := hw_in 142 (by decide +kernel) rfl
theorem iw_101 : (Cond.fieldLink "NearDesk$Walker" (18 : Nat) "NearDesk$Walker" "open" "LNearDesk$Ranking;") ∈ hw_G := hw_in 143 (by decide +kernel) rfl
theorem iw_102 : (Cond.fieldLink "NearDesk$Walker" (21 : Nat) "NearDesk$Walker" "distances" "[I") ∈ hw_G := hw_in 144 (by decide +kernel) rfl
theorem iw_103 : (Cond.fieldLink "NearDesk$Walker" (65 : Nat) "NearDesk$Walker" "seen" "I") ∈ hw_G := hw_in 145 (by decide +kernel) rfl
theorem iw_119 : (Cond.fieldLink "NearDesk$Chooser" (9 : Nat) "NearDesk$Chooser" "row" "[I") ∈ hw_G := hw_in 161 (by decide +kernel) rfl
theorem iw_120 : (Cond.fieldLink "NearDesk$Chooser" (15 : Nat) "NearDesk$Chooser" "size" "I") ∈ hw_G := hw_in 162 (by decide +kernel) rfl
theorem iw_121 : (Cond.fieldLink "NearDesk$Chooser" (19 : Nat) "NearDesk$Chooser" "taken" "I") ∈ hw_G := hw_in 163 (by decide +kernel) rfl
theorem iw_131 : (Cond.fieldLink "NearDesk$Graph" (12 : Nat) "NearDesk$Graph" "links" "LNearDesk$Links;") ∈ hw_G := hw_in 173 (by decide +kernel) rfl
theorem iw_133 : (Cond.fieldLink "NearDesk$Graph" (21 : Nat) "NearDesk$Graph" "walker" "LNearDesk$Walker;") ∈ hw_G := hw_in 175 (by decide +kernel) rfl
theorem iw_134 : (Cond.fieldLink "NearDesk$Graph" (28 : Nat) "NearDesk$Graph" "chooser" "LNearDesk$Chooser;") ∈ hw_G := hw_in 176 (by decide +kernel) rfl
theorem iw_135 : (Cond.fieldLink "NearDesk$Graph" (35 : Nat) "NearDesk$Graph" "candidates" "LNearDesk$Ranking;") ∈ hw_G := hw_in 177 (by decide +kernel) rfl
theorem iw_136 : (Cond.fieldLink "NearDesk$Graph" (39 : Nat) "NearDesk$Graph" "entry" "I") ∈ hw_G := hw_in 178 (by decide +kernel) rfl
theorem iw_137 : (Cond.fieldLink "NearDesk$Graph" (47 : Nat) "NearDesk$Graph" "seenInSearches" "I") ∈ hw_G := hw_in 179 (by decide +kernel) rfl
theorem iw_138 : (Cond.fieldLink "NearDesk$Graph" (50 : Nat) "NearDesk$Graph" "seenInEntering" "I") ∈ hw_G := hw_in 180 (by decide +kernel) rfl
theorem iw_156 : (Cond.fieldLink "NearDesk" (12 : Nat) "NearDesk" "documents" "LNearDesk$Documents;") ∈ hw_G := hw_in 198 (by decide +kernel) rfl
theorem iw_157 : (Cond.fieldLink "NearDesk" (19 : Nat) "NearDesk" "graph" "LNearDesk$Graph;") ∈ hw_G := hw_in 199 (by decide +kernel) rfl
theorem iw_158 : (Cond.fieldLink "NearDesk" (26 : Nat) "NearDesk" "results" "LNearDesk$Ranking;") ∈ hw_G := hw_in 200 (by decide +kernel) rfl
theorem iw_159 : (Cond.fieldLink "NearDesk" (30 : Nat) "NearDesk" "scratch" "LNearDesk$Ranking;") ∈ hw_G := hw_in 201 (by decide +kernel) rfl
theorem iw_160 : (Cond.fieldLink "NearDesk" (33 : Nat) "NearDesk" "asked" "[I") ∈ hw_G := hw_in 202 (by decide +kernel) rfl
theorem iw_161 : (Cond.fieldLink "NearDesk" (37 : Nat) "NearDesk" "points" "[I") ∈ hw_G := hw_in 203 (by decide +kernel) rfl
theorem iw_175 : (Cond.methodLink "NearDeskLaw" (13 : Nat) ({ cls := "NearDesk", name := "put", desc := "(IIIII)I" } : MethodName)) ∈ hw_G := hw_in 217 (by decide +kernel) rfl
theorem iw_176 : (Cond.instanceMethod ({ cls := "NearDesk", name := "put", desc := "(IIIII)I" } : MethodName)) ∈ hw_G := hw_in 218 (by decide +kernel) rfl
theorem iw_177 : (Cond.selects "NearDesk" ({ cls := "NearDesk", name := "put", desc := "(IIIII)I" } : MethodName) ({ cls := "NearDesk", name := "put", desc := "(IIIII)I" } : MethodName)) ∈ hw_G := hw_in 219 (by decide +kernel) rfl
theorem iw_179 : (Cond.methodLink "NearDesk" (40 : Nat) ({ cls := "NearDesk", name := "isVector", desc := "(IIII)Z" } : MethodName)) ∈ hw_G := hw_in 221 (by decide +kernel) rfl
theorem iw_180 : (Cond.static ({ cls := "NearDesk", name := "isVector", desc := "(IIII)Z" } : MethodName)) ∈ hw_G := hw_in 222 (by decide +kernel) rfl
theorem iw_182 : (Cond.methodLink "NearDesk" (184 : Nat) ({ cls := "NearDesk", name := "isCoordinate", desc := "(I)Z" } : MethodName)) ∈ hw_G := hw_in 224 (by decide +kernel) rfl
theorem iw_183 : (Cond.static ({ cls := "NearDesk", name := "isCoordinate", desc := "(I)Z" } : MethodName)) ∈ hw_G := hw_in 225 (by decide +kernel) rfl
theorem iw_185 : (Cond.methodLink "NearDesk" (45 : Nat) ({ cls := "NearDesk", name := "isWithin", desc := "(III)Z" } : MethodName)) ∈ hw_G := hw_in 227 (by decide +kernel) rfl
theorem iw_186 : (Cond.static ({ cls := "NearDesk", name := "isWithin", desc := "(III)Z" } : MethodName)) ∈ hw_G := hw_in 228 (by decide +kernel) rfl
theorem iw_188 : (Cond.constant "NearDesk" (44 : Nat) (16777215 : Int32)) ∈ hw_G := hw_in 230 (by decide +kernel) rfl
theorem iw_189 : (Cond.methodLink "NearDesk" (53 : Nat) ({ cls := "NearDesk$Links", name := "freeNumber", desc := "()I" } : MethodName)) ∈ hw_G := hw_in 231 (by decide +kernel) rfl
theorem iw_190 : (Cond.instanceMethod ({ cls := "NearDesk$Links", name := "freeNumber", desc := "()I" } : MethodName)) ∈ hw_G := hw_in 232 (by decide +kernel) rfl
theorem iw_191 : (Cond.selects "NearDesk$Links" ({ cls := "NearDesk$Links", name := "freeNumber", desc := "()I" } : MethodName) ({ cls := "NearDesk$Links", name := "freeNumber", desc := "()I" } : MethodName)) ∈ hw_G := hw_in 233 (by decide +kernel) rfl
theorem iw_193 : (Cond.methodLink "NearDesk" (59 : Nat) ({ cls := "NearDesk$Documents", name := "store", desc := "(IIIIII)V" } : MethodName)) ∈ hw_G := hw_in 235 (by decide +kernel) rfl
theorem iw_194 : (Cond.instanceMethod ({ cls := "NearDesk$Documents", name := "store", desc := "(IIIIII)V" } : MethodName)) ∈ hw_G := hw_in 236 (by decide +kernel) rfl
theorem iw_195 : (Cond.selects "NearDesk$Documents" ({ cls := "NearDesk$Documents", name := "store", desc := "(IIIIII)V" } : MethodName) ({ cls := "NearDesk$Documents", name := "store", desc := "(IIIIII)V" } : MethodName)) ∈ hw_G := hw_in 237 (by decide +kernel) rfl
theorem iw_198 : (Cond.static ({ cls := "NearDesk", name := "writeVector", desc := "([IIIII)V" } : MethodName)) ∈ hw_G := hw_in 240 (by decide +kernel) rfl
theorem iw_200 : (Cond.methodLink "NearDesk" (63 : Nat) ({ cls := "NearDesk$Graph", name := "enter", desc := "(LNearDesk$Documents;I)V" } : MethodName)) ∈ hw_G := hw_in 242 (by decide +kernel) rfl
theorem iw_201 : (Cond.instanceMethod ({ cls := "NearDesk$Graph", name := "enter", desc := "(LNearDesk$Documents;I)V" } : MethodName)) ∈ hw_G := hw_in 243 (by decide +kernel) rfl
theorem iw_202 : (Cond.selects "NearDesk$Graph" ({ cls := "NearDesk$Graph", name := "enter", desc := "(LNearDesk$Documents;I)V" } : MethodName) ({ cls := "NearDesk$Graph", name := "enter", desc := "(LNearDesk$Documents;I)V" } : MethodName)) ∈ hw_G := hw_in 244 (by decide +kernel) rfl
theorem iw_204 : (Cond.methodLink "NearDesk$Graph" (56 : Nat) ({ cls := "NearDesk$Links", name := "addNode", desc := "(I)V" } : MethodName)) ∈ hw_G := hw_in 246 (by decide +kernel) rfl
theorem iw_205 : (Cond.instanceMethod ({ cls := "NearDesk$Links", name := "addNode", desc := "(I)V" } : MethodName)) ∈ hw_G := hw_in 247 (by decide +kernel) rfl
theorem iw_206 : (Cond.selects "NearDesk$Links" ({ cls := "NearDesk$Links", name := "addNode", desc := "(I)V" } : MethodName) ({ cls := "NearDesk$Links", name := "addNode", desc := "(I)V" } : MethodName)) ∈ hw_G := hw_in 248 (by decide +kernel) rfl
theorem iw_208 : (Cond.methodLink "NearDesk$Links" (31 : Nat) ({ cls := "NearDesk$Links", name := "levelOf", desc := "(I)I" } : MethodName)) ∈ hw_G := hw_in 250 (by decide +kernel) rfl
theorem iw_209 : (Cond.static ({ cls := "NearDesk$Links", name := "levelOf", desc := "(I)I" } : MethodName)) ∈ hw_G := hw_in 251 (by decide +kernel) rfl
theorem iw_211 : (Cond.methodLink "NearDesk$Graph" (43 : Nat) ({ cls := "NearDesk$Links", name := "level", desc := "(I)I" } : MethodName)) ∈ hw_G := hw_in 253 (by decide +kernel) rfl
theorem iw_212 : (Cond.instanceMethod ({ cls := "NearDesk$Links", name := "level", desc := "(I)I" } : MethodName)) ∈ hw_G := hw_in 254 (by decide +kernel) rfl
theorem iw_213 : (Cond.selects "NearDesk$Links" ({ cls := "NearDesk$Links", name := "level", desc := "(I)I" } : MethodName) ({ cls := "NearDesk$Links", name := "level", desc := "(I)I" } : MethodName)) ∈ hw_G := hw_in 255 (by decide +kernel) rfl
theorem iw_215 : (Cond.methodLink "NearDesk$Graph" (60 : Nat) ({ cls := "NearDesk$Documents", name := "vector", desc := "(I)[I" } : MethodName)) ∈ hw_G := hw_in 257 (by decide +kernel) rfl
theorem iw_216 : (Cond.instanceMethod ({ cls := "NearDesk$Documents", name := "vector", desc := "(I)[I" } : MethodName)) ∈ hw_G := hw_in 258 (by decide +kernel) rfl
theorem iw_217 : (Cond.selects "NearDesk$Documents" ({ cls := "NearDesk$Documents", name := "vector", desc := "(I)[I" } : MethodName) ({ cls := "NearDesk$Documents", name := "vector", desc := "(I)[I" } : MethodName)) ∈ hw_G := hw_in 259 (by decide +kernel) rfl
theorem iw_219 : (Cond.methodLink "NearDesk$Graph" (66 : Nat) ({ cls := "NearDesk$Walker", name := "standAt", desc := "(LNearDesk$Documents;[II)V" } : MethodName)) ∈ hw_G := hw_in 261 (by decide +kernel) rfl
theorem iw_220 : (Cond.instanceMethod ({ cls := "NearDesk$Walker", name := "standAt", desc := "(LNearDesk$Documents;[II)V" } : MethodName)) ∈ hw_G := hw_in 262 (by decide +kernel) rfl
theorem iw_221 : (Cond.selects "NearDesk$Walker" ({ cls := "NearDesk$Walker", name := "standAt", desc := "(LNearDesk$Documents;[II)V" } : MethodName) ({ cls := "NearDesk$Walker", name := "standAt", desc := "(LNearDesk$Documents;[II)V" } : MethodName)) ∈ hw_G := hw_in 263 (by decide +kernel) rfl
theorem iw_223 : (Cond.methodLink "NearDesk$Walker" (25 : Nat) ({ cls := "NearDesk$Documents", name := "measure", desc := "([I[I)V" } : MethodName)) ∈ hw_G := hw_in 265 (by decide +kernel) rfl
theorem iw_224 : (Cond.instanceMethod ({ cls := "NearDesk$Documents", name := "measure", desc := "([I[I)V" } : MethodName)) ∈ hw_G := hw_in 266 (by decide +kernel) rfl
theorem iw_225 : (Cond.selects "NearDesk$Documents" ({ cls := "NearDesk$Documents", name := "measure", desc := "([I[I)V" } : MethodName) ({ cls := "NearDesk$Documents", name := "measure", desc := "([I[I)V" } : MethodName)) ∈ hw_G := hw_in 267 (by decide +kernel) rfl
theorem iw_228 : (Cond.static ({ cls := "NearDesk", name := "distance", desc := "([I[I)I" } : MethodName)) ∈ hw_G := hw_in 270 (by decide +kernel) rfl
theorem iw_230 : (Cond.methodLink "NearDesk$Walker" (31 : Nat) ({ cls := "NearDesk$Ranking", name := "start", desc := "(IZ)V" } : MethodName)) ∈ hw_G := hw_in 272 (by decide +kernel) rfl
theorem iw_231 : (Cond.instanceMethod ({ cls := "NearDesk$Ranking", name := "start", desc := "(IZ)V" } : MethodName)) ∈ hw_G := hw_in 273 (by decide +kernel) rfl
theorem iw_232 : (Cond.selects "NearDesk$Ranking" ({ cls := "NearDesk$Ranking", name := "start", desc := "(IZ)V" } : MethodName) ({ cls := "NearDesk$Ranking", name := "start", desc := "(IZ)V" } : MethodName)) ∈ hw_G := hw_in 274 (by decide +kernel) rfl
theorem iw_234 : (Cond.methodLink "NearDesk$Ranking" (22 : Nat) ({ cls := "java/lang/Math", name := "min", desc := "(II)I" } : MethodName)) ∈ hw_G := hw_in 276 (by decide +kernel) rfl
theorem iw_237 : (Cond.methodLink "NearDesk$Walker" (35 : Nat) ({ cls := "NearDesk$Ranking", name := "add", desc := "(II)Z" } : MethodName)) ∈ hw_G := hw_in 279 (by decide +kernel) rfl
theorem iw_238 : (Cond.instanceMethod ({ cls := "NearDesk$Ranking", name := "add", desc := "(II)Z" } : MethodName)) ∈ hw_G := hw_in 280 (by decide +kernel) rfl
theorem iw_239 : (Cond.selects "NearDesk$Ranking" ({ cls := "NearDesk$Ranking", name := "add", desc := "(II)Z" } : MethodName) ({ cls := "NearDesk$Ranking", name := "add", desc := "(II)Z" } : MethodName)) ∈ hw_G := hw_in 281 (by decide +kernel) rfl
theorem iw_241 : (Cond.methodLink "NearDesk$Ranking" (39 : Nat) ({ cls := "NearDesk$Ranking", name := "isFull", desc := "()Z" } : MethodName)) ∈ hw_G := hw_in 283 (by decide +kernel) rfl
theorem iw_242 : (Cond.instanceMethod ({ cls := "NearDesk$Ranking", name := "isFull", desc := "()Z" } : MethodName)) ∈ hw_G := hw_in 284 (by decide +kernel) rfl
theorem iw_243 : (Cond.selects "NearDesk$Ranking" ({ cls := "NearDesk$Ranking", name := "isFull", desc := "()Z" } : MethodName) ({ cls := "NearDesk$Ranking", name := "isFull", desc := "()Z" } : MethodName)) ∈ hw_G := hw_in 285 (by decide +kernel) rfl
theorem iw_245 : (Cond.methodLink "NearDesk$Ranking" (35 : Nat) ({ cls := "NearDesk$Ranking", name := "precedes", desc := "(IIII)Z" } : MethodName)) ∈ hw_G := hw_in 287 (by decide +kernel) rfl
theorem iw_247 : (Cond.instanceMethod ({ cls := "NearDesk$Ranking", name := "precedes", desc := "(IIII)Z" } : MethodName)) ∈ hw_G := hw_in 289 (by decide +kernel) rfl
theorem iw_249 : (Cond.methodLink "NearDesk$Graph" (70 : Nat) ({ cls := "NearDesk$Graph", name := "top", desc := "()I" } : MethodName)) ∈ hw_G := hw_in 291 (by decide +kernel) rfl
theorem iw_250 : (Cond.instanceMethod ({ cls := "NearDesk$Graph", name := "top", desc := "()I" } : MethodName)) ∈ hw_G := hw_in 292 (by decide +kernel) rfl
theorem iw_251 : (Cond.selects "NearDesk$Graph" ({ cls := "NearDesk$Graph", name := "top", desc := "()I" } : MethodName) ({ cls := "NearDesk$Graph", name := "top", desc := "()I" } : MethodName)) ∈ hw_G := hw_in 293 (by decide +kernel) rfl
theorem iw_253 : (Cond.methodLink "NearDesk$Graph" (74 : Nat) ({ cls := "NearDesk$Walker", name := "walk", desc := "(LNearDesk$Links;II)I" } : MethodName)) ∈ hw_G := hw_in 295 (by decide +kernel) rfl
theorem iw_254 : (Cond.instanceMethod ({ cls := "NearDesk$Walker", name := "walk", desc := "(LNearDesk$Links;II)I" } : MethodName)) ∈ hw_G := hw_in 296 (by decide +kernel) rfl
theorem iw_255 : (Cond.selects "NearDesk$Walker" ({ cls := "NearDesk$Walker", name := "walk", desc := "(LNearDesk$Links;II)I" } : MethodName) ({ cls := "NearDesk$Walker", name := "walk", desc := "(LNearDesk$Links;II)I" } : MethodName)) ∈ hw_G := hw_in 297 (by decide +kernel) rfl
theorem iw_257 : (Cond.methodLink "NearDesk$Walker" (39 : Nat) ({ cls := "NearDesk$Walker", name := "begin", desc := "(I)V" } : MethodName)) ∈ hw_G := hw_in 299 (by decide +kernel) rfl
theorem iw_259 : (Cond.instanceMethod ({ cls := "NearDesk$Walker", name := "begin", desc := "(I)V" } : MethodName)) ∈ hw_G := hw_in 301 (by decide +kernel) rfl
theorem iw_261 : (Cond.methodLink "NearDesk$Walker" (43 : Nat) ({ cls := "NearDesk$Ranking", name := "size", desc := "()I" } : MethodName)) ∈ hw_G := hw_in 303 (by decide +kernel) rfl
theorem iw_262 : (Cond.instanceMethod ({ cls := "NearDesk$Ranking", name := "size", desc := "()I" } : MethodName)) ∈ hw_G := hw_in 304 (by decide +kernel) rfl
theorem iw_263 : (Cond.selects "NearDesk$Ranking" ({ cls := "NearDesk$Ranking", name := "size", desc := "()I" } : MethodName) ({ cls := "NearDesk$Ranking", name := "size", desc := "()I" } : MethodName)) ∈ hw_G := hw_in 305 (by decide +kernel) rfl
theorem iw_265 : (Cond.methodLink "NearDesk$Walker" (47 : Nat) ({ cls := "NearDesk$Ranking", name := "numberAt", desc := "(I)I" } : MethodName)) ∈ hw_G := hw_in 307 (by decide +kernel) rfl
theorem iw_266 : (Cond.instanceMethod ({ cls := "NearDesk$Ranking", name := "numberAt", desc := "(I)I" } : MethodName)) ∈ hw_G := hw_in 308 (by decide +kernel) rfl
theorem iw_267 : (Cond.selects "NearDesk$Ranking" ({ cls := "NearDesk$Ranking", name := "numberAt", desc := "(I)I" } : MethodName) ({ cls := "NearDesk$Ranking", name := "numberAt", desc := "(I)I" } : MethodName)) ∈ hw_G := hw_in 309 (by decide +kernel) rfl
theorem iw_269 : (Cond.methodLink "NearDesk$Walker" (74 : Nat) ({ cls := "NearDesk$Ranking", name := "changeRoom", desc := "(I)V" } : MethodName)) ∈ hw_G := hw_in 311 (by decide +kernel) rfl
theorem iw_270 : (Cond.instanceMethod ({ cls := "NearDesk$Ranking", name := "changeRoom", desc := "(I)V" } : MethodName)) ∈ hw_G := hw_in 312 (by decide +kernel) rfl
theorem iw_271 : (Cond.selects "NearDesk$Ranking" ({ cls := "NearDesk$Ranking", name := "changeRoom", desc := "(I)V" } : MethodName) ({ cls := "NearDesk$Ranking", name := "changeRoom", desc := "(I)V" } : MethodName)) ∈ hw_G := hw_in 313 (by decide +kernel) rfl
theorem iw_273 : (Cond.methodLink "NearDesk$Walker" (77 : Nat) ({ cls := "NearDesk$Ranking", name := "valueAt", desc := "(I)I" } : MethodName)) ∈ hw_G := hw_in 315 (by decide +kernel) rfl
theorem iw_274 : (Cond.instanceMethod ({ cls := "NearDesk$Ranking", name := "valueAt", desc := "(I)I" } : MethodName)) ∈ hw_G := hw_in 316 (by decide +kernel) rfl
theorem iw_275 : (Cond.selects "NearDesk$Ranking" ({ cls := "NearDesk$Ranking", name := "valueAt", desc := "(I)I" } : MethodName) ({ cls := "NearDesk$Ranking", name := "valueAt", desc := "(I)I" } : MethodName)) ∈ hw_G := hw_in 317 (by decide +kernel) rfl
theorem iw_277 : (Cond.methodLink "NearDesk$Walker" (51 : Nat) ({ cls := "NearDesk$Ranking", name := "dropFirst", desc := "()V" } : MethodName)) ∈ hw_G := hw_in 319 (by decide +kernel) rfl
theorem iw_278 : (Cond.instanceMethod ({ cls := "NearDesk$Ranking", name := "dropFirst", desc := "()V" } : MethodName)) ∈ hw_G := hw_in 320 (by decide +kernel) rfl
theorem iw_279 : (Cond.selects "NearDesk$Ranking" ({ cls := "NearDesk$Ranking", name := "dropFirst", desc := "()V" } : MethodName) ({ cls := "NearDesk$Ranking", name := "dropFirst", desc := "()V" } : MethodName)) ∈ hw_G := hw_in 321 (by decide +kernel) rfl
theorem iw_281 : (Cond.methodLink "NearDesk$Ranking" (43 : Nat) ({ cls := "java/lang/Math", name := "max", desc := "(II)I" } : MethodName)) ∈ hw_G := hw_in 323 (by decide +kernel) rfl
theorem iw_284 : (Cond.methodLink "NearDesk$Walker" (54 : Nat) ({ cls := "NearDesk$Ranking", name := "isFull", desc := "()Z" } : MethodName)) ∈ hw_G := hw_in 326 (by decide +kernel) rfl
theorem iw_285 : (Cond.methodLink "NearDesk$Walker" (58 : Nat) ({ cls := "NearDesk$Ranking", name := "lastPrecedes", desc := "(II)Z" } : MethodName)) ∈ hw_G := hw_in 327 (by decide +kernel) rfl
theorem iw_286 : (Cond.instanceMethod ({ cls := "NearDesk$Ranking", name := "lastPrecedes", desc := "(II)Z" } : MethodName)) ∈ hw_G := hw_in 328 (by decide +kernel) rfl
theorem iw_287 : (Cond.selects "NearDesk$Ranking" ({ cls := "NearDesk$Ranking", name := "lastPrecedes", desc := "(II)Z" } : MethodName) ({ cls := "NearDesk$Ranking", name := "lastPrecedes", desc := "(II)Z" } : MethodName)) ∈ hw_G := hw_in 329 (by decide +kernel) rfl
theorem iw_289 : (Cond.methodLink "NearDesk$Walker" (61 : Nat) ({ cls := "NearDesk$Walker", name := "lookAround", desc := "(LNearDesk$Links;II)V" } : MethodName)) ∈ hw_G := hw_in 331 (by decide +kernel) rfl
theorem iw_291 : (Cond.instanceMethod ({ cls := "NearDesk$Walker", name := "lookAround", desc := "(LNearDesk$Links;II)V" } : MethodName)) ∈ hw_G := hw_in 333 (by decide +kernel) rfl
theorem iw_293 : (Cond.methodLink "NearDesk$Walker" (80 : Nat) ({ cls := "NearDesk$Links", name := "degree", desc := "(II)I" } : MethodName)) ∈ hw_G := hw_in 335 (by decide +kernel) rfl
theorem iw_294 : (Cond.instanceMethod ({ cls := "NearDesk$Links", name := "degree", desc := "(II)I" } : MethodName)) ∈ hw_G := hw_in 336 (by decide +kernel) rfl
theorem iw_295 : (Cond.selects "NearDesk$Links" ({ cls := "NearDesk$Links", name := "degree", desc := "(II)I" } : MethodName) ({ cls := "NearDesk$Links", name := "degree", desc := "(II)I" } : MethodName)) ∈ hw_G := hw_in 337 (by decide +kernel) rfl
theorem iw_297 : (Cond.methodLink "NearDesk$Walker" (86 : Nat) ({ cls := "NearDesk$Links", name := "linked", desc := "(III)I" } : MethodName)) ∈ hw_G := hw_in 339 (by decide +kernel) rfl
theorem iw_298 : (Cond.instanceMethod ({ cls := "NearDesk$Links", name := "linked", desc := "(III)I" } : MethodName)) ∈ hw_G := hw_in 340 (by decide +kernel) rfl
theorem iw_299 : (Cond.selects "NearDesk$Links" ({ cls := "NearDesk$Links", name := "linked", desc := "(III)I" } : MethodName) ({ cls := "NearDesk$Links", name := "linked", desc := "(III)I" } : MethodName)) ∈ hw_G := hw_in 341 (by decide +kernel) rfl
theorem iw_302 : (Cond.static ({ cls := "NearDesk", name := "isIn", desc := "(II)Z" } : MethodName)) ∈ hw_G := hw_in 344 (by decide +kernel) rfl
theorem iw_304 : (Cond.methodLink "NearDesk$Walker" (69 : Nat) ({ cls := "java/lang/Integer", name := "bitCount", desc := "(I)I" } : MethodName)) ∈ hw_G := hw_in 346 (by decide +kernel) rfl
theorem iw_305 : (Cond.static ({ cls := "java/lang/Integer", name := "bitCount", desc := "(I)I" } : MethodName)) ∈ hw_G := hw_in 347 (by decide +kernel) rfl
theorem iw_307 : (Cond.constant "java/lang/Integer" (265 : Nat) (1431655765 : Int32)) ∈ hw_G := hw_in 349 (by decide +kernel) rfl
theorem iw_308 : (Cond.constant "java/lang/Integer" (266 : Nat) (858993459 : Int32)) ∈ hw_G := hw_in 350 (by decide +kernel) rfl
theorem iw_309 : (Cond.constant "java/lang/Integer" (267 : Nat) (252645135 : Int32)) ∈ hw_G := hw_in 351 (by decide +kernel) rfl
theorem iw_310 : (Cond.methodLink "NearDesk$Graph" (78 : Nat) ({ cls := "NearDesk$Graph", name := "link", desc := "(LNearDesk$Documents;II)V" } : MethodName)) ∈ hw_G := hw_in 352 (by decide +kernel) rfl
theorem iw_312 : (Cond.instanceMethod ({ cls := "NearDesk$Graph", name := "link", desc := "(LNearDesk$Documents;II)V" } : MethodName)) ∈ hw_G := hw_in 354 (by decide +kernel) rfl
theorem iw_314 : (Cond.methodLink "NearDesk$Graph" (85 : Nat) ({ cls := "NearDesk$Walker", name := "held", desc := "()LNearDesk$Ranking;" } : MethodName)) ∈ hw_G := hw_in 356 (by decide +kernel) rfl
theorem iw_315 : (Cond.instanceMethod ({ cls := "NearDesk$Walker", name := "held", desc := "()LNearDesk$Ranking;" } : MethodName)) ∈ hw_G := hw_in 357 (by decide +kernel) rfl
theorem iw_316 : (Cond.selects "NearDesk$Walker" ({ cls := "NearDesk$Walker", name := "held", desc := "()LNearDesk$Ranking;" } : MethodName) ({ cls := "NearDesk$Walker", name := "held", desc := "()LNearDesk$Ranking;" } : MethodName)) ∈ hw_G := hw_in 358 (by decide +kernel) rfl
theorem iw_318 : (Cond.methodLink "NearDesk$Graph" (89 : Nat) ({ cls := "NearDesk$Chooser", name := "choose", desc := "(LNearDesk$Documents;LNearDesk$Ranking;I)V" } : MethodName)) ∈ hw_G := hw_in 360 (by decide +kernel) rfl
theorem iw_319 : (Cond.instanceMethod ({ cls := "NearDesk$Chooser", name := "choose", desc := "(LNearDesk$Documents;LNearDesk$Ranking;I)V" } : MethodName)) ∈ hw_G := hw_in 361 (by decide +kernel) rfl
theorem iw_320 : (Cond.selects "NearDesk$Chooser" ({ cls := "NearDesk$Chooser", name := "choose", desc := "(LNearDesk$Documents;LNearDesk$Ranking;I)V" } : MethodName) ({ cls := "NearDesk$Chooser", name := "choose", desc := "(LNearDesk$Documents;LNearDesk$Ranking;I)V" } : MethodName)) ∈ hw_G := hw_in 362 (by decide +kernel) rfl
theorem iw_322 : (Cond.methodLink "NearDesk$Chooser" (22 : Nat) ({ cls := "NearDesk$Ranking", name := "size", desc := "()I" } : MethodName)) ∈ hw_G := hw_in 364 (by decide +kernel) rfl
theorem iw_323 : (Cond.methodLink "NearDesk$Chooser" (27 : Nat) ({ cls := "NearDesk$Ranking", name := "numberAt", desc := "(I)I" } : MethodName)) ∈ hw_G := hw_in 365 (by decide +kernel) rfl
theorem iw_324 : (Cond.methodLink "NearDesk$Chooser" (31 : Nat) ({ cls := "NearDesk$Ranking", name := "valueAt", desc := "(I)I" } : MethodName)) ∈ hw_G := hw_in 366 (by decide +kernel) rfl
theorem iw_325 : (Cond.methodLink "NearDesk$Chooser" (34 : Nat) ({ cls := "NearDesk$Chooser", name := "isNearestToVector", desc := "(LNearDesk$Documents;II)Z" } : MethodName)) ∈ hw_G := hw_in 367 (by decide +kernel) rfl
theorem iw_327 : (Cond.instanceMethod ({ cls := "NearDesk$Chooser", name := "isNearestToVector", desc := "(LNearDesk$Documents;II)Z" } : MethodName)) ∈ hw_G := hw_in 369 (by decide +kernel) rfl
theorem iw_329 : (Cond.methodLink "NearDesk$Chooser" (46 : Nat) ({ cls := "NearDesk$Documents", name := "vector", desc := "(I)[I" } : MethodName)) ∈ hw_G := hw_in 371 (by decide +kernel) rfl
theorem iw_331 : (Cond.methodLink "NearDesk$Chooser" (38 : Nat) ({ cls := "NearDesk$Chooser", name := "take", desc := "(I)V" } : MethodName)) ∈ hw_G := hw_in 373 (by decide +kernel) rfl
theorem iw_333 : (Cond.instanceMethod ({ cls := "NearDesk$Chooser", name := "take", desc := "(I)V" } : MethodName)) ∈ hw_G := hw_in 375 (by decide +kernel) rfl
theorem iw_336 : (Cond.methodLink "NearDesk$Graph" (93 : Nat) ({ cls := "NearDesk$Links", name := "replace", desc := "(IILNearDesk$Chooser;)V" } : MethodName)) ∈ hw_G := hw_in 378 (by decide +kernel) rfl
theorem iw_337 : (Cond.instanceMethod ({ cls := "NearDesk$Links", name := "replace", desc := "(IILNearDesk$Chooser;)V" } : MethodName)) ∈ hw_G := hw_in 379 (by decide +kernel) rfl
theorem iw_338 : (Cond.selects "NearDesk$Links" ({ cls := "NearDesk$Links", name := "replace", desc := "(IILNearDesk$Chooser;)V" } : MethodName) ({ cls := "NearDesk$Links", name := "replace", desc := "(IILNearDesk$Chooser;)V" } : MethodName)) ∈ hw_G := hw_in 380 (by decide +kernel) rfl
theorem iw_340 : (Cond.methodLink "NearDesk$Links" (46 : Nat) ({ cls := "NearDesk$Chooser", name := "size", desc := "()I" } : MethodName)) ∈ hw_G := hw_in 382 (by decide +kernel) rfl
theorem iw_341 : (Cond.instanceMethod ({ cls := "NearDesk$Chooser", name := "size", desc := "()I" } : MethodName)) ∈ hw_G := hw_in 383 (by decide +kernel) rfl
theorem iw_342 : (Cond.selects "NearDesk$Chooser" ({ cls := "NearDesk$Chooser", name := "size", desc := "()I" } : MethodName) ({ cls := "NearDesk$Chooser", name := "size", desc := "()I" } : MethodName)) ∈ hw_G := hw_in 384 (by decide +kernel) rfl
theorem iw_344 : (Cond.methodLink "NearDesk$Links" (51 : Nat) ({ cls := "NearDesk$Chooser", name := "chosen", desc := "(I)I" } : MethodName)) ∈ hw_G := hw_in 386 (by decide +kernel) rfl
theorem iw_345 : (Cond.instanceMethod ({ cls := "NearDesk$Chooser", name := "chosen", desc := "(I)I" } : MethodName)) ∈ hw_G := hw_in 387 (by decide +kernel) rfl
theorem iw_346 : (Cond.selects "NearDesk$Chooser" ({ cls := "NearDesk$Chooser", name := "chosen", desc := "(I)I" } : MethodName) ({ cls := "NearDesk$Chooser", name := "chosen", desc := "(I)I" } : MethodName)) ∈ hw_G := hw_in 388 (by decide +kernel) rfl
theorem iw_348 : (Cond.methodLink "NearDesk$Links" (54 : Nat) ({ cls := "NearDesk$Links", name := "append", desc := "(III)V" } : MethodName)) ∈ hw_G := hw_in 390 (by decide +kernel) rfl
theorem iw_349 : (Cond.instanceMethod ({ cls := "NearDesk$Links", name := "append", desc := "(III)V" } : MethodName)) ∈ hw_G := hw_in 391 (by decide +kernel) rfl
theorem iw_350 : (Cond.selects "NearDesk$Links" ({ cls := "NearDesk$Links", name := "append", desc := "(III)V" } : MethodName) ({ cls := "NearDesk$Links", name := "append", desc := "(III)V" } : MethodName)) ∈ hw_G := hw_in 392 (by decide +kernel) rfl
theorem iw_352 : (Cond.methodLink "NearDesk$Graph" (97 : Nat) ({ cls := "NearDesk$Links", name := "degree", desc := "(II)I" } : MethodName)) ∈ hw_G := hw_in 394 (by decide +kernel) rfl
theorem iw_353 : (Cond.methodLink "NearDesk$Graph" (101 : Nat) ({ cls := "NearDesk$Links", name := "linked", desc := "(III)I" } : MethodName)) ∈ hw_G := hw_in 395 (by decide +kernel) rfl
theorem iw_354 : (Cond.methodLink "NearDesk$Graph" (105 : Nat) ({ cls := "NearDesk$Links", name := "append", desc := "(III)V" } : MethodName)) ∈ hw_G := hw_in 396 (by decide +kernel) rfl
theorem iw_355 : (Cond.methodLink "NearDesk$Graph" (109 : Nat) ({ cls := "NearDesk$Links", name := "most", desc := "(I)I" } : MethodName)) ∈ hw_G := hw_in 397 (by decide +kernel) rfl
theorem iw_356 : (Cond.instanceMethod ({ cls := "NearDesk$Links", name := "most", desc := "(I)I" } : MethodName)) ∈ hw_G := hw_in 398 (by decide +kernel) rfl
theorem iw_357 : (Cond.selects "NearDesk$Links" ({ cls := "NearDesk$Links", name := "most", desc := "(I)I" } : MethodName) ({ cls := "NearDesk$Links", name := "most", desc := "(I)I" } : MethodName)) ∈ hw_G := hw_in 399 (by decide +kernel) rfl
theorem iw_359 : (Cond.methodLink "NearDesk$Graph" (112 : Nat) ({ cls := "NearDesk$Graph", name := "shorten", desc := "(LNearDesk$Documents;II)V" } : MethodName)) ∈ hw_G := hw_in 401 (by decide +kernel) rfl
theorem iw_361 : (Cond.instanceMethod ({ cls := "NearDesk$Graph", name := "shorten", desc := "(LNearDesk$Documents;II)V" } : MethodName)) ∈ hw_G := hw_in 403 (by decide +kernel) rfl
theorem iw_363 : (Cond.methodLink "NearDesk$Graph" (115 : Nat) ({ cls := "NearDesk$Ranking", name := "start", desc := "(IZ)V" } : MethodName)) ∈ hw_G := hw_in 405 (by decide +kernel) rfl
theorem iw_365 : (Cond.methodLink "NearDesk$Graph" (123 : Nat) ({ cls := "NearDesk$Ranking", name := "add", desc := "(II)Z" } : MethodName)) ∈ hw_G := hw_in 407 (by decide +kernel) rfl
theorem iw_366 : (Cond.methodLink "NearDeskLaw" (18 : Nat) ({ cls := "NearDesk", name := "remove", desc := "(I)Z" } : MethodName)) ∈ hw_G := hw_in 408 (by decide +kernel) rfl
theorem iw_367 : (Cond.instanceMethod ({ cls := "NearDesk", name := "remove", desc := "(I)Z" } : MethodName)) ∈ hw_G := hw_in 409 (by decide +kernel) rfl
theorem iw_368 : (Cond.selects "NearDesk" ({ cls := "NearDesk", name := "remove", desc := "(I)Z" } : MethodName) ({ cls := "NearDesk", name := "remove", desc := "(I)Z" } : MethodName)) ∈ hw_G := hw_in 410 (by decide +kernel) rfl
theorem iw_370 : (Cond.methodLink "NearDesk" (67 : Nat) ({ cls := "NearDesk$Documents", name := "retire", desc := "(I)Z" } : MethodName)) ∈ hw_G := hw_in 412 (by decide +kernel) rfl
theorem iw_371 : (Cond.instanceMethod ({ cls := "NearDesk$Documents", name := "retire", desc := "(I)Z" } : MethodName)) ∈ hw_G := hw_in 413 (by decide +kernel) rfl
theorem iw_372 : (Cond.selects "NearDesk$Documents" ({ cls := "NearDesk$Documents", name := "retire", desc := "(I)Z" } : MethodName) ({ cls := "NearDesk$Documents", name := "retire", desc := "(I)Z" } : MethodName)) ∈ hw_G := hw_in 414 (by decide +kernel) rfl
theorem iw_374 : (Cond.methodLink "NearDesk$Documents" (31 : Nat) ({ cls := "NearDesk$Documents", name := "isLive", desc := "(I)Z" } : MethodName)) ∈ hw_G := hw_in 416 (by decide +kernel) rfl
theorem iw_375 : (Cond.instanceMethod ({ cls := "NearDesk$Documents", name := "isLive", desc := "(I)Z" } : MethodName)) ∈ hw_G := hw_in 417 (by decide +kernel) rfl
theorem iw_376 : (Cond.selects "NearDesk$Documents" ({ cls := "NearDesk$Documents", name := "isLive", desc := "(I)Z" } : MethodName) ({ cls := "NearDesk$Documents", name := "isLive", desc := "(I)Z" } : MethodName)) ∈ hw_G := hw_in 418 (by decide +kernel) rfl
theorem iw_379 : (Cond.static ({ cls := "NearDesk", name := "isDocumentNumber", desc := "(I)Z" } : MethodName)) ∈ hw_G := hw_in 421 (by decide +kernel) rfl
theorem iw_382 : (Cond.methodLink "NearDeskLaw" (23 : Nat) ({ cls := "NearDesk", name := "renew", desc := "()I" } : MethodName)) ∈ hw_G := hw_in 424 (by decide +kernel) rfl
theorem iw_383 : (Cond.instanceMethod ({ cls := "NearDesk", name := "renew", desc := "()I" } : MethodName)) ∈ hw_G := hw_in 425 (by decide +kernel) rfl
theorem iw_384 : (Cond.selects "NearDesk" ({ cls := "NearDesk", name := "renew", desc := "()I" } : MethodName) ({ cls := "NearDesk", name := "renew", desc := "()I" } : MethodName)) ∈ hw_G := hw_in 426 (by decide +kernel) rfl
theorem iw_386 : (Cond.methodLink "NearDesk" (71 : Nat) ({ cls := "NearDesk$Links", name := "size", desc := "()I" } : MethodName)) ∈ hw_G := hw_in 428 (by decide +kernel) rfl
theorem iw_387 : (Cond.instanceMethod ({ cls := "NearDesk$Links", name := "size", desc := "()I" } : MethodName)) ∈ hw_G := hw_in 429 (by decide +kernel) rfl
theorem iw_388 : (Cond.selects "NearDesk$Links" ({ cls := "NearDesk$Links", name := "size", desc := "()I" } : MethodName) ({ cls := "NearDesk$Links", name := "size", desc := "()I" } : MethodName)) ∈ hw_G := hw_in 430 (by decide +kernel) rfl
theorem iw_390 : (Cond.methodLink "NearDesk" (74 : Nat) ({ cls := "NearDesk$Documents", name := "liveCount", desc := "()I" } : MethodName)) ∈ hw_G := hw_in 432 (by decide +kernel) rfl
theorem iw_391 : (Cond.instanceMethod ({ cls := "NearDesk$Documents", name := "liveCount", desc := "()I" } : MethodName)) ∈ hw_G := hw_in 433 (by decide +kernel) rfl
theorem iw_392 : (Cond.selects "NearDesk$Documents" ({ cls := "NearDesk$Documents", name := "liveCount", desc := "()I" } : MethodName) ({ cls := "NearDesk$Documents", name := "liveCount", desc := "()I" } : MethodName)) ∈ hw_G := hw_in 434 (by decide +kernel) rfl
theorem iw_394 : (Cond.methodLink "NearDesk$Documents" (42 : Nat) ({ cls := "java/lang/Integer", name := "bitCount", desc := "(I)I" } : MethodName)) ∈ hw_G := hw_in 436 (by decide +kernel) rfl
theorem iw_395 : (Cond.methodLink "NearDesk" (77 : Nat) ({ cls := "NearDesk$Graph", name := "clear", desc := "()V" } : MethodName)) ∈ hw_G := hw_in 437 (by decide +kernel) rfl
theorem iw_396 : (Cond.instanceMethod ({ cls := "NearDesk$Graph", name := "clear", desc := "()V" } : MethodName)) ∈ hw_G := hw_in 438 (by decide +kernel) rfl
theorem iw_397 : (Cond.selects "NearDesk$Graph" ({ cls := "NearDesk$Graph", name := "clear", desc := "()V" } : MethodName) ({ cls := "NearDesk$Graph", name := "clear", desc := "()V" } : MethodName)) ∈ hw_G := hw_in 439 (by decide +kernel) rfl
theorem iw_399 : (Cond.methodLink "NearDesk$Graph" (53 : Nat) ({ cls := "NearDesk$Links", name := "clear", desc := "()V" } : MethodName)) ∈ hw_G := hw_in 441 (by decide +kernel) rfl
theorem iw_400 : (Cond.instanceMethod ({ cls := "NearDesk$Links", name := "clear", desc := "()V" } : MethodName)) ∈ hw_G := hw_in 442 (by decide +kernel) rfl
theorem iw_401 : (Cond.selects "NearDesk$Links" ({ cls := "NearDesk$Links", name := "clear", desc := "()V" } : MethodName) ({ cls := "NearDesk$Links", name := "clear", desc := "()V" } : MethodName)) ∈ hw_G := hw_in 443 (by decide +kernel) rfl
theorem iw_403 : (Cond.methodLink "NearDesk" (80 : Nat) ({ cls := "NearDesk$Documents", name := "isLive", desc := "(I)Z" } : MethodName)) ∈ hw_G := hw_in 445 (by decide +kernel) rfl
theorem iw_404 : (Cond.methodLink "NearDeskLaw" (28 : Nat) ({ cls := "NearDesk", name := "ask", desc := "(IIII)Z" } : MethodName)) ∈ hw_G := hw_in 446 (by decide +kernel) rfl
theorem iw_405 : (Cond.instanceMethod ({ cls := "NearDesk", name := "ask", desc := "(IIII)Z" } : MethodName)) ∈ hw_G := hw_in 447 (by decide +kernel) rfl
theorem iw_406 : (Cond.selects "NearDesk" ({ cls := "NearDesk", name := "ask", desc := "(IIII)Z" } : MethodName) ({ cls := "NearDesk", name := "ask", desc := "(IIII)Z" } : MethodName)) ∈ hw_G := hw_in 448 (by decide +kernel) rfl
theorem iw_408 : (Cond.methodLink "NearDesk" (83 : Nat) ({ cls := "NearDesk", name := "writeVector", desc := "([IIIII)V" } : MethodName)) ∈ hw_G := hw_in 450 (by decide +kernel) rfl
theorem iw_409 : (Cond.methodLink "NearDeskLaw" (33 : Nat) ({ cls := "NearDesk", name := "near", desc := "(II)I" } : MethodName)) ∈ hw_G := hw_in 451 (by decide +kernel) rfl
theorem iw_410 : (Cond.instanceMethod ({ cls := "NearDesk", name := "near", desc := "(II)I" } : MethodName)) ∈ hw_G := hw_in 452 (by decide +kernel) rfl
theorem iw_411 : (Cond.selects "NearDesk" ({ cls := "NearDesk", name := "near", desc := "(II)I" } : MethodName) ({ cls := "NearDesk", name := "near", desc := "(II)I" } : MethodName)) ∈ hw_G := hw_in 453 (by decide +kernel) rfl
theorem iw_413 : (Cond.methodLink "NearDesk" (87 : Nat) ({ cls := "NearDesk$Ranking", name := "start", desc := "(IZ)V" } : MethodName)) ∈ hw_G := hw_in 455 (by decide +kernel) rfl
theorem iw_414 : (Cond.methodLink "NearDesk" (91 : Nat) ({ cls := "java/lang/Math", name := "max", desc := "(II)I" } : MethodName)) ∈ hw_G := hw_in 456 (by decide +kernel) rfl
theorem iw_415 : (Cond.methodLink "NearDesk" (97 : Nat) ({ cls := "NearDesk", name := "searchInto", desc := "(LNearDesk$Ranking;I)V" } : MethodName)) ∈ hw_G := hw_in 457 (by decide +kernel) rfl
theorem iw_417 : (Cond.instanceMethod ({ cls := "NearDesk", name := "searchInto", desc := "(LNearDesk$Ranking;I)V" } : MethodName)) ∈ hw_G := hw_in 459 (by decide +kernel) rfl
theorem iw_419 : (Cond.methodLink "NearDesk" (174 : Nat) ({ cls := "NearDesk$Graph", name := "search", desc := "(LNearDesk$Documents;[II)LNearDesk$Ranking;" } : MethodName)) ∈ hw_G := hw_in 461 (by decide +kernel) rfl
theorem iw_420 : (Cond.instanceMethod ({ cls := "NearDesk$Graph", name := "search", desc := "(LNearDesk$Documents;[II)LNearDesk$Ranking;" } : MethodName)) ∈ hw_G := hw_in 462 (by decide +kernel) rfl
theorem iw_421 : (Cond.selects "NearDesk$Graph" ({ cls := "NearDesk$Graph", name := "search", desc := "(LNearDesk$Documents;[II)LNearDesk$Ranking;" } : MethodName) ({ cls := "NearDesk$Graph", name := "search", desc := "(LNearDesk$Documents;[II)LNearDesk$Ranking;" } : MethodName)) ∈ hw_G := hw_in 463 (by decide +kernel) rfl
theorem iw_423 : (Cond.methodLink "NearDesk$Graph" (82 : Nat) ({ cls := "NearDesk$Walker", name := "standNowhere", desc := "()V" } : MethodName)) ∈ hw_G := hw_in 465 (by decide +kernel) rfl
theorem iw_424 : (Cond.instanceMethod ({ cls := "NearDesk$Walker", name := "standNowhere", desc := "()V" } : MethodName)) ∈ hw_G := hw_in 466 (by decide +kernel) rfl
theorem iw_425 : (Cond.selects "NearDesk$Walker" ({ cls := "NearDesk$Walker", name := "standNowhere", desc := "()V" } : MethodName) ({ cls := "NearDesk$Walker", name := "standNowhere", desc := "()V" } : MethodName)) ∈ hw_G := hw_in 467 (by decide +kernel) rfl
theorem iw_427 : (Cond.methodLink "NearDesk" (101 : Nat) ({ cls := "NearDesk$Ranking", name := "size", desc := "()I" } : MethodName)) ∈ hw_G := hw_in 469 (by decide +kernel) rfl
theorem iw_428 : (Cond.methodLink "NearDesk" (120 : Nat) ({ cls := "NearDesk$Ranking", name := "numberAt", desc := "(I)I" } : MethodName)) ∈ hw_G := hw_in 470 (by decide +kernel) rfl
theorem iw_429 : (Cond.methodLink "NearDesk" (124 : Nat) ({ cls := "NearDesk$Ranking", name := "valueAt", desc := "(I)I" } : MethodName)) ∈ hw_G := hw_in 471 (by decide +kernel) rfl
theorem iw_430 : (Cond.methodLink "NearDesk" (178 : Nat) ({ cls := "NearDesk$Ranking", name := "add", desc := "(II)Z" } : MethodName)) ∈ hw_G := hw_in 472 (by decide +kernel) rfl
theorem iw_431 : (Cond.methodLink "NearDeskLaw" (38 : Nat) ({ cls := "NearDesk", name := "exact", desc := "(I)I" } : MethodName)) ∈ hw_G := hw_in 473 (by decide +kernel) rfl
theorem iw_432 : (Cond.instanceMethod ({ cls := "NearDesk", name := "exact", desc := "(I)I" } : MethodName)) ∈ hw_G := hw_in 474 (by decide +kernel) rfl
theorem iw_433 : (Cond.selects "NearDesk" ({ cls := "NearDesk", name := "exact", desc := "(I)I" } : MethodName) ({ cls := "NearDesk", name := "exact", desc := "(I)I" } : MethodName)) ∈ hw_G := hw_in 475 (by decide +kernel) rfl
theorem iw_435 : (Cond.methodLink "NearDesk" (102 : Nat) ({ cls := "NearDesk$Documents", name := "rankByDistance", desc := "([ILNearDesk$Ranking;)V" } : MethodName)) ∈ hw_G := hw_in 477 (by decide +kernel) rfl
theorem iw_436 : (Cond.instanceMethod ({ cls := "NearDesk$Documents", name := "rankByDistance", desc := "([ILNearDesk$Ranking;)V" } : MethodName)) ∈ hw_G := hw_in 478 (by decide +kernel) rfl
theorem iw_437 : (Cond.selects "NearDesk$Documents" ({ cls := "NearDesk$Documents", name := "rankByDistance", desc := "([ILNearDesk$Ranking;)V" } : MethodName) ({ cls := "NearDesk$Documents", name := "rankByDistance", desc := "([ILNearDesk$Ranking;)V" } : MethodName)) ∈ hw_G := hw_in 479 (by decide +kernel) rfl
theorem iw_439 : (Cond.methodLink "NearDesk$Documents" (52 : Nat) ({ cls := "NearDesk$Ranking", name := "add", desc := "(II)Z" } : MethodName)) ∈ hw_G := hw_in 481 (by decide +kernel) rfl
theorem iw_440 : (Cond.methodLink "NearDeskLaw" (43 : Nat) ({ cls := "NearDesk", name := "match", desc := "(II)I" } : MethodName)) ∈ hw_G := hw_in 482 (by decide +kernel) rfl
theorem iw_441 : (Cond.instanceMethod ({ cls := "NearDesk", name := "match", desc := "(II)I" } : MethodName)) ∈ hw_G := hw_in 483 (by decide +kernel) rfl
theorem iw_442 : (Cond.selects "NearDesk" ({ cls := "NearDesk", name := "match", desc := "(II)I" } : MethodName) ({ cls := "NearDesk", name := "match", desc := "(II)I" } : MethodName)) ∈ hw_G := hw_in 484 (by decide +kernel) rfl
theorem iw_444 : (Cond.methodLink "NearDesk" (106 : Nat) ({ cls := "NearDesk$Documents", name := "rankByScore", desc := "(ILNearDesk$Ranking;)V" } : MethodName)) ∈ hw_G := hw_in 486 (by decide +kernel) rfl
theorem iw_445 : (Cond.instanceMethod ({ cls := "NearDesk$Documents", name := "rankByScore", desc := "(ILNearDesk$Ranking;)V" } : MethodName)) ∈ hw_G := hw_in 487 (by decide +kernel) rfl
theorem iw_446 : (Cond.selects "NearDesk$Documents" ({ cls := "NearDesk$Documents", name := "rankByScore", desc := "(ILNearDesk$Ranking;)V" } : MethodName) ({ cls := "NearDesk$Documents", name := "rankByScore", desc := "(ILNearDesk$Ranking;)V" } : MethodName)) ∈ hw_G := hw_in 488 (by decide +kernel) rfl
theorem iw_448 : (Cond.methodLink "NearDesk$Documents" (57 : Nat) ({ cls := "NearDesk$Documents", name := "weighWords", desc := "()V" } : MethodName)) ∈ hw_G := hw_in 490 (by decide +kernel) rfl
theorem iw_450 : (Cond.instanceMethod ({ cls := "NearDesk$Documents", name := "weighWords", desc := "()V" } : MethodName)) ∈ hw_G := hw_in 492 (by decide +kernel) rfl
theorem iw_452 : (Cond.methodLink "NearDesk$Documents" (64 : Nat) ({ cls := "NearDesk$Documents", name := "liveWith", desc := "(I)I" } : MethodName)) ∈ hw_G := hw_in 494 (by decide +kernel) rfl
theorem iw_454 : (Cond.instanceMethod ({ cls := "NearDesk$Documents", name := "liveWith", desc := "(I)I" } : MethodName)) ∈ hw_G := hw_in 496 (by decide +kernel) rfl
theorem iw_456 : (Cond.methodLink "NearDesk$Documents" (71 : Nat) ({ cls := "NearDesk$Documents", name := "countOfWord", desc := "(II)I" } : MethodName)) ∈ hw_G := hw_in 498 (by decide +kernel) rfl
theorem iw_458 : (Cond.instanceMethod ({ cls := "NearDesk$Documents", name := "countOfWord", desc := "(II)I" } : MethodName)) ∈ hw_G := hw_in 500 (by decide +kernel) rfl
theorem iw_460 : (Cond.methodLink "NearDesk$Documents" (67 : Nat) ({ cls := "NearDesk$Documents", name := "liveCount", desc := "()I" } : MethodName)) ∈ hw_G := hw_in 502 (by decide +kernel) rfl
theorem iw_461 : (Cond.methodLink "NearDesk$Documents" (60 : Nat) ({ cls := "NearDesk$Documents", name := "score", desc := "(II)I" } : MethodName)) ∈ hw_G := hw_in 503 (by decide +kernel) rfl
theorem iw_463 : (Cond.instanceMethod ({ cls := "NearDesk$Documents", name := "score", desc := "(II)I" } : MethodName)) ∈ hw_G := hw_in 505 (by decide +kernel) rfl
theorem iw_465 : (Cond.methodLink "NearDeskLaw" (47 : Nat) ({ cls := "NearDesk", name := "fuse", desc := "(II)I" } : MethodName)) ∈ hw_G := hw_in 507 (by decide +kernel) rfl
theorem iw_466 : (Cond.instanceMethod ({ cls := "NearDesk", name := "fuse", desc := "(II)I" } : MethodName)) ∈ hw_G := hw_in 508 (by decide +kernel) rfl
theorem iw_467 : (Cond.selects "NearDesk" ({ cls := "NearDesk", name := "fuse", desc := "(II)I" } : MethodName) ({ cls := "NearDesk", name := "fuse", desc := "(II)I" } : MethodName)) ∈ hw_G := hw_in 509 (by decide +kernel) rfl
theorem iw_469 : (Cond.methodLink "NearDesk" (110 : Nat) ({ cls := "NearDesk", name := "clearPoints", desc := "()V" } : MethodName)) ∈ hw_G := hw_in 511 (by decide +kernel) rfl
theorem iw_471 : (Cond.instanceMethod ({ cls := "NearDesk", name := "clearPoints", desc := "()V" } : MethodName)) ∈ hw_G := hw_in 513 (by decide +kernel) rfl
theorem iw_473 : (Cond.methodLink "NearDesk" (113 : Nat) ({ cls := "NearDesk", name := "addPoints", desc := "(LNearDesk$Ranking;)V" } : MethodName)) ∈ hw_G := hw_in 515 (by decide +kernel) rfl
theorem iw_475 : (Cond.instanceMethod ({ cls := "NearDesk", name := "addPoints", desc := "(LNearDesk$Ranking;)V" } : MethodName)) ∈ hw_G := hw_in 517 (by decide +kernel) rfl
theorem iw_477 : (Cond.methodLink "NearDesk" (117 : Nat) ({ cls := "NearDesk", name := "rankByPoints", desc := "(LNearDesk$Ranking;)V" } : MethodName)) ∈ hw_G := hw_in 519 (by decide +kernel) rfl
theorem iw_479 : (Cond.instanceMethod ({ cls := "NearDesk", name := "rankByPoints", desc := "(LNearDesk$Ranking;)V" } : MethodName)) ∈ hw_G := hw_in 521 (by decide +kernel) rfl
theorem iw_481 : (Cond.methodLink "NearDeskLaw" (51 : Nat) ({ cls := "NearDesk", name := "found", desc := "(II)I" } : MethodName)) ∈ hw_G := hw_in 523 (by decide +kernel) rfl
theorem iw_482 : (Cond.instanceMethod ({ cls := "NearDesk", name := "found", desc := "(II)I" } : MethodName)) ∈ hw_G := hw_in 524 (by decide +kernel) rfl
theorem iw_483 : (Cond.selects "NearDesk" ({ cls := "NearDesk", name := "found", desc := "(II)I" } : MethodName) ({ cls := "NearDesk", name := "found", desc := "(II)I" } : MethodName)) ∈ hw_G := hw_in 525 (by decide +kernel) rfl
theorem iw_485 : (Cond.methodLink "NearDeskLaw" (55 : Nat) ({ cls := "NearDesk", name := "node", desc := "(II)I" } : MethodName)) ∈ hw_G := hw_in 527 (by decide +kernel) rfl
theorem iw_486 : (Cond.instanceMethod ({ cls := "NearDesk", name := "node", desc := "(II)I" } : MethodName)) ∈ hw_G := hw_in 528 (by decide +kernel) rfl
theorem iw_487 : (Cond.selects "NearDesk" ({ cls := "NearDesk", name := "node", desc := "(II)I" } : MethodName) ({ cls := "NearDesk", name := "node", desc := "(II)I" } : MethodName)) ∈ hw_G := hw_in 529 (by decide +kernel) rfl
theorem iw_489 : (Cond.methodLink "NearDesk" (127 : Nat) ({ cls := "NearDesk$Links", name := "isNode", desc := "(I)Z" } : MethodName)) ∈ hw_G := hw_in 531 (by decide +kernel) rfl
theorem iw_490 : (Cond.instanceMethod ({ cls := "NearDesk$Links", name := "isNode", desc := "(I)Z" } : MethodName)) ∈ hw_G := hw_in 532 (by decide +kernel) rfl
theorem iw_491 : (Cond.selects "NearDesk$Links" ({ cls := "NearDesk$Links", name := "isNode", desc := "(I)Z" } : MethodName) ({ cls := "NearDesk$Links", name := "isNode", desc := "(I)Z" } : MethodName)) ∈ hw_G := hw_in 533 (by decide +kernel) rfl
theorem iw_494 : (Cond.methodLink "NearDesk" (130 : Nat) ({ cls := "NearDesk$Links", name := "isInLayer", desc := "(II)Z" } : MethodName)) ∈ hw_G := hw_in 536 (by decide +kernel) rfl
theorem iw_495 : (Cond.instanceMethod ({ cls := "NearDesk$Links", name := "isInLayer", desc := "(II)Z" } : MethodName)) ∈ hw_G := hw_in 537 (by decide +kernel) rfl
theorem iw_496 : (Cond.selects "NearDesk$Links" ({ cls := "NearDesk$Links", name := "isInLayer", desc := "(II)Z" } : MethodName) ({ cls := "NearDesk$Links", name := "isInLayer", desc := "(II)Z" } : MethodName)) ∈ hw_G := hw_in 538 (by decide +kernel) rfl
theorem iw_498 : (Cond.methodLink "NearDesk$Links" (39 : Nat) ({ cls := "NearDesk$Links", name := "isNode", desc := "(I)Z" } : MethodName)) ∈ hw_G := hw_in 540 (by decide +kernel) rfl
theorem iw_500 : (Cond.methodLink "NearDesk" (134 : Nat) ({ cls := "NearDesk$Links", name := "degree", desc := "(II)I" } : MethodName)) ∈ hw_G := hw_in 542 (by decide +kernel) rfl
theorem iw_501 : (Cond.methodLink "NearDesk" (137 : Nat) ({ cls := "NearDesk$Links", name := "level", desc := "(I)I" } : MethodName)) ∈ hw_G := hw_in 543 (by decide +kernel) rfl
theorem iw_502 : (Cond.methodLink "NearDesk" (140 : Nat) ({ cls := "NearDesk$Links", name := "order", desc := "(I)I" } : MethodName)) ∈ hw_G := hw_in 544 (by decide +kernel) rfl
theorem iw_503 : (Cond.instanceMethod ({ cls := "NearDesk$Links", name := "order", desc := "(I)I" } : MethodName)) ∈ hw_G := hw_in 545 (by decide +kernel) rfl
theorem iw_504 : (Cond.selects "NearDesk$Links" ({ cls := "NearDesk$Links", name := "order", desc := "(I)I" } : MethodName) ({ cls := "NearDesk$Links", name := "order", desc := "(I)I" } : MethodName)) ∈ hw_G := hw_in 546 (by decide +kernel) rfl
theorem iw_506 : (Cond.methodLink "NearDesk" (143 : Nat) ({ cls := "NearDesk$Documents", name := "counts", desc := "(I)I" } : MethodName)) ∈ hw_G := hw_in 548 (by decide +kernel) rfl
theorem iw_507 : (Cond.instanceMethod ({ cls := "NearDesk$Documents", name := "counts", desc := "(I)I" } : MethodName)) ∈ hw_G := hw_in 549 (by decide +kernel) rfl
theorem iw_508 : (Cond.selects "NearDesk$Documents" ({ cls := "NearDesk$Documents", name := "counts", desc := "(I)I" } : MethodName) ({ cls := "NearDesk$Documents", name := "counts", desc := "(I)I" } : MethodName)) ∈ hw_G := hw_in 550 (by decide +kernel) rfl
theorem iw_510 : (Cond.methodLink "NearDesk" (146 : Nat) ({ cls := "NearDesk$Documents", name := "coordinate", desc := "(II)I" } : MethodName)) ∈ hw_G := hw_in 552 (by decide +kernel) rfl
theorem iw_511 : (Cond.instanceMethod ({ cls := "NearDesk$Documents", name := "coordinate", desc := "(II)I" } : MethodName)) ∈ hw_G := hw_in 553 (by decide +kernel) rfl
theorem iw_512 : (Cond.selects "NearDesk$Documents" ({ cls := "NearDesk$Documents", name := "coordinate", desc := "(II)I" } : MethodName) ({ cls := "NearDesk$Documents", name := "coordinate", desc := "(II)I" } : MethodName)) ∈ hw_G := hw_in 554 (by decide +kernel) rfl
theorem iw_514 : (Cond.methodLink "NearDeskLaw" (59 : Nat) ({ cls := "NearDesk", name := "neighbour", desc := "(III)I" } : MethodName)) ∈ hw_G := hw_in 556 (by decide +kernel) rfl
theorem iw_515 : (Cond.instanceMethod ({ cls := "NearDesk", name := "neighbour", desc := "(III)I" } : MethodName)) ∈ hw_G := hw_in 557 (by decide +kernel) rfl
theorem iw_516 : (Cond.selects "NearDesk" ({ cls := "NearDesk", name := "neighbour", desc := "(III)I" } : MethodName) ({ cls := "NearDesk", name := "neighbour", desc := "(III)I" } : MethodName)) ∈ hw_G := hw_in 558 (by decide +kernel) rfl
theorem iw_518 : (Cond.methodLink "NearDesk" (149 : Nat) ({ cls := "NearDesk$Links", name := "linked", desc := "(III)I" } : MethodName)) ∈ hw_G := hw_in 560 (by decide +kernel) rfl
theorem iw_519 : (Cond.methodLink "NearDeskLaw" (64 : Nat) ({ cls := "NearDesk", name := "count", desc := "(I)I" } : MethodName)) ∈ hw_G := hw_in 561 (by decide +kernel) rfl
theorem iw_520 : (Cond.instanceMethod ({ cls := "NearDesk", name := "count", desc := "(I)I" } : MethodName)) ∈ hw_G := hw_in 562 (by decide +kernel) rfl
theorem iw_521 : (Cond.selects "NearDesk" ({ cls := "NearDesk", name := "count", desc := "(I)I" } : MethodName) ({ cls := "NearDesk", name := "count", desc := "(I)I" } : MethodName)) ∈ hw_G := hw_in 563 (by decide +kernel) rfl
theorem iw_523 : (Cond.methodLink "NearDesk" (153 : Nat) ({ cls := "NearDesk$Graph", name := "entry", desc := "()I" } : MethodName)) ∈ hw_G := hw_in 565 (by decide +kernel) rfl
theorem iw_524 : (Cond.instanceMethod ({ cls := "NearDesk$Graph", name := "entry", desc := "()I" } : MethodName)) ∈ hw_G := hw_in 566 (by decide +kernel) rfl
theorem iw_525 : (Cond.selects "NearDesk$Graph" ({ cls := "NearDesk$Graph", name := "entry", desc := "()I" } : MethodName) ({ cls := "NearDesk$Graph", name := "entry", desc := "()I" } : MethodName)) ∈ hw_G := hw_in 567 (by decide +kernel) rfl
theorem iw_527 : (Cond.methodLink "NearDesk" (156 : Nat) ({ cls := "NearDesk$Graph", name := "top", desc := "()I" } : MethodName)) ∈ hw_G := hw_in 569 (by decide +kernel) rfl
theorem iw_528 : (Cond.methodLink "NearDesk" (159 : Nat) ({ cls := "NearDesk$Graph", name := "seenInSearches", desc := "()I" } : MethodName)) ∈ hw_G := hw_in 570 (by decide +kernel) rfl
theorem iw_529 : (Cond.instanceMethod ({ cls := "NearDesk$Graph", name := "seenInSearches", desc := "()I" } : MethodName)) ∈ hw_G := hw_in 571 (by decide +kernel) rfl
theorem iw_530 : (Cond.selects "NearDesk$Graph" ({ cls := "NearDesk$Graph", name := "seenInSearches", desc := "()I" } : MethodName) ({ cls := "NearDesk$Graph", name := "seenInSearches", desc := "()I" } : MethodName)) ∈ hw_G := hw_in 572 (by decide +kernel) rfl
theorem iw_532 : (Cond.methodLink "NearDesk" (162 : Nat) ({ cls := "NearDesk$Graph", name := "seenInEntering", desc := "()I" } : MethodName)) ∈ hw_G := hw_in 574 (by decide +kernel) rfl
theorem iw_533 : (Cond.instanceMethod ({ cls := "NearDesk$Graph", name := "seenInEntering", desc := "()I" } : MethodName)) ∈ hw_G := hw_in 575 (by decide +kernel) rfl
theorem iw_534 : (Cond.selects "NearDesk$Graph" ({ cls := "NearDesk$Graph", name := "seenInEntering", desc := "()I" } : MethodName) ({ cls := "NearDesk$Graph", name := "seenInEntering", desc := "()I" } : MethodName)) ∈ hw_G := hw_in 576 (by decide +kernel) rfl
theorem iw_536 : (Cond.methodLink "NearDesk" (165 : Nat) ({ cls := "NearDesk", name := "foundAmongNearest", desc := "()I" } : MethodName)) ∈ hw_G := hw_in 578 (by decide +kernel) rfl
theorem iw_538 : (Cond.instanceMethod ({ cls := "NearDesk", name := "foundAmongNearest", desc := "()I" } : MethodName)) ∈ hw_G := hw_in 580 (by decide +kernel) rfl
theorem iw_540 : (Cond.methodLink "NearDesk" (181 : Nat) ({ cls := "NearDesk$Ranking", name := "holds", desc := "(I)Z" } : MethodName)) ∈ hw_G := hw_in 582 (by decide +kernel) rfl
theorem iw_541 : (Cond.instanceMethod ({ cls := "NearDesk$Ranking", name := "holds", desc := "(I)Z" } : MethodName)) ∈ hw_G := hw_in 583 (by decide +kernel) rfl
theorem iw_542 : (Cond.selects "NearDesk$Ranking" ({ cls := "NearDesk$Ranking", name := "holds", desc := "(I)Z" } : MethodName) ({ cls := "NearDesk$Ranking", name := "holds", desc := "(I)Z" } : MethodName)) ∈ hw_G := hw_in 584 (by decide +kernel) rfl
theorem iw_544 : (Cond.methodLink "NearDesk" (168 : Nat) ({ cls := "NearDesk$Links", name := "oneSidedPairs", desc := "()I" } : MethodName)) ∈ hw_G := hw_in 586 (by decide +kernel) rfl
theorem iw_545 : (Cond.instanceMethod ({ cls := "NearDesk$Links", name := "oneSidedPairs", desc := "()I" } : MethodName)) ∈ hw_G := hw_in 587 (by decide +kernel) rfl
theorem iw_546 : (Cond.selects "NearDesk$Links" ({ cls := "NearDesk$Links", name := "oneSidedPairs", desc := "()I" } : MethodName) ({ cls := "NearDesk$Links", name := "oneSidedPairs", desc := "()I" } : MethodName)) ∈ hw_G := hw_in 588 (by decide +kernel) rfl
theorem iw_548 : (Cond.methodLink "NearDesk$Links" (58 : Nat) ({ cls := "NearDesk$Links", name := "unreturned", desc := "(I)I" } : MethodName)) ∈ hw_G := hw_in 590 (by decide +kernel) rfl
theorem iw_550 : (Cond.instanceMethod ({ cls := "NearDesk$Links", name := "unreturned", desc := "(I)I" } : MethodName)) ∈ hw_G := hw_in 592 (by decide +kernel) rfl
theorem iw_552 : (Cond.methodLink "NearDesk$Links" (61 : Nat) ({ cls := "NearDesk$Links", name := "degree", desc := "(II)I" } : MethodName)) ∈ hw_G := hw_in 594 (by decide +kernel) rfl
theorem iw_553 : (Cond.methodLink "NearDesk$Links" (65 : Nat) ({ cls := "NearDesk$Links", name := "linked", desc := "(III)I" } : MethodName)) ∈ hw_G := hw_in 595 (by decide +kernel) rfl
theorem iw_554 : (Cond.methodLink "NearDesk$Links" (73 : Nat) ({ cls := "NearDesk$Links", name := "isLinked", desc := "(II)Z" } : MethodName)) ∈ hw_G := hw_in 596 (by decide +kernel) rfl
theorem iw_556 : (Cond.instanceMethod ({ cls := "NearDesk$Links", name := "isLinked", desc := "(II)Z" } : MethodName)) ∈ hw_G := hw_in 598 (by decide +kernel) rfl
theorem iw_558 : (Cond.methodLink "NearDesk" (171 : Nat) ({ cls := "NearDesk$Links", name := "reachedFrom", desc := "(I)I" } : MethodName)) ∈ hw_G := hw_in 600 (by decide +kernel) rfl
theorem iw_559 : (Cond.instanceMethod ({ cls := "NearDesk$Links", name := "reachedFrom", desc := "(I)I" } : MethodName)) ∈ hw_G := hw_in 601 (by decide +kernel) rfl
theorem iw_560 : (Cond.selects "NearDesk$Links" ({ cls := "NearDesk$Links", name := "reachedFrom", desc := "(I)I" } : MethodName) ({ cls := "NearDesk$Links", name := "reachedFrom", desc := "(I)I" } : MethodName)) ∈ hw_G := hw_in 602 (by decide +kernel) rfl
theorem iw_569 : (Cond.fieldLink "NearDeskModel" (7 : Nat) "NearDeskModel" "isNode" "[Z") ∈ hw_G := hw_in 611 (by decide +kernel) rfl
theorem iw_570 : (Cond.fieldLink "NearDeskModel" (13 : Nat) "NearDeskModel" "isLive" "[Z") ∈ hw_G := hw_in 612 (by decide +kernel) rfl
theorem iw_571 : (Cond.fieldLink "NearDeskModel" (16 : Nat) "NearDeskModel" "vector" "[I") ∈ hw_G := hw_in 613 (by decide +kernel) rfl
theorem iw_572 : (Cond.fieldLink "NearDeskModel" (20 : Nat) "NearDeskModel" "words" "[I") ∈ hw_G := hw_in 614 (by decide +kernel) rfl
theorem iw_573 : (Cond.fieldLink "NearDeskModel" (23 : Nat) "NearDeskModel" "level" "[I") ∈ hw_G := hw_in 615 (by decide +kernel) rfl
theorem iw_574 : (Cond.fieldLink "NearDeskModel" (26 : Nat) "NearDeskModel" "entered" "[I") ∈ hw_G := hw_in 616 (by decide +kernel) rfl
theorem iw_575 : (Cond.fieldLink "NearDeskModel" (29 : Nat) "NearDeskModel" "row" "[I") ∈ hw_G := hw_in 617 (by decide +kernel) rfl
theorem iw_576 : (Cond.fieldLink "NearDeskModel" (32 : Nat) "NearDeskModel" "rows" "[I") ∈ hw_G := hw_in 618 (by decide +kernel) rfl
theorem iw_577 : (Cond.fieldLink "NearDeskModel" (35 : Nat) "NearDeskModel" "entry" "I") ∈ hw_G := hw_in 619 (by decide +kernel) rfl
theorem iw_578 : (Cond.fieldLink "NearDeskModel" (114 : Nat) "NearDeskModel" "many" "I") ∈ hw_G := hw_in 620 (by decide +kernel) rfl
theorem iw_579 : (Cond.fieldLink "NearDeskModel" (39 : Nat) "NearDeskModel" "aim" "[I") ∈ hw_G := hw_in 621 (by decide +kernel) rfl
theorem iw_580 : (Cond.fieldLink "NearDeskModel" (42 : Nat) "NearDeskModel" "asked" "[I") ∈ hw_G := hw_in 622 (by decide +kernel) rfl
theorem iw_581 : (Cond.fieldLink "NearDeskModel" (45 : Nat) "NearDeskModel" "seen" "[Z") ∈ hw_G := hw_in 623 (by decide +kernel) rfl
theorem iw_582 : (Cond.fieldLink "NearDeskModel" (48 : Nat) "NearDeskModel" "held" "[Z") ∈ hw_G := hw_in 624 (by decide +kernel) rfl
theorem iw_583 : (Cond.fieldLink "NearDeskModel" (51 : Nat) "NearDeskModel" "open" "[Z") ∈ hw_G := hw_in 625 (by decide +kernel) rfl
theorem iw_584 : (Cond.fieldLink "NearDeskModel" (54 : Nat) "NearDeskModel" "chosen" "[Z") ∈ hw_G := hw_in 626 (by decide +kernel) rfl
theorem iw_585 : (Cond.fieldLink "NearDeskModel" (57 : Nat) "NearDeskModel" "here" "[I") ∈ hw_G := hw_in 627 (by decide +kernel) rfl
theorem iw_586 : (Cond.fieldLink "NearDeskModel" (60 : Nat) "NearDeskModel" "picked" "[I") ∈ hw_G := hw_in 628 (by decide +kernel) rfl
theorem iw_587 : (Cond.fieldLink "NearDeskModel" (63 : Nat) "NearDeskModel" "pool" "[I") ∈ hw_G := hw_in 629 (by decide +kernel) rfl
theorem iw_588 : (Cond.fieldLink "NearDeskModel" (83 : Nat) "NearDeskModel" "heres" "I") ∈ hw_G := hw_in 630 (by decide +kernel) rfl
theorem iw_589 : (Cond.fieldLink "NearDeskModel" (103 : Nat) "NearDeskModel" "picks" "I") ∈ hw_G := hw_in 631 (by decide +kernel) rfl
theorem iw_590 : (Cond.fieldLink "NearDeskModel" (100 : Nat) "NearDeskModel" "pools" "I") ∈ hw_G := hw_in 632 (by decide +kernel) rfl
theorem iw_591 : (Cond.fieldLink "NearDeskModel" (66 : Nat) "NearDeskModel" "number" "[I") ∈ hw_G := hw_in 633 (by decide +kernel) rfl
theorem iw_592 : (Cond.fieldLink "NearDeskModel" (69 : Nat) "NearDeskModel" "worth" "[I") ∈ hw_G := hw_in 634 (by decide +kernel) rfl
theorem iw_593 : (Cond.fieldLink "NearDeskModel" (72 : Nat) "NearDeskModel" "scores" "[I") ∈ hw_G := hw_in 635 (by decide +kernel) rfl
theorem iw_594 : (Cond.fieldLink "NearDeskModel" (153 : Nat) "NearDeskModel" "found" "I") ∈ hw_G := hw_in 636 (by decide +kernel) rfl
theorem iw_595 : (Cond.fieldLink "NearDeskModel" (147 : Nat) "NearDeskModel" "seenAsking" "J") ∈ hw_G := hw_in 637 (by decide +kernel) rfl
theorem iw_596 : (Cond.fieldLink "NearDeskModel" (120 : Nat) "NearDeskModel" "seenEntering" "J") ∈ hw_G := hw_in 638 (by decide +kernel) rfl
theorem iw_655 : (Cond.methodLink "NearDeskLaw" (17 : Nat) ({ cls := "NearDeskModel", name := "put", desc := "(IIIII)I" } : MethodName)) ∈ hw_G := hw_in 697 (by decide +kernel) rfl
theorem iw_656 : (Cond.instanceMethod ({ cls := "NearDeskModel", name := "put", desc := "(IIIII)I" } : MethodName)) ∈ hw_G := hw_in 698 (by decide +kernel) rfl
theorem iw_657 : (Cond.selects "NearDeskModel" ({ cls := "NearDeskModel", name := "put", desc := "(IIIII)I" } : MethodName) ({ cls := "NearDeskModel", name := "put", desc := "(IIIII)I" } : MethodName)) ∈ hw_G := hw_in 699 (by decide +kernel) rfl
theorem iw_659 : (Cond.methodLink "NearDeskModel" (136 : Nat) ({ cls := "NearDeskModel", name := "in", desc := "(III)Z" } : MethodName)) ∈ hw_G := hw_in 701 (by decide +kernel) rfl
theorem iw_660 : (Cond.static ({ cls := "NearDeskModel", name := "in", desc := "(III)Z" } : MethodName)) ∈ hw_G := hw_in 702 (by decide +kernel) rfl
theorem iw_662 : (Cond.constant "NearDeskModel" (140 : Nat) (16777215 : Int32)) ∈ hw_G := hw_in 704 (by decide +kernel) rfl
theorem iw_663 : (Cond.methodLink "NearDeskModel" (141 : Nat) ({ cls := "NearDeskModel", name := "enter", desc := "(I)V" } : MethodName)) ∈ hw_G := hw_in 705 (by decide +kernel) rfl
theorem iw_665 : (Cond.instanceMethod ({ cls := "NearDeskModel", name := "enter", desc := "(I)V" } : MethodName)) ∈ hw_G := hw_in 707 (by decide +kernel) rfl
theorem iw_667 : (Cond.methodLink "NearDeskModel" (117 : Nat) ({ cls := "NearDeskModel", name := "aimAt", desc := "(I)V" } : MethodName)) ∈ hw_G := hw_in 709 (by decide +kernel) rfl
theorem iw_669 : (Cond.instanceMethod ({ cls := "NearDeskModel", name := "aimAt", desc := "(I)V" } : MethodName)) ∈ hw_G := hw_in 711 (by decide +kernel) rfl
theorem iw_671 : (Cond.methodLink "NearDeskModel" (124 : Nat) ({ cls := "NearDeskModel", name := "walk", desc := "(II)I" } : MethodName)) ∈ hw_G := hw_in 713 (by decide +kernel) rfl
theorem iw_673 : (Cond.instanceMethod ({ cls := "NearDeskModel", name := "walk", desc := "(II)I" } : MethodName)) ∈ hw_G := hw_in 715 (by decide +kernel) rfl
theorem iw_675 : (Cond.methodLink "NearDeskModel" (86 : Nat) ({ cls := "NearDeskModel", name := "size", desc := "([Z)I" } : MethodName)) ∈ hw_G := hw_in 717 (by decide +kernel) rfl
theorem iw_676 : (Cond.static ({ cls := "NearDeskModel", name := "size", desc := "([Z)I" } : MethodName)) ∈ hw_G := hw_in 718 (by decide +kernel) rfl
theorem iw_678 : (Cond.methodLink "NearDeskModel" (90 : Nat) ({ cls := "NearDeskModel", name := "farthest", desc := "([Z)I" } : MethodName)) ∈ hw_G := hw_in 720 (by decide +kernel) rfl
theorem iw_680 : (Cond.instanceMethod ({ cls := "NearDeskModel", name := "farthest", desc := "([Z)I" } : MethodName)) ∈ hw_G := hw_in 722 (by decide +kernel) rfl
theorem iw_682 : (Cond.methodLink "NearDeskModel" (79 : Nat) ({ cls := "NearDeskModel", name := "isNearer", desc := "(II)Z" } : MethodName)) ∈ hw_G := hw_in 724 (by decide +kernel) rfl
theorem iw_684 : (Cond.instanceMethod ({ cls := "NearDeskModel", name := "isNearer", desc := "(II)Z" } : MethodName)) ∈ hw_G := hw_in 726 (by decide +kernel) rfl
theorem iw_686 : (Cond.methodLink "NearDeskModel" (75 : Nat) ({ cls := "NearDeskModel", name := "far", desc := "(I)I" } : MethodName)) ∈ hw_G := hw_in 728 (by decide +kernel) rfl
theorem iw_688 : (Cond.instanceMethod ({ cls := "NearDeskModel", name := "far", desc := "(I)I" } : MethodName)) ∈ hw_G := hw_in 730 (by decide +kernel) rfl
theorem iw_690 : (Cond.methodLink "NearDeskModel" (93 : Nat) ({ cls := "NearDeskModel", name := "nearest", desc := "([Z)I" } : MethodName)) ∈ hw_G := hw_in 732 (by decide +kernel) rfl
theorem iw_692 : (Cond.instanceMethod ({ cls := "NearDeskModel", name := "nearest", desc := "([Z)I" } : MethodName)) ∈ hw_G := hw_in 734 (by decide +kernel) rfl
theorem iw_694 : (Cond.methodLink "NearDeskModel" (96 : Nat) ({ cls := "NearDeskModel", name := "look", desc := "(II)V" } : MethodName)) ∈ hw_G := hw_in 736 (by decide +kernel) rfl
theorem iw_696 : (Cond.instanceMethod ({ cls := "NearDeskModel", name := "look", desc := "(II)V" } : MethodName)) ∈ hw_G := hw_in 738 (by decide +kernel) rfl
theorem iw_698 : (Cond.methodLink "NearDeskModel" (127 : Nat) ({ cls := "NearDeskModel", name := "tie", desc := "(II)V" } : MethodName)) ∈ hw_G := hw_in 740 (by decide +kernel) rfl
theorem iw_700 : (Cond.instanceMethod ({ cls := "NearDeskModel", name := "tie", desc := "(II)V" } : MethodName)) ∈ hw_G := hw_in 742 (by decide +kernel) rfl
theorem iw_702 : (Cond.methodLink "NearDeskModel" (130 : Nat) ({ cls := "NearDeskModel", name := "choose", desc := "(I)V" } : MethodName)) ∈ hw_G := hw_in 744 (by decide +kernel) rfl
theorem iw_704 : (Cond.instanceMethod ({ cls := "NearDeskModel", name := "choose", desc := "(I)V" } : MethodName)) ∈ hw_G := hw_in 746 (by decide +kernel) rfl
theorem iw_706 : (Cond.methodLink "NearDeskModel" (106 : Nat) ({ cls := "NearDeskModel", name := "between", desc := "(II)I" } : MethodName)) ∈ hw_G := hw_in 748 (by decide +kernel) rfl
theorem iw_708 : (Cond.instanceMethod ({ cls := "NearDeskModel", name := "between", desc := "(II)I" } : MethodName)) ∈ hw_G := hw_in 750 (by decide +kernel) rfl
theorem iw_710 : (Cond.methodLink "NearDeskModel" (110 : Nat) ({ cls := "NearDeskModel", name := "pick", desc := "(I)V" } : MethodName)) ∈ hw_G := hw_in 752 (by decide +kernel) rfl
theorem iw_712 : (Cond.instanceMethod ({ cls := "NearDeskModel", name := "pick", desc := "(I)V" } : MethodName)) ∈ hw_G := hw_in 754 (by decide +kernel) rfl
theorem iw_714 : (Cond.methodLink "NearDeskModel" (133 : Nat) ({ cls := "NearDeskModel", name := "take", desc := "(I)V" } : MethodName)) ∈ hw_G := hw_in 756 (by decide +kernel) rfl
theorem iw_716 : (Cond.instanceMethod ({ cls := "NearDeskModel", name := "take", desc := "(I)V" } : MethodName)) ∈ hw_G := hw_in 758 (by decide +kernel) rfl
theorem iw_718 : (Cond.methodLink "NearDeskLaw" (22 : Nat) ({ cls := "NearDeskModel", name := "remove", desc := "(I)Z" } : MethodName)) ∈ hw_G := hw_in 760 (by decide +kernel) rfl
theorem iw_719 : (Cond.instanceMethod ({ cls := "NearDeskModel", name := "remove", desc := "(I)Z" } : MethodName)) ∈ hw_G := hw_in 761 (by decide +kernel) rfl
theorem iw_720 : (Cond.selects "NearDeskModel" ({ cls := "NearDeskModel", name := "remove", desc := "(I)Z" } : MethodName) ({ cls := "NearDeskModel", name := "remove", desc := "(I)Z" } : MethodName)) ∈ hw_G := hw_in 762 (by decide +kernel) rfl
theorem iw_722 : (Cond.methodLink "NearDeskLaw" (27 : Nat) ({ cls := "NearDeskModel", name := "renew", desc := "()I" } : MethodName)) ∈ hw_G := hw_in 764 (by decide +kernel) rfl
theorem iw_723 : (Cond.instanceMethod ({ cls := "NearDeskModel", name := "renew", desc := "()I" } : MethodName)) ∈ hw_G := hw_in 765 (by decide +kernel) rfl
theorem iw_724 : (Cond.selects "NearDeskModel" ({ cls := "NearDeskModel", name := "renew", desc := "()I" } : MethodName) ({ cls := "NearDeskModel", name := "renew", desc := "()I" } : MethodName)) ∈ hw_G := hw_in 766 (by decide +kernel) rfl
theorem iw_726 : (Cond.methodLink "NearDeskLaw" (32 : Nat) ({ cls := "NearDeskModel", name := "ask", desc := "(IIII)Z" } : MethodName)) ∈ hw_G := hw_in 768 (by decide +kernel) rfl
theorem iw_727 : (Cond.instanceMethod ({ cls := "NearDeskModel", name := "ask", desc := "(IIII)Z" } : MethodName)) ∈ hw_G := hw_in 769 (by decide +kernel) rfl
theorem iw_728 : (Cond.selects "NearDeskModel" ({ cls := "NearDeskModel", name := "ask", desc := "(IIII)Z" } : MethodName) ({ cls := "NearDeskModel", name := "ask", desc := "(IIII)Z" } : MethodName)) ∈ hw_G := hw_in 770 (by decide +kernel) rfl
theorem iw_730 : (Cond.methodLink "NearDeskLaw" (37 : Nat) ({ cls := "NearDeskModel", name := "near", desc := "(II)I" } : MethodName)) ∈ hw_G := hw_in 772 (by decide +kernel) rfl
theorem iw_731 : (Cond.instanceMethod ({ cls := "NearDeskModel", name := "near", desc := "(II)I" } : MethodName)) ∈ hw_G := hw_in 773 (by decide +kernel) rfl
theorem iw_732 : (Cond.selects "NearDeskModel" ({ cls := "NearDeskModel", name := "near", desc := "(II)I" } : MethodName) ({ cls := "NearDeskModel", name := "near", desc := "(II)I" } : MethodName)) ∈ hw_G := hw_in 774 (by decide +kernel) rfl
theorem iw_734 : (Cond.methodLink "NearDeskModel" (150 : Nat) ({ cls := "NearDeskModel", name := "search", desc := "(I)V" } : MethodName)) ∈ hw_G := hw_in 776 (by decide +kernel) rfl
theorem iw_736 : (Cond.instanceMethod ({ cls := "NearDeskModel", name := "search", desc := "(I)V" } : MethodName)) ∈ hw_G := hw_in 778 (by decide +kernel) rfl
theorem iw_738 : (Cond.methodLink "NearDeskModel" (144 : Nat) ({ cls := "NearDeskModel", name := "aimAsked", desc := "()V" } : MethodName)) ∈ hw_G := hw_in 780 (by decide +kernel) rfl
theorem iw_740 : (Cond.instanceMethod ({ cls := "NearDeskModel", name := "aimAsked", desc := "()V" } : MethodName)) ∈ hw_G := hw_in 782 (by decide +kernel) rfl
theorem iw_742 : (Cond.methodLink "NearDeskLaw" (42 : Nat) ({ cls := "NearDeskModel", name := "exact", desc := "(I)I" } : MethodName)) ∈ hw_G := hw_in 784 (by decide +kernel) rfl
theorem iw_743 : (Cond.instanceMethod ({ cls := "NearDeskModel", name := "exact", desc := "(I)I" } : MethodName)) ∈ hw_G := hw_in 785 (by decide +kernel) rfl
theorem iw_744 : (Cond.selects "NearDeskModel" ({ cls := "NearDeskModel", name := "exact", desc := "(I)I" } : MethodName) ({ cls := "NearDeskModel", name := "exact", desc := "(I)I" } : MethodName)) ∈ hw_G := hw_in 786 (by decide +kernel) rfl
theorem iw_746 : (Cond.methodLink "NearDeskLaw" (46 : Nat) ({ cls := "NearDeskModel", name := "match", desc := "(II)I" } : MethodName)) ∈ hw_G := hw_in 788 (by decide +kernel) rfl
theorem iw_747 : (Cond.instanceMethod ({ cls := "NearDeskModel", name := "match", desc := "(II)I" } : MethodName)) ∈ hw_G := hw_in 789 (by decide +kernel) rfl
theorem iw_748 : (Cond.selects "NearDeskModel" ({ cls := "NearDeskModel", name := "match", desc := "(II)I" } : MethodName) ({ cls := "NearDeskModel", name := "match", desc := "(II)I" } : MethodName)) ∈ hw_G := hw_in 790 (by decide +kernel) rfl
theorem iw_750 : (Cond.methodLink "NearDeskModel" (165 : Nat) ({ cls := "NearDeskModel", name := "score", desc := "(I)V" } : MethodName)) ∈ hw_G := hw_in 792 (by decide +kernel) rfl
theorem iw_752 : (Cond.instanceMethod ({ cls := "NearDeskModel", name := "score", desc := "(I)V" } : MethodName)) ∈ hw_G := hw_in 794 (by decide +kernel) rfl
theorem iw_754 : (Cond.methodLink "NearDeskModel" (159 : Nat) ({ cls := "NearDeskModel", name := "scoreOf", desc := "(II)I" } : MethodName)) ∈ hw_G := hw_in 796 (by decide +kernel) rfl
theorem iw_756 : (Cond.instanceMethod ({ cls := "NearDeskModel", name := "scoreOf", desc := "(II)I" } : MethodName)) ∈ hw_G := hw_in 798 (by decide +kernel) rfl
theorem iw_758 : (Cond.methodLink "NearDeskModel" (156 : Nat) ({ cls := "NearDeskModel", name := "countOf", desc := "(II)I" } : MethodName)) ∈ hw_G := hw_in 800 (by decide +kernel) rfl
theorem iw_760 : (Cond.instanceMethod ({ cls := "NearDeskModel", name := "countOf", desc := "(II)I" } : MethodName)) ∈ hw_G := hw_in 802 (by decide +kernel) rfl
theorem iw_762 : (Cond.methodLink "NearDeskModel" (168 : Nat) ({ cls := "NearDeskModel", name := "best", desc := "(I)I" } : MethodName)) ∈ hw_G := hw_in 804 (by decide +kernel) rfl
theorem iw_764 : (Cond.instanceMethod ({ cls := "NearDeskModel", name := "best", desc := "(I)I" } : MethodName)) ∈ hw_G := hw_in 806 (by decide +kernel) rfl
theorem iw_766 : (Cond.methodLink "NearDeskModel" (162 : Nat) ({ cls := "NearDeskModel", name := "placeOf", desc := "(I)I" } : MethodName)) ∈ hw_G := hw_in 808 (by decide +kernel) rfl
theorem iw_768 : (Cond.instanceMethod ({ cls := "NearDeskModel", name := "placeOf", desc := "(I)I" } : MethodName)) ∈ hw_G := hw_in 810 (by decide +kernel) rfl
theorem iw_770 : (Cond.methodLink "NearDeskLaw" (50 : Nat) ({ cls := "NearDeskModel", name := "fuse", desc := "(II)I" } : MethodName)) ∈ hw_G := hw_in 812 (by decide +kernel) rfl
theorem iw_771 : (Cond.instanceMethod ({ cls := "NearDeskModel", name := "fuse", desc := "(II)I" } : MethodName)) ∈ hw_G := hw_in 813 (by decide +kernel) rfl
theorem iw_772 : (Cond.selects "NearDeskModel" ({ cls := "NearDeskModel", name := "fuse", desc := "(II)I" } : MethodName) ({ cls := "NearDeskModel", name := "fuse", desc := "(II)I" } : MethodName)) ∈ hw_G := hw_in 814 (by decide +kernel) rfl
theorem iw_774 : (Cond.methodLink "NearDeskLaw" (54 : Nat) ({ cls := "NearDeskModel", name := "found", desc := "(II)I" } : MethodName)) ∈ hw_G := hw_in 816 (by decide +kernel) rfl
theorem iw_775 : (Cond.instanceMethod ({ cls := "NearDeskModel", name := "found", desc := "(II)I" } : MethodName)) ∈ hw_G := hw_in 817 (by decide +kernel) rfl
theorem iw_776 : (Cond.selects "NearDeskModel" ({ cls := "NearDeskModel", name := "found", desc := "(II)I" } : MethodName) ({ cls := "NearDeskModel", name := "found", desc := "(II)I" } : MethodName)) ∈ hw_G := hw_in 818 (by decide +kernel) rfl
theorem iw_778 : (Cond.methodLink "NearDeskLaw" (58 : Nat) ({ cls := "NearDeskModel", name := "node", desc := "(II)I" } : MethodName)) ∈ hw_G := hw_in 820 (by decide +kernel) rfl
theorem iw_779 : (Cond.instanceMethod ({ cls := "NearDeskModel", name := "node", desc := "(II)I" } : MethodName)) ∈ hw_G := hw_in 821 (by decide +kernel) rfl
theorem iw_780 : (Cond.selects "NearDeskModel" ({ cls := "NearDeskModel", name := "node", desc := "(II)I" } : MethodName) ({ cls := "NearDeskModel", name := "node", desc := "(II)I" } : MethodName)) ∈ hw_G := hw_in 822 (by decide +kernel) rfl
theorem iw_782 : (Cond.methodLink "NearDeskLaw" (63 : Nat) ({ cls := "NearDeskModel", name := "neighbour", desc := "(III)I" } : MethodName)) ∈ hw_G := hw_in 824 (by decide +kernel) rfl
theorem iw_783 : (Cond.instanceMethod ({ cls := "NearDeskModel", name := "neighbour", desc := "(III)I" } : MethodName)) ∈ hw_G := hw_in 825 (by decide +kernel) rfl
theorem iw_784 : (Cond.selects "NearDeskModel" ({ cls := "NearDeskModel", name := "neighbour", desc := "(III)I" } : MethodName) ({ cls := "NearDeskModel", name := "neighbour", desc := "(III)I" } : MethodName)) ∈ hw_G := hw_in 826 (by decide +kernel) rfl
theorem iw_786 : (Cond.methodLink "NearDeskLaw" (67 : Nat) ({ cls := "NearDeskModel", name := "count", desc := "(I)I" } : MethodName)) ∈ hw_G := hw_in 828 (by decide +kernel) rfl
theorem iw_787 : (Cond.instanceMethod ({ cls := "NearDeskModel", name := "count", desc := "(I)I" } : MethodName)) ∈ hw_G := hw_in 829 (by decide +kernel) rfl
theorem iw_788 : (Cond.selects "NearDeskModel" ({ cls := "NearDeskModel", name := "count", desc := "(I)I" } : MethodName) ({ cls := "NearDeskModel", name := "count", desc := "(I)I" } : MethodName)) ∈ hw_G := hw_in 830 (by decide +kernel) rfl
theorem iw_790 : (Cond.methodLink "NearDeskModel" (174 : Nat) ({ cls := "NearDeskModel", name := "right", desc := "()I" } : MethodName)) ∈ hw_G := hw_in 832 (by decide +kernel) rfl
theorem iw_792 : (Cond.instanceMethod ({ cls := "NearDeskModel", name := "right", desc := "()I" } : MethodName)) ∈ hw_G := hw_in 834 (by decide +kernel) rfl
theorem iw_794 : (Cond.methodLink "NearDeskModel" (178 : Nat) ({ cls := "NearDeskModel", name := "oneSided", desc := "()I" } : MethodName)) ∈ hw_G := hw_in 836 (by decide +kernel) rfl
theorem iw_796 : (Cond.instanceMethod ({ cls := "NearDeskModel", name := "oneSided", desc := "()I" } : MethodName)) ∈ hw_G := hw_in 838 (by decide +kernel) rfl
theorem iw_798 : (Cond.methodLink "NearDeskModel" (171 : Nat) ({ cls := "NearDeskModel", name := "isNeighbour", desc := "(II)Z" } : MethodName)) ∈ hw_G := hw_in 840 (by decide +kernel) rfl
theorem iw_800 : (Cond.instanceMethod ({ cls := "NearDeskModel", name := "isNeighbour", desc := "(II)Z" } : MethodName)) ∈ hw_G := hw_in 842 (by decide +kernel) rfl
theorem iw_802 : (Cond.methodLink "NearDeskModel" (181 : Nat) ({ cls := "NearDeskModel", name := "reached", desc := "()I" } : MethodName)) ∈ hw_G := hw_in 844 (by decide +kernel) rfl
theorem iw_804 : (Cond.instanceMethod ({ cls := "NearDeskModel", name := "reached", desc := "()I" } : MethodName)) ∈ hw_G := hw_in 846 (by decide +kernel) rfl
theorem in_132 : (Cond.fieldLinkNest "NearDesk" (49 : Nat) "NearDesk$Graph" "links" "LNearDesk$Links;" "NearDesk") ∈ hw_NW := hw_inN 174 (by decide +kernel) rfl
theorem in_197 : (Cond.methodLinkNest "NearDesk$Documents" (23 : Nat) ({ cls := "NearDesk", name := "writeVector", desc := "([IIIII)V" } : MethodName) "NearDesk") ∈ hw_NW := hw_inN 239 (by decide +kernel) rfl
theorem in_227 : (Cond.methodLinkNest "NearDesk$Documents" (48 : Nat) ({ cls := "NearDesk", name := "distance", desc := "([I[I)I" } : MethodName) "NearDesk") ∈ hw_NW := hw_inN 269 (by decide +kernel) rfl
theorem in_301 : (Cond.methodLinkNest "NearDesk$Walker" (90 : Nat) ({ cls := "NearDesk", name := "isIn", desc := "(II)Z" } : MethodName) "NearDesk") ∈ hw_NW := hw_inN 343 (by decide +kernel) rfl
theorem in_330 : (Cond.methodLinkNest "NearDesk$Chooser" (52 : Nat) ({ cls := "NearDesk", name := "distance", desc := "([I[I)I" } : MethodName) "NearDesk") ∈ hw_NW := hw_inN 372 (by decide +kernel) rfl
theorem in_335 : (Cond.methodLinkNest "NearDesk$Chooser" (42 : Nat) ({ cls := "NearDesk", name := "isIn", desc := "(II)Z" } : MethodName) "NearDesk") ∈ hw_NW := hw_inN 377 (by decide +kernel) rfl
theorem in_364 : (Cond.methodLinkNest "NearDesk$Graph" (119 : Nat) ({ cls := "NearDesk", name := "distance", desc := "([I[I)I" } : MethodName) "NearDesk") ∈ hw_NW := hw_inN 406 (by decide +kernel) rfl
theorem in_378 : (Cond.methodLinkNest "NearDesk$Documents" (35 : Nat) ({ cls := "NearDesk", name := "isDocumentNumber", desc := "(I)Z" } : MethodName) "NearDesk") ∈ hw_NW := hw_inN 420 (by decide +kernel) rfl
theorem in_381 : (Cond.methodLinkNest "NearDesk$Documents" (38 : Nat) ({ cls := "NearDesk", name := "isIn", desc := "(II)Z" } : MethodName) "NearDesk") ∈ hw_NW := hw_inN 423 (by decide +kernel) rfl
theorem in_493 : (Cond.methodLinkNest "NearDesk$Links" (35 : Nat) ({ cls := "NearDesk", name := "isDocumentNumber", desc := "(I)Z" } : MethodName) "NearDesk") ∈ hw_NW := hw_inN 535 (by decide +kernel) rfl
theorem in_499 : (Cond.methodLinkNest "NearDesk$Links" (42 : Nat) ({ cls := "NearDesk", name := "isWithin", desc := "(III)Z" } : MethodName) "NearDesk") ∈ hw_NW := hw_inN 541 (by decide +kernel) rfl
theorem in_562 : (Cond.methodLinkNest "NearDesk$Links" (69 : Nat) ({ cls := "NearDesk", name := "isIn", desc := "(II)Z" } : MethodName) "NearDesk") ∈ hw_NW := hw_inN 604 (by decide +kernel) rfl
theorem ic_Ch_choose : Cond.code y_Ch_choose b_Ch_choose 6 none ∈ hw_G := hw_in 363 (by decide +kernel) rfl
theorem gy_Ch_choose : GoodIn hw_G ([.instanceMethod y_Ch_choose, .selects R_Ch y_Ch_choose y_Ch_choose, .initialized R_Ch] ++ (.code y_Ch_choose b_Ch_choose 6 none :: hw_G)) := hw_g3 iw_319 iw_320 iw_7 (hw_gc ic_Ch_choose)
theorem ic_Ch_chosen : Cond.code y_Ch_chosen b_Ch_chosen 2 (some .int) ∈ hw_G := hw_in 389 (by decide +kernel) rfl
theorem gy_Ch_chosen : GoodIn hw_G ([.instanceMethod y_Ch_chosen, .selects R_Ch y_Ch_chosen y_Ch_chosen, .initialized R_Ch] ++ (.code y_Ch_chosen b_Ch_chosen 2 (some .int) :: hw_G)) := hw_g3 iw_345 iw_346 iw_7 (hw_gc ic_Ch_chosen)
theorem ic_Ch_isNearestToVector : Cond.code y_Ch_isNearestToVector b_Ch_isNearestToVector 5 (some .boolean) ∈ hw_G := hw_in 370 (by decide +kernel) rfl
theorem gy_Ch_isNearestToVector : GoodIn hw_G ([.instanceMethod y_Ch_isNearestToVector, .selects R_Ch y_Ch_isNearestToVector y_Ch_isNearestToVector, .initialized R_Ch] ++ (.code y_Ch_isNearestToVector b_Ch_isNearestToVector 5 (some .boolean) :: hw_G)) := hw_g3 iw_327 iw_m5 iw_7 (hw_gc ic_Ch_isNearestToVector)
theorem ic_Ch_size : Cond.code y_Ch_size b_Ch_size 1 (some .int) ∈ hw_G := hw_in 385 (by decide +kernel) rfl
theorem gy_Ch_size : GoodIn hw_G ([.instanceMethod y_Ch_size, .selects R_Ch y_Ch_size y_Ch_size, .initialized R_Ch] ++ (.code y_Ch_size b_Ch_size 1 (some .int) :: hw_G)) := hw_g3 iw_341 iw_342 iw_7 (hw_gc ic_Ch_size)
theorem ic_Ch_take : Cond.code y_Ch_take b_Ch_take 2 none ∈ hw_G := hw_in 376 (by decide +kernel) rfl
theorem gy_Ch_take : GoodIn hw_G ([.instanceMethod y_Ch_take, .selects R_Ch y_Ch_take y_Ch_take, .initialized R_Ch] ++ (.code y_Ch_take b_Ch_take 2 none :: hw_G)) := hw_g3 iw_333 iw_m6 iw_7 (hw_gc ic_Ch_take)
theorem ic_Do_coordinate : Cond.code y_Do_coordinate b_Do_coordinate 3 (some .int) ∈ hw_G := hw_in 555 (by decide +kernel) rfl
theorem gy_Do_coordinate : GoodIn hw_G ([.instanceMethod y_Do_coordinate, .selects R_Do y_Do_coordinate y_Do_coordinate, .initialized R_Do] ++ (.code y_Do_coordinate b_Do_coordinate 3 (some .int) :: hw_G)) := hw_g3 iw_511 iw_512 iw_2 (hw_gc ic_Do_coordinate)
theorem ic_Do_countOfWord : Cond.code y_Do_countOfWord b_Do_countOfWord 3 (some .int) ∈ hw_G := hw_in 501 (by decide +kernel) rfl
theorem gy_Do_countOfWord : GoodIn hw_G ([.instanceMethod y_Do_countOfWord, .selects R_Do y_Do_countOfWord y_Do_countOfWord, .initialized R_Do] ++ (.code y_Do_countOfWord b_Do_countOfWord 3 (some .int) :: hw_G)) := hw_g3 iw_458 iw_m11 iw_2 (hw_gc ic_Do_countOfWord)
theorem ic_Do_counts : Cond.code y_Do_counts b_Do_counts 2 (some .int) ∈ hw_G := hw_in 551 (by decide +kernel) rfl
theorem gy_Do_counts : GoodIn hw_G ([.instanceMethod y_Do_counts, .selects R_Do y_Do_counts y_Do_counts, .initialized R_Do] ++ (.code y_Do_counts b_Do_counts 2 (some .int) :: hw_G)) := hw_g3 iw_507 iw_508 iw_2 (hw_gc ic_Do_counts)
theorem ic_Do_isLive : Cond.code y_Do_isLive b_Do_isLive 2 (some .boolean) ∈ hw_G := hw_in 419 (by decide +kernel) rfl
theorem gy_Do_isLive : GoodIn hw_G ([.instanceMethod y_Do_isLive, .selects R_Do y_Do_isLive y_Do_isLive, .initialized R_Do] ++ (.code y_Do_isLive b_Do_isLive 2 (some .boolean) :: hw_G)) := hw_g3 iw_375 iw_376 iw_2 (hw_gc ic_Do_isLive)
theorem ic_Do_liveCount : Cond.code y_Do_liveCount b_Do_liveCount 1 (some .int) ∈ hw_G := hw_in 435 (by decide +kernel) rfl
theorem gy_Do_liveCount : GoodIn hw_G ([.instanceMethod y_Do_liveCount, .selects R_Do y_Do_liveCount y_Do_liveCount, .initialized R_Do] ++ (.code y_Do_liveCount b_Do_liveCount 1 (some .int) :: hw_G)) := hw_g3 iw_391 iw_392 iw_2 (hw_gc ic_Do_liveCount)
theorem ic_Do_liveWith : Cond.code y_Do_liveWith b_Do_liveWith 4 (some .int) ∈ hw_G := hw_in 497 (by decide +kernel) rfl
theorem gy_Do_liveWith : GoodIn hw_G ([.instanceMethod y_Do_liveWith, .selects R_Do y_Do_liveWith y_Do_liveWith, .initialized R_Do] ++ (.code y_Do_liveWith b_Do_liveWith 4 (some .int) :: hw_G)) := hw_g3 iw_454 iw_m10 iw_2 (hw_gc ic_Do_liveWith)
theorem ic_Do_measure : Cond.code y_Do_measure b_Do_measure 4 none ∈ hw_G := hw_in 268 (by decide +kernel) rfl
theorem gy_Do_measure : GoodIn hw_G ([.instanceMethod y_Do_measure, .selects R_Do y_Do_measure y_Do_measure, .initialized R_Do] ++ (.code y_Do_measure b_Do_measure 4 none :: hw_G)) := hw_g3 iw_224 iw_225 iw_2 (hw_gc ic_Do_measure)
theorem ic_Do_rankByDistance : Cond.code y_Do_rankByDistance b_Do_rankByDistance 4 none ∈ hw_G := hw_in 480 (by decide +kernel) rfl
theorem gy_Do_rankByDistance : GoodIn hw_G ([.instanceMethod y_Do_rankByDistance, .selects R_Do y_Do_rankByDistance y_Do_rankByDistance, .initialized R_Do] ++ (.code y_Do_rankByDistance b_Do_rankByDistance 4 none :: hw_G)) := hw_g3 iw_436 iw_437 iw_2 (hw_gc ic_Do_rankByDistance)
theorem ic_Do_rankByScore : Cond.code y_Do_rankByScore b_Do_rankByScore 5 none ∈ hw_G := hw_in 489 (by decide +kernel) rfl
theorem gy_Do_rankByScore : GoodIn hw_G ([.instanceMethod y_Do_rankByScore, .selects R_Do y_Do_rankByScore y_Do_rankByScore, .initialized R_Do] ++ (.code y_Do_rankByScore b_Do_rankByScore 5 none :: hw_G)) := hw_g3 iw_445 iw_446 iw_2 (hw_gc ic_Do_rankByScore)
theorem ic_Do_retire : Cond.code y_Do_retire b_Do_retire 2 (some .boolean) ∈ hw_G := hw_in 415 (by decide +kernel) rfl
theorem gy_Do_retire : GoodIn hw_G ([.instanceMethod y_Do_retire, .selects R_Do y_Do_retire y_Do_retire, .initialized R_Do] ++ (.code y_Do_retire b_Do_retire 2 (some .boolean) :: hw_G)) := hw_g3 iw_371 iw_372 iw_2 (hw_gc ic_Do_retire)
theorem ic_Do_score : Cond.code y_Do_score b_Do_score 6 (some .int) ∈ hw_G := hw_in 506 (by decide +kernel) rfl
theorem gy_Do_score : GoodIn hw_G ([.instanceMethod y_Do_score, .selects R_Do y_Do_score y_Do_score, .initialized R_Do] ++ (.code y_Do_score b_Do_score 6 (some .int) :: hw_G)) := hw_g3 iw_463 iw_m12 iw_2 (hw_gc ic_Do_score)
theorem ic_Do_store : Cond.code y_Do_store b_Do_store 7 none ∈ hw_G := hw_in 238 (by decide +kernel) rfl
theorem gy_Do_store : GoodIn hw_G ([.instanceMethod y_Do_store, .selects R_Do y_Do_store y_Do_store, .initialized R_Do] ++ (.code y_Do_store b_Do_store 7 none :: hw_G)) := hw_g3 iw_194 iw_195 iw_2 (hw_gc ic_Do_store)
theorem ic_Do_vector : Cond.code y_Do_vector b_Do_vector 2 (some (.array .int)) ∈ hw_G := hw_in 260 (by decide +kernel) rfl
theorem gy_Do_vector : GoodIn hw_G ([.instanceMethod y_Do_vector, .selects R_Do y_Do_vector y_Do_vector, .initialized R_Do] ++ (.code y_Do_vector b_Do_vector 2 (some (.array .int)) :: hw_G)) := hw_g3 iw_216 iw_217 iw_2 (hw_gc ic_Do_vector)
theorem ic_Do_weighWords : Cond.code y_Do_weighWords b_Do_weighWords 3 none ∈ hw_G := hw_in 493 (by decide +kernel) rfl
theorem gy_Do_weighWords : GoodIn hw_G ([.instanceMethod y_Do_weighWords, .selects R_Do y_Do_weighWords y_Do_weighWords, .initialized R_Do] ++ (.code y_Do_weighWords b_Do_weighWords 3 none :: hw_G)) := hw_g3 iw_450 iw_m9 iw_2 (hw_gc ic_Do_weighWords)
theorem ic_Gr_clear : Cond.code y_Gr_clear b_Gr_clear 1 none ∈ hw_G := hw_in 440 (by decide +kernel) rfl
theorem gy_Gr_clear : GoodIn hw_G ([.instanceMethod y_Gr_clear, .selects R_Gr y_Gr_clear y_Gr_clear, .initialized R_Gr] ++ (.code y_Gr_clear b_Gr_clear 1 none :: hw_G)) := hw_g3 iw_396 iw_397 iw_3 (hw_gc ic_Gr_clear)
theorem ic_Gr_enter : Cond.code y_Gr_enter b_Gr_enter 6 none ∈ hw_G := hw_in 245 (by decide +kernel) rfl
theorem gy_Gr_enter : GoodIn hw_G ([.instanceMethod y_Gr_enter, .selects R_Gr y_Gr_enter y_Gr_enter, .initialized R_Gr] ++ (.code y_Gr_enter b_Gr_enter 6 none :: hw_G)) := hw_g3 iw_201 iw_202 iw_3 (hw_gc ic_Gr_enter)
theorem ic_Gr_entry : Cond.code y_Gr_entry b_Gr_entry 1 (some .int) ∈ hw_G := hw_in 568 (by decide +kernel) rfl
theorem gy_Gr_entry : GoodIn hw_G ([.instanceMethod y_Gr_entry, .selects R_Gr y_Gr_entry y_Gr_entry, .initialized R_Gr] ++ (.code y_Gr_entry b_Gr_entry 1 (some .int) :: hw_G)) := hw_g3 iw_524 iw_525 iw_3 (hw_gc ic_Gr_entry)
theorem ic_Gr_link : Cond.code y_Gr_link b_Gr_link 6 none ∈ hw_G := hw_in 355 (by decide +kernel) rfl
theorem gy_Gr_link : GoodIn hw_G ([.instanceMethod y_Gr_link, .selects R_Gr y_Gr_link y_Gr_link, .initialized R_Gr] ++ (.code y_Gr_link b_Gr_link 6 none :: hw_G)) := hw_g3 iw_312 iw_m4 iw_3 (hw_gc ic_Gr_link)
theorem ic_Gr_search : Cond.code y_Gr_search b_Gr_search 5 (some (.object "NearDesk$Ranking")) ∈ hw_G := hw_in 464 (by decide +kernel) rfl
theorem gy_Gr_search : GoodIn hw_G ([.instanceMethod y_Gr_search, .selects R_Gr y_Gr_search y_Gr_search, .initialized R_Gr] ++ (.code y_Gr_search b_Gr_search 5 (some (.object "NearDesk$Ranking")) :: hw_G)) := hw_g3 iw_420 iw_421 iw_3 (hw_gc ic_Gr_search)
theorem ic_Gr_seenInEntering : Cond.code y_Gr_seenInEntering b_Gr_seenInEntering 1 (some .int) ∈ hw_G := hw_in 577 (by decide +kernel) rfl
theorem gy_Gr_seenInEntering : GoodIn hw_G ([.instanceMethod y_Gr_seenInEntering, .selects R_Gr y_Gr_seenInEntering y_Gr_seenInEntering, .initialized R_Gr] ++ (.code y_Gr_seenInEntering b_Gr_seenInEntering 1 (some .int) :: hw_G)) := hw_g3 iw_533 iw_534 iw_3 (hw_gc ic_Gr_seenInEntering)
theorem ic_Gr_seenInSearches : Cond.code y_Gr_seenInSearches b_Gr_seenInSearches 1 (some .int) ∈ hw_G := hw_in 573 (by decide +kernel) rfl
theorem gy_Gr_seenInSearches : GoodIn hw_G ([.instanceMethod y_Gr_seenInSearches, .selects R_Gr y_Gr_seenInSearches y_Gr_seenInSearches, .initialized R_Gr] ++ (.code y_Gr_seenInSearches b_Gr_seenInSearches 1 (some .int) :: hw_G)) := hw_g3 iw_529 iw_530 iw_3 (hw_gc ic_Gr_seenInSearches)
theorem ic_Gr_shorten : Cond.code y_Gr_shorten b_Gr_shorten 6 none ∈ hw_G := hw_in 404 (by decide +kernel) rfl
theorem gy_Gr_shorten : GoodIn hw_G ([.instanceMethod y_Gr_shorten, .selects R_Gr y_Gr_shorten y_Gr_shorten, .initialized R_Gr] ++ (.code y_Gr_shorten b_Gr_shorten 6 none :: hw_G)) := hw_g3 iw_361 iw_m7 iw_3 (hw_gc ic_Gr_shorten)
theorem ic_Gr_top : Cond.code y_Gr_top b_Gr_top 1 (some .int) ∈ hw_G := hw_in 294 (by decide +kernel) rfl
theorem gy_Gr_top : GoodIn hw_G ([.instanceMethod y_Gr_top, .selects R_Gr y_Gr_top y_Gr_top, .initialized R_Gr] ++ (.code y_Gr_top b_Gr_top 1 (some .int) :: hw_G)) := hw_g3 iw_250 iw_251 iw_3 (hw_gc ic_Gr_top)
theorem ic_In_bitCount : Cond.code y_In_bitCount b_In_bitCount 1 (some .int) ∈ hw_G := hw_in 348 (by decide +kernel) rfl
theorem gs_In_bitCount : GoodIn hw_G ([.static y_In_bitCount, .initialized R_In] ++ (.code y_In_bitCount b_In_bitCount 1 (some .int) :: hw_G)) := hw_g2 iw_305 iw_10 (hw_gc ic_In_bitCount)
theorem ic_Li_addNode : Cond.code y_Li_addNode b_Li_addNode 3 none ∈ hw_G := hw_in 249 (by decide +kernel) rfl
theorem gy_Li_addNode : GoodIn hw_G ([.instanceMethod y_Li_addNode, .selects R_Li y_Li_addNode y_Li_addNode, .initialized R_Li] ++ (.code y_Li_addNode b_Li_addNode 3 none :: hw_G)) := hw_g3 iw_205 iw_206 iw_4 (hw_gc ic_Li_addNode)
theorem ic_Li_append : Cond.code y_Li_append b_Li_append 5 none ∈ hw_G := hw_in 393 (by decide +kernel) rfl
theorem gy_Li_append : GoodIn hw_G ([.instanceMethod y_Li_append, .selects R_Li y_Li_append y_Li_append, .initialized R_Li] ++ (.code y_Li_append b_Li_append 5 none :: hw_G)) := hw_g3 iw_349 iw_350 iw_4 (hw_gc ic_Li_append)
theorem ic_Li_clear : Cond.code y_Li_clear b_Li_clear 2 none ∈ hw_G := hw_in 444 (by decide +kernel) rfl
theorem gy_Li_clear : GoodIn hw_G ([.instanceMethod y_Li_clear, .selects R_Li y_Li_clear y_Li_clear, .initialized R_Li] ++ (.code y_Li_clear b_Li_clear 2 none :: hw_G)) := hw_g3 iw_400 iw_401 iw_4 (hw_gc ic_Li_clear)
theorem ic_Li_degree : Cond.code y_Li_degree b_Li_degree 3 (some .int) ∈ hw_G := hw_in 338 (by decide +kernel) rfl
theorem gy_Li_degree : GoodIn hw_G ([.instanceMethod y_Li_degree, .selects R_Li y_Li_degree y_Li_degree, .initialized R_Li] ++ (.code y_Li_degree b_Li_degree 3 (some .int) :: hw_G)) := hw_g3 iw_294 iw_295 iw_4 (hw_gc ic_Li_degree)
theorem ic_Li_freeNumber : Cond.code y_Li_freeNumber b_Li_freeNumber 2 (some .int) ∈ hw_G := hw_in 234 (by decide +kernel) rfl
theorem gy_Li_freeNumber : GoodIn hw_G ([.instanceMethod y_Li_freeNumber, .selects R_Li y_Li_freeNumber y_Li_freeNumber, .initialized R_Li] ++ (.code y_Li_freeNumber b_Li_freeNumber 2 (some .int) :: hw_G)) := hw_g3 iw_190 iw_191 iw_4 (hw_gc ic_Li_freeNumber)
theorem ic_Li_isInLayer : Cond.code y_Li_isInLayer b_Li_isInLayer 3 (some .boolean) ∈ hw_G := hw_in 539 (by decide +kernel) rfl
theorem gy_Li_isInLayer : GoodIn hw_G ([.instanceMethod y_Li_isInLayer, .selects R_Li y_Li_isInLayer y_Li_isInLayer, .initialized R_Li] ++ (.code y_Li_isInLayer b_Li_isInLayer 3 (some .boolean) :: hw_G)) := hw_g3 iw_495 iw_496 iw_4 (hw_gc ic_Li_isInLayer)
theorem ic_Li_isLinked : Cond.code y_Li_isLinked b_Li_isLinked 4 (some .boolean) ∈ hw_G := hw_in 599 (by decide +kernel) rfl
theorem gy_Li_isLinked : GoodIn hw_G ([.instanceMethod y_Li_isLinked, .selects R_Li y_Li_isLinked y_Li_isLinked, .initialized R_Li] ++ (.code y_Li_isLinked b_Li_isLinked 4 (some .boolean) :: hw_G)) := hw_g3 iw_556 iw_m18 iw_4 (hw_gc ic_Li_isLinked)
theorem ic_Li_isNode : Cond.code y_Li_isNode b_Li_isNode 2 (some .boolean) ∈ hw_G := hw_in 534 (by decide +kernel) rfl
theorem gy_Li_isNode : GoodIn hw_G ([.instanceMethod y_Li_isNode, .selects R_Li y_Li_isNode y_Li_isNode, .initialized R_Li] ++ (.code y_Li_isNode b_Li_isNode 2 (some .boolean) :: hw_G)) := hw_g3 iw_490 iw_491 iw_4 (hw_gc ic_Li_isNode)
theorem ic_Li_level : Cond.code y_Li_level b_Li_level 2 (some .int) ∈ hw_G := hw_in 256 (by decide +kernel) rfl
theorem gy_Li_level : GoodIn hw_G ([.instanceMethod y_Li_level, .selects R_Li y_Li_level y_Li_level, .initialized R_Li] ++ (.code y_Li_level b_Li_level 2 (some .int) :: hw_G)) := hw_g3 iw_212 iw_213 iw_4 (hw_gc ic_Li_level)
theorem ic_Li_levelOf : Cond.code y_Li_levelOf b_Li_levelOf 3 (some .int) ∈ hw_G := hw_in 252 (by decide +kernel) rfl
theorem gs_Li_levelOf : GoodIn hw_G ([.static y_Li_levelOf, .initialized R_Li] ++ (.code y_Li_levelOf b_Li_levelOf 3 (some .int) :: hw_G)) := hw_g2 iw_209 iw_4 (hw_gc ic_Li_levelOf)
theorem ic_Li_linked : Cond.code y_Li_linked b_Li_linked 4 (some .int) ∈ hw_G := hw_in 342 (by decide +kernel) rfl
theorem gy_Li_linked : GoodIn hw_G ([.instanceMethod y_Li_linked, .selects R_Li y_Li_linked y_Li_linked, .initialized R_Li] ++ (.code y_Li_linked b_Li_linked 4 (some .int) :: hw_G)) := hw_g3 iw_298 iw_299 iw_4 (hw_gc ic_Li_linked)
theorem ic_Li_most : Cond.code y_Li_most b_Li_most 2 (some .int) ∈ hw_G := hw_in 400 (by decide +kernel) rfl
theorem gy_Li_most : GoodIn hw_G ([.instanceMethod y_Li_most, .selects R_Li y_Li_most y_Li_most, .initialized R_Li] ++ (.code y_Li_most b_Li_most 2 (some .int) :: hw_G)) := hw_g3 iw_356 iw_357 iw_4 (hw_gc ic_Li_most)
theorem ic_Li_oneSidedPairs : Cond.code y_Li_oneSidedPairs b_Li_oneSidedPairs 3 (some .int) ∈ hw_G := hw_in 589 (by decide +kernel) rfl
theorem gy_Li_oneSidedPairs : GoodIn hw_G ([.instanceMethod y_Li_oneSidedPairs, .selects R_Li y_Li_oneSidedPairs y_Li_oneSidedPairs, .initialized R_Li] ++ (.code y_Li_oneSidedPairs b_Li_oneSidedPairs 3 (some .int) :: hw_G)) := hw_g3 iw_545 iw_546 iw_4 (hw_gc ic_Li_oneSidedPairs)
theorem ic_Li_order : Cond.code y_Li_order b_Li_order 2 (some .int) ∈ hw_G := hw_in 547 (by decide +kernel) rfl
theorem gy_Li_order : GoodIn hw_G ([.instanceMethod y_Li_order, .selects R_Li y_Li_order y_Li_order, .initialized R_Li] ++ (.code y_Li_order b_Li_order 2 (some .int) :: hw_G)) := hw_g3 iw_503 iw_504 iw_4 (hw_gc ic_Li_order)
theorem ic_Li_reachedFrom : Cond.code y_Li_reachedFrom b_Li_reachedFrom 7 (some .int) ∈ hw_G := hw_in 603 (by decide +kernel) rfl
theorem gy_Li_reachedFrom : GoodIn hw_G ([.instanceMethod y_Li_reachedFrom, .selects R_Li y_Li_reachedFrom y_Li_reachedFrom, .initialized R_Li] ++ (.code y_Li_reachedFrom b_Li_reachedFrom 7 (some .int) :: hw_G)) := hw_g3 iw_559 iw_560 iw_4 (hw_gc ic_Li_reachedFrom)
theorem ic_Li_replace : Cond.code y_Li_replace b_Li_replace 5 none ∈ hw_G := hw_in 381 (by decide +kernel) rfl
theorem gy_Li_replace : GoodIn hw_G ([.instanceMethod y_Li_replace, .selects R_Li y_Li_replace y_Li_replace, .initialized R_Li] ++ (.code y_Li_replace b_Li_replace 5 none :: hw_G)) := hw_g3 iw_337 iw_338 iw_4 (hw_gc ic_Li_replace)
theorem ic_Li_size : Cond.code y_Li_size b_Li_size 1 (some .int) ∈ hw_G := hw_in 431 (by decide +kernel) rfl
theorem gy_Li_size : GoodIn hw_G ([.instanceMethod y_Li_size, .selects R_Li y_Li_size y_Li_size, .initialized R_Li] ++ (.code y_Li_size b_Li_size 1 (some .int) :: hw_G)) := hw_g3 iw_387 iw_388 iw_4 (hw_gc ic_Li_size)
theorem ic_Li_unreturned : Cond.code y_Li_unreturned b_Li_unreturned 4 (some .int) ∈ hw_G := hw_in 593 (by decide +kernel) rfl
theorem gy_Li_unreturned : GoodIn hw_G ([.instanceMethod y_Li_unreturned, .selects R_Li y_Li_unreturned y_Li_unreturned, .initialized R_Li] ++ (.code y_Li_unreturned b_Li_unreturned 4 (some .int) :: hw_G)) := hw_g3 iw_550 iw_m17 iw_4 (hw_gc ic_Li_unreturned)
theorem ic_Mo_aimAsked : Cond.code y_Mo_aimAsked b_Mo_aimAsked 2 none ∈ hw_G := hw_in 783 (by decide +kernel) rfl
theorem gy_Mo_aimAsked : GoodIn hw_G ([.instanceMethod y_Mo_aimAsked, .selects R_Mo y_Mo_aimAsked y_Mo_aimAsked, .initialized R_Mo] ++ (.code y_Mo_aimAsked b_Mo_aimAsked 2 none :: hw_G)) := hw_g3 iw_740 iw_m33 iw_8 (hw_gc ic_Mo_aimAsked)
theorem ic_Mo_aimAt : Cond.code y_Mo_aimAt b_Mo_aimAt 3 none ∈ hw_G := hw_in 712 (by decide +kernel) rfl
theorem gy_Mo_aimAt : GoodIn hw_G ([.instanceMethod y_Mo_aimAt, .selects R_Mo y_Mo_aimAt y_Mo_aimAt, .initialized R_Mo] ++ (.code y_Mo_aimAt b_Mo_aimAt 3 none :: hw_G)) := hw_g3 iw_669 iw_m20 iw_8 (hw_gc ic_Mo_aimAt)
theorem ic_Mo_ask : Cond.code y_Mo_ask b_Mo_ask 5 (some .boolean) ∈ hw_G := hw_in 771 (by decide +kernel) rfl
theorem gy_Mo_ask : GoodIn hw_G ([.instanceMethod y_Mo_ask, .selects R_Mo y_Mo_ask y_Mo_ask, .initialized R_Mo] ++ (.code y_Mo_ask b_Mo_ask 5 (some .boolean) :: hw_G)) := hw_g3 iw_727 iw_728 iw_8 (hw_gc ic_Mo_ask)
theorem ic_Mo_best : Cond.code y_Mo_best b_Mo_best 4 (some .int) ∈ hw_G := hw_in 807 (by decide +kernel) rfl
theorem gy_Mo_best : GoodIn hw_G ([.instanceMethod y_Mo_best, .selects R_Mo y_Mo_best y_Mo_best, .initialized R_Mo] ++ (.code y_Mo_best b_Mo_best 4 (some .int) :: hw_G)) := hw_g3 iw_764 iw_m37 iw_8 (hw_gc ic_Mo_best)
theorem ic_Mo_between : Cond.code y_Mo_between b_Mo_between 5 (some .int) ∈ hw_G := hw_in 751 (by decide +kernel) rfl
theorem gy_Mo_between : GoodIn hw_G ([.instanceMethod y_Mo_between, .selects R_Mo y_Mo_between y_Mo_between, .initialized R_Mo] ++ (.code y_Mo_between b_Mo_between 5 (some .int) :: hw_G)) := hw_g3 iw_708 iw_m29 iw_8 (hw_gc ic_Mo_between)
theorem ic_Mo_choose : Cond.code y_Mo_choose b_Mo_choose 6 none ∈ hw_G := hw_in 747 (by decide +kernel) rfl
theorem gy_Mo_choose : GoodIn hw_G ([.instanceMethod y_Mo_choose, .selects R_Mo y_Mo_choose y_Mo_choose, .initialized R_Mo] ++ (.code y_Mo_choose b_Mo_choose 6 none :: hw_G)) := hw_g3 iw_704 iw_m28 iw_8 (hw_gc ic_Mo_choose)
theorem ic_Mo_count : Cond.code y_Mo_count b_Mo_count 2 (some .int) ∈ hw_G := hw_in 831 (by decide +kernel) rfl
theorem gy_Mo_count : GoodIn hw_G ([.instanceMethod y_Mo_count, .selects R_Mo y_Mo_count y_Mo_count, .initialized R_Mo] ++ (.code y_Mo_count b_Mo_count 2 (some .int) :: hw_G)) := hw_g3 iw_787 iw_788 iw_8 (hw_gc ic_Mo_count)
theorem ic_Mo_countOf : Cond.code y_Mo_countOf b_Mo_countOf 3 (some .int) ∈ hw_G := hw_in 803 (by decide +kernel) rfl
theorem gy_Mo_countOf : GoodIn hw_G ([.instanceMethod y_Mo_countOf, .selects R_Mo y_Mo_countOf y_Mo_countOf, .initialized R_Mo] ++ (.code y_Mo_countOf b_Mo_countOf 3 (some .int) :: hw_G)) := hw_g3 iw_760 iw_m36 iw_8 (hw_gc ic_Mo_countOf)
theorem ic_Mo_enter : Cond.code y_Mo_enter b_Mo_enter 5 none ∈ hw_G := hw_in 708 (by decide +kernel) rfl
theorem gy_Mo_enter : GoodIn hw_G ([.instanceMethod y_Mo_enter, .selects R_Mo y_Mo_enter y_Mo_enter, .initialized R_Mo] ++ (.code y_Mo_enter b_Mo_enter 5 none :: hw_G)) := hw_g3 iw_665 iw_m19 iw_8 (hw_gc ic_Mo_enter)
theorem ic_Mo_exact : Cond.code y_Mo_exact b_Mo_exact 3 (some .int) ∈ hw_G := hw_in 787 (by decide +kernel) rfl
theorem gy_Mo_exact : GoodIn hw_G ([.instanceMethod y_Mo_exact, .selects R_Mo y_Mo_exact y_Mo_exact, .initialized R_Mo] ++ (.code y_Mo_exact b_Mo_exact 3 (some .int) :: hw_G)) := hw_g3 iw_743 iw_744 iw_8 (hw_gc ic_Mo_exact)
theorem ic_Mo_far : Cond.code y_Mo_far b_Mo_far 4 (some .int) ∈ hw_G := hw_in 731 (by decide +kernel) rfl
theorem gy_Mo_far : GoodIn hw_G ([.instanceMethod y_Mo_far, .selects R_Mo y_Mo_far y_Mo_far, .initialized R_Mo] ++ (.code y_Mo_far b_Mo_far 4 (some .int) :: hw_G)) := hw_g3 iw_688 iw_m24 iw_8 (hw_gc ic_Mo_far)
theorem ic_Mo_farthest : Cond.code y_Mo_farthest b_Mo_farthest 4 (some .int) ∈ hw_G := hw_in 723 (by decide +kernel) rfl
theorem gy_Mo_farthest : GoodIn hw_G ([.instanceMethod y_Mo_farthest, .selects R_Mo y_Mo_farthest y_Mo_farthest, .initialized R_Mo] ++ (.code y_Mo_farthest b_Mo_farthest 4 (some .int) :: hw_G)) := hw_g3 iw_680 iw_m22 iw_8 (hw_gc ic_Mo_farthest)
theorem ic_Mo_found : Cond.code y_Mo_found b_Mo_found 3 (some .int) ∈ hw_G := hw_in 819 (by decide +kernel) rfl
theorem gy_Mo_found : GoodIn hw_G ([.instanceMethod y_Mo_found, .selects R_Mo y_Mo_found y_Mo_found, .initialized R_Mo] ++ (.code y_Mo_found b_Mo_found 3 (some .int) :: hw_G)) := hw_g3 iw_775 iw_776 iw_8 (hw_gc ic_Mo_found)
theorem ic_Mo_fuse : Cond.code y_Mo_fuse b_Mo_fuse 5 (some .int) ∈ hw_G := hw_in 815 (by decide +kernel) rfl
theorem gy_Mo_fuse : GoodIn hw_G ([.instanceMethod y_Mo_fuse, .selects R_Mo y_Mo_fuse y_Mo_fuse, .initialized R_Mo] ++ (.code y_Mo_fuse b_Mo_fuse 5 (some .int) :: hw_G)) := hw_g3 iw_771 iw_772 iw_8 (hw_gc ic_Mo_fuse)
theorem ic_Mo_in : Cond.code y_Mo_in b_Mo_in 3 (some .boolean) ∈ hw_G := hw_in 703 (by decide +kernel) rfl
theorem gs_Mo_in : GoodIn hw_G ([.static y_Mo_in, .initialized R_Mo] ++ (.code y_Mo_in b_Mo_in 3 (some .boolean) :: hw_G)) := hw_g2 iw_660 iw_8 (hw_gc ic_Mo_in)
theorem ic_Mo_isNearer : Cond.code y_Mo_isNearer b_Mo_isNearer 3 (some .boolean) ∈ hw_G := hw_in 727 (by decide +kernel) rfl
theorem gy_Mo_isNearer : GoodIn hw_G ([.instanceMethod y_Mo_isNearer, .selects R_Mo y_Mo_isNearer y_Mo_isNearer, .initialized R_Mo] ++ (.code y_Mo_isNearer b_Mo_isNearer 3 (some .boolean) :: hw_G)) := hw_g3 iw_684 iw_m23 iw_8 (hw_gc ic_Mo_isNearer)
theorem ic_Mo_isNeighbour : Cond.code y_Mo_isNeighbour b_Mo_isNeighbour 4 (some .boolean) ∈ hw_G := hw_in 843 (by decide +kernel) rfl
theorem gy_Mo_isNeighbour : GoodIn hw_G ([.instanceMethod y_Mo_isNeighbour, .selects R_Mo y_Mo_isNeighbour y_Mo_isNeighbour, .initialized R_Mo] ++ (.code y_Mo_isNeighbour b_Mo_isNeighbour 4 (some .boolean) :: hw_G)) := hw_g3 iw_800 iw_m41 iw_8 (hw_gc ic_Mo_isNeighbour)
theorem ic_Mo_look : Cond.code y_Mo_look b_Mo_look 3 none ∈ hw_G := hw_in 739 (by decide +kernel) rfl
theorem gy_Mo_look : GoodIn hw_G ([.instanceMethod y_Mo_look, .selects R_Mo y_Mo_look y_Mo_look, .initialized R_Mo] ++ (.code y_Mo_look b_Mo_look 3 none :: hw_G)) := hw_g3 iw_696 iw_m26 iw_8 (hw_gc ic_Mo_look)
theorem ic_Mo_match : Cond.code y_Mo_match b_Mo_match 3 (some .int) ∈ hw_G := hw_in 791 (by decide +kernel) rfl
theorem gy_Mo_match : GoodIn hw_G ([.instanceMethod y_Mo_match, .selects R_Mo y_Mo_match y_Mo_match, .initialized R_Mo] ++ (.code y_Mo_match b_Mo_match 3 (some .int) :: hw_G)) := hw_g3 iw_747 iw_748 iw_8 (hw_gc ic_Mo_match)
theorem ic_Mo_near : Cond.code y_Mo_near b_Mo_near 4 (some .int) ∈ hw_G := hw_in 775 (by decide +kernel) rfl
theorem gy_Mo_near : GoodIn hw_G ([.instanceMethod y_Mo_near, .selects R_Mo y_Mo_near y_Mo_near, .initialized R_Mo] ++ (.code y_Mo_near b_Mo_near 4 (some .int) :: hw_G)) := hw_g3 iw_731 iw_732 iw_8 (hw_gc ic_Mo_near)
theorem ic_Mo_nearest : Cond.code y_Mo_nearest b_Mo_nearest 4 (some .int) ∈ hw_G := hw_in 735 (by decide +kernel) rfl
theorem gy_Mo_nearest : GoodIn hw_G ([.instanceMethod y_Mo_nearest, .selects R_Mo y_Mo_nearest y_Mo_nearest, .initialized R_Mo] ++ (.code y_Mo_nearest b_Mo_nearest 4 (some .int) :: hw_G)) := hw_g3 iw_692 iw_m25 iw_8 (hw_gc ic_Mo_nearest)
theorem ic_Mo_neighbour : Cond.code y_Mo_neighbour b_Mo_neighbour 4 (some .int) ∈ hw_G := hw_in 827 (by decide +kernel) rfl
theorem gy_Mo_neighbour : GoodIn hw_G ([.instanceMethod y_Mo_neighbour, .selects R_Mo y_Mo_neighbour y_Mo_neighbour, .initialized R_Mo] ++ (.code y_Mo_neighbour b_Mo_neighbour 4 (some .int) :: hw_G)) := hw_g3 iw_783 iw_784 iw_8 (hw_gc ic_Mo_neighbour)
theorem ic_Mo_node : Cond.code y_Mo_node b_Mo_node 3 (some .int) ∈ hw_G := hw_in 823 (by decide +kernel) rfl
theorem gy_Mo_node : GoodIn hw_G ([.instanceMethod y_Mo_node, .selects R_Mo y_Mo_node y_Mo_node, .initialized R_Mo] ++ (.code y_Mo_node b_Mo_node 3 (some .int) :: hw_G)) := hw_g3 iw_779 iw_780 iw_8 (hw_gc ic_Mo_node)
theorem ic_Mo_oneSided : Cond.code y_Mo_oneSided b_Mo_oneSided 4 (some .int) ∈ hw_G := hw_in 839 (by decide +kernel) rfl
theorem gy_Mo_oneSided : GoodIn hw_G ([.instanceMethod y_Mo_oneSided, .selects R_Mo y_Mo_oneSided y_Mo_oneSided, .initialized R_Mo] ++ (.code y_Mo_oneSided b_Mo_oneSided 4 (some .int) :: hw_G)) := hw_g3 iw_796 iw_m40 iw_8 (hw_gc ic_Mo_oneSided)
theorem ic_Mo_pick : Cond.code y_Mo_pick b_Mo_pick 2 none ∈ hw_G := hw_in 755 (by decide +kernel) rfl
theorem gy_Mo_pick : GoodIn hw_G ([.instanceMethod y_Mo_pick, .selects R_Mo y_Mo_pick y_Mo_pick, .initialized R_Mo] ++ (.code y_Mo_pick b_Mo_pick 2 none :: hw_G)) := hw_g3 iw_712 iw_m30 iw_8 (hw_gc ic_Mo_pick)
theorem ic_Mo_placeOf : Cond.code y_Mo_placeOf b_Mo_placeOf 4 (some .int) ∈ hw_G := hw_in 811 (by decide +kernel) rfl
theorem gy_Mo_placeOf : GoodIn hw_G ([.instanceMethod y_Mo_placeOf, .selects R_Mo y_Mo_placeOf y_Mo_placeOf, .initialized R_Mo] ++ (.code y_Mo_placeOf b_Mo_placeOf 4 (some .int) :: hw_G)) := hw_g3 iw_768 iw_m38 iw_8 (hw_gc ic_Mo_placeOf)
theorem ic_Mo_put : Cond.code y_Mo_put b_Mo_put 7 (some .int) ∈ hw_G := hw_in 700 (by decide +kernel) rfl
theorem gy_Mo_put : GoodIn hw_G ([.instanceMethod y_Mo_put, .selects R_Mo y_Mo_put y_Mo_put, .initialized R_Mo] ++ (.code y_Mo_put b_Mo_put 7 (some .int) :: hw_G)) := hw_g3 iw_656 iw_657 iw_8 (hw_gc ic_Mo_put)
theorem ic_Mo_reached : Cond.code y_Mo_reached b_Mo_reached 4 (some .int) ∈ hw_G := hw_in 847 (by decide +kernel) rfl
theorem gy_Mo_reached : GoodIn hw_G ([.instanceMethod y_Mo_reached, .selects R_Mo y_Mo_reached y_Mo_reached, .initialized R_Mo] ++ (.code y_Mo_reached b_Mo_reached 4 (some .int) :: hw_G)) := hw_g3 iw_804 iw_m42 iw_8 (hw_gc ic_Mo_reached)
theorem ic_Mo_remove : Cond.code y_Mo_remove b_Mo_remove 2 (some .boolean) ∈ hw_G := hw_in 763 (by decide +kernel) rfl
theorem gy_Mo_remove : GoodIn hw_G ([.instanceMethod y_Mo_remove, .selects R_Mo y_Mo_remove y_Mo_remove, .initialized R_Mo] ++ (.code y_Mo_remove b_Mo_remove 2 (some .boolean) :: hw_G)) := hw_g3 iw_719 iw_720 iw_8 (hw_gc ic_Mo_remove)
theorem ic_Mo_renew : Cond.code y_Mo_renew b_Mo_renew 3 (some .int) ∈ hw_G := hw_in 767 (by decide +kernel) rfl
theorem gy_Mo_renew : GoodIn hw_G ([.instanceMethod y_Mo_renew, .selects R_Mo y_Mo_renew y_Mo_renew, .initialized R_Mo] ++ (.code y_Mo_renew b_Mo_renew 3 (some .int) :: hw_G)) := hw_g3 iw_723 iw_724 iw_8 (hw_gc ic_Mo_renew)
theorem ic_Mo_right : Cond.code y_Mo_right b_Mo_right 5 (some .int) ∈ hw_G := hw_in 835 (by decide +kernel) rfl
theorem gy_Mo_right : GoodIn hw_G ([.instanceMethod y_Mo_right, .selects R_Mo y_Mo_right y_Mo_right, .initialized R_Mo] ++ (.code y_Mo_right b_Mo_right 5 (some .int) :: hw_G)) := hw_g3 iw_792 iw_m39 iw_8 (hw_gc ic_Mo_right)
theorem ic_Mo_score : Cond.code y_Mo_score b_Mo_score 3 none ∈ hw_G := hw_in 795 (by decide +kernel) rfl
theorem gy_Mo_score : GoodIn hw_G ([.instanceMethod y_Mo_score, .selects R_Mo y_Mo_score y_Mo_score, .initialized R_Mo] ++ (.code y_Mo_score b_Mo_score 3 none :: hw_G)) := hw_g3 iw_752 iw_m34 iw_8 (hw_gc ic_Mo_score)
theorem ic_Mo_scoreOf : Cond.code y_Mo_scoreOf b_Mo_scoreOf 9 (some .int) ∈ hw_G := hw_in 799 (by decide +kernel) rfl
theorem gy_Mo_scoreOf : GoodIn hw_G ([.instanceMethod y_Mo_scoreOf, .selects R_Mo y_Mo_scoreOf y_Mo_scoreOf, .initialized R_Mo] ++ (.code y_Mo_scoreOf b_Mo_scoreOf 9 (some .int) :: hw_G)) := hw_g3 iw_756 iw_m35 iw_8 (hw_gc ic_Mo_scoreOf)
theorem ic_Mo_search : Cond.code y_Mo_search b_Mo_search 4 none ∈ hw_G := hw_in 779 (by decide +kernel) rfl
theorem gy_Mo_search : GoodIn hw_G ([.instanceMethod y_Mo_search, .selects R_Mo y_Mo_search y_Mo_search, .initialized R_Mo] ++ (.code y_Mo_search b_Mo_search 4 none :: hw_G)) := hw_g3 iw_736 iw_m32 iw_8 (hw_gc ic_Mo_search)
theorem ic_Mo_size : Cond.code y_Mo_size b_Mo_size 3 (some .int) ∈ hw_G := hw_in 719 (by decide +kernel) rfl
theorem gs_Mo_size : GoodIn hw_G ([.static y_Mo_size, .initialized R_Mo] ++ (.code y_Mo_size b_Mo_size 3 (some .int) :: hw_G)) := hw_g2 iw_676 iw_8 (hw_gc ic_Mo_size)
theorem ic_Mo_take : Cond.code y_Mo_take b_Mo_take 3 none ∈ hw_G := hw_in 759 (by decide +kernel) rfl
theorem gy_Mo_take : GoodIn hw_G ([.instanceMethod y_Mo_take, .selects R_Mo y_Mo_take y_Mo_take, .initialized R_Mo] ++ (.code y_Mo_take b_Mo_take 3 none :: hw_G)) := hw_g3 iw_716 iw_m31 iw_8 (hw_gc ic_Mo_take)
theorem ic_Mo_tie : Cond.code y_Mo_tie b_Mo_tie 8 none ∈ hw_G := hw_in 743 (by decide +kernel) rfl
theorem gy_Mo_tie : GoodIn hw_G ([.instanceMethod y_Mo_tie, .selects R_Mo y_Mo_tie y_Mo_tie, .initialized R_Mo] ++ (.code y_Mo_tie b_Mo_tie 8 none :: hw_G)) := hw_g3 iw_700 iw_m27 iw_8 (hw_gc ic_Mo_tie)
theorem ic_Mo_walk : Cond.code y_Mo_walk b_Mo_walk 7 (some .int) ∈ hw_G := hw_in 716 (by decide +kernel) rfl
theorem gy_Mo_walk : GoodIn hw_G ([.instanceMethod y_Mo_walk, .selects R_Mo y_Mo_walk y_Mo_walk, .initialized R_Mo] ++ (.code y_Mo_walk b_Mo_walk 7 (some .int) :: hw_G)) := hw_g3 iw_673 iw_m21 iw_8 (hw_gc ic_Mo_walk)
theorem ic_Nd_addPoints : Cond.code y_Nd_addPoints b_Nd_addPoints 3 none ∈ hw_G := hw_in 518 (by decide +kernel) rfl
theorem gy_Nd_addPoints : GoodIn hw_G ([.instanceMethod y_Nd_addPoints, .selects R_Nd y_Nd_addPoints y_Nd_addPoints, .initialized R_Nd] ++ (.code y_Nd_addPoints b_Nd_addPoints 3 none :: hw_G)) := hw_g3 iw_475 iw_m14 iw_1 (hw_gc ic_Nd_addPoints)
theorem ic_Nd_ask : Cond.code y_Nd_ask b_Nd_ask 5 (some .boolean) ∈ hw_G := hw_in 449 (by decide +kernel) rfl
theorem gy_Nd_ask : GoodIn hw_G ([.instanceMethod y_Nd_ask, .selects R_Nd y_Nd_ask y_Nd_ask, .initialized R_Nd] ++ (.code y_Nd_ask b_Nd_ask 5 (some .boolean) :: hw_G)) := hw_g3 iw_405 iw_406 iw_1 (hw_gc ic_Nd_ask)
theorem ic_Nd_clearPoints : Cond.code y_Nd_clearPoints b_Nd_clearPoints 2 none ∈ hw_G := hw_in 514 (by decide +kernel) rfl
theorem gy_Nd_clearPoints : GoodIn hw_G ([.instanceMethod y_Nd_clearPoints, .selects R_Nd y_Nd_clearPoints y_Nd_clearPoints, .initialized R_Nd] ++ (.code y_Nd_clearPoints b_Nd_clearPoints 2 none :: hw_G)) := hw_g3 iw_471 iw_m13 iw_1 (hw_gc ic_Nd_clearPoints)
theorem ic_Nd_count : Cond.code y_Nd_count b_Nd_count 2 (some .int) ∈ hw_G := hw_in 564 (by decide +kernel) rfl
theorem gy_Nd_count : GoodIn hw_G ([.instanceMethod y_Nd_count, .selects R_Nd y_Nd_count y_Nd_count, .initialized R_Nd] ++ (.code y_Nd_count b_Nd_count 2 (some .int) :: hw_G)) := hw_g3 iw_520 iw_521 iw_1 (hw_gc ic_Nd_count)
theorem ic_Nd_distance : Cond.code y_Nd_distance b_Nd_distance 5 (some .int) ∈ hw_G := hw_in 271 (by decide +kernel) rfl
theorem gs_Nd_distance : GoodIn hw_G ([.static y_Nd_distance, .initialized R_Nd] ++ (.code y_Nd_distance b_Nd_distance 5 (some .int) :: hw_G)) := hw_g2 iw_228 iw_1 (hw_gc ic_Nd_distance)
theorem ic_Nd_exact : Cond.code y_Nd_exact b_Nd_exact 2 (some .int) ∈ hw_G := hw_in 476 (by decide +kernel) rfl
theorem gy_Nd_exact : GoodIn hw_G ([.instanceMethod y_Nd_exact, .selects R_Nd y_Nd_exact y_Nd_exact, .initialized R_Nd] ++ (.code y_Nd_exact b_Nd_exact 2 (some .int) :: hw_G)) := hw_g3 iw_432 iw_433 iw_1 (hw_gc ic_Nd_exact)
theorem ic_Nd_found : Cond.code y_Nd_found b_Nd_found 4 (some .int) ∈ hw_G := hw_in 526 (by decide +kernel) rfl
theorem gy_Nd_found : GoodIn hw_G ([.instanceMethod y_Nd_found, .selects R_Nd y_Nd_found y_Nd_found, .initialized R_Nd] ++ (.code y_Nd_found b_Nd_found 4 (some .int) :: hw_G)) := hw_g3 iw_482 iw_483 iw_1 (hw_gc ic_Nd_found)
theorem ic_Nd_foundAmongNearest : Cond.code y_Nd_foundAmongNearest b_Nd_foundAmongNearest 3 (some .int) ∈ hw_G := hw_in 581 (by decide +kernel) rfl
theorem gy_Nd_foundAmongNearest : GoodIn hw_G ([.instanceMethod y_Nd_foundAmongNearest, .selects R_Nd y_Nd_foundAmongNearest y_Nd_foundAmongNearest, .initialized R_Nd] ++ (.code y_Nd_foundAmongNearest b_Nd_foundAmongNearest 3 (some .int) :: hw_G)) := hw_g3 iw_538 iw_m16 iw_1 (hw_gc ic_Nd_foundAmongNearest)
theorem ic_Nd_fuse : Cond.code y_Nd_fuse b_Nd_fuse 3 (some .int) ∈ hw_G := hw_in 510 (by decide +kernel) rfl
theorem gy_Nd_fuse : GoodIn hw_G ([.instanceMethod y_Nd_fuse, .selects R_Nd y_Nd_fuse y_Nd_fuse, .initialized R_Nd] ++ (.code y_Nd_fuse b_Nd_fuse 3 (some .int) :: hw_G)) := hw_g3 iw_466 iw_467 iw_1 (hw_gc ic_Nd_fuse)
theorem ic_Nd_isCoordinate : Cond.code y_Nd_isCoordinate b_Nd_isCoordinate 1 (some .boolean) ∈ hw_G := hw_in 226 (by decide +kernel) rfl
theorem gs_Nd_isCoordinate : GoodIn hw_G ([.static y_Nd_isCoordinate, .initialized R_Nd] ++ (.code y_Nd_isCoordinate b_Nd_isCoordinate 1 (some .boolean) :: hw_G)) := hw_g2 iw_183 iw_1 (hw_gc ic_Nd_isCoordinate)
theorem ic_Nd_isDocumentNumber : Cond.code y_Nd_isDocumentNumber b_Nd_isDocumentNumber 1 (some .boolean) ∈ hw_G := hw_in 422 (by decide +kernel) rfl
theorem gs_Nd_isDocumentNumber : GoodIn hw_G ([.static y_Nd_isDocumentNumber, .initialized R_Nd] ++ (.code y_Nd_isDocumentNumber b_Nd_isDocumentNumber 1 (some .boolean) :: hw_G)) := hw_g2 iw_379 iw_1 (hw_gc ic_Nd_isDocumentNumber)
theorem ic_Nd_isIn : Cond.code y_Nd_isIn b_Nd_isIn 2 (some .boolean) ∈ hw_G := hw_in 345 (by decide +kernel) rfl
theorem gs_Nd_isIn : GoodIn hw_G ([.static y_Nd_isIn, .initialized R_Nd] ++ (.code y_Nd_isIn b_Nd_isIn 2 (some .boolean) :: hw_G)) := hw_g2 iw_302 iw_1 (hw_gc ic_Nd_isIn)
theorem ic_Nd_isVector : Cond.code y_Nd_isVector b_Nd_isVector 4 (some .boolean) ∈ hw_G := hw_in 223 (by decide +kernel) rfl
theorem gs_Nd_isVector : GoodIn hw_G ([.static y_Nd_isVector, .initialized R_Nd] ++ (.code y_Nd_isVector b_Nd_isVector 4 (some .boolean) :: hw_G)) := hw_g2 iw_180 iw_1 (hw_gc ic_Nd_isVector)
theorem ic_Nd_isWithin : Cond.code y_Nd_isWithin b_Nd_isWithin 3 (some .boolean) ∈ hw_G := hw_in 229 (by decide +kernel) rfl
theorem gs_Nd_isWithin : GoodIn hw_G ([.static y_Nd_isWithin, .initialized R_Nd] ++ (.code y_Nd_isWithin b_Nd_isWithin 3 (some .boolean) :: hw_G)) := hw_g2 iw_186 iw_1 (hw_gc ic_Nd_isWithin)
theorem ic_Nd_match : Cond.code y_Nd_match b_Nd_match 3 (some .int) ∈ hw_G := hw_in 485 (by decide +kernel) rfl
theorem gy_Nd_match : GoodIn hw_G ([.instanceMethod y_Nd_match, .selects R_Nd y_Nd_match y_Nd_match, .initialized R_Nd] ++ (.code y_Nd_match b_Nd_match 3 (some .int) :: hw_G)) := hw_g3 iw_441 iw_442 iw_1 (hw_gc ic_Nd_match)
theorem ic_Nd_near : Cond.code y_Nd_near b_Nd_near 3 (some .int) ∈ hw_G := hw_in 454 (by decide +kernel) rfl
theorem gy_Nd_near : GoodIn hw_G ([.instanceMethod y_Nd_near, .selects R_Nd y_Nd_near y_Nd_near, .initialized R_Nd] ++ (.code y_Nd_near b_Nd_near 3 (some .int) :: hw_G)) := hw_g3 iw_410 iw_411 iw_1 (hw_gc ic_Nd_near)
theorem ic_Nd_neighbour : Cond.code y_Nd_neighbour b_Nd_neighbour 4 (some .int) ∈ hw_G := hw_in 559 (by decide +kernel) rfl
theorem gy_Nd_neighbour : GoodIn hw_G ([.instanceMethod y_Nd_neighbour, .selects R_Nd y_Nd_neighbour y_Nd_neighbour, .initialized R_Nd] ++ (.code y_Nd_neighbour b_Nd_neighbour 4 (some .int) :: hw_G)) := hw_g3 iw_515 iw_516 iw_1 (hw_gc ic_Nd_neighbour)
theorem ic_Nd_node : Cond.code y_Nd_node b_Nd_node 4 (some .int) ∈ hw_G := hw_in 530 (by decide +kernel) rfl
theorem gy_Nd_node : GoodIn hw_G ([.instanceMethod y_Nd_node, .selects R_Nd y_Nd_node y_Nd_node, .initialized R_Nd] ++ (.code y_Nd_node b_Nd_node 4 (some .int) :: hw_G)) := hw_g3 iw_486 iw_487 iw_1 (hw_gc ic_Nd_node)
theorem ic_Nd_put : Cond.code y_Nd_put b_Nd_put 7 (some .int) ∈ hw_G := hw_in 220 (by decide +kernel) rfl
theorem gy_Nd_put : GoodIn hw_G ([.instanceMethod y_Nd_put, .selects R_Nd y_Nd_put y_Nd_put, .initialized R_Nd] ++ (.code y_Nd_put b_Nd_put 7 (some .int) :: hw_G)) := hw_g3 iw_176 iw_177 iw_1 (hw_gc ic_Nd_put)
theorem ic_Nd_rankByPoints : Cond.code y_Nd_rankByPoints b_Nd_rankByPoints 3 none ∈ hw_G := hw_in 522 (by decide +kernel) rfl
theorem gy_Nd_rankByPoints : GoodIn hw_G ([.instanceMethod y_Nd_rankByPoints, .selects R_Nd y_Nd_rankByPoints y_Nd_rankByPoints, .initialized R_Nd] ++ (.code y_Nd_rankByPoints b_Nd_rankByPoints 3 none :: hw_G)) := hw_g3 iw_479 iw_m15 iw_1 (hw_gc ic_Nd_rankByPoints)
theorem ic_Nd_remove : Cond.code y_Nd_remove b_Nd_remove 2 (some .boolean) ∈ hw_G := hw_in 411 (by decide +kernel) rfl
theorem gy_Nd_remove : GoodIn hw_G ([.instanceMethod y_Nd_remove, .selects R_Nd y_Nd_remove y_Nd_remove, .initialized R_Nd] ++ (.code y_Nd_remove b_Nd_remove 2 (some .boolean) :: hw_G)) := hw_g3 iw_367 iw_368 iw_1 (hw_gc ic_Nd_remove)
theorem ic_Nd_renew : Cond.code y_Nd_renew b_Nd_renew 3 (some .int) ∈ hw_G := hw_in 427 (by decide +kernel) rfl
theorem gy_Nd_renew : GoodIn hw_G ([.instanceMethod y_Nd_renew, .selects R_Nd y_Nd_renew y_Nd_renew, .initialized R_Nd] ++ (.code y_Nd_renew b_Nd_renew 3 (some .int) :: hw_G)) := hw_g3 iw_383 iw_384 iw_1 (hw_gc ic_Nd_renew)
theorem ic_Nd_searchInto : Cond.code y_Nd_searchInto b_Nd_searchInto 6 none ∈ hw_G := hw_in 460 (by decide +kernel) rfl
theorem gy_Nd_searchInto : GoodIn hw_G ([.instanceMethod y_Nd_searchInto, .selects R_Nd y_Nd_searchInto y_Nd_searchInto, .initialized R_Nd] ++ (.code y_Nd_searchInto b_Nd_searchInto 6 none :: hw_G)) := hw_g3 iw_417 iw_m8 iw_1 (hw_gc ic_Nd_searchInto)
theorem ic_Nd_writeVector : Cond.code y_Nd_writeVector b_Nd_writeVector 5 none ∈ hw_G := hw_in 241 (by decide +kernel) rfl
theorem gs_Nd_writeVector : GoodIn hw_G ([.static y_Nd_writeVector, .initialized R_Nd] ++ (.code y_Nd_writeVector b_Nd_writeVector 5 none :: hw_G)) := hw_g2 iw_198 iw_1 (hw_gc ic_Nd_writeVector)
theorem ic_Rk_add : Cond.code y_Rk_add b_Rk_add 4 (some .boolean) ∈ hw_G := hw_in 282 (by decide +kernel) rfl
theorem gy_Rk_add : GoodIn hw_G ([.instanceMethod y_Rk_add, .selects R_Rk y_Rk_add y_Rk_add, .initialized R_Rk] ++ (.code y_Rk_add b_Rk_add 4 (some .boolean) :: hw_G)) := hw_g3 iw_238 iw_239 iw_6 (hw_gc ic_Rk_add)
theorem ic_Rk_changeRoom : Cond.code y_Rk_changeRoom b_Rk_changeRoom 2 none ∈ hw_G := hw_in 314 (by decide +kernel) rfl
theorem gy_Rk_changeRoom : GoodIn hw_G ([.instanceMethod y_Rk_changeRoom, .selects R_Rk y_Rk_changeRoom y_Rk_changeRoom, .initialized R_Rk] ++ (.code y_Rk_changeRoom b_Rk_changeRoom 2 none :: hw_G)) := hw_g3 iw_270 iw_271 iw_6 (hw_gc ic_Rk_changeRoom)
theorem ic_Rk_dropFirst : Cond.code y_Rk_dropFirst b_Rk_dropFirst 2 none ∈ hw_G := hw_in 322 (by decide +kernel) rfl
theorem gy_Rk_dropFirst : GoodIn hw_G ([.instanceMethod y_Rk_dropFirst, .selects R_Rk y_Rk_dropFirst y_Rk_dropFirst, .initialized R_Rk] ++ (.code y_Rk_dropFirst b_Rk_dropFirst 2 none :: hw_G)) := hw_g3 iw_278 iw_279 iw_6 (hw_gc ic_Rk_dropFirst)
theorem ic_Rk_holds : Cond.code y_Rk_holds b_Rk_holds 3 (some .boolean) ∈ hw_G := hw_in 585 (by decide +kernel) rfl
theorem gy_Rk_holds : GoodIn hw_G ([.instanceMethod y_Rk_holds, .selects R_Rk y_Rk_holds y_Rk_holds, .initialized R_Rk] ++ (.code y_Rk_holds b_Rk_holds 3 (some .boolean) :: hw_G)) := hw_g3 iw_541 iw_542 iw_6 (hw_gc ic_Rk_holds)
theorem ic_Rk_isFull : Cond.code y_Rk_isFull b_Rk_isFull 1 (some .boolean) ∈ hw_G := hw_in 286 (by decide +kernel) rfl
theorem gy_Rk_isFull : GoodIn hw_G ([.instanceMethod y_Rk_isFull, .selects R_Rk y_Rk_isFull y_Rk_isFull, .initialized R_Rk] ++ (.code y_Rk_isFull b_Rk_isFull 1 (some .boolean) :: hw_G)) := hw_g3 iw_242 iw_243 iw_6 (hw_gc ic_Rk_isFull)
theorem ic_Rk_lastPrecedes : Cond.code y_Rk_lastPrecedes b_Rk_lastPrecedes 3 (some .boolean) ∈ hw_G := hw_in 330 (by decide +kernel) rfl
theorem gy_Rk_lastPrecedes : GoodIn hw_G ([.instanceMethod y_Rk_lastPrecedes, .selects R_Rk y_Rk_lastPrecedes y_Rk_lastPrecedes, .initialized R_Rk] ++ (.code y_Rk_lastPrecedes b_Rk_lastPrecedes 3 (some .boolean) :: hw_G)) := hw_g3 iw_286 iw_287 iw_6 (hw_gc ic_Rk_lastPrecedes)
theorem ic_Rk_numberAt : Cond.code y_Rk_numberAt b_Rk_numberAt 2 (some .int) ∈ hw_G := hw_in 310 (by decide +kernel) rfl
theorem gy_Rk_numberAt : GoodIn hw_G ([.instanceMethod y_Rk_numberAt, .selects R_Rk y_Rk_numberAt y_Rk_numberAt, .initialized R_Rk] ++ (.code y_Rk_numberAt b_Rk_numberAt 2 (some .int) :: hw_G)) := hw_g3 iw_266 iw_267 iw_6 (hw_gc ic_Rk_numberAt)
theorem ic_Rk_precedes : Cond.code y_Rk_precedes b_Rk_precedes 5 (some .boolean) ∈ hw_G := hw_in 290 (by decide +kernel) rfl
theorem gy_Rk_precedes : GoodIn hw_G ([.instanceMethod y_Rk_precedes, .selects R_Rk y_Rk_precedes y_Rk_precedes, .initialized R_Rk] ++ (.code y_Rk_precedes b_Rk_precedes 5 (some .boolean) :: hw_G)) := hw_g3 iw_247 iw_m1 iw_6 (hw_gc ic_Rk_precedes)
theorem ic_Rk_size : Cond.code y_Rk_size b_Rk_size 1 (some .int) ∈ hw_G := hw_in 306 (by decide +kernel) rfl
theorem gy_Rk_size : GoodIn hw_G ([.instanceMethod y_Rk_size, .selects R_Rk y_Rk_size y_Rk_size, .initialized R_Rk] ++ (.code y_Rk_size b_Rk_size 1 (some .int) :: hw_G)) := hw_g3 iw_262 iw_263 iw_6 (hw_gc ic_Rk_size)
theorem ic_Rk_start : Cond.code y_Rk_start b_Rk_start 3 none ∈ hw_G := hw_in 275 (by decide +kernel) rfl
theorem gy_Rk_start : GoodIn hw_G ([.instanceMethod y_Rk_start, .selects R_Rk y_Rk_start y_Rk_start, .initialized R_Rk] ++ (.code y_Rk_start b_Rk_start 3 none :: hw_G)) := hw_g3 iw_231 iw_232 iw_6 (hw_gc ic_Rk_start)
theorem ic_Rk_valueAt : Cond.code y_Rk_valueAt b_Rk_valueAt 2 (some .int) ∈ hw_G := hw_in 318 (by decide +kernel) rfl
theorem gy_Rk_valueAt : GoodIn hw_G ([.instanceMethod y_Rk_valueAt, .selects R_Rk y_Rk_valueAt y_Rk_valueAt, .initialized R_Rk] ++ (.code y_Rk_valueAt b_Rk_valueAt 2 (some .int) :: hw_G)) := hw_g3 iw_274 iw_275 iw_6 (hw_gc ic_Rk_valueAt)
theorem ic_Wa_begin : Cond.code y_Wa_begin b_Wa_begin 3 none ∈ hw_G := hw_in 302 (by decide +kernel) rfl
theorem gy_Wa_begin : GoodIn hw_G ([.instanceMethod y_Wa_begin, .selects R_Wa y_Wa_begin y_Wa_begin, .initialized R_Wa] ++ (.code y_Wa_begin b_Wa_begin 3 none :: hw_G)) := hw_g3 iw_259 iw_m2 iw_5 (hw_gc ic_Wa_begin)
theorem ic_Wa_held : Cond.code y_Wa_held b_Wa_held 1 (some (.object "NearDesk$Ranking")) ∈ hw_G := hw_in 359 (by decide +kernel) rfl
theorem gy_Wa_held : GoodIn hw_G ([.instanceMethod y_Wa_held, .selects R_Wa y_Wa_held y_Wa_held, .initialized R_Wa] ++ (.code y_Wa_held b_Wa_held 1 (some (.object "NearDesk$Ranking")) :: hw_G)) := hw_g3 iw_315 iw_316 iw_5 (hw_gc ic_Wa_held)
theorem ic_Wa_lookAround : Cond.code y_Wa_lookAround b_Wa_lookAround 6 none ∈ hw_G := hw_in 334 (by decide +kernel) rfl
theorem gy_Wa_lookAround : GoodIn hw_G ([.instanceMethod y_Wa_lookAround, .selects R_Wa y_Wa_lookAround y_Wa_lookAround, .initialized R_Wa] ++ (.code y_Wa_lookAround b_Wa_lookAround 6 none :: hw_G)) := hw_g3 iw_291 iw_m3 iw_5 (hw_gc ic_Wa_lookAround)
theorem ic_Wa_standAt : Cond.code y_Wa_standAt b_Wa_standAt 4 none ∈ hw_G := hw_in 264 (by decide +kernel) rfl
theorem gy_Wa_standAt : GoodIn hw_G ([.instanceMethod y_Wa_standAt, .selects R_Wa y_Wa_standAt y_Wa_standAt, .initialized R_Wa] ++ (.code y_Wa_standAt b_Wa_standAt 4 none :: hw_G)) := hw_g3 iw_220 iw_221 iw_5 (hw_gc ic_Wa_standAt)
theorem ic_Wa_standNowhere : Cond.code y_Wa_standNowhere b_Wa_standNowhere 1 none ∈ hw_G := hw_in 468 (by decide +kernel) rfl
theorem gy_Wa_standNowhere : GoodIn hw_G ([.instanceMethod y_Wa_standNowhere, .selects R_Wa y_Wa_standNowhere y_Wa_standNowhere, .initialized R_Wa] ++ (.code y_Wa_standNowhere b_Wa_standNowhere 1 none :: hw_G)) := hw_g3 iw_424 iw_425 iw_5 (hw_gc ic_Wa_standNowhere)
theorem ic_Wa_walk : Cond.code y_Wa_walk b_Wa_walk 6 (some .int) ∈ hw_G := hw_in 298 (by decide +kernel) rfl
theorem gy_Wa_walk : GoodIn hw_G ([.instanceMethod y_Wa_walk, .selects R_Wa y_Wa_walk y_Wa_walk, .initialized R_Wa] ++ (.code y_Wa_walk b_Wa_walk 6 (some .int) :: hw_G)) := hw_g3 iw_254 iw_255 iw_5 (hw_gc ic_Wa_walk)
theorem iw_max_static : Cond.static Lib.Math.max.name ∈ hw_G := hw_in 324 (by decide +kernel) rfl
theorem iw_max_code : Cond.code Lib.Math.max.name Lib.Math.max.code 2 (some .int) ∈ hw_G := hw_in 325 (by decide +kernel) rfl
theorem iw_min_static : Cond.static Lib.Math.min.name ∈ hw_G := hw_in 277 (by decide +kernel) rfl
theorem iw_min_code : Cond.code Lib.Math.min.name Lib.Math.min.code 2 (some .int) ∈ hw_G := hw_in 278 (by decide +kernel) rfl
theorem iw_math_init : Cond.initialized "java/lang/Math" ∈ hw_G := hw_in 51 (by decide +kernel) rfl
end
section
/-! PURE: the shapes of the functional images -/
def g_at {α : Type} (i : Int32) (n : Nat) (k : Option α) : Option α := if i < 0 ∨ n ≤ i.toNatClampNeg then none else k
theorem g_atE {α : Type} {i : Int32} {n : Nat} {k : Option α} {r : α} (h : g_at i n k = some r) : vp_in i n ∧ k = some r := by
  unfold g_at at h
  by_cases c : i < 0 ∨ n ≤ i.toNatClampNeg
  · rw [if_pos c] at h; cases h
  · rw [if_neg c] at h; exact ⟨c, h⟩
theorem g_inLt {i : Int32} {n : Nat} (h : vp_in i n) : i.toNatClampNeg < n := Nat.not_le.mp fun q => h (Or.inr q)
def g_dv {α : Type} (y : Int32) (k : Option α) : Option α := if y = 0 then none else k
theorem g_dvE {α : Type} {y : Int32} {k : Option α} {r : α} (h : g_dv y k = some r) : ¬ y = 0 ∧ k = some r := by
  unfold g_dv at h
  by_cases c : y = 0
  · rw [if_pos c] at h; cases h
  · rw [if_neg c] at h; exact ⟨c, h⟩
def g_bl {α : Type} (v : Int32) (k : Option α) : Option α := if v = 0 ∨ v = 1 then k else none
theorem g_blE {α : Type} {v : Int32} {k : Option α} {r : α} (h : g_bl v k = some r) : (v = 0 ∨ v = 1) ∧ k = some r := by
  unfold g_bl at h
  by_cases c : v = 0 ∨ v = 1
  · rw [if_pos c] at h; exact ⟨c, h⟩
  · rw [if_neg c] at h; cases h
theorem g_zn {v : Int32} (h : v = 0 ∨ v = 1) : narrow .boolean (.int v) = .int v := by
  rcases h with rfl | rfl <;> rfl
theorem g_bd {α β : Type} {o : Option α} {k : α → Option β} {r : β} (h : o.bind k = some r) : ∃ p, o = some p ∧ k p = some r := Option.bind_eq_some_iff.mp h
/-! THE WORLD: a list of cells, each known by its place; addresses are 'ad place' -/
theorem hs_up {D : va_G} {cl : List vw_C} {A : Nat → Prop} {ws : va_W} {H : Heap} {q : Nat} {e0 e : Nat × va_E} (hP : va_P D cl (ws.set q e) H) (hD : va_D A (ws.set q e)) (m : ws[q]? = some e0) : ∃ w1 : va_W, va_P D cl w1 H ∧ va_D A w1 ∧ (∀ j : Nat, j ≠ q → w1[j]? = ws[j]?) ∧ w1[q]? = some e :=
  ⟨ws.set q e, hP, hD, fun _ h => List.getElem?_set_ne (Ne.symm h), List.getElem?_set_self (List.getElem?_eq_some_iff.mp m).1⟩
end
section
/-- rows of numbers: the outer array at place k, row j at place k + 1 + j -/
def wc_grid (cI cG : ClassId) (ad : Nat → Nat) (k n w : Nat) (g : Nat → Nat → Int32) (ws : va_W) : Prop := ws[k]? = some (ad k, .inl (cG, n, .inr (.inr (.inr (.inr (fun j => if j < n then some (ad (k + 1 + j)) else none)))))) ∧ ∀ j : Nat, j < n → ws[k + 1 + j]? = some (ad (k + 1 + j), .inl (cI, w, .inl (g j)))
theorem wc_grid.fr {cI cG : ClassId} {ad : Nat → Nat} {k n w : Nat} {g : Nat → Nat → Int32} {ws ws2 : va_W} (q : wc_grid cI cG ad k n w g ws) (f : ∀ j : Nat, k ≤ j → j < k + n + 1 → ws2[j]? = ws[j]?) : wc_grid cI cG ad k n w g ws2 :=
  ⟨(f _ (by omega) (by omega)).trans q.1, fun j hj => (f _ (by omega) (by omega)).trans (q.2 j hj)⟩
theorem wc_grid.set {cI cG : ClassId} {ad : Nat → Nat} {k n w i : Nat} {g : Nat → Nat → Int32} {r : Nat → Int32} {ws ws2 : va_W} (q : wc_grid cI cG ad k n w g ws) (hi : i < n) (hr : ws2[k + 1 + i]? = some (ad (k + 1 + i), .inl (cI, w, .inl r))) (f : ∀ j : Nat, j ≠ k + 1 + i → ws2[j]? = ws[j]?) : wc_grid cI cG ad k n w (va_up g i r) ws2 := by
  refine ⟨(f _ (by omega)).trans q.1, fun j hj => ?_⟩
  by_cases h : j = i
  · subst h
    rw [va_up_self]
    exact hr
  · rw [va_up_ne g _ h]
    exact (f _ (by omega)).trans (q.2 j hj)
abbrev T_Rk : Type := (Nat → Int32) × (Nat → Int32) × Int32 × Int32 × Int32
def wc_Rk (cI cG cZ : ClassId) (ad : Nat → Nat) (k : Nat) (x : T_Rk) (ws : va_W) : Prop := ws[k]? = some (ad k, .inr (4, [.ref (ad (k + 1)), .ref (ad (k + 2)), .int x.2.2.1, .int x.2.2.2.1, .int x.2.2.2.2])) ∧ ws[k + 1]? = some (ad (k + 1), .inl (cI, 30, .inl x.1)) ∧ ws[k + 2]? = some (ad (k + 2), .inl (cI, 30, .inl x.2.1))
theorem wc_Rk.fr {cI cG cZ : ClassId} {ad : Nat → Nat} {k : Nat} {x : T_Rk} {ws ws2 : va_W} (q : wc_Rk cI cG cZ ad k x ws) (f : ∀ j : Nat, k ≤ j → j < k + 3 → ws2[j]? = ws[j]?) : wc_Rk cI cG cZ ad k x ws2 := by
  obtain ⟨m0, m1, m2⟩ := q
  exact ⟨(f _ (by omega) (by omega)).trans m0, (f _ (by omega) (by omega)).trans m1, (f _ (by omega) (by omega)).trans m2⟩
abbrev T_Ch : Type := (Nat → Int32) × Int32 × Int32
def wc_Ch (cI cG cZ : ClassId) (ad : Nat → Nat) (k : Nat) (x : T_Ch) (ws : va_W) : Prop := ws[k]? = some (ad k, .inr (0, [.ref (ad (k + 1)), .int x.2.1, .int x.2.2])) ∧ ws[k + 1]? = some (ad (k + 1), .inl (cI, 30, .inl x.1))
theorem wc_Ch.fr {cI cG cZ : ClassId} {ad : Nat → Nat} {k : Nat} {x : T_Ch} {ws ws2 : va_W} (q : wc_Ch cI cG cZ ad k x ws) (f : ∀ j : Nat, k ≤ j → j < k + 2 → ws2[j]? = ws[j]?) : wc_Ch cI cG cZ ad k x ws2 := by
  obtain ⟨m0, m1⟩ := q
  exact ⟨(f _ (by omega) (by omega)).trans m0, (f _ (by omega) (by omega)).trans m1⟩
abbrev T_Do : Type := (Nat → Nat → Int32) × (Nat → Int32) × (Nat → Int32) × Int32
def wc_Do (cI cG cZ : ClassId) (ad : Nat → Nat) (k : Nat) (x : T_Do) (ws : va_W) : Prop := ws[k]? = some (ad k, .inr (1, [.ref (ad (k + 1)), .ref (ad (k + 32)), .ref (ad (k + 33)), .int x.2.2.2])) ∧ wc_grid cI cG ad (k + 1) 30 4 x.1 ws ∧ ws[k + 32]? = some (ad (k + 32), .inl (cI, 30, .inl x.2.1)) ∧ ws[k + 33]? = some (ad (k + 33), .inl (cI, 8, .inl x.2.2.1))
theorem wc_Do.fr {cI cG cZ : ClassId} {ad : Nat → Nat} {k : Nat} {x : T_Do} {ws ws2 : va_W} (q : wc_Do cI cG cZ ad k x ws) (f : ∀ j : Nat, k ≤ j → j < k + 34 → ws2[j]? = ws[j]?) : wc_Do cI cG cZ ad k x ws2 := by
  obtain ⟨m0, m1, m32, m33⟩ := q
  exact ⟨(f _ (by omega) (by omega)).trans m0, m1.fr (fun j h1 h2 => f j (by omega) (by omega)), (f _ (by omega) (by omega)).trans m32, (f _ (by omega) (by omega)).trans m33⟩
abbrev T_Li : Type := (Nat → Int32) × (Nat → Int32) × (Nat → Int32) × (Nat → Int32) × (Nat → Int32) × Int32
def wc_Li (cI cG cZ : ClassId) (ad : Nat → Nat) (k : Nat) (x : T_Li) (ws : va_W) : Prop := ws[k]? = some (ad k, .inr (3, [.ref (ad (k + 1)), .ref (ad (k + 2)), .ref (ad (k + 3)), .ref (ad (k + 4)), .ref (ad (k + 5)), .int x.2.2.2.2.2])) ∧ ws[k + 1]? = some (ad (k + 1), .inl (cI, 30, .inl x.1)) ∧ ws[k + 2]? = some (ad (k + 2), .inl (cI, 30, .inl x.2.1)) ∧ ws[k + 3]? = some (ad (k + 3), .inl (cI, 120, .inl x.2.2.1)) ∧ ws[k + 4]? = some (ad (k + 4), .inl (cI, 840, .inl x.2.2.2.1)) ∧ ws[k + 5]? = some (ad (k + 5), .inl (cI, 30, .inl x.2.2.2.2.1))
theorem wc_Li.fr {cI cG cZ : ClassId} {ad : Nat → Nat} {k : Nat} {x : T_Li} {ws ws2 : va_W} (q : wc_Li cI cG cZ ad k x ws) (f : ∀ j : Nat, k ≤ j → j < k + 6 → ws2[j]? = ws[j]?) : wc_Li cI cG cZ ad k x ws2 := by
  obtain ⟨m0, m1, m2, m3, m4, m5⟩ := q
  exact ⟨(f _ (by omega) (by omega)).trans m0, (f _ (by omega) (by omega)).trans m1, (f _ (by omega) (by omega)).trans m2, (f _ (by omega) (by omega)).trans m3, (f _ (by omega) (by omega)).trans m4, (f _ (by omega) (by omega)).trans m5⟩
abbrev T_Wa : Type := T_Rk × T_Rk × (Nat → Int32) × Int32
def wc_Wa (cI cG cZ : ClassId) (ad : Nat → Nat) (k : Nat) (x : T_Wa) (ws : va_W) : Prop := ws[k]? = some (ad k, .inr (5, [.ref (ad (k + 1)), .ref (ad (k + 4)), .ref (ad (k + 7)), .int x.2.2.2])) ∧ wc_Rk cI cG cZ ad (k + 1) x.1 ws ∧ wc_Rk cI cG cZ ad (k + 4) x.2.1 ws ∧ ws[k + 7]? = some (ad (k + 7), .inl (cI, 30, .inl x.2.2.1))
theorem wc_Wa.fr {cI cG cZ : ClassId} {ad : Nat → Nat} {k : Nat} {x : T_Wa} {ws ws2 : va_W} (q : wc_Wa cI cG cZ ad k x ws) (f : ∀ j : Nat, k ≤ j → j < k + 8 → ws2[j]? = ws[j]?) : wc_Wa cI cG cZ ad k x ws2 := by
  obtain ⟨m0, m1, m4, m7⟩ := q
  exact ⟨(f _ (by omega) (by omega)).trans m0, m1.fr (fun j h1 h2 => f j (by omega) (by omega)), m4.fr (fun j h1 h2 => f j (by omega) (by omega)), (f _ (by omega) (by omega)).trans m7⟩
abbrev T_Gr : Type := T_Li × T_Wa × T_Ch × T_Rk × Int32 × Int32 × Int32
def wc_Gr (cI cG cZ : ClassId) (ad : Nat → Nat) (k : Nat) (x : T_Gr) (ws : va_W) : Prop := ws[k]? = some (ad k, .inr (2, [.ref (ad (k + 1)), .ref (ad (k + 7)), .ref (ad (k + 15)), .ref (ad (k + 17)), .int x.2.2.2.2.1, .int x.2.2.2.2.2.1, .int x.2.2.2.2.2.2])) ∧ wc_Li cI cG cZ ad (k + 1) x.1 ws ∧ wc_Wa cI cG cZ ad (k + 7) x.2.1 ws ∧ wc_Ch cI cG cZ ad (k + 15) x.2.2.1 ws ∧ wc_Rk cI cG cZ ad (k + 17) x.2.2.2.1 ws
theorem wc_Gr.fr {cI cG cZ : ClassId} {ad : Nat → Nat} {k : Nat} {x : T_Gr} {ws ws2 : va_W} (q : wc_Gr cI cG cZ ad k x ws) (f : ∀ j : Nat, k ≤ j → j < k + 20 → ws2[j]? = ws[j]?) : wc_Gr cI cG cZ ad k x ws2 := by
  obtain ⟨m0, m1, m7, m15, m17⟩ := q
  exact ⟨(f _ (by omega) (by omega)).trans m0, m1.fr (fun j h1 h2 => f j (by omega) (by omega)), m7.fr (fun j h1 h2 => f j (by omega) (by omega)), m15.fr (fun j h1 h2 => f j (by omega) (by omega)), m17.fr (fun j h1 h2 => f j (by omega) (by omega))⟩
abbrev T_Nd : Type := T_Do × T_Gr × T_Rk × T_Rk × (Nat → Int32) × (Nat → Int32)
def wc_Nd (cI cG cZ : ClassId) (ad : Nat → Nat) (k : Nat) (x : T_Nd) (ws : va_W) : Prop := ws[k]? = some (ad k, .inr (6, [.ref (ad (k + 1)), .ref (ad (k + 35)), .ref (ad (k + 55)), .ref (ad (k + 58)), .ref (ad (k + 61)), .ref (ad (k + 62))])) ∧ wc_Do cI cG cZ ad (k + 1) x.1 ws ∧ wc_Gr cI cG cZ ad (k + 35) x.2.1 ws ∧ wc_Rk cI cG cZ ad (k + 55) x.2.2.1 ws ∧ wc_Rk cI cG cZ ad (k + 58) x.2.2.2.1 ws ∧ ws[k + 61]? = some (ad (k + 61), .inl (cI, 4, .inl x.2.2.2.2.1)) ∧ ws[k + 62]? = some (ad (k + 62), .inl (cI, 30, .inl x.2.2.2.2.2))
theorem wc_Nd.fr {cI cG cZ : ClassId} {ad : Nat → Nat} {k : Nat} {x : T_Nd} {ws ws2 : va_W} (q : wc_Nd cI cG cZ ad k x ws) (f : ∀ j : Nat, k ≤ j → j < k + 63 → ws2[j]? = ws[j]?) : wc_Nd cI cG cZ ad k x ws2 := by
  obtain ⟨m0, m1, m35, m55, m58, m61, m62⟩ := q
  exact ⟨(f _ (by omega) (by omega)).trans m0, m1.fr (fun j h1 h2 => f j (by omega) (by omega)), m35.fr (fun j h1 h2 => f j (by omega) (by omega)), m55.fr (fun j h1 h2 => f j (by omega) (by omega)), m58.fr (fun j h1 h2 => f j (by omega) (by omega)), (f _ (by omega) (by omega)).trans m61, (f _ (by omega) (by omega)).trans m62⟩
abbrev T_Mo : Type := (Nat → Int32) × (Nat → Int32) × (Nat → Int32) × (Nat → Int32) × (Nat → Int32) × (Nat → Int32) × (Nat → Int32) × (Nat → Int32) × Int32 × Int32 × (Nat → Int32) × (Nat → Int32) × (Nat → Int32) × (Nat → Int32) × (Nat → Int32) × (Nat → Int32) × (Nat → Int32) × (Nat → Int32) × (Nat → Int32) × Int32 × Int32 × Int32 × (Nat → Int32) × (Nat → Int32) × (Nat → Int32) × Int32 × Int64 × Int64
def wc_Mo (cI cG cZ : ClassId) (ad : Nat → Nat) (k : Nat) (x : T_Mo) (ws : va_W) : Prop := ws[k]? = some (ad k, .inr (7, [.ref (ad (k + 1)), .ref (ad (k + 2)), .ref (ad (k + 3)), .ref (ad (k + 4)), .ref (ad (k + 5)), .ref (ad (k + 6)), .ref (ad (k + 7)), .ref (ad (k + 8)), .int x.2.2.2.2.2.2.2.2.1, .int x.2.2.2.2.2.2.2.2.2.1, .ref (ad (k + 9)), .ref (ad (k + 10)), .ref (ad (k + 11)), .ref (ad (k + 12)), .ref (ad (k + 13)), .ref (ad (k + 14)), .ref (ad (k + 15)), .ref (ad (k + 16)), .ref (ad (k + 17)), .int x.2.2.2.2.2.2.2.2.2.2.2.2.2.2.2.2.2.2.2.1, .int x.2.2.2.2.2.2.2.2.2.2.2.2.2.2.2.2.2.2.2.2.1, .int x.2.2.2.2.2.2.2.2.2.2.2.2.2.2.2.2.2.2.2.2.2.1, .ref (ad (k + 18)), .ref (ad (k + 19)), .ref (ad (k + 20)), .int x.2.2.2.2.2.2.2.2.2.2.2.2.2.2.2.2.2.2.2.2.2.2.2.2.2.1, .long x.2.2.2.2.2.2.2.2.2.2.2.2.2.2.2.2.2.2.2.2.2.2.2.2.2.2.1, .long x.2.2.2.2.2.2.2.2.2.2.2.2.2.2.2.2.2.2.2.2.2.2.2.2.2.2.2])) ∧ ws[k + 1]? = some (ad (k + 1), .inl (cZ, 30, .inl x.1)) ∧ ws[k + 2]? = some (ad (k + 2), .inl (cZ, 30, .inl x.2.1)) ∧ ws[k + 3]? = some (ad (k + 3), .inl (cI, 120, .inl x.2.2.1)) ∧ ws[k + 4]? = some (ad (k + 4), .inl (cI, 30, .inl x.2.2.2.1)) ∧ ws[k + 5]? = some (ad (k + 5), .inl (cI, 30, .inl x.2.2.2.2.1)) ∧ ws[k + 6]? = some (ad (k + 6), .inl (cI, 30, .inl x.2.2.2.2.2.1)) ∧ ws[k + 7]? = some (ad (k + 7), .inl (cI, 840, .inl x.2.2.2.2.2.2.1)) ∧ ws[k + 8]? = some (ad (k + 8), .inl (cI, 120, .inl x.2.2.2.2.2.2.2.1)) ∧ ws[k + 9]? = some (ad (k + 9), .inl (cI, 4, .inl x.2.2.2.2.2.2.2.2.2.2.1)) ∧ ws[k + 10]? = some (ad (k + 10), .inl (cI, 4, .inl x.2.2.2.2.2.2.2.2.2.2.2.1)) ∧ ws[k + 11]? = some (ad (k + 11), .inl (cZ, 30, .inl x.2.2.2.2.2.2.2.2.2.2.2.2.1)) ∧ ws[k + 12]? = some (ad (k + 12), .inl (cZ, 30, .inl x.2.2.2.2.2.2.2.2.2.2.2.2.2.1)) ∧ ws[k + 13]? = some (ad (k + 13), .inl (cZ, 30, .inl x.2.2.2.2.2.2.2.2.2.2.2.2.2.2.1)) ∧ ws[k + 14]? = some (ad (k + 14), .inl (cZ, 30, .inl x.2.2.2.2.2.2.2.2.2.2.2.2.2.2.2.1)) ∧ ws[k + 15]? = some (ad (k + 15), .inl (cI, 30, .inl x.2.2.2.2.2.2.2.2.2.2.2.2.2.2.2.2.1)) ∧ ws[k + 16]? = some (ad (k + 16), .inl (cI, 8, .inl x.2.2.2.2.2.2.2.2.2.2.2.2.2.2.2.2.2.1)) ∧ ws[k + 17]? = some (ad (k + 17), .inl (cI, 30, .inl x.2.2.2.2.2.2.2.2.2.2.2.2.2.2.2.2.2.2.1)) ∧ ws[k + 18]? = some (ad (k + 18), .inl (cI, 30, .inl x.2.2.2.2.2.2.2.2.2.2.2.2.2.2.2.2.2.2.2.2.2.2.1)) ∧ ws[k + 19]? = some (ad (k + 19), .inl (cI, 30, .inl x.2.2.2.2.2.2.2.2.2.2.2.2.2.2.2.2.2.2.2.2.2.2.2.1)) ∧ ws[k + 20]? = some (ad (k + 20), .inl (cI, 30, .inl x.2.2.2.2.2.2.2.2.2.2.2.2.2.2.2.2.2.2.2.2.2.2.2.2.1))
theorem wc_Mo.fr {cI cG cZ : ClassId} {ad : Nat → Nat} {k : Nat} {x : T_Mo} {ws ws2 : va_W} (q : wc_Mo cI cG cZ ad k x ws) (f : ∀ j : Nat, k ≤ j → j < k + 21 → ws2[j]? = ws[j]?) : wc_Mo cI cG cZ ad k x ws2 := by
  obtain ⟨m0, m1, m2, m3, m4, m5, m6, m7, m8, m9, m10, m11, m12, m13, m14, m15, m16, m17, m18, m19, m20⟩ := q
  exact ⟨(f _ (by omega) (by omega)).trans m0, (f _ (by omega) (by omega)).trans m1, (f _ (by omega) (by omega)).trans m2, (f _ (by omega) (by omega)).trans m3, (f _ (by omega) (by omega)).trans m4, (f _ (by omega) (by omega)).trans m5, (f _ (by omega) (by omega)).trans m6, (f _ (by omega) (by omega)).trans m7, (f _ (by omega) (by omega)).trans m8, (f _ (by omega) (by omega)).trans m9, (f _ (by omega) (by omega)).trans m10, (f _ (by omega) (by omega)).trans m11, (f _ (by omega) (by omega)).trans m12, (f _ (by omega) (by omega)).trans m13, (f _ (by omega) (by omega)).trans m14, (f _ (by omega) (by omega)).trans m15, (f _ (by omega) (by omega)).trans m16, (f _ (by omega) (by omega)).trans m17, (f _ (by omega) (by omega)).trans m18, (f _ (by omega) (by omega)).trans m19, (f _ (by omega) (by omega)).trans m20⟩
end
section
/-! CONTRACTS over the world by places -/
def hw_C (p : Program) (s : State) (m : MethodId) (meth : Method) (c : Code) (cc : ByteArray) (nL : Nat) (args : Array Value) (own : String) (ret : Option FieldType) : Prop := p.tables.exec = Jvm.exec ∧ c.code = cc ∧ meth.sig.returnType = ret ∧ c.maxLocals = nL ∧ s.vm.findClass own = some m.cls ∧ (∀ w ∈ hw_G, w.before args s = true) ∧ meth.locks = false
def hw_N (U : State) : Prop := ∀ w ∈ hw_NW, va_Nw w U
theorem hw_isN_on {w : Cond} (h : hw_isN w = true) : w.onTables = true := by
  cases w <;> first | rfl | (exfalso; simp [hw_isN] at h; done)
theorem hw_isN_warm {w : Cond} (h : hw_isN w = true) {s U : State} (hW : s.WarmedH U.vm) (hZ : va_Nw w s) : va_Nw w U := by
  cases w <;> first | exact va_Nw.warmF hW hZ | exact va_Nw.warmM hW hZ | (exfalso; simp [hw_isN] at h; done)
theorem hw_NW_is : ∀ w ∈ hw_NW, hw_isN w = true := fun _ h => (List.mem_filter.mp h).2
theorem hw_N.warm {s U : State} (h : hw_N s) (hW : s.WarmedH U.vm) : hw_N U := fun w hw => hw_isN_warm (hw_NW_is w hw) hW (h w hw)
def hw_B (D : va_G) (B : Nat) (w1 : va_W) (t : State) : Prop := va_P D classes w1 t.heap ∧ va_D (fun q : Nat => B ≤ q) w1
def hw_Br (D : va_G) (B a0 : Nat) (w1 : va_W) (a : Nat) (t : State) : Prop := a = a0 ∧ va_P D classes w1 t.heap ∧ va_D (fun q : Nat => B ≤ q) w1
def hw_U (D : va_G) (cI cG cZ : ClassId) (B : Nat) (w0 : va_W) (U : State) : Prop := va_P D classes w0 U.heap ∧ va_D (fun q : Nat => B ≤ q) w0 ∧ va_K D classes [(cI, .int), (cG, .array .int), (cZ, .boolean)] U ∧ hw_N U
theorem hw_blind {D : va_G} {cI cG cZ : ClassId} {B : Nat} {w0 : va_W} {av : List Value} : FrameBlind (va_Pc av (hw_U D cI cG cZ B w0)) := fun a U g mk q => ⟨q.1, q.2.1, q.2.2.1, va_K.moved (u := U) (U := U.calling g mk a) (Vm.Alike.refl U.vm) q.2.2.2.1, fun w h => va_Nw.same (u := U) (U := U.calling g mk a) (hw_isN_on (hw_NW_is w h)) rfl (q.2.2.2.2 w h)⟩
section HWC
variable {p : Program} {l : Launch} {e : Env} {R : Room} {s : State} {m : MethodId} {args : Array Value} {below : List Frame} {meth : Method} {c : Code} {H : Heap} {locs : List Loc} {Q : State → Prop}
variable {cells slots : Nat} {pc : Nat} {ls : Array Slot} {rest st0 : List Value} {a : Array Value} {H0 : Heap} {D : va_G} {B : Nat} {w0 : va_W} {cI cG cZ : ClassId}
theorem hw_go {av : List Value} (hP : va_P D classes w0 H) (hD : va_D (fun q : Nat => B ≤ q) w0) (hK : va_K D classes [(cI, .int), (cG, .array .int), (cZ, .boolean)] s) (hN : hw_N s) : ∀ U : State, U.heap = H → s.WarmedH U.vm → va_Pc av (hw_U D cI cG cZ B w0) av.toArray U := fun U hU hW => ⟨rfl, by rw [hU]; exact hP, hD, va_K.moved hW.alike hK, hN.warm hW⟩
theorem hw_ci {r0 : Int32} {PP : va_W → Prop} (hr : va_Run p l e R s m args below meth c H locs cells slots 0 0 (F0 m pc ls st0) rest (va_Qi (fun (r1 : Int32) (w1 : va_W) => r1 = r0 ∧ PP w1) (hw_B D B) (fun q : Nat => B ≤ q) a) (fun q : Nat => B ≤ q)) (hS : va_S (fun q : Nat => B ≤ q) H0 H locs)
    (kk : ∀ (w1 : va_W) (H1 : Heap) (locs1 : List Loc), va_P D classes w1 H1 → va_D (fun q : Nat => B ≤ q) w1 → va_S (fun q : Nat => B ≤ q) H0 H1 locs1 → PP w1 → W p l e R s m args below meth c H1 locs1 cells slots Q (F0 m (pc + 3) ls (.int r0 :: rest))) : W p l e R s m args below meth c H locs cells slots Q (F0 m pc ls st0) := by
  refine va_calli hr hS (fun q _ h => h) (fun q h => h) (fun r u t H1 locs1 ht hvm hpost hB hz hk hS1 => ?_)
  obtain ⟨h1, hpp⟩ := hpost
  subst h1
  exact kk u H1 locs1 (by rw [← ht]; exact hB.1) hB.2 hS1 hpp
theorem hw_ci0 {r0 : Int32} (hr : va_Run p l e R s m args below meth c H locs cells slots 0 0 (F0 m pc ls st0) rest (va_Qi (fun (r1 : Int32) (w1 : va_W) => r1 = r0 ∧ w1 = w0) (hw_B D B) (fun q : Nat => B ≤ q) a) (fun q : Nat => B ≤ q)) (hS : va_S (fun q : Nat => B ≤ q) H0 H locs)
    (kk : ∀ (H1 : Heap) (locs1 : List Loc), va_P D classes w0 H1 → va_D (fun q : Nat => B ≤ q) w0 → va_S (fun q : Nat => B ≤ q) H0 H1 locs1 → W p l e R s m args below meth c H1 locs1 cells slots Q (F0 m (pc + 3) ls (.int r0 :: rest))) : W p l e R s m args below meth c H locs cells slots Q (F0 m pc ls st0) :=
  hw_ci (PP := fun w1 => w1 = w0) hr hS (fun w1 H1 locs1 hP hD hS1 e => by subst e; exact kk H1 locs1 hP hD hS1)
theorem hw_cv {PP : va_W → Prop} (hr : va_Run p l e R s m args below meth c H locs cells slots 0 0 (F0 m pc ls st0) rest (va_Qv (fun (w1 : va_W) => PP w1) (hw_B D B) (fun q : Nat => B ≤ q) a) (fun q : Nat => B ≤ q)) (hS : va_S (fun q : Nat => B ≤ q) H0 H locs)
    (kk : ∀ (w1 : va_W) (H1 : Heap) (locs1 : List Loc), va_P D classes w1 H1 → va_D (fun q : Nat => B ≤ q) w1 → va_S (fun q : Nat => B ≤ q) H0 H1 locs1 → PP w1 → W p l e R s m args below meth c H1 locs1 cells slots Q (F0 m (pc + 3) ls rest)) : W p l e R s m args below meth c H locs cells slots Q (F0 m pc ls st0) :=
  va_callv hr hS (fun q _ h => h) (fun q h => h) (fun u t H1 locs1 ht hvm hpost hB hz hk hS1 => kk u H1 locs1 (by rw [← ht]; exact hB.1) hB.2 hS1 hpost)
theorem hw_cr {a0 : Nat} {PP : va_W → Prop} (hr : va_Run p l e R s m args below meth c H locs cells slots 0 0 (F0 m pc ls st0) rest (va_Qr (fun (w1 : va_W) => PP w1) (hw_Br D B a0) (fun q : Nat => B ≤ q) a) (fun q : Nat => B ≤ q)) (hS : va_S (fun q : Nat => B ≤ q) H0 H locs)
    (kk : ∀ (w1 : va_W) (H1 : Heap) (locs1 : List Loc), va_P D classes w1 H1 → va_D (fun q : Nat => B ≤ q) w1 → va_S (fun q : Nat => B ≤ q) H0 H1 locs1 → PP w1 → W p l e R s m args below meth c H1 locs1 cells slots Q (F0 m (pc + 3) ls (.ref a0 :: rest))) : W p l e R s m args below meth c H locs cells slots Q (F0 m pc ls st0) := by
  refine va_callr hr hS (fun q _ h => h) (fun q h => h) (fun u a1 t H1 locs1 ht hvm hpost hB hz hk hS1 => ?_)
  obtain ⟨h1, hB1, hB2⟩ := hB
  subst h1
  exact kk u H1 locs1 (by rw [← ht]; exact hB1) hB2 hS1 hpost
theorem hw_cr0 {a0 : Nat} (hr : va_Run p l e R s m args below meth c H locs cells slots 0 0 (F0 m pc ls st0) rest (va_Qr (fun (w1 : va_W) => w1 = w0) (hw_Br D B a0) (fun q : Nat => B ≤ q) a) (fun q : Nat => B ≤ q)) (hS : va_S (fun q : Nat => B ≤ q) H0 H locs)
    (kk : ∀ (H1 : Heap) (locs1 : List Loc), va_P D classes w0 H1 → va_D (fun q : Nat => B ≤ q) w0 → va_S (fun q : Nat => B ≤ q) H0 H1 locs1 → W p l e R s m args below meth c H1 locs1 cells slots Q (F0 m (pc + 3) ls (.ref a0 :: rest))) : W p l e R s m args below meth c H locs cells slots Q (F0 m pc ls st0) :=
  hw_cr (PP := fun w1 => w1 = w0) hr hS (fun w1 H1 locs1 hP hD hS1 e => by subst e; exact kk H1 locs1 hP hD hS1)
variable {cc : ByteArray}
theorem hw_aald {cl : List vw_C} {tys : List (ClassId × FieldType)} {ws : va_W} {b : Nat} (hexec : p.tables.exec = Jvm.exec) (hb : c.code = cc) (hK : va_K D cl tys s) (hP : va_P D cl ws H) (q0 t0 : Nat) {cA : ClassId} {n : Nat} {f : Nat → Option Nat} {ty : FieldType} (ha : ws[q0]? = some (b, .inl (cA, n, .inr (.inr (.inr (.inr f)))))) (ht : tys[t0]? = some (cA, ty)) (hty : ty.isReference = true) {i : Int32} (hin : vp_in i n) (hdg : decode cc pc = .ok (.aaload, 1)) {r : Nat} (hr : f i.toNatClampNeg = some r)
    (kk : W p l e R s m args below meth c H locs cells slots Q (F0 m (pc + 1) ls (.ref r :: rest))) : W p l e R s m args below meth c H locs cells slots Q (F0 m pc ls (.int i :: .ref b :: rest)) := by
  have hlt : i.toNatClampNeg < n := Nat.not_le.mp fun q => hin (Or.inr q)
  exact W.aald (v := .ref r) hexec hb (hP q0 _ ha) ((hK.2 t0 _ ht).1 n (fun j => va_rf (f j))) hty (fun q => by cases q) (by show ¬ (i < 0 ∨ (arrV _ _ _).slots.size ≤ _); rw [arrV_size]; exact hin) (by show (arrV _ _ _).slots[_]? = _; rw [arrV_read _ _ hlt, hr]; rfl) rfl rfl hdg kk
end HWC
end
section
theorem d_Nd_isVector_0 : decode b_Nd_isVector 0 = .ok (.iload_n 0, 1) := by decide +kernel
theorem d_Nd_isVector_1 : decode b_Nd_isVector 1 = .ok (.invokestatic 184, 3) := by decide +kernel
theorem d_Nd_isVector_4 : decode b_Nd_isVector 4 = .ok (.ifCond .eq 28, 3) := by decide +kernel
theorem d_Nd_isVector_7 : decode b_Nd_isVector 7 = .ok (.iload_n 1, 1) := by decide +kernel
theorem d_Nd_isVector_8 : decode b_Nd_isVector 8 = .ok (.invokestatic 184, 3) := by decide +kernel
theorem d_Nd_isVector_11 : decode b_Nd_isVector 11 = .ok (.ifCond .eq 21, 3) := by decide +kernel
theorem d_Nd_isVector_14 : decode b_Nd_isVector 14 = .ok (.iload_n 2, 1) := by decide +kernel
theorem d_Nd_isVector_15 : decode b_Nd_isVector 15 = .ok (.invokestatic 184, 3) := by decide +kernel
theorem d_Nd_isVector_18 : decode b_Nd_isVector 18 = .ok (.ifCond .eq 14, 3) := by decide +kernel
theorem d_Nd_isVector_21 : decode b_Nd_isVector 21 = .ok (.iload_n 3, 1) := by decide +kernel
theorem d_Nd_isVector_22 : decode b_Nd_isVector 22 = .ok (.invokestatic 184, 3) := by decide +kernel
theorem d_Nd_isVector_25 : decode b_Nd_isVector 25 = .ok (.ifCond .eq 7, 3) := by decide +kernel
theorem d_Nd_isVector_28 : decode b_Nd_isVector 28 = .ok (.iconst 1, 1) := by decide +kernel
theorem d_Nd_isVector_29 : decode b_Nd_isVector 29 = .ok (.goto 4, 3) := by decide +kernel
theorem d_Nd_isVector_32 : decode b_Nd_isVector 32 = .ok (.iconst 0, 1) := by decide +kernel
theorem d_Nd_isVector_33 : decode b_Nd_isVector 33 = .ok (.ireturn, 1) := by decide +kernel
theorem d_Nd_isCoordinate_0 : decode b_Nd_isCoordinate 0 = .ok (.iload_n 0, 1) := by decide +kernel
theorem d_Nd_isCoordinate_1 : decode b_Nd_isCoordinate 1 = .ok (.iconst 0, 1) := by decide +kernel
theorem d_Nd_isCoordinate_2 : decode b_Nd_isCoordinate 2 = .ok (.bipush 99, 2) := by decide +kernel
theorem d_Nd_isCoordinate_4 : decode b_Nd_isCoordinate 4 = .ok (.invokestatic 45, 3) := by decide +kernel
theorem d_Nd_isCoordinate_7 : decode b_Nd_isCoordinate 7 = .ok (.ireturn, 1) := by decide +kernel
theorem d_Nd_isWithin_0 : decode b_Nd_isWithin 0 = .ok (.iload_n 0, 1) := by decide +kernel
theorem d_Nd_isWithin_1 : decode b_Nd_isWithin 1 = .ok (.iload_n 1, 1) := by decide +kernel
theorem d_Nd_isWithin_2 : decode b_Nd_isWithin 2 = .ok (.if_icmp .lt 12, 3) := by decide +kernel
theorem d_Nd_isWithin_5 : decode b_Nd_isWithin 5 = .ok (.iload_n 0, 1) := by decide +kernel
theorem d_Nd_isWithin_6 : decode b_Nd_isWithin 6 = .ok (.iload_n 2, 1) := by decide +kernel
theorem d_Nd_isWithin_7 : decode b_Nd_isWithin 7 = .ok (.if_icmp .gt 7, 3) := by decide +kernel
theorem d_Nd_isWithin_10 : decode b_Nd_isWithin 10 = .ok (.iconst 1, 1) := by decide +kernel
theorem d_Nd_isWithin_11 : decode b_Nd_isWithin 11 = .ok (.goto 4, 3) := by decide +kernel
theorem d_Nd_isWithin_14 : decode b_Nd_isWithin 14 = .ok (.iconst 0, 1) := by decide +kernel
theorem d_Nd_isWithin_15 : decode b_Nd_isWithin 15 = .ok (.ireturn, 1) := by decide +kernel
theorem d_Nd_writeVector_0 : decode b_Nd_writeVector 0 = .ok (.aload_n 0, 1) := by decide +kernel
theorem d_Nd_writeVector_1 : decode b_Nd_writeVector 1 = .ok (.iconst 0, 1) := by decide +kernel
theorem d_Nd_writeVector_2 : decode b_Nd_writeVector 2 = .ok (.iload_n 1, 1) := by decide +kernel
theorem d_Nd_writeVector_3 : decode b_Nd_writeVector 3 = .ok (.iastore, 1) := by decide +kernel
theorem d_Nd_writeVector_4 : decode b_Nd_writeVector 4 = .ok (.aload_n 0, 1) := by decide +kernel
theorem d_Nd_writeVector_5 : decode b_Nd_writeVector 5 = .ok (.iconst 1, 1) := by decide +kernel
theorem d_Nd_writeVector_6 : decode b_Nd_writeVector 6 = .ok (.iload_n 2, 1) := by decide +kernel
theorem d_Nd_writeVector_7 : decode b_Nd_writeVector 7 = .ok (.iastore, 1) := by decide +kernel
theorem d_Nd_writeVector_8 : decode b_Nd_writeVector 8 = .ok (.aload_n 0, 1) := by decide +kernel
theorem d_Nd_writeVector_9 : decode b_Nd_writeVector 9 = .ok (.iconst 2, 1) := by decide +kernel
theorem d_Nd_writeVector_10 : decode b_Nd_writeVector 10 = .ok (.iload_n 3, 1) := by decide +kernel
theorem d_Nd_writeVector_11 : decode b_Nd_writeVector 11 = .ok (.iastore, 1) := by decide +kernel
theorem d_Nd_writeVector_12 : decode b_Nd_writeVector 12 = .ok (.aload_n 0, 1) := by decide +kernel
theorem d_Nd_writeVector_13 : decode b_Nd_writeVector 13 = .ok (.iconst 3, 1) := by decide +kernel
theorem d_Nd_writeVector_14 : decode b_Nd_writeVector 14 = .ok (.iload 4, 2) := by decide +kernel
theorem d_Nd_writeVector_16 : decode b_Nd_writeVector 16 = .ok (.iastore, 1) := by decide +kernel
theorem d_Nd_writeVector_17 : decode b_Nd_writeVector 17 = .ok (.return_, 1) := by decide +kernel
theorem d_Nd_distance_0 : decode b_Nd_distance 0 = .ok (.iconst 0, 1) := by decide +kernel
theorem d_Nd_distance_1 : decode b_Nd_distance 1 = .ok (.istore_n 2, 1) := by decide +kernel
theorem d_Nd_distance_2 : decode b_Nd_distance 2 = .ok (.iconst 0, 1) := by decide +kernel
theorem d_Nd_distance_3 : decode b_Nd_distance 3 = .ok (.istore_n 3, 1) := by decide +kernel
theorem d_Nd_distance_4 : decode b_Nd_distance 4 = .ok (.iload_n 3, 1) := by decide +kernel
theorem d_Nd_distance_5 : decode b_Nd_distance 5 = .ok (.iconst 4, 1) := by decide +kernel
theorem d_Nd_distance_6 : decode b_Nd_distance 6 = .ok (.if_icmp .ge 26, 3) := by decide +kernel
theorem d_Nd_distance_9 : decode b_Nd_distance 9 = .ok (.aload_n 0, 1) := by decide +kernel
theorem d_Nd_distance_10 : decode b_Nd_distance 10 = .ok (.iload_n 3, 1) := by decide +kernel
theorem d_Nd_distance_11 : decode b_Nd_distance 11 = .ok (.iaload, 1) := by decide +kernel
theorem d_Nd_distance_12 : decode b_Nd_distance 12 = .ok (.aload_n 1, 1) := by decide +kernel
theorem d_Nd_distance_13 : decode b_Nd_distance 13 = .ok (.iload_n 3, 1) := by decide +kernel
theorem d_Nd_distance_14 : decode b_Nd_distance 14 = .ok (.iaload, 1) := by decide +kernel
theorem d_Nd_distance_15 : decode b_Nd_distance 15 = .ok (.isub, 1) := by decide +kernel
theorem d_Nd_distance_16 : decode b_Nd_distance 16 = .ok (.istore 4, 2) := by decide +kernel
theorem d_Nd_distance_18 : decode b_Nd_distance 18 = .ok (.iload_n 2, 1) := by decide +kernel
theorem d_Nd_distance_19 : decode b_Nd_distance 19 = .ok (.iload 4, 2) := by decide +kernel
theorem d_Nd_distance_21 : decode b_Nd_distance 21 = .ok (.iload 4, 2) := by decide +kernel
theorem d_Nd_distance_23 : decode b_Nd_distance 23 = .ok (.imul, 1) := by decide +kernel
theorem d_Nd_distance_24 : decode b_Nd_distance 24 = .ok (.iadd, 1) := by decide +kernel
theorem d_Nd_distance_25 : decode b_Nd_distance 25 = .ok (.istore_n 2, 1) := by decide +kernel
theorem d_Nd_distance_26 : decode b_Nd_distance 26 = .ok (.iinc 3 1, 3) := by decide +kernel
theorem d_Nd_distance_29 : decode b_Nd_distance 29 = .ok (.goto (-25), 3) := by decide +kernel
theorem d_Nd_distance_32 : decode b_Nd_distance 32 = .ok (.iload_n 2, 1) := by decide +kernel
theorem d_Nd_distance_33 : decode b_Nd_distance 33 = .ok (.ireturn, 1) := by decide +kernel
theorem d_Nd_isIn_0 : decode b_Nd_isIn 0 = .ok (.iload_n 0, 1) := by decide +kernel
theorem d_Nd_isIn_1 : decode b_Nd_isIn 1 = .ok (.iload_n 1, 1) := by decide +kernel
theorem d_Nd_isIn_2 : decode b_Nd_isIn 2 = .ok (.ishr, 1) := by decide +kernel
theorem d_Nd_isIn_3 : decode b_Nd_isIn 3 = .ok (.iconst 1, 1) := by decide +kernel
theorem d_Nd_isIn_4 : decode b_Nd_isIn 4 = .ok (.iand, 1) := by decide +kernel
theorem d_Nd_isIn_5 : decode b_Nd_isIn 5 = .ok (.ifCond .eq 7, 3) := by decide +kernel
theorem d_Nd_isIn_8 : decode b_Nd_isIn 8 = .ok (.iconst 1, 1) := by decide +kernel
theorem d_Nd_isIn_9 : decode b_Nd_isIn 9 = .ok (.goto 4, 3) := by decide +kernel
theorem d_Nd_isIn_12 : decode b_Nd_isIn 12 = .ok (.iconst 0, 1) := by decide +kernel
theorem d_Nd_isIn_13 : decode b_Nd_isIn 13 = .ok (.ireturn, 1) := by decide +kernel
theorem d_In_bitCount_0 : decode b_In_bitCount 0 = .ok (.iload_n 0, 1) := by decide +kernel
theorem d_In_bitCount_1 : decode b_In_bitCount 1 = .ok (.iload_n 0, 1) := by decide +kernel
theorem d_In_bitCount_2 : decode b_In_bitCount 2 = .ok (.iconst 1, 1) := by decide +kernel
theorem d_In_bitCount_3 : decode b_In_bitCount 3 = .ok (.iushr, 1) := by decide +kernel
theorem d_In_bitCount_4 : decode b_In_bitCount 4 = .ok (.ldc_w 265, 3) := by decide +kernel
theorem d_In_bitCount_7 : decode b_In_bitCount 7 = .ok (.iand, 1) := by decide +kernel
theorem d_In_bitCount_8 : decode b_In_bitCount 8 = .ok (.isub, 1) := by decide +kernel
theorem d_In_bitCount_9 : decode b_In_bitCount 9 = .ok (.istore_n 0, 1) := by decide +kernel
theorem d_In_bitCount_10 : decode b_In_bitCount 10 = .ok (.iload_n 0, 1) := by decide +kernel
theorem d_In_bitCount_11 : decode b_In_bitCount 11 = .ok (.ldc_w 266, 3) := by decide +kernel
theorem d_In_bitCount_14 : decode b_In_bitCount 14 = .ok (.iand, 1) := by decide +kernel
theorem d_In_bitCount_15 : decode b_In_bitCount 15 = .ok (.iload_n 0, 1) := by decide +kernel
theorem d_In_bitCount_16 : decode b_In_bitCount 16 = .ok (.iconst 2, 1) := by decide +kernel
theorem d_In_bitCount_17 : decode b_In_bitCount 17 = .ok (.iushr, 1) := by decide +kernel
theorem d_In_bitCount_18 : decode b_In_bitCount 18 = .ok (.ldc_w 266, 3) := by decide +kernel
theorem d_In_bitCount_21 : decode b_In_bitCount 21 = .ok (.iand, 1) := by decide +kernel
theorem d_In_bitCount_22 : decode b_In_bitCount 22 = .ok (.iadd, 1) := by decide +kernel
theorem d_In_bitCount_23 : decode b_In_bitCount 23 = .ok (.istore_n 0, 1) := by decide +kernel
theorem d_In_bitCount_24 : decode b_In_bitCount 24 = .ok (.iload_n 0, 1) := by decide +kernel
theorem d_In_bitCount_25 : decode b_In_bitCount 25 = .ok (.iload_n 0, 1) := by decide +kernel
theorem d_In_bitCount_26 : decode b_In_bitCount 26 = .ok (.iconst 4, 1) := by decide +kernel
theorem d_In_bitCount_27 : decode b_In_bitCount 27 = .ok (.iushr, 1) := by decide +kernel
theorem d_In_bitCount_28 : decode b_In_bitCount 28 = .ok (.iadd, 1) := by decide +kernel
theorem d_In_bitCount_29 : decode b_In_bitCount 29 = .ok (.ldc_w 267, 3) := by decide +kernel
theorem d_In_bitCount_32 : decode b_In_bitCount 32 = .ok (.iand, 1) := by decide +kernel
theorem d_In_bitCount_33 : decode b_In_bitCount 33 = .ok (.istore_n 0, 1) := by decide +kernel
theorem d_In_bitCount_34 : decode b_In_bitCount 34 = .ok (.iload_n 0, 1) := by decide +kernel
theorem d_In_bitCount_35 : decode b_In_bitCount 35 = .ok (.iload_n 0, 1) := by decide +kernel
theorem d_In_bitCount_36 : decode b_In_bitCount 36 = .ok (.bipush 8, 2) := by decide +kernel
theorem d_In_bitCount_38 : decode b_In_bitCount 38 = .ok (.iushr, 1) := by decide +kernel
theorem d_In_bitCount_39 : decode b_In_bitCount 39 = .ok (.iadd, 1) := by decide +kernel
theorem d_In_bitCount_40 : decode b_In_bitCount 40 = .ok (.istore_n 0, 1) := by decide +kernel
theorem d_In_bitCount_41 : decode b_In_bitCount 41 = .ok (.iload_n 0, 1) := by decide +kernel
theorem d_In_bitCount_42 : decode b_In_bitCount 42 = .ok (.iload_n 0, 1) := by decide +kernel
theorem d_In_bitCount_43 : decode b_In_bitCount 43 = .ok (.bipush 16, 2) := by decide +kernel
theorem d_In_bitCount_45 : decode b_In_bitCount 45 = .ok (.iushr, 1) := by decide +kernel
theorem d_In_bitCount_46 : decode b_In_bitCount 46 = .ok (.iadd, 1) := by decide +kernel
theorem d_In_bitCount_47 : decode b_In_bitCount 47 = .ok (.istore_n 0, 1) := by decide +kernel
theorem d_In_bitCount_48 : decode b_In_bitCount 48 = .ok (.iload_n 0, 1) := by decide +kernel
theorem d_In_bitCount_49 : decode b_In_bitCount 49 = .ok (.bipush 63, 2) := by decide +kernel
theorem d_In_bitCount_51 : decode b_In_bitCount 51 = .ok (.iand, 1) := by decide +kernel
theorem d_In_bitCount_52 : decode b_In_bitCount 52 = .ok (.ireturn, 1) := by decide +kernel
theorem d_Nd_isDocumentNumber_0 : decode b_Nd_isDocumentNumber 0 = .ok (.iload_n 0, 1) := by decide +kernel
theorem d_Nd_isDocumentNumber_1 : decode b_Nd_isDocumentNumber 1 = .ok (.iconst 0, 1) := by decide +kernel
theorem d_Nd_isDocumentNumber_2 : decode b_Nd_isDocumentNumber 2 = .ok (.bipush 29, 2) := by decide +kernel
theorem d_Nd_isDocumentNumber_4 : decode b_Nd_isDocumentNumber 4 = .ok (.invokestatic 45, 3) := by decide +kernel
theorem d_Nd_isDocumentNumber_7 : decode b_Nd_isDocumentNumber 7 = .ok (.ireturn, 1) := by decide +kernel
end
section
theorem d_Rk_start_0 : decode b_Rk_start 0 = .ok (.aload_n 0, 1) := by decide +kernel
theorem d_Rk_start_1 : decode b_Rk_start 1 = .ok (.iconst 0, 1) := by decide +kernel
theorem d_Rk_start_2 : decode b_Rk_start 2 = .ok (.putfield 18, 3) := by decide +kernel
theorem d_Rk_start_5 : decode b_Rk_start 5 = .ok (.aload_n 0, 1) := by decide +kernel
theorem d_Rk_start_6 : decode b_Rk_start 6 = .ok (.iload_n 1, 1) := by decide +kernel
theorem d_Rk_start_7 : decode b_Rk_start 7 = .ok (.bipush 30, 2) := by decide +kernel
theorem d_Rk_start_9 : decode b_Rk_start 9 = .ok (.invokestatic 22, 3) := by decide +kernel
theorem d_Rk_start_12 : decode b_Rk_start 12 = .ok (.putfield 28, 3) := by decide +kernel
theorem d_Rk_start_15 : decode b_Rk_start 15 = .ok (.aload_n 0, 1) := by decide +kernel
theorem d_Rk_start_16 : decode b_Rk_start 16 = .ok (.iload_n 2, 1) := by decide +kernel
theorem d_Rk_start_17 : decode b_Rk_start 17 = .ok (.iconst 1, 1) := by decide +kernel
theorem d_Rk_start_18 : decode b_Rk_start 18 = .ok (.if_icmp .ne 7, 3) := by decide +kernel
theorem d_Rk_start_21 : decode b_Rk_start 21 = .ok (.iconst 1, 1) := by decide +kernel
theorem d_Rk_start_22 : decode b_Rk_start 22 = .ok (.goto 4, 3) := by decide +kernel
theorem d_Rk_start_25 : decode b_Rk_start 25 = .ok (.iconst 0, 1) := by decide +kernel
theorem d_Rk_start_26 : decode b_Rk_start 26 = .ok (.putfield 31, 3) := by decide +kernel
theorem d_Rk_start_29 : decode b_Rk_start 29 = .ok (.return_, 1) := by decide +kernel
theorem d_Rk_add_0 : decode b_Rk_add 0 = .ok (.aload_n 0, 1) := by decide +kernel
theorem d_Rk_add_1 : decode b_Rk_add 1 = .ok (.invokevirtual 39, 3) := by decide +kernel
theorem d_Rk_add_4 : decode b_Rk_add 4 = .ok (.ifCond .eq 53, 3) := by decide +kernel
theorem d_Rk_add_7 : decode b_Rk_add 7 = .ok (.aload_n 0, 1) := by decide +kernel
theorem d_Rk_add_8 : decode b_Rk_add 8 = .ok (.getfield 18, 3) := by decide +kernel
theorem d_Rk_add_11 : decode b_Rk_add 11 = .ok (.ifCond .eq 34, 3) := by decide +kernel
theorem d_Rk_add_14 : decode b_Rk_add 14 = .ok (.aload_n 0, 1) := by decide +kernel
theorem d_Rk_add_15 : decode b_Rk_add 15 = .ok (.iload_n 1, 1) := by decide +kernel
theorem d_Rk_add_16 : decode b_Rk_add 16 = .ok (.iload_n 2, 1) := by decide +kernel
theorem d_Rk_add_17 : decode b_Rk_add 17 = .ok (.aload_n 0, 1) := by decide +kernel
theorem d_Rk_add_18 : decode b_Rk_add 18 = .ok (.getfield 9, 3) := by decide +kernel
theorem d_Rk_add_21 : decode b_Rk_add 21 = .ok (.aload_n 0, 1) := by decide +kernel
theorem d_Rk_add_22 : decode b_Rk_add 22 = .ok (.getfield 18, 3) := by decide +kernel
theorem d_Rk_add_25 : decode b_Rk_add 25 = .ok (.iconst 1, 1) := by decide +kernel
theorem d_Rk_add_26 : decode b_Rk_add 26 = .ok (.isub, 1) := by decide +kernel
theorem d_Rk_add_27 : decode b_Rk_add 27 = .ok (.iaload, 1) := by decide +kernel
theorem d_Rk_add_28 : decode b_Rk_add 28 = .ok (.aload_n 0, 1) := by decide +kernel
theorem d_Rk_add_29 : decode b_Rk_add 29 = .ok (.getfield 15, 3) := by decide +kernel
theorem d_Rk_add_32 : decode b_Rk_add 32 = .ok (.aload_n 0, 1) := by decide +kernel
theorem d_Rk_add_33 : decode b_Rk_add 33 = .ok (.getfield 18, 3) := by decide +kernel
theorem d_Rk_add_36 : decode b_Rk_add 36 = .ok (.iconst 1, 1) := by decide +kernel
theorem d_Rk_add_37 : decode b_Rk_add 37 = .ok (.isub, 1) := by decide +kernel
theorem d_Rk_add_38 : decode b_Rk_add 38 = .ok (.iaload, 1) := by decide +kernel
theorem d_Rk_add_39 : decode b_Rk_add 39 = .ok (.invokevirtual 35, 3) := by decide +kernel
theorem d_Rk_add_42 : decode b_Rk_add 42 = .ok (.ifCond .ne 5, 3) := by decide +kernel
theorem d_Rk_add_45 : decode b_Rk_add 45 = .ok (.iconst 0, 1) := by decide +kernel
theorem d_Rk_add_46 : decode b_Rk_add 46 = .ok (.ireturn, 1) := by decide +kernel
theorem d_Rk_add_47 : decode b_Rk_add 47 = .ok (.aload_n 0, 1) := by decide +kernel
theorem d_Rk_add_48 : decode b_Rk_add 48 = .ok (.dup, 1) := by decide +kernel
theorem d_Rk_add_49 : decode b_Rk_add 49 = .ok (.getfield 18, 3) := by decide +kernel
theorem d_Rk_add_52 : decode b_Rk_add 52 = .ok (.iconst 1, 1) := by decide +kernel
theorem d_Rk_add_53 : decode b_Rk_add 53 = .ok (.isub, 1) := by decide +kernel
theorem d_Rk_add_54 : decode b_Rk_add 54 = .ok (.putfield 18, 3) := by decide +kernel
theorem d_Rk_add_57 : decode b_Rk_add 57 = .ok (.aload_n 0, 1) := by decide +kernel
theorem d_Rk_add_58 : decode b_Rk_add 58 = .ok (.getfield 18, 3) := by decide +kernel
theorem d_Rk_add_61 : decode b_Rk_add 61 = .ok (.istore_n 3, 1) := by decide +kernel
theorem d_Rk_add_62 : decode b_Rk_add 62 = .ok (.iload_n 3, 1) := by decide +kernel
theorem d_Rk_add_63 : decode b_Rk_add 63 = .ok (.ifCond .le 62, 3) := by decide +kernel
theorem d_Rk_add_66 : decode b_Rk_add 66 = .ok (.aload_n 0, 1) := by decide +kernel
theorem d_Rk_add_67 : decode b_Rk_add 67 = .ok (.iload_n 1, 1) := by decide +kernel
theorem d_Rk_add_68 : decode b_Rk_add 68 = .ok (.iload_n 2, 1) := by decide +kernel
theorem d_Rk_add_69 : decode b_Rk_add 69 = .ok (.aload_n 0, 1) := by decide +kernel
theorem d_Rk_add_70 : decode b_Rk_add 70 = .ok (.getfield 9, 3) := by decide +kernel
theorem d_Rk_add_73 : decode b_Rk_add 73 = .ok (.iload_n 3, 1) := by decide +kernel
theorem d_Rk_add_74 : decode b_Rk_add 74 = .ok (.iconst 1, 1) := by decide +kernel
theorem d_Rk_add_75 : decode b_Rk_add 75 = .ok (.isub, 1) := by decide +kernel
theorem d_Rk_add_76 : decode b_Rk_add 76 = .ok (.iaload, 1) := by decide +kernel
theorem d_Rk_add_77 : decode b_Rk_add 77 = .ok (.aload_n 0, 1) := by decide +kernel
theorem d_Rk_add_78 : decode b_Rk_add 78 = .ok (.getfield 15, 3) := by decide +kernel
theorem d_Rk_add_81 : decode b_Rk_add 81 = .ok (.iload_n 3, 1) := by decide +kernel
theorem d_Rk_add_82 : decode b_Rk_add 82 = .ok (.iconst 1, 1) := by decide +kernel
theorem d_Rk_add_83 : decode b_Rk_add 83 = .ok (.isub, 1) := by decide +kernel
theorem d_Rk_add_84 : decode b_Rk_add 84 = .ok (.iaload, 1) := by decide +kernel
theorem d_Rk_add_85 : decode b_Rk_add 85 = .ok (.invokevirtual 35, 3) := by decide +kernel
theorem d_Rk_add_88 : decode b_Rk_add 88 = .ok (.ifCond .eq 37, 3) := by decide +kernel
theorem d_Rk_add_91 : decode b_Rk_add 91 = .ok (.aload_n 0, 1) := by decide +kernel
theorem d_Rk_add_92 : decode b_Rk_add 92 = .ok (.getfield 9, 3) := by decide +kernel
theorem d_Rk_add_95 : decode b_Rk_add 95 = .ok (.iload_n 3, 1) := by decide +kernel
theorem d_Rk_add_96 : decode b_Rk_add 96 = .ok (.aload_n 0, 1) := by decide +kernel
theorem d_Rk_add_97 : decode b_Rk_add 97 = .ok (.getfield 9, 3) := by decide +kernel
theorem d_Rk_add_100 : decode b_Rk_add 100 = .ok (.iload_n 3, 1) := by decide +kernel
theorem d_Rk_add_101 : decode b_Rk_add 101 = .ok (.iconst 1, 1) := by decide +kernel
theorem d_Rk_add_102 : decode b_Rk_add 102 = .ok (.isub, 1) := by decide +kernel
theorem d_Rk_add_103 : decode b_Rk_add 103 = .ok (.iaload, 1) := by decide +kernel
theorem d_Rk_add_104 : decode b_Rk_add 104 = .ok (.iastore, 1) := by decide +kernel
theorem d_Rk_add_105 : decode b_Rk_add 105 = .ok (.aload_n 0, 1) := by decide +kernel
theorem d_Rk_add_106 : decode b_Rk_add 106 = .ok (.getfield 15, 3) := by decide +kernel
theorem d_Rk_add_109 : decode b_Rk_add 109 = .ok (.iload_n 3, 1) := by decide +kernel
theorem d_Rk_add_110 : decode b_Rk_add 110 = .ok (.aload_n 0, 1) := by decide +kernel
theorem d_Rk_add_111 : decode b_Rk_add 111 = .ok (.getfield 15, 3) := by decide +kernel
theorem d_Rk_add_114 : decode b_Rk_add 114 = .ok (.iload_n 3, 1) := by decide +kernel
theorem d_Rk_add_115 : decode b_Rk_add 115 = .ok (.iconst 1, 1) := by decide +kernel
theorem d_Rk_add_116 : decode b_Rk_add 116 = .ok (.isub, 1) := by decide +kernel
theorem d_Rk_add_117 : decode b_Rk_add 117 = .ok (.iaload, 1) := by decide +kernel
theorem d_Rk_add_118 : decode b_Rk_add 118 = .ok (.iastore, 1) := by decide +kernel
theorem d_Rk_add_119 : decode b_Rk_add 119 = .ok (.iinc 3 (-1), 3) := by decide +kernel
theorem d_Rk_add_122 : decode b_Rk_add 122 = .ok (.goto (-60), 3) := by decide +kernel
theorem d_Rk_add_125 : decode b_Rk_add 125 = .ok (.aload_n 0, 1) := by decide +kernel
theorem d_Rk_add_126 : decode b_Rk_add 126 = .ok (.getfield 9, 3) := by decide +kernel
theorem d_Rk_add_129 : decode b_Rk_add 129 = .ok (.iload_n 3, 1) := by decide +kernel
theorem d_Rk_add_130 : decode b_Rk_add 130 = .ok (.iload_n 1, 1) := by decide +kernel
theorem d_Rk_add_131 : decode b_Rk_add 131 = .ok (.iastore, 1) := by decide +kernel
theorem d_Rk_add_132 : decode b_Rk_add 132 = .ok (.aload_n 0, 1) := by decide +kernel
theorem d_Rk_add_133 : decode b_Rk_add 133 = .ok (.getfield 15, 3) := by decide +kernel
theorem d_Rk_add_136 : decode b_Rk_add 136 = .ok (.iload_n 3, 1) := by decide +kernel
theorem d_Rk_add_137 : decode b_Rk_add 137 = .ok (.iload_n 2, 1) := by decide +kernel
theorem d_Rk_add_138 : decode b_Rk_add 138 = .ok (.iastore, 1) := by decide +kernel
theorem d_Rk_add_139 : decode b_Rk_add 139 = .ok (.aload_n 0, 1) := by decide +kernel
theorem d_Rk_add_140 : decode b_Rk_add 140 = .ok (.dup, 1) := by decide +kernel
theorem d_Rk_add_141 : decode b_Rk_add 141 = .ok (.getfield 18, 3) := by decide +kernel
theorem d_Rk_add_144 : decode b_Rk_add 144 = .ok (.iconst 1, 1) := by decide +kernel
theorem d_Rk_add_145 : decode b_Rk_add 145 = .ok (.iadd, 1) := by decide +kernel
theorem d_Rk_add_146 : decode b_Rk_add 146 = .ok (.putfield 18, 3) := by decide +kernel
theorem d_Rk_add_149 : decode b_Rk_add 149 = .ok (.iconst 1, 1) := by decide +kernel
theorem d_Rk_add_150 : decode b_Rk_add 150 = .ok (.ireturn, 1) := by decide +kernel
theorem d_Rk_isFull_0 : decode b_Rk_isFull 0 = .ok (.aload_n 0, 1) := by decide +kernel
theorem d_Rk_isFull_1 : decode b_Rk_isFull 1 = .ok (.getfield 18, 3) := by decide +kernel
theorem d_Rk_isFull_4 : decode b_Rk_isFull 4 = .ok (.aload_n 0, 1) := by decide +kernel
theorem d_Rk_isFull_5 : decode b_Rk_isFull 5 = .ok (.getfield 28, 3) := by decide +kernel
theorem d_Rk_isFull_8 : decode b_Rk_isFull 8 = .ok (.if_icmp .lt 7, 3) := by decide +kernel
theorem d_Rk_isFull_11 : decode b_Rk_isFull 11 = .ok (.iconst 1, 1) := by decide +kernel
theorem d_Rk_isFull_12 : decode b_Rk_isFull 12 = .ok (.goto 4, 3) := by decide +kernel
theorem d_Rk_isFull_15 : decode b_Rk_isFull 15 = .ok (.iconst 0, 1) := by decide +kernel
theorem d_Rk_isFull_16 : decode b_Rk_isFull 16 = .ok (.ireturn, 1) := by decide +kernel
theorem d_Rk_precedes_0 : decode b_Rk_precedes 0 = .ok (.iload_n 2, 1) := by decide +kernel
theorem d_Rk_precedes_1 : decode b_Rk_precedes 1 = .ok (.iload 4, 2) := by decide +kernel
theorem d_Rk_precedes_3 : decode b_Rk_precedes 3 = .ok (.if_icmp .eq 27, 3) := by decide +kernel
theorem d_Rk_precedes_6 : decode b_Rk_precedes 6 = .ok (.aload_n 0, 1) := by decide +kernel
theorem d_Rk_precedes_7 : decode b_Rk_precedes 7 = .ok (.getfield 31, 3) := by decide +kernel
theorem d_Rk_precedes_10 : decode b_Rk_precedes 10 = .ok (.iload_n 2, 1) := by decide +kernel
theorem d_Rk_precedes_11 : decode b_Rk_precedes 11 = .ok (.iload 4, 2) := by decide +kernel
theorem d_Rk_precedes_13 : decode b_Rk_precedes 13 = .ok (.if_icmp .le 7, 3) := by decide +kernel
theorem d_Rk_precedes_16 : decode b_Rk_precedes 16 = .ok (.iconst 1, 1) := by decide +kernel
theorem d_Rk_precedes_17 : decode b_Rk_precedes 17 = .ok (.goto 4, 3) := by decide +kernel
theorem d_Rk_precedes_20 : decode b_Rk_precedes 20 = .ok (.iconst 0, 1) := by decide +kernel
theorem d_Rk_precedes_21 : decode b_Rk_precedes 21 = .ok (.if_icmp .ne 7, 3) := by decide +kernel
theorem d_Rk_precedes_24 : decode b_Rk_precedes 24 = .ok (.iconst 1, 1) := by decide +kernel
theorem d_Rk_precedes_25 : decode b_Rk_precedes 25 = .ok (.goto 4, 3) := by decide +kernel
theorem d_Rk_precedes_28 : decode b_Rk_precedes 28 = .ok (.iconst 0, 1) := by decide +kernel
theorem d_Rk_precedes_29 : decode b_Rk_precedes 29 = .ok (.ireturn, 1) := by decide +kernel
theorem d_Rk_precedes_30 : decode b_Rk_precedes 30 = .ok (.iload_n 1, 1) := by decide +kernel
theorem d_Rk_precedes_31 : decode b_Rk_precedes 31 = .ok (.iload_n 3, 1) := by decide +kernel
theorem d_Rk_precedes_32 : decode b_Rk_precedes 32 = .ok (.if_icmp .ge 7, 3) := by decide +kernel
theorem d_Rk_precedes_35 : decode b_Rk_precedes 35 = .ok (.iconst 1, 1) := by decide +kernel
theorem d_Rk_precedes_36 : decode b_Rk_precedes 36 = .ok (.goto 4, 3) := by decide +kernel
theorem d_Rk_precedes_39 : decode b_Rk_precedes 39 = .ok (.iconst 0, 1) := by decide +kernel
theorem d_Rk_precedes_40 : decode b_Rk_precedes 40 = .ok (.ireturn, 1) := by decide +kernel
theorem d_Rk_size_0 : decode b_Rk_size 0 = .ok (.aload_n 0, 1) := by decide +kernel
theorem d_Rk_size_1 : decode b_Rk_size 1 = .ok (.getfield 18, 3) := by decide +kernel
theorem d_Rk_size_4 : decode b_Rk_size 4 = .ok (.ireturn, 1) := by decide +kernel
theorem d_Rk_numberAt_0 : decode b_Rk_numberAt 0 = .ok (.aload_n 0, 1) := by decide +kernel
theorem d_Rk_numberAt_1 : decode b_Rk_numberAt 1 = .ok (.getfield 9, 3) := by decide +kernel
theorem d_Rk_numberAt_4 : decode b_Rk_numberAt 4 = .ok (.iload_n 1, 1) := by decide +kernel
theorem d_Rk_numberAt_5 : decode b_Rk_numberAt 5 = .ok (.iaload, 1) := by decide +kernel
theorem d_Rk_numberAt_6 : decode b_Rk_numberAt 6 = .ok (.ireturn, 1) := by decide +kernel
theorem d_Rk_changeRoom_0 : decode b_Rk_changeRoom 0 = .ok (.aload_n 0, 1) := by decide +kernel
theorem d_Rk_changeRoom_1 : decode b_Rk_changeRoom 1 = .ok (.iload_n 1, 1) := by decide +kernel
theorem d_Rk_changeRoom_2 : decode b_Rk_changeRoom 2 = .ok (.bipush 30, 2) := by decide +kernel
theorem d_Rk_changeRoom_4 : decode b_Rk_changeRoom 4 = .ok (.invokestatic 22, 3) := by decide +kernel
theorem d_Rk_changeRoom_7 : decode b_Rk_changeRoom 7 = .ok (.putfield 28, 3) := by decide +kernel
theorem d_Rk_changeRoom_10 : decode b_Rk_changeRoom 10 = .ok (.aload_n 0, 1) := by decide +kernel
theorem d_Rk_changeRoom_11 : decode b_Rk_changeRoom 11 = .ok (.aload_n 0, 1) := by decide +kernel
theorem d_Rk_changeRoom_12 : decode b_Rk_changeRoom 12 = .ok (.getfield 18, 3) := by decide +kernel
theorem d_Rk_changeRoom_15 : decode b_Rk_changeRoom 15 = .ok (.aload_n 0, 1) := by decide +kernel
theorem d_Rk_changeRoom_16 : decode b_Rk_changeRoom 16 = .ok (.getfield 28, 3) := by decide +kernel
theorem d_Rk_changeRoom_19 : decode b_Rk_changeRoom 19 = .ok (.invokestatic 22, 3) := by decide +kernel
theorem d_Rk_changeRoom_22 : decode b_Rk_changeRoom 22 = .ok (.putfield 18, 3) := by decide +kernel
theorem d_Rk_changeRoom_25 : decode b_Rk_changeRoom 25 = .ok (.return_, 1) := by decide +kernel
theorem d_Rk_valueAt_0 : decode b_Rk_valueAt 0 = .ok (.aload_n 0, 1) := by decide +kernel
theorem d_Rk_valueAt_1 : decode b_Rk_valueAt 1 = .ok (.getfield 15, 3) := by decide +kernel
theorem d_Rk_valueAt_4 : decode b_Rk_valueAt 4 = .ok (.iload_n 1, 1) := by decide +kernel
theorem d_Rk_valueAt_5 : decode b_Rk_valueAt 5 = .ok (.iaload, 1) := by decide +kernel
theorem d_Rk_valueAt_6 : decode b_Rk_valueAt 6 = .ok (.ireturn, 1) := by decide +kernel
theorem d_Rk_dropFirst_0 : decode b_Rk_dropFirst 0 = .ok (.iconst 1, 1) := by decide +kernel
theorem d_Rk_dropFirst_1 : decode b_Rk_dropFirst 1 = .ok (.istore_n 1, 1) := by decide +kernel
theorem d_Rk_dropFirst_2 : decode b_Rk_dropFirst 2 = .ok (.iload_n 1, 1) := by decide +kernel
theorem d_Rk_dropFirst_3 : decode b_Rk_dropFirst 3 = .ok (.aload_n 0, 1) := by decide +kernel
theorem d_Rk_dropFirst_4 : decode b_Rk_dropFirst 4 = .ok (.getfield 18, 3) := by decide +kernel
theorem d_Rk_dropFirst_7 : decode b_Rk_dropFirst 7 = .ok (.if_icmp .ge 37, 3) := by decide +kernel
theorem d_Rk_dropFirst_10 : decode b_Rk_dropFirst 10 = .ok (.aload_n 0, 1) := by decide +kernel
theorem d_Rk_dropFirst_11 : decode b_Rk_dropFirst 11 = .ok (.getfield 9, 3) := by decide +kernel
theorem d_Rk_dropFirst_14 : decode b_Rk_dropFirst 14 = .ok (.iload_n 1, 1) := by decide +kernel
theorem d_Rk_dropFirst_15 : decode b_Rk_dropFirst 15 = .ok (.iconst 1, 1) := by decide +kernel
theorem d_Rk_dropFirst_16 : decode b_Rk_dropFirst 16 = .ok (.isub, 1) := by decide +kernel
theorem d_Rk_dropFirst_17 : decode b_Rk_dropFirst 17 = .ok (.aload_n 0, 1) := by decide +kernel
theorem d_Rk_dropFirst_18 : decode b_Rk_dropFirst 18 = .ok (.getfield 9, 3) := by decide +kernel
theorem d_Rk_dropFirst_21 : decode b_Rk_dropFirst 21 = .ok (.iload_n 1, 1) := by decide +kernel
theorem d_Rk_dropFirst_22 : decode b_Rk_dropFirst 22 = .ok (.iaload, 1) := by decide +kernel
theorem d_Rk_dropFirst_23 : decode b_Rk_dropFirst 23 = .ok (.iastore, 1) := by decide +kernel
theorem d_Rk_dropFirst_24 : decode b_Rk_dropFirst 24 = .ok (.aload_n 0, 1) := by decide +kernel
theorem d_Rk_dropFirst_25 : decode b_Rk_dropFirst 25 = .ok (.getfield 15, 3) := by decide +kernel
theorem d_Rk_dropFirst_28 : decode b_Rk_dropFirst 28 = .ok (.iload_n 1, 1) := by decide +kernel
theorem d_Rk_dropFirst_29 : decode b_Rk_dropFirst 29 = .ok (.iconst 1, 1) := by decide +kernel
theorem d_Rk_dropFirst_30 : decode b_Rk_dropFirst 30 = .ok (.isub, 1) := by decide +kernel
theorem d_Rk_dropFirst_31 : decode b_Rk_dropFirst 31 = .ok (.aload_n 0, 1) := by decide +kernel
theorem d_Rk_dropFirst_32 : decode b_Rk_dropFirst 32 = .ok (.getfield 15, 3) := by decide +kernel
theorem d_Rk_dropFirst_35 : decode b_Rk_dropFirst 35 = .ok (.iload_n 1, 1) := by decide +kernel
theorem d_Rk_dropFirst_36 : decode b_Rk_dropFirst 36 = .ok (.iaload, 1) := by decide +kernel
theorem d_Rk_dropFirst_37 : decode b_Rk_dropFirst 37 = .ok (.iastore, 1) := by decide +kernel
theorem d_Rk_dropFirst_38 : decode b_Rk_dropFirst 38 = .ok (.iinc 1 1, 3) := by decide +kernel
theorem d_Rk_dropFirst_41 : decode b_Rk_dropFirst 41 = .ok (.goto (-39), 3) := by decide +kernel
theorem d_Rk_dropFirst_44 : decode b_Rk_dropFirst 44 = .ok (.aload_n 0, 1) := by decide +kernel
theorem d_Rk_dropFirst_45 : decode b_Rk_dropFirst 45 = .ok (.iconst 0, 1) := by decide +kernel
theorem d_Rk_dropFirst_46 : decode b_Rk_dropFirst 46 = .ok (.aload_n 0, 1) := by decide +kernel
theorem d_Rk_dropFirst_47 : decode b_Rk_dropFirst 47 = .ok (.getfield 18, 3) := by decide +kernel
theorem d_Rk_dropFirst_50 : decode b_Rk_dropFirst 50 = .ok (.iconst 1, 1) := by decide +kernel
theorem d_Rk_dropFirst_51 : decode b_Rk_dropFirst 51 = .ok (.isub, 1) := by decide +kernel
theorem d_Rk_dropFirst_52 : decode b_Rk_dropFirst 52 = .ok (.invokestatic 43, 3) := by decide +kernel
theorem d_Rk_dropFirst_55 : decode b_Rk_dropFirst 55 = .ok (.putfield 18, 3) := by decide +kernel
theorem d_Rk_dropFirst_58 : decode b_Rk_dropFirst 58 = .ok (.return_, 1) := by decide +kernel
theorem d_Rk_lastPrecedes_0 : decode b_Rk_lastPrecedes 0 = .ok (.aload_n 0, 1) := by decide +kernel
theorem d_Rk_lastPrecedes_1 : decode b_Rk_lastPrecedes 1 = .ok (.getfield 18, 3) := by decide +kernel
theorem d_Rk_lastPrecedes_4 : decode b_Rk_lastPrecedes 4 = .ok (.ifCond .le 38, 3) := by decide +kernel
theorem d_Rk_lastPrecedes_7 : decode b_Rk_lastPrecedes 7 = .ok (.aload_n 0, 1) := by decide +kernel
theorem d_Rk_lastPrecedes_8 : decode b_Rk_lastPrecedes 8 = .ok (.aload_n 0, 1) := by decide +kernel
theorem d_Rk_lastPrecedes_9 : decode b_Rk_lastPrecedes 9 = .ok (.getfield 9, 3) := by decide +kernel
theorem d_Rk_lastPrecedes_12 : decode b_Rk_lastPrecedes 12 = .ok (.aload_n 0, 1) := by decide +kernel
theorem d_Rk_lastPrecedes_13 : decode b_Rk_lastPrecedes 13 = .ok (.getfield 18, 3) := by decide +kernel
theorem d_Rk_lastPrecedes_16 : decode b_Rk_lastPrecedes 16 = .ok (.iconst 1, 1) := by decide +kernel
theorem d_Rk_lastPrecedes_17 : decode b_Rk_lastPrecedes 17 = .ok (.isub, 1) := by decide +kernel
theorem d_Rk_lastPrecedes_18 : decode b_Rk_lastPrecedes 18 = .ok (.iaload, 1) := by decide +kernel
theorem d_Rk_lastPrecedes_19 : decode b_Rk_lastPrecedes 19 = .ok (.aload_n 0, 1) := by decide +kernel
theorem d_Rk_lastPrecedes_20 : decode b_Rk_lastPrecedes 20 = .ok (.getfield 15, 3) := by decide +kernel
theorem d_Rk_lastPrecedes_23 : decode b_Rk_lastPrecedes 23 = .ok (.aload_n 0, 1) := by decide +kernel
theorem d_Rk_lastPrecedes_24 : decode b_Rk_lastPrecedes 24 = .ok (.getfield 18, 3) := by decide +kernel
theorem d_Rk_lastPrecedes_27 : decode b_Rk_lastPrecedes 27 = .ok (.iconst 1, 1) := by decide +kernel
theorem d_Rk_lastPrecedes_28 : decode b_Rk_lastPrecedes 28 = .ok (.isub, 1) := by decide +kernel
theorem d_Rk_lastPrecedes_29 : decode b_Rk_lastPrecedes 29 = .ok (.iaload, 1) := by decide +kernel
theorem d_Rk_lastPrecedes_30 : decode b_Rk_lastPrecedes 30 = .ok (.iload_n 1, 1) := by decide +kernel
theorem d_Rk_lastPrecedes_31 : decode b_Rk_lastPrecedes 31 = .ok (.iload_n 2, 1) := by decide +kernel
theorem d_Rk_lastPrecedes_32 : decode b_Rk_lastPrecedes 32 = .ok (.invokevirtual 35, 3) := by decide +kernel
theorem d_Rk_lastPrecedes_35 : decode b_Rk_lastPrecedes 35 = .ok (.ifCond .eq 7, 3) := by decide +kernel
theorem d_Rk_lastPrecedes_38 : decode b_Rk_lastPrecedes 38 = .ok (.iconst 1, 1) := by decide +kernel
theorem d_Rk_lastPrecedes_39 : decode b_Rk_lastPrecedes 39 = .ok (.goto 4, 3) := by decide +kernel
theorem d_Rk_lastPrecedes_42 : decode b_Rk_lastPrecedes 42 = .ok (.iconst 0, 1) := by decide +kernel
theorem d_Rk_lastPrecedes_43 : decode b_Rk_lastPrecedes 43 = .ok (.ireturn, 1) := by decide +kernel
theorem d_Rk_holds_0 : decode b_Rk_holds 0 = .ok (.iconst 0, 1) := by decide +kernel
theorem d_Rk_holds_1 : decode b_Rk_holds 1 = .ok (.istore_n 2, 1) := by decide +kernel
theorem d_Rk_holds_2 : decode b_Rk_holds 2 = .ok (.iload_n 2, 1) := by decide +kernel
theorem d_Rk_holds_3 : decode b_Rk_holds 3 = .ok (.aload_n 0, 1) := by decide +kernel
theorem d_Rk_holds_4 : decode b_Rk_holds 4 = .ok (.getfield 18, 3) := by decide +kernel
theorem d_Rk_holds_7 : decode b_Rk_holds 7 = .ok (.if_icmp .ge 21, 3) := by decide +kernel
theorem d_Rk_holds_10 : decode b_Rk_holds 10 = .ok (.aload_n 0, 1) := by decide +kernel
theorem d_Rk_holds_11 : decode b_Rk_holds 11 = .ok (.getfield 9, 3) := by decide +kernel
theorem d_Rk_holds_14 : decode b_Rk_holds 14 = .ok (.iload_n 2, 1) := by decide +kernel
theorem d_Rk_holds_15 : decode b_Rk_holds 15 = .ok (.iaload, 1) := by decide +kernel
theorem d_Rk_holds_16 : decode b_Rk_holds 16 = .ok (.iload_n 1, 1) := by decide +kernel
theorem d_Rk_holds_17 : decode b_Rk_holds 17 = .ok (.if_icmp .ne 5, 3) := by decide +kernel
theorem d_Rk_holds_20 : decode b_Rk_holds 20 = .ok (.iconst 1, 1) := by decide +kernel
theorem d_Rk_holds_21 : decode b_Rk_holds 21 = .ok (.ireturn, 1) := by decide +kernel
theorem d_Rk_holds_22 : decode b_Rk_holds 22 = .ok (.iinc 2 1, 3) := by decide +kernel
theorem d_Rk_holds_25 : decode b_Rk_holds 25 = .ok (.goto (-23), 3) := by decide +kernel
theorem d_Rk_holds_28 : decode b_Rk_holds 28 = .ok (.iconst 0, 1) := by decide +kernel
theorem d_Rk_holds_29 : decode b_Rk_holds 29 = .ok (.ireturn, 1) := by decide +kernel
end
section
theorem d_Do_store_0 : decode b_Do_store 0 = .ok (.aload_n 0, 1) := by decide +kernel
theorem d_Do_store_1 : decode b_Do_store 1 = .ok (.getfield 11, 3) := by decide +kernel
theorem d_Do_store_4 : decode b_Do_store 4 = .ok (.iload_n 1, 1) := by decide +kernel
theorem d_Do_store_5 : decode b_Do_store 5 = .ok (.aaload, 1) := by decide +kernel
theorem d_Do_store_6 : decode b_Do_store 6 = .ok (.iload_n 2, 1) := by decide +kernel
theorem d_Do_store_7 : decode b_Do_store 7 = .ok (.iload_n 3, 1) := by decide +kernel
theorem d_Do_store_8 : decode b_Do_store 8 = .ok (.iload 4, 2) := by decide +kernel
theorem d_Do_store_10 : decode b_Do_store 10 = .ok (.iload 5, 2) := by decide +kernel
theorem d_Do_store_12 : decode b_Do_store 12 = .ok (.invokestatic 23, 3) := by decide +kernel
theorem d_Do_store_15 : decode b_Do_store 15 = .ok (.aload_n 0, 1) := by decide +kernel
theorem d_Do_store_16 : decode b_Do_store 16 = .ok (.getfield 16, 3) := by decide +kernel
theorem d_Do_store_19 : decode b_Do_store 19 = .ok (.iload_n 1, 1) := by decide +kernel
theorem d_Do_store_20 : decode b_Do_store 20 = .ok (.iload 6, 2) := by decide +kernel
theorem d_Do_store_22 : decode b_Do_store 22 = .ok (.iastore, 1) := by decide +kernel
theorem d_Do_store_23 : decode b_Do_store 23 = .ok (.aload_n 0, 1) := by decide +kernel
theorem d_Do_store_24 : decode b_Do_store 24 = .ok (.dup, 1) := by decide +kernel
theorem d_Do_store_25 : decode b_Do_store 25 = .ok (.getfield 27, 3) := by decide +kernel
theorem d_Do_store_28 : decode b_Do_store 28 = .ok (.iconst 1, 1) := by decide +kernel
theorem d_Do_store_29 : decode b_Do_store 29 = .ok (.iload_n 1, 1) := by decide +kernel
theorem d_Do_store_30 : decode b_Do_store 30 = .ok (.ishl, 1) := by decide +kernel
theorem d_Do_store_31 : decode b_Do_store 31 = .ok (.ior, 1) := by decide +kernel
theorem d_Do_store_32 : decode b_Do_store 32 = .ok (.putfield 27, 3) := by decide +kernel
theorem d_Do_store_35 : decode b_Do_store 35 = .ok (.return_, 1) := by decide +kernel
theorem d_Do_vector_0 : decode b_Do_vector 0 = .ok (.aload_n 0, 1) := by decide +kernel
theorem d_Do_vector_1 : decode b_Do_vector 1 = .ok (.getfield 11, 3) := by decide +kernel
theorem d_Do_vector_4 : decode b_Do_vector 4 = .ok (.iload_n 1, 1) := by decide +kernel
theorem d_Do_vector_5 : decode b_Do_vector 5 = .ok (.aaload, 1) := by decide +kernel
theorem d_Do_vector_6 : decode b_Do_vector 6 = .ok (.areturn, 1) := by decide +kernel
theorem d_Do_measure_0 : decode b_Do_measure 0 = .ok (.iconst 0, 1) := by decide +kernel
theorem d_Do_measure_1 : decode b_Do_measure 1 = .ok (.istore_n 3, 1) := by decide +kernel
theorem d_Do_measure_2 : decode b_Do_measure 2 = .ok (.iload_n 3, 1) := by decide +kernel
theorem d_Do_measure_3 : decode b_Do_measure 3 = .ok (.bipush 30, 2) := by decide +kernel
theorem d_Do_measure_5 : decode b_Do_measure 5 = .ok (.if_icmp .ge 22, 3) := by decide +kernel
theorem d_Do_measure_8 : decode b_Do_measure 8 = .ok (.aload_n 2, 1) := by decide +kernel
theorem d_Do_measure_9 : decode b_Do_measure 9 = .ok (.iload_n 3, 1) := by decide +kernel
theorem d_Do_measure_10 : decode b_Do_measure 10 = .ok (.aload_n 1, 1) := by decide +kernel
theorem d_Do_measure_11 : decode b_Do_measure 11 = .ok (.aload_n 0, 1) := by decide +kernel
theorem d_Do_measure_12 : decode b_Do_measure 12 = .ok (.getfield 11, 3) := by decide +kernel
theorem d_Do_measure_15 : decode b_Do_measure 15 = .ok (.iload_n 3, 1) := by decide +kernel
theorem d_Do_measure_16 : decode b_Do_measure 16 = .ok (.aaload, 1) := by decide +kernel
theorem d_Do_measure_17 : decode b_Do_measure 17 = .ok (.invokestatic 48, 3) := by decide +kernel
theorem d_Do_measure_20 : decode b_Do_measure 20 = .ok (.iastore, 1) := by decide +kernel
theorem d_Do_measure_21 : decode b_Do_measure 21 = .ok (.iinc 3 1, 3) := by decide +kernel
theorem d_Do_measure_24 : decode b_Do_measure 24 = .ok (.goto (-22), 3) := by decide +kernel
theorem d_Do_measure_27 : decode b_Do_measure 27 = .ok (.return_, 1) := by decide +kernel
theorem d_Do_retire_0 : decode b_Do_retire 0 = .ok (.aload_n 0, 1) := by decide +kernel
theorem d_Do_retire_1 : decode b_Do_retire 1 = .ok (.iload_n 1, 1) := by decide +kernel
theorem d_Do_retire_2 : decode b_Do_retire 2 = .ok (.invokevirtual 31, 3) := by decide +kernel
theorem d_Do_retire_5 : decode b_Do_retire 5 = .ok (.ifCond .ne 5, 3) := by decide +kernel
theorem d_Do_retire_8 : decode b_Do_retire 8 = .ok (.iconst 0, 1) := by decide +kernel
theorem d_Do_retire_9 : decode b_Do_retire 9 = .ok (.ireturn, 1) := by decide +kernel
theorem d_Do_retire_10 : decode b_Do_retire 10 = .ok (.aload_n 0, 1) := by decide +kernel
theorem d_Do_retire_11 : decode b_Do_retire 11 = .ok (.dup, 1) := by decide +kernel
theorem d_Do_retire_12 : decode b_Do_retire 12 = .ok (.getfield 27, 3) := by decide +kernel
theorem d_Do_retire_15 : decode b_Do_retire 15 = .ok (.iconst 1, 1) := by decide +kernel
theorem d_Do_retire_16 : decode b_Do_retire 16 = .ok (.iload_n 1, 1) := by decide +kernel
theorem d_Do_retire_17 : decode b_Do_retire 17 = .ok (.ishl, 1) := by decide +kernel
theorem d_Do_retire_18 : decode b_Do_retire 18 = .ok (.iconst (-1), 1) := by decide +kernel
theorem d_Do_retire_19 : decode b_Do_retire 19 = .ok (.ixor, 1) := by decide +kernel
theorem d_Do_retire_20 : decode b_Do_retire 20 = .ok (.iand, 1) := by decide +kernel
theorem d_Do_retire_21 : decode b_Do_retire 21 = .ok (.putfield 27, 3) := by decide +kernel
theorem d_Do_retire_24 : decode b_Do_retire 24 = .ok (.iconst 1, 1) := by decide +kernel
theorem d_Do_retire_25 : decode b_Do_retire 25 = .ok (.ireturn, 1) := by decide +kernel
theorem d_Do_isLive_0 : decode b_Do_isLive 0 = .ok (.iload_n 1, 1) := by decide +kernel
theorem d_Do_isLive_1 : decode b_Do_isLive 1 = .ok (.invokestatic 35, 3) := by decide +kernel
theorem d_Do_isLive_4 : decode b_Do_isLive 4 = .ok (.ifCond .eq 18, 3) := by decide +kernel
theorem d_Do_isLive_7 : decode b_Do_isLive 7 = .ok (.aload_n 0, 1) := by decide +kernel
theorem d_Do_isLive_8 : decode b_Do_isLive 8 = .ok (.getfield 27, 3) := by decide +kernel
theorem d_Do_isLive_11 : decode b_Do_isLive 11 = .ok (.iload_n 1, 1) := by decide +kernel
theorem d_Do_isLive_12 : decode b_Do_isLive 12 = .ok (.invokestatic 38, 3) := by decide +kernel
theorem d_Do_isLive_15 : decode b_Do_isLive 15 = .ok (.ifCond .eq 7, 3) := by decide +kernel
theorem d_Do_isLive_18 : decode b_Do_isLive 18 = .ok (.iconst 1, 1) := by decide +kernel
theorem d_Do_isLive_19 : decode b_Do_isLive 19 = .ok (.goto 4, 3) := by decide +kernel
theorem d_Do_isLive_22 : decode b_Do_isLive 22 = .ok (.iconst 0, 1) := by decide +kernel
theorem d_Do_isLive_23 : decode b_Do_isLive 23 = .ok (.ireturn, 1) := by decide +kernel
theorem d_Do_liveCount_0 : decode b_Do_liveCount 0 = .ok (.aload_n 0, 1) := by decide +kernel
theorem d_Do_liveCount_1 : decode b_Do_liveCount 1 = .ok (.getfield 27, 3) := by decide +kernel
theorem d_Do_liveCount_4 : decode b_Do_liveCount 4 = .ok (.invokestatic 42, 3) := by decide +kernel
theorem d_Do_liveCount_7 : decode b_Do_liveCount 7 = .ok (.ireturn, 1) := by decide +kernel
theorem d_Do_rankByDistance_0 : decode b_Do_rankByDistance 0 = .ok (.iconst 0, 1) := by decide +kernel
theorem d_Do_rankByDistance_1 : decode b_Do_rankByDistance 1 = .ok (.istore_n 3, 1) := by decide +kernel
theorem d_Do_rankByDistance_2 : decode b_Do_rankByDistance 2 = .ok (.iload_n 3, 1) := by decide +kernel
theorem d_Do_rankByDistance_3 : decode b_Do_rankByDistance 3 = .ok (.bipush 30, 2) := by decide +kernel
theorem d_Do_rankByDistance_5 : decode b_Do_rankByDistance 5 = .ok (.if_icmp .ge 33, 3) := by decide +kernel
theorem d_Do_rankByDistance_8 : decode b_Do_rankByDistance 8 = .ok (.aload_n 0, 1) := by decide +kernel
theorem d_Do_rankByDistance_9 : decode b_Do_rankByDistance 9 = .ok (.iload_n 3, 1) := by decide +kernel
theorem d_Do_rankByDistance_10 : decode b_Do_rankByDistance 10 = .ok (.invokevirtual 31, 3) := by decide +kernel
theorem d_Do_rankByDistance_13 : decode b_Do_rankByDistance 13 = .ok (.ifCond .eq 19, 3) := by decide +kernel
theorem d_Do_rankByDistance_16 : decode b_Do_rankByDistance 16 = .ok (.aload_n 2, 1) := by decide +kernel
theorem d_Do_rankByDistance_17 : decode b_Do_rankByDistance 17 = .ok (.iload_n 3, 1) := by decide +kernel
theorem d_Do_rankByDistance_18 : decode b_Do_rankByDistance 18 = .ok (.aload_n 1, 1) := by decide +kernel
theorem d_Do_rankByDistance_19 : decode b_Do_rankByDistance 19 = .ok (.aload_n 0, 1) := by decide +kernel
theorem d_Do_rankByDistance_20 : decode b_Do_rankByDistance 20 = .ok (.getfield 11, 3) := by decide +kernel
theorem d_Do_rankByDistance_23 : decode b_Do_rankByDistance 23 = .ok (.iload_n 3, 1) := by decide +kernel
theorem d_Do_rankByDistance_24 : decode b_Do_rankByDistance 24 = .ok (.aaload, 1) := by decide +kernel
theorem d_Do_rankByDistance_25 : decode b_Do_rankByDistance 25 = .ok (.invokestatic 48, 3) := by decide +kernel
theorem d_Do_rankByDistance_28 : decode b_Do_rankByDistance 28 = .ok (.invokevirtual 52, 3) := by decide +kernel
theorem d_Do_rankByDistance_31 : decode b_Do_rankByDistance 31 = .ok (.pop, 1) := by decide +kernel
theorem d_Do_rankByDistance_32 : decode b_Do_rankByDistance 32 = .ok (.iinc 3 1, 3) := by decide +kernel
theorem d_Do_rankByDistance_35 : decode b_Do_rankByDistance 35 = .ok (.goto (-33), 3) := by decide +kernel
theorem d_Do_rankByDistance_38 : decode b_Do_rankByDistance 38 = .ok (.return_, 1) := by decide +kernel
theorem d_Do_rankByScore_0 : decode b_Do_rankByScore 0 = .ok (.aload_n 0, 1) := by decide +kernel
theorem d_Do_rankByScore_1 : decode b_Do_rankByScore 1 = .ok (.invokevirtual 57, 3) := by decide +kernel
theorem d_Do_rankByScore_4 : decode b_Do_rankByScore 4 = .ok (.iconst 0, 1) := by decide +kernel
theorem d_Do_rankByScore_5 : decode b_Do_rankByScore 5 = .ok (.istore_n 3, 1) := by decide +kernel
theorem d_Do_rankByScore_6 : decode b_Do_rankByScore 6 = .ok (.iload_n 3, 1) := by decide +kernel
theorem d_Do_rankByScore_7 : decode b_Do_rankByScore 7 = .ok (.bipush 30, 2) := by decide +kernel
theorem d_Do_rankByScore_9 : decode b_Do_rankByScore 9 = .ok (.if_icmp .ge 42, 3) := by decide +kernel
theorem d_Do_rankByScore_12 : decode b_Do_rankByScore 12 = .ok (.aload_n 0, 1) := by decide +kernel
theorem d_Do_rankByScore_13 : decode b_Do_rankByScore 13 = .ok (.iload_n 3, 1) := by decide +kernel
theorem d_Do_rankByScore_14 : decode b_Do_rankByScore 14 = .ok (.invokevirtual 31, 3) := by decide +kernel
theorem d_Do_rankByScore_17 : decode b_Do_rankByScore 17 = .ok (.ifCond .eq 12, 3) := by decide +kernel
theorem d_Do_rankByScore_20 : decode b_Do_rankByScore 20 = .ok (.aload_n 0, 1) := by decide +kernel
theorem d_Do_rankByScore_21 : decode b_Do_rankByScore 21 = .ok (.iload_n 3, 1) := by decide +kernel
theorem d_Do_rankByScore_22 : decode b_Do_rankByScore 22 = .ok (.iload_n 1, 1) := by decide +kernel
theorem d_Do_rankByScore_23 : decode b_Do_rankByScore 23 = .ok (.invokevirtual 60, 3) := by decide +kernel
theorem d_Do_rankByScore_26 : decode b_Do_rankByScore 26 = .ok (.goto 4, 3) := by decide +kernel
theorem d_Do_rankByScore_29 : decode b_Do_rankByScore 29 = .ok (.iconst 0, 1) := by decide +kernel
theorem d_Do_rankByScore_30 : decode b_Do_rankByScore 30 = .ok (.istore 4, 2) := by decide +kernel
theorem d_Do_rankByScore_32 : decode b_Do_rankByScore 32 = .ok (.iload 4, 2) := by decide +kernel
theorem d_Do_rankByScore_34 : decode b_Do_rankByScore 34 = .ok (.ifCond .le 11, 3) := by decide +kernel
theorem d_Do_rankByScore_37 : decode b_Do_rankByScore 37 = .ok (.aload_n 2, 1) := by decide +kernel
theorem d_Do_rankByScore_38 : decode b_Do_rankByScore 38 = .ok (.iload_n 3, 1) := by decide +kernel
theorem d_Do_rankByScore_39 : decode b_Do_rankByScore 39 = .ok (.iload 4, 2) := by decide +kernel
theorem d_Do_rankByScore_41 : decode b_Do_rankByScore 41 = .ok (.invokevirtual 52, 3) := by decide +kernel
theorem d_Do_rankByScore_44 : decode b_Do_rankByScore 44 = .ok (.pop, 1) := by decide +kernel
theorem d_Do_rankByScore_45 : decode b_Do_rankByScore 45 = .ok (.iinc 3 1, 3) := by decide +kernel
theorem d_Do_rankByScore_48 : decode b_Do_rankByScore 48 = .ok (.goto (-42), 3) := by decide +kernel
theorem d_Do_rankByScore_51 : decode b_Do_rankByScore 51 = .ok (.return_, 1) := by decide +kernel
theorem d_Do_weighWords_0 : decode b_Do_weighWords 0 = .ok (.iconst 0, 1) := by decide +kernel
theorem d_Do_weighWords_1 : decode b_Do_weighWords 1 = .ok (.istore_n 1, 1) := by decide +kernel
theorem d_Do_weighWords_2 : decode b_Do_weighWords 2 = .ok (.iload_n 1, 1) := by decide +kernel
theorem d_Do_weighWords_3 : decode b_Do_weighWords 3 = .ok (.bipush 8, 2) := by decide +kernel
theorem d_Do_weighWords_5 : decode b_Do_weighWords 5 = .ok (.if_icmp .ge 37, 3) := by decide +kernel
theorem d_Do_weighWords_8 : decode b_Do_weighWords 8 = .ok (.aload_n 0, 1) := by decide +kernel
theorem d_Do_weighWords_9 : decode b_Do_weighWords 9 = .ok (.iload_n 1, 1) := by decide +kernel
theorem d_Do_weighWords_10 : decode b_Do_weighWords 10 = .ok (.invokevirtual 64, 3) := by decide +kernel
theorem d_Do_weighWords_13 : decode b_Do_weighWords 13 = .ok (.istore_n 2, 1) := by decide +kernel
theorem d_Do_weighWords_14 : decode b_Do_weighWords 14 = .ok (.aload_n 0, 1) := by decide +kernel
theorem d_Do_weighWords_15 : decode b_Do_weighWords 15 = .ok (.getfield 20, 3) := by decide +kernel
theorem d_Do_weighWords_18 : decode b_Do_weighWords 18 = .ok (.iload_n 1, 1) := by decide +kernel
theorem d_Do_weighWords_19 : decode b_Do_weighWords 19 = .ok (.iload_n 2, 1) := by decide +kernel
theorem d_Do_weighWords_20 : decode b_Do_weighWords 20 = .ok (.ifCond .le 14, 3) := by decide +kernel
theorem d_Do_weighWords_23 : decode b_Do_weighWords 23 = .ok (.iconst 1, 1) := by decide +kernel
theorem d_Do_weighWords_24 : decode b_Do_weighWords 24 = .ok (.aload_n 0, 1) := by decide +kernel
theorem d_Do_weighWords_25 : decode b_Do_weighWords 25 = .ok (.invokevirtual 67, 3) := by decide +kernel
theorem d_Do_weighWords_28 : decode b_Do_weighWords 28 = .ok (.iload_n 2, 1) := by decide +kernel
theorem d_Do_weighWords_29 : decode b_Do_weighWords 29 = .ok (.idiv, 1) := by decide +kernel
theorem d_Do_weighWords_30 : decode b_Do_weighWords 30 = .ok (.iadd, 1) := by decide +kernel
theorem d_Do_weighWords_31 : decode b_Do_weighWords 31 = .ok (.goto 4, 3) := by decide +kernel
theorem d_Do_weighWords_34 : decode b_Do_weighWords 34 = .ok (.iconst 0, 1) := by decide +kernel
theorem d_Do_weighWords_35 : decode b_Do_weighWords 35 = .ok (.iastore, 1) := by decide +kernel
theorem d_Do_weighWords_36 : decode b_Do_weighWords 36 = .ok (.iinc 1 1, 3) := by decide +kernel
theorem d_Do_weighWords_39 : decode b_Do_weighWords 39 = .ok (.goto (-37), 3) := by decide +kernel
theorem d_Do_weighWords_42 : decode b_Do_weighWords 42 = .ok (.return_, 1) := by decide +kernel
theorem d_Do_liveWith_0 : decode b_Do_liveWith 0 = .ok (.iconst 0, 1) := by decide +kernel
theorem d_Do_liveWith_1 : decode b_Do_liveWith 1 = .ok (.istore_n 2, 1) := by decide +kernel
theorem d_Do_liveWith_2 : decode b_Do_liveWith 2 = .ok (.iconst 0, 1) := by decide +kernel
theorem d_Do_liveWith_3 : decode b_Do_liveWith 3 = .ok (.istore_n 3, 1) := by decide +kernel
theorem d_Do_liveWith_4 : decode b_Do_liveWith 4 = .ok (.iload_n 3, 1) := by decide +kernel
theorem d_Do_liveWith_5 : decode b_Do_liveWith 5 = .ok (.bipush 30, 2) := by decide +kernel
theorem d_Do_liveWith_7 : decode b_Do_liveWith 7 = .ok (.if_icmp .ge 29, 3) := by decide +kernel
theorem d_Do_liveWith_10 : decode b_Do_liveWith 10 = .ok (.aload_n 0, 1) := by decide +kernel
theorem d_Do_liveWith_11 : decode b_Do_liveWith 11 = .ok (.iload_n 3, 1) := by decide +kernel
theorem d_Do_liveWith_12 : decode b_Do_liveWith 12 = .ok (.invokevirtual 31, 3) := by decide +kernel
theorem d_Do_liveWith_15 : decode b_Do_liveWith 15 = .ok (.ifCond .eq 15, 3) := by decide +kernel
theorem d_Do_liveWith_18 : decode b_Do_liveWith 18 = .ok (.aload_n 0, 1) := by decide +kernel
theorem d_Do_liveWith_19 : decode b_Do_liveWith 19 = .ok (.iload_n 3, 1) := by decide +kernel
theorem d_Do_liveWith_20 : decode b_Do_liveWith 20 = .ok (.iload_n 1, 1) := by decide +kernel
theorem d_Do_liveWith_21 : decode b_Do_liveWith 21 = .ok (.invokevirtual 71, 3) := by decide +kernel
theorem d_Do_liveWith_24 : decode b_Do_liveWith 24 = .ok (.ifCond .le 6, 3) := by decide +kernel
theorem d_Do_liveWith_27 : decode b_Do_liveWith 27 = .ok (.iinc 2 1, 3) := by decide +kernel
theorem d_Do_liveWith_30 : decode b_Do_liveWith 30 = .ok (.iinc 3 1, 3) := by decide +kernel
theorem d_Do_liveWith_33 : decode b_Do_liveWith 33 = .ok (.goto (-29), 3) := by decide +kernel
theorem d_Do_liveWith_36 : decode b_Do_liveWith 36 = .ok (.iload_n 2, 1) := by decide +kernel
theorem d_Do_liveWith_37 : decode b_Do_liveWith 37 = .ok (.ireturn, 1) := by decide +kernel
theorem d_Do_countOfWord_0 : decode b_Do_countOfWord 0 = .ok (.aload_n 0, 1) := by decide +kernel
theorem d_Do_countOfWord_1 : decode b_Do_countOfWord 1 = .ok (.getfield 16, 3) := by decide +kernel
theorem d_Do_countOfWord_4 : decode b_Do_countOfWord 4 = .ok (.iload_n 1, 1) := by decide +kernel
theorem d_Do_countOfWord_5 : decode b_Do_countOfWord 5 = .ok (.iaload, 1) := by decide +kernel
theorem d_Do_countOfWord_6 : decode b_Do_countOfWord 6 = .ok (.iconst 3, 1) := by decide +kernel
theorem d_Do_countOfWord_7 : decode b_Do_countOfWord 7 = .ok (.iload_n 2, 1) := by decide +kernel
theorem d_Do_countOfWord_8 : decode b_Do_countOfWord 8 = .ok (.imul, 1) := by decide +kernel
theorem d_Do_countOfWord_9 : decode b_Do_countOfWord 9 = .ok (.ishr, 1) := by decide +kernel
theorem d_Do_countOfWord_10 : decode b_Do_countOfWord 10 = .ok (.bipush 7, 2) := by decide +kernel
theorem d_Do_countOfWord_12 : decode b_Do_countOfWord 12 = .ok (.iand, 1) := by decide +kernel
theorem d_Do_countOfWord_13 : decode b_Do_countOfWord 13 = .ok (.ireturn, 1) := by decide +kernel
theorem d_Do_score_0 : decode b_Do_score 0 = .ok (.iconst 0, 1) := by decide +kernel
theorem d_Do_score_1 : decode b_Do_score 1 = .ok (.istore_n 3, 1) := by decide +kernel
theorem d_Do_score_2 : decode b_Do_score 2 = .ok (.iconst 0, 1) := by decide +kernel
theorem d_Do_score_3 : decode b_Do_score 3 = .ok (.istore 4, 2) := by decide +kernel
theorem d_Do_score_5 : decode b_Do_score 5 = .ok (.iload 4, 2) := by decide +kernel
theorem d_Do_score_7 : decode b_Do_score 7 = .ok (.bipush 8, 2) := by decide +kernel
theorem d_Do_score_9 : decode b_Do_score 9 = .ok (.if_icmp .ge 48, 3) := by decide +kernel
theorem d_Do_score_12 : decode b_Do_score 12 = .ok (.iload_n 2, 1) := by decide +kernel
theorem d_Do_score_13 : decode b_Do_score 13 = .ok (.iload 4, 2) := by decide +kernel
theorem d_Do_score_15 : decode b_Do_score 15 = .ok (.invokestatic 38, 3) := by decide +kernel
theorem d_Do_score_18 : decode b_Do_score 18 = .ok (.ifCond .eq 33, 3) := by decide +kernel
theorem d_Do_score_21 : decode b_Do_score 21 = .ok (.aload_n 0, 1) := by decide +kernel
theorem d_Do_score_22 : decode b_Do_score 22 = .ok (.iload_n 1, 1) := by decide +kernel
theorem d_Do_score_23 : decode b_Do_score 23 = .ok (.iload 4, 2) := by decide +kernel
theorem d_Do_score_25 : decode b_Do_score 25 = .ok (.invokevirtual 71, 3) := by decide +kernel
theorem d_Do_score_28 : decode b_Do_score 28 = .ok (.istore 5, 2) := by decide +kernel
theorem d_Do_score_30 : decode b_Do_score 30 = .ok (.iload_n 3, 1) := by decide +kernel
theorem d_Do_score_31 : decode b_Do_score 31 = .ok (.bipush 100, 2) := by decide +kernel
theorem d_Do_score_33 : decode b_Do_score 33 = .ok (.iload 5, 2) := by decide +kernel
theorem d_Do_score_35 : decode b_Do_score 35 = .ok (.imul, 1) := by decide +kernel
theorem d_Do_score_36 : decode b_Do_score 36 = .ok (.iload 5, 2) := by decide +kernel
theorem d_Do_score_38 : decode b_Do_score 38 = .ok (.iconst 1, 1) := by decide +kernel
theorem d_Do_score_39 : decode b_Do_score 39 = .ok (.iadd, 1) := by decide +kernel
theorem d_Do_score_40 : decode b_Do_score 40 = .ok (.idiv, 1) := by decide +kernel
theorem d_Do_score_41 : decode b_Do_score 41 = .ok (.aload_n 0, 1) := by decide +kernel
theorem d_Do_score_42 : decode b_Do_score 42 = .ok (.getfield 20, 3) := by decide +kernel
theorem d_Do_score_45 : decode b_Do_score 45 = .ok (.iload 4, 2) := by decide +kernel
theorem d_Do_score_47 : decode b_Do_score 47 = .ok (.iaload, 1) := by decide +kernel
theorem d_Do_score_48 : decode b_Do_score 48 = .ok (.imul, 1) := by decide +kernel
theorem d_Do_score_49 : decode b_Do_score 49 = .ok (.iadd, 1) := by decide +kernel
theorem d_Do_score_50 : decode b_Do_score 50 = .ok (.istore_n 3, 1) := by decide +kernel
theorem d_Do_score_51 : decode b_Do_score 51 = .ok (.iinc 4 1, 3) := by decide +kernel
theorem d_Do_score_54 : decode b_Do_score 54 = .ok (.goto (-49), 3) := by decide +kernel
theorem d_Do_score_57 : decode b_Do_score 57 = .ok (.iload_n 3, 1) := by decide +kernel
theorem d_Do_score_58 : decode b_Do_score 58 = .ok (.ireturn, 1) := by decide +kernel
theorem d_Do_counts_0 : decode b_Do_counts 0 = .ok (.aload_n 0, 1) := by decide +kernel
theorem d_Do_counts_1 : decode b_Do_counts 1 = .ok (.getfield 16, 3) := by decide +kernel
theorem d_Do_counts_4 : decode b_Do_counts 4 = .ok (.iload_n 1, 1) := by decide +kernel
theorem d_Do_counts_5 : decode b_Do_counts 5 = .ok (.iaload, 1) := by decide +kernel
theorem d_Do_counts_6 : decode b_Do_counts 6 = .ok (.ireturn, 1) := by decide +kernel
theorem d_Do_coordinate_0 : decode b_Do_coordinate 0 = .ok (.aload_n 0, 1) := by decide +kernel
theorem d_Do_coordinate_1 : decode b_Do_coordinate 1 = .ok (.getfield 11, 3) := by decide +kernel
theorem d_Do_coordinate_4 : decode b_Do_coordinate 4 = .ok (.iload_n 1, 1) := by decide +kernel
theorem d_Do_coordinate_5 : decode b_Do_coordinate 5 = .ok (.aaload, 1) := by decide +kernel
theorem d_Do_coordinate_6 : decode b_Do_coordinate 6 = .ok (.iload_n 2, 1) := by decide +kernel
theorem d_Do_coordinate_7 : decode b_Do_coordinate 7 = .ok (.iaload, 1) := by decide +kernel
theorem d_Do_coordinate_8 : decode b_Do_coordinate 8 = .ok (.ireturn, 1) := by decide +kernel
end
section
theorem d_Ch_choose_0 : decode b_Ch_choose 0 = .ok (.aload_n 0, 1) := by decide +kernel
theorem d_Ch_choose_1 : decode b_Ch_choose 1 = .ok (.iconst 0, 1) := by decide +kernel
theorem d_Ch_choose_2 : decode b_Ch_choose 2 = .ok (.putfield 15, 3) := by decide +kernel
theorem d_Ch_choose_5 : decode b_Ch_choose 5 = .ok (.aload_n 0, 1) := by decide +kernel
theorem d_Ch_choose_6 : decode b_Ch_choose 6 = .ok (.iconst 0, 1) := by decide +kernel
theorem d_Ch_choose_7 : decode b_Ch_choose 7 = .ok (.putfield 19, 3) := by decide +kernel
theorem d_Ch_choose_10 : decode b_Ch_choose 10 = .ok (.iconst 0, 1) := by decide +kernel
theorem d_Ch_choose_11 : decode b_Ch_choose 11 = .ok (.istore 4, 2) := by decide +kernel
theorem d_Ch_choose_13 : decode b_Ch_choose 13 = .ok (.iload 4, 2) := by decide +kernel
theorem d_Ch_choose_15 : decode b_Ch_choose 15 = .ok (.aload_n 2, 1) := by decide +kernel
theorem d_Ch_choose_16 : decode b_Ch_choose 16 = .ok (.invokevirtual 22, 3) := by decide +kernel
theorem d_Ch_choose_19 : decode b_Ch_choose 19 = .ok (.if_icmp .ge 47, 3) := by decide +kernel
theorem d_Ch_choose_22 : decode b_Ch_choose 22 = .ok (.aload_n 0, 1) := by decide +kernel
theorem d_Ch_choose_23 : decode b_Ch_choose 23 = .ok (.getfield 15, 3) := by decide +kernel
theorem d_Ch_choose_26 : decode b_Ch_choose 26 = .ok (.iload_n 3, 1) := by decide +kernel
theorem d_Ch_choose_27 : decode b_Ch_choose 27 = .ok (.if_icmp .ge 39, 3) := by decide +kernel
theorem d_Ch_choose_30 : decode b_Ch_choose 30 = .ok (.aload_n 2, 1) := by decide +kernel
theorem d_Ch_choose_31 : decode b_Ch_choose 31 = .ok (.iload 4, 2) := by decide +kernel
theorem d_Ch_choose_33 : decode b_Ch_choose 33 = .ok (.invokevirtual 27, 3) := by decide +kernel
theorem d_Ch_choose_36 : decode b_Ch_choose 36 = .ok (.istore 5, 2) := by decide +kernel
theorem d_Ch_choose_38 : decode b_Ch_choose 38 = .ok (.aload_n 0, 1) := by decide +kernel
theorem d_Ch_choose_39 : decode b_Ch_choose 39 = .ok (.aload_n 1, 1) := by decide +kernel
theorem d_Ch_choose_40 : decode b_Ch_choose 40 = .ok (.iload 5, 2) := by decide +kernel
theorem d_Ch_choose_42 : decode b_Ch_choose 42 = .ok (.aload_n 2, 1) := by decide +kernel
theorem d_Ch_choose_43 : decode b_Ch_choose 43 = .ok (.iload 4, 2) := by decide +kernel
theorem d_Ch_choose_45 : decode b_Ch_choose 45 = .ok (.invokevirtual 31, 3) := by decide +kernel
theorem d_Ch_choose_48 : decode b_Ch_choose 48 = .ok (.invokevirtual 34, 3) := by decide +kernel
theorem d_Ch_choose_51 : decode b_Ch_choose 51 = .ok (.ifCond .eq 9, 3) := by decide +kernel
theorem d_Ch_choose_54 : decode b_Ch_choose 54 = .ok (.aload_n 0, 1) := by decide +kernel
theorem d_Ch_choose_55 : decode b_Ch_choose 55 = .ok (.iload 5, 2) := by decide +kernel
theorem d_Ch_choose_57 : decode b_Ch_choose 57 = .ok (.invokevirtual 38, 3) := by decide +kernel
theorem d_Ch_choose_60 : decode b_Ch_choose 60 = .ok (.iinc 4 1, 3) := by decide +kernel
theorem d_Ch_choose_63 : decode b_Ch_choose 63 = .ok (.goto (-50), 3) := by decide +kernel
theorem d_Ch_choose_66 : decode b_Ch_choose 66 = .ok (.iconst 0, 1) := by decide +kernel
theorem d_Ch_choose_67 : decode b_Ch_choose 67 = .ok (.istore 4, 2) := by decide +kernel
theorem d_Ch_choose_69 : decode b_Ch_choose 69 = .ok (.iload 4, 2) := by decide +kernel
theorem d_Ch_choose_71 : decode b_Ch_choose 71 = .ok (.aload_n 2, 1) := by decide +kernel
theorem d_Ch_choose_72 : decode b_Ch_choose 72 = .ok (.invokevirtual 22, 3) := by decide +kernel
theorem d_Ch_choose_75 : decode b_Ch_choose 75 = .ok (.if_icmp .ge 43, 3) := by decide +kernel
theorem d_Ch_choose_78 : decode b_Ch_choose 78 = .ok (.aload_n 0, 1) := by decide +kernel
theorem d_Ch_choose_79 : decode b_Ch_choose 79 = .ok (.getfield 15, 3) := by decide +kernel
theorem d_Ch_choose_82 : decode b_Ch_choose 82 = .ok (.iload_n 3, 1) := by decide +kernel
theorem d_Ch_choose_83 : decode b_Ch_choose 83 = .ok (.if_icmp .ge 35, 3) := by decide +kernel
theorem d_Ch_choose_86 : decode b_Ch_choose 86 = .ok (.aload_n 2, 1) := by decide +kernel
theorem d_Ch_choose_87 : decode b_Ch_choose 87 = .ok (.iload 4, 2) := by decide +kernel
theorem d_Ch_choose_89 : decode b_Ch_choose 89 = .ok (.invokevirtual 27, 3) := by decide +kernel
theorem d_Ch_choose_92 : decode b_Ch_choose 92 = .ok (.istore 5, 2) := by decide +kernel
theorem d_Ch_choose_94 : decode b_Ch_choose 94 = .ok (.aload_n 0, 1) := by decide +kernel
theorem d_Ch_choose_95 : decode b_Ch_choose 95 = .ok (.getfield 19, 3) := by decide +kernel
theorem d_Ch_choose_98 : decode b_Ch_choose 98 = .ok (.iload 5, 2) := by decide +kernel
theorem d_Ch_choose_100 : decode b_Ch_choose 100 = .ok (.invokestatic 42, 3) := by decide +kernel
theorem d_Ch_choose_103 : decode b_Ch_choose 103 = .ok (.ifCond .ne 9, 3) := by decide +kernel
theorem d_Ch_choose_106 : decode b_Ch_choose 106 = .ok (.aload_n 0, 1) := by decide +kernel
theorem d_Ch_choose_107 : decode b_Ch_choose 107 = .ok (.iload 5, 2) := by decide +kernel
theorem d_Ch_choose_109 : decode b_Ch_choose 109 = .ok (.invokevirtual 38, 3) := by decide +kernel
theorem d_Ch_choose_112 : decode b_Ch_choose 112 = .ok (.iinc 4 1, 3) := by decide +kernel
theorem d_Ch_choose_115 : decode b_Ch_choose 115 = .ok (.goto (-46), 3) := by decide +kernel
theorem d_Ch_choose_118 : decode b_Ch_choose 118 = .ok (.return_, 1) := by decide +kernel
theorem d_Ch_isNearestToVector_0 : decode b_Ch_isNearestToVector 0 = .ok (.iconst 0, 1) := by decide +kernel
theorem d_Ch_isNearestToVector_1 : decode b_Ch_isNearestToVector 1 = .ok (.istore 4, 2) := by decide +kernel
theorem d_Ch_isNearestToVector_3 : decode b_Ch_isNearestToVector 3 = .ok (.iload 4, 2) := by decide +kernel
theorem d_Ch_isNearestToVector_5 : decode b_Ch_isNearestToVector 5 = .ok (.aload_n 0, 1) := by decide +kernel
theorem d_Ch_isNearestToVector_6 : decode b_Ch_isNearestToVector 6 = .ok (.getfield 15, 3) := by decide +kernel
theorem d_Ch_isNearestToVector_9 : decode b_Ch_isNearestToVector 9 = .ok (.if_icmp .ge 34, 3) := by decide +kernel
theorem d_Ch_isNearestToVector_12 : decode b_Ch_isNearestToVector 12 = .ok (.iload_n 3, 1) := by decide +kernel
theorem d_Ch_isNearestToVector_13 : decode b_Ch_isNearestToVector 13 = .ok (.aload_n 1, 1) := by decide +kernel
theorem d_Ch_isNearestToVector_14 : decode b_Ch_isNearestToVector 14 = .ok (.iload_n 2, 1) := by decide +kernel
theorem d_Ch_isNearestToVector_15 : decode b_Ch_isNearestToVector 15 = .ok (.invokevirtual 46, 3) := by decide +kernel
theorem d_Ch_isNearestToVector_18 : decode b_Ch_isNearestToVector 18 = .ok (.aload_n 1, 1) := by decide +kernel
theorem d_Ch_isNearestToVector_19 : decode b_Ch_isNearestToVector 19 = .ok (.aload_n 0, 1) := by decide +kernel
theorem d_Ch_isNearestToVector_20 : decode b_Ch_isNearestToVector 20 = .ok (.getfield 9, 3) := by decide +kernel
theorem d_Ch_isNearestToVector_23 : decode b_Ch_isNearestToVector 23 = .ok (.iload 4, 2) := by decide +kernel
theorem d_Ch_isNearestToVector_25 : decode b_Ch_isNearestToVector 25 = .ok (.iaload, 1) := by decide +kernel
theorem d_Ch_isNearestToVector_26 : decode b_Ch_isNearestToVector 26 = .ok (.invokevirtual 46, 3) := by decide +kernel
theorem d_Ch_isNearestToVector_29 : decode b_Ch_isNearestToVector 29 = .ok (.invokestatic 52, 3) := by decide +kernel
theorem d_Ch_isNearestToVector_32 : decode b_Ch_isNearestToVector 32 = .ok (.if_icmp .lt 5, 3) := by decide +kernel
theorem d_Ch_isNearestToVector_35 : decode b_Ch_isNearestToVector 35 = .ok (.iconst 0, 1) := by decide +kernel
theorem d_Ch_isNearestToVector_36 : decode b_Ch_isNearestToVector 36 = .ok (.ireturn, 1) := by decide +kernel
theorem d_Ch_isNearestToVector_37 : decode b_Ch_isNearestToVector 37 = .ok (.iinc 4 1, 3) := by decide +kernel
theorem d_Ch_isNearestToVector_40 : decode b_Ch_isNearestToVector 40 = .ok (.goto (-37), 3) := by decide +kernel
theorem d_Ch_isNearestToVector_43 : decode b_Ch_isNearestToVector 43 = .ok (.iconst 1, 1) := by decide +kernel
theorem d_Ch_isNearestToVector_44 : decode b_Ch_isNearestToVector 44 = .ok (.ireturn, 1) := by decide +kernel
theorem d_Ch_take_0 : decode b_Ch_take 0 = .ok (.aload_n 0, 1) := by decide +kernel
theorem d_Ch_take_1 : decode b_Ch_take 1 = .ok (.getfield 9, 3) := by decide +kernel
theorem d_Ch_take_4 : decode b_Ch_take 4 = .ok (.aload_n 0, 1) := by decide +kernel
theorem d_Ch_take_5 : decode b_Ch_take 5 = .ok (.getfield 15, 3) := by decide +kernel
theorem d_Ch_take_8 : decode b_Ch_take 8 = .ok (.iload_n 1, 1) := by decide +kernel
theorem d_Ch_take_9 : decode b_Ch_take 9 = .ok (.iastore, 1) := by decide +kernel
theorem d_Ch_take_10 : decode b_Ch_take 10 = .ok (.aload_n 0, 1) := by decide +kernel
theorem d_Ch_take_11 : decode b_Ch_take 11 = .ok (.dup, 1) := by decide +kernel
theorem d_Ch_take_12 : decode b_Ch_take 12 = .ok (.getfield 15, 3) := by decide +kernel
theorem d_Ch_take_15 : decode b_Ch_take 15 = .ok (.iconst 1, 1) := by decide +kernel
theorem d_Ch_take_16 : decode b_Ch_take 16 = .ok (.iadd, 1) := by decide +kernel
theorem d_Ch_take_17 : decode b_Ch_take 17 = .ok (.putfield 15, 3) := by decide +kernel
theorem d_Ch_take_20 : decode b_Ch_take 20 = .ok (.aload_n 0, 1) := by decide +kernel
theorem d_Ch_take_21 : decode b_Ch_take 21 = .ok (.dup, 1) := by decide +kernel
theorem d_Ch_take_22 : decode b_Ch_take 22 = .ok (.getfield 19, 3) := by decide +kernel
theorem d_Ch_take_25 : decode b_Ch_take 25 = .ok (.iconst 1, 1) := by decide +kernel
theorem d_Ch_take_26 : decode b_Ch_take 26 = .ok (.iload_n 1, 1) := by decide +kernel
theorem d_Ch_take_27 : decode b_Ch_take 27 = .ok (.ishl, 1) := by decide +kernel
theorem d_Ch_take_28 : decode b_Ch_take 28 = .ok (.ior, 1) := by decide +kernel
theorem d_Ch_take_29 : decode b_Ch_take 29 = .ok (.putfield 19, 3) := by decide +kernel
theorem d_Ch_take_32 : decode b_Ch_take 32 = .ok (.return_, 1) := by decide +kernel
theorem d_Ch_size_0 : decode b_Ch_size 0 = .ok (.aload_n 0, 1) := by decide +kernel
theorem d_Ch_size_1 : decode b_Ch_size 1 = .ok (.getfield 15, 3) := by decide +kernel
theorem d_Ch_size_4 : decode b_Ch_size 4 = .ok (.ireturn, 1) := by decide +kernel
theorem d_Ch_chosen_0 : decode b_Ch_chosen 0 = .ok (.aload_n 0, 1) := by decide +kernel
theorem d_Ch_chosen_1 : decode b_Ch_chosen 1 = .ok (.getfield 9, 3) := by decide +kernel
theorem d_Ch_chosen_4 : decode b_Ch_chosen 4 = .ok (.iload_n 1, 1) := by decide +kernel
theorem d_Ch_chosen_5 : decode b_Ch_chosen 5 = .ok (.iaload, 1) := by decide +kernel
theorem d_Ch_chosen_6 : decode b_Ch_chosen 6 = .ok (.ireturn, 1) := by decide +kernel
end
section
theorem d_Li_freeNumber_0 : decode b_Li_freeNumber 0 = .ok (.iconst 0, 1) := by decide +kernel
theorem d_Li_freeNumber_1 : decode b_Li_freeNumber 1 = .ok (.istore_n 1, 1) := by decide +kernel
theorem d_Li_freeNumber_2 : decode b_Li_freeNumber 2 = .ok (.iload_n 1, 1) := by decide +kernel
theorem d_Li_freeNumber_3 : decode b_Li_freeNumber 3 = .ok (.bipush 30, 2) := by decide +kernel
theorem d_Li_freeNumber_5 : decode b_Li_freeNumber 5 = .ok (.if_icmp .ge 20, 3) := by decide +kernel
theorem d_Li_freeNumber_8 : decode b_Li_freeNumber 8 = .ok (.aload_n 0, 1) := by decide +kernel
theorem d_Li_freeNumber_9 : decode b_Li_freeNumber 9 = .ok (.getfield 9, 3) := by decide +kernel
theorem d_Li_freeNumber_12 : decode b_Li_freeNumber 12 = .ok (.iload_n 1, 1) := by decide +kernel
theorem d_Li_freeNumber_13 : decode b_Li_freeNumber 13 = .ok (.iaload, 1) := by decide +kernel
theorem d_Li_freeNumber_14 : decode b_Li_freeNumber 14 = .ok (.ifCond .ne 5, 3) := by decide +kernel
theorem d_Li_freeNumber_17 : decode b_Li_freeNumber 17 = .ok (.iload_n 1, 1) := by decide +kernel
theorem d_Li_freeNumber_18 : decode b_Li_freeNumber 18 = .ok (.ireturn, 1) := by decide +kernel
theorem d_Li_freeNumber_19 : decode b_Li_freeNumber 19 = .ok (.iinc 1 1, 3) := by decide +kernel
theorem d_Li_freeNumber_22 : decode b_Li_freeNumber 22 = .ok (.goto (-20), 3) := by decide +kernel
theorem d_Li_freeNumber_25 : decode b_Li_freeNumber 25 = .ok (.bipush (-2), 2) := by decide +kernel
theorem d_Li_freeNumber_27 : decode b_Li_freeNumber 27 = .ok (.ireturn, 1) := by decide +kernel
theorem d_Li_addNode_0 : decode b_Li_addNode 0 = .ok (.aload_n 0, 1) := by decide +kernel
theorem d_Li_addNode_1 : decode b_Li_addNode 1 = .ok (.dup, 1) := by decide +kernel
theorem d_Li_addNode_2 : decode b_Li_addNode 2 = .ok (.getfield 27, 3) := by decide +kernel
theorem d_Li_addNode_5 : decode b_Li_addNode 5 = .ok (.iconst 1, 1) := by decide +kernel
theorem d_Li_addNode_6 : decode b_Li_addNode 6 = .ok (.iadd, 1) := by decide +kernel
theorem d_Li_addNode_7 : decode b_Li_addNode 7 = .ok (.putfield 27, 3) := by decide +kernel
theorem d_Li_addNode_10 : decode b_Li_addNode 10 = .ok (.aload_n 0, 1) := by decide +kernel
theorem d_Li_addNode_11 : decode b_Li_addNode 11 = .ok (.getfield 9, 3) := by decide +kernel
theorem d_Li_addNode_14 : decode b_Li_addNode 14 = .ok (.iload_n 1, 1) := by decide +kernel
theorem d_Li_addNode_15 : decode b_Li_addNode 15 = .ok (.aload_n 0, 1) := by decide +kernel
theorem d_Li_addNode_16 : decode b_Li_addNode 16 = .ok (.getfield 27, 3) := by decide +kernel
theorem d_Li_addNode_19 : decode b_Li_addNode 19 = .ok (.iastore, 1) := by decide +kernel
theorem d_Li_addNode_20 : decode b_Li_addNode 20 = .ok (.aload_n 0, 1) := by decide +kernel
theorem d_Li_addNode_21 : decode b_Li_addNode 21 = .ok (.getfield 15, 3) := by decide +kernel
theorem d_Li_addNode_24 : decode b_Li_addNode 24 = .ok (.iload_n 1, 1) := by decide +kernel
theorem d_Li_addNode_25 : decode b_Li_addNode 25 = .ok (.aload_n 0, 1) := by decide +kernel
theorem d_Li_addNode_26 : decode b_Li_addNode 26 = .ok (.getfield 27, 3) := by decide +kernel
theorem d_Li_addNode_29 : decode b_Li_addNode 29 = .ok (.invokestatic 31, 3) := by decide +kernel
theorem d_Li_addNode_32 : decode b_Li_addNode 32 = .ok (.iastore, 1) := by decide +kernel
theorem d_Li_addNode_33 : decode b_Li_addNode 33 = .ok (.iconst 0, 1) := by decide +kernel
theorem d_Li_addNode_34 : decode b_Li_addNode 34 = .ok (.istore_n 2, 1) := by decide +kernel
theorem d_Li_addNode_35 : decode b_Li_addNode 35 = .ok (.iload_n 2, 1) := by decide +kernel
theorem d_Li_addNode_36 : decode b_Li_addNode 36 = .ok (.iconst 4, 1) := by decide +kernel
theorem d_Li_addNode_37 : decode b_Li_addNode 37 = .ok (.if_icmp .ge 20, 3) := by decide +kernel
theorem d_Li_addNode_40 : decode b_Li_addNode 40 = .ok (.aload_n 0, 1) := by decide +kernel
theorem d_Li_addNode_41 : decode b_Li_addNode 41 = .ok (.getfield 18, 3) := by decide +kernel
theorem d_Li_addNode_44 : decode b_Li_addNode 44 = .ok (.iload_n 1, 1) := by decide +kernel
theorem d_Li_addNode_45 : decode b_Li_addNode 45 = .ok (.iconst 4, 1) := by decide +kernel
theorem d_Li_addNode_46 : decode b_Li_addNode 46 = .ok (.imul, 1) := by decide +kernel
theorem d_Li_addNode_47 : decode b_Li_addNode 47 = .ok (.iload_n 2, 1) := by decide +kernel
theorem d_Li_addNode_48 : decode b_Li_addNode 48 = .ok (.iadd, 1) := by decide +kernel
theorem d_Li_addNode_49 : decode b_Li_addNode 49 = .ok (.iconst 0, 1) := by decide +kernel
theorem d_Li_addNode_50 : decode b_Li_addNode 50 = .ok (.iastore, 1) := by decide +kernel
theorem d_Li_addNode_51 : decode b_Li_addNode 51 = .ok (.iinc 2 1, 3) := by decide +kernel
theorem d_Li_addNode_54 : decode b_Li_addNode 54 = .ok (.goto (-19), 3) := by decide +kernel
theorem d_Li_addNode_57 : decode b_Li_addNode 57 = .ok (.return_, 1) := by decide +kernel
theorem d_Li_levelOf_0 : decode b_Li_levelOf 0 = .ok (.iconst 0, 1) := by decide +kernel
theorem d_Li_levelOf_1 : decode b_Li_levelOf 1 = .ok (.istore_n 1, 1) := by decide +kernel
theorem d_Li_levelOf_2 : decode b_Li_levelOf 2 = .ok (.iload_n 0, 1) := by decide +kernel
theorem d_Li_levelOf_3 : decode b_Li_levelOf 3 = .ok (.istore_n 2, 1) := by decide +kernel
theorem d_Li_levelOf_4 : decode b_Li_levelOf 4 = .ok (.iload_n 1, 1) := by decide +kernel
theorem d_Li_levelOf_5 : decode b_Li_levelOf 5 = .ok (.iconst 3, 1) := by decide +kernel
theorem d_Li_levelOf_6 : decode b_Li_levelOf 6 = .ok (.if_icmp .ge 19, 3) := by decide +kernel
theorem d_Li_levelOf_9 : decode b_Li_levelOf 9 = .ok (.iload_n 2, 1) := by decide +kernel
theorem d_Li_levelOf_10 : decode b_Li_levelOf 10 = .ok (.iconst 3, 1) := by decide +kernel
theorem d_Li_levelOf_11 : decode b_Li_levelOf 11 = .ok (.irem, 1) := by decide +kernel
theorem d_Li_levelOf_12 : decode b_Li_levelOf 12 = .ok (.ifCond .ne 13, 3) := by decide +kernel
theorem d_Li_levelOf_15 : decode b_Li_levelOf 15 = .ok (.iload_n 2, 1) := by decide +kernel
theorem d_Li_levelOf_16 : decode b_Li_levelOf 16 = .ok (.iconst 3, 1) := by decide +kernel
theorem d_Li_levelOf_17 : decode b_Li_levelOf 17 = .ok (.idiv, 1) := by decide +kernel
theorem d_Li_levelOf_18 : decode b_Li_levelOf 18 = .ok (.istore_n 2, 1) := by decide +kernel
theorem d_Li_levelOf_19 : decode b_Li_levelOf 19 = .ok (.iinc 1 1, 3) := by decide +kernel
theorem d_Li_levelOf_22 : decode b_Li_levelOf 22 = .ok (.goto (-18), 3) := by decide +kernel
theorem d_Li_levelOf_25 : decode b_Li_levelOf 25 = .ok (.iload_n 1, 1) := by decide +kernel
theorem d_Li_levelOf_26 : decode b_Li_levelOf 26 = .ok (.ireturn, 1) := by decide +kernel
theorem d_Li_level_0 : decode b_Li_level 0 = .ok (.aload_n 0, 1) := by decide +kernel
theorem d_Li_level_1 : decode b_Li_level 1 = .ok (.getfield 15, 3) := by decide +kernel
theorem d_Li_level_4 : decode b_Li_level 4 = .ok (.iload_n 1, 1) := by decide +kernel
theorem d_Li_level_5 : decode b_Li_level 5 = .ok (.iaload, 1) := by decide +kernel
theorem d_Li_level_6 : decode b_Li_level 6 = .ok (.ireturn, 1) := by decide +kernel
theorem d_Li_degree_0 : decode b_Li_degree 0 = .ok (.aload_n 0, 1) := by decide +kernel
theorem d_Li_degree_1 : decode b_Li_degree 1 = .ok (.getfield 18, 3) := by decide +kernel
theorem d_Li_degree_4 : decode b_Li_degree 4 = .ok (.iload_n 1, 1) := by decide +kernel
theorem d_Li_degree_5 : decode b_Li_degree 5 = .ok (.iconst 4, 1) := by decide +kernel
theorem d_Li_degree_6 : decode b_Li_degree 6 = .ok (.imul, 1) := by decide +kernel
theorem d_Li_degree_7 : decode b_Li_degree 7 = .ok (.iload_n 2, 1) := by decide +kernel
theorem d_Li_degree_8 : decode b_Li_degree 8 = .ok (.iadd, 1) := by decide +kernel
theorem d_Li_degree_9 : decode b_Li_degree 9 = .ok (.iaload, 1) := by decide +kernel
theorem d_Li_degree_10 : decode b_Li_degree 10 = .ok (.ireturn, 1) := by decide +kernel
theorem d_Li_linked_0 : decode b_Li_linked 0 = .ok (.aload_n 0, 1) := by decide +kernel
theorem d_Li_linked_1 : decode b_Li_linked 1 = .ok (.getfield 21, 3) := by decide +kernel
theorem d_Li_linked_4 : decode b_Li_linked 4 = .ok (.iload_n 1, 1) := by decide +kernel
theorem d_Li_linked_5 : decode b_Li_linked 5 = .ok (.iconst 4, 1) := by decide +kernel
theorem d_Li_linked_6 : decode b_Li_linked 6 = .ok (.imul, 1) := by decide +kernel
theorem d_Li_linked_7 : decode b_Li_linked 7 = .ok (.iload_n 2, 1) := by decide +kernel
theorem d_Li_linked_8 : decode b_Li_linked 8 = .ok (.iadd, 1) := by decide +kernel
theorem d_Li_linked_9 : decode b_Li_linked 9 = .ok (.bipush 7, 2) := by decide +kernel
theorem d_Li_linked_11 : decode b_Li_linked 11 = .ok (.imul, 1) := by decide +kernel
theorem d_Li_linked_12 : decode b_Li_linked 12 = .ok (.iload_n 3, 1) := by decide +kernel
theorem d_Li_linked_13 : decode b_Li_linked 13 = .ok (.iadd, 1) := by decide +kernel
theorem d_Li_linked_14 : decode b_Li_linked 14 = .ok (.iaload, 1) := by decide +kernel
theorem d_Li_linked_15 : decode b_Li_linked 15 = .ok (.ireturn, 1) := by decide +kernel
theorem d_Li_replace_0 : decode b_Li_replace 0 = .ok (.aload_n 0, 1) := by decide +kernel
theorem d_Li_replace_1 : decode b_Li_replace 1 = .ok (.getfield 18, 3) := by decide +kernel
theorem d_Li_replace_4 : decode b_Li_replace 4 = .ok (.iload_n 1, 1) := by decide +kernel
theorem d_Li_replace_5 : decode b_Li_replace 5 = .ok (.iconst 4, 1) := by decide +kernel
theorem d_Li_replace_6 : decode b_Li_replace 6 = .ok (.imul, 1) := by decide +kernel
theorem d_Li_replace_7 : decode b_Li_replace 7 = .ok (.iload_n 2, 1) := by decide +kernel
theorem d_Li_replace_8 : decode b_Li_replace 8 = .ok (.iadd, 1) := by decide +kernel
theorem d_Li_replace_9 : decode b_Li_replace 9 = .ok (.iconst 0, 1) := by decide +kernel
theorem d_Li_replace_10 : decode b_Li_replace 10 = .ok (.iastore, 1) := by decide +kernel
theorem d_Li_replace_11 : decode b_Li_replace 11 = .ok (.iconst 0, 1) := by decide +kernel
theorem d_Li_replace_12 : decode b_Li_replace 12 = .ok (.istore 4, 2) := by decide +kernel
theorem d_Li_replace_14 : decode b_Li_replace 14 = .ok (.iload 4, 2) := by decide +kernel
theorem d_Li_replace_16 : decode b_Li_replace 16 = .ok (.aload_n 3, 1) := by decide +kernel
theorem d_Li_replace_17 : decode b_Li_replace 17 = .ok (.invokevirtual 46, 3) := by decide +kernel
theorem d_Li_replace_20 : decode b_Li_replace 20 = .ok (.if_icmp .ge 21, 3) := by decide +kernel
theorem d_Li_replace_23 : decode b_Li_replace 23 = .ok (.aload_n 0, 1) := by decide +kernel
theorem d_Li_replace_24 : decode b_Li_replace 24 = .ok (.iload_n 1, 1) := by decide +kernel
theorem d_Li_replace_25 : decode b_Li_replace 25 = .ok (.iload_n 2, 1) := by decide +kernel
theorem d_Li_replace_26 : decode b_Li_replace 26 = .ok (.aload_n 3, 1) := by decide +kernel
theorem d_Li_replace_27 : decode b_Li_replace 27 = .ok (.iload 4, 2) := by decide +kernel
theorem d_Li_replace_29 : decode b_Li_replace 29 = .ok (.invokevirtual 51, 3) := by decide +kernel
theorem d_Li_replace_32 : decode b_Li_replace 32 = .ok (.invokevirtual 54, 3) := by decide +kernel
theorem d_Li_replace_35 : decode b_Li_replace 35 = .ok (.iinc 4 1, 3) := by decide +kernel
theorem d_Li_replace_38 : decode b_Li_replace 38 = .ok (.goto (-24), 3) := by decide +kernel
theorem d_Li_replace_41 : decode b_Li_replace 41 = .ok (.return_, 1) := by decide +kernel
theorem d_Li_append_0 : decode b_Li_append 0 = .ok (.iload_n 1, 1) := by decide +kernel
theorem d_Li_append_1 : decode b_Li_append 1 = .ok (.iconst 4, 1) := by decide +kernel
theorem d_Li_append_2 : decode b_Li_append 2 = .ok (.imul, 1) := by decide +kernel
theorem d_Li_append_3 : decode b_Li_append 3 = .ok (.iload_n 2, 1) := by decide +kernel
theorem d_Li_append_4 : decode b_Li_append 4 = .ok (.iadd, 1) := by decide +kernel
theorem d_Li_append_5 : decode b_Li_append 5 = .ok (.istore 4, 2) := by decide +kernel
theorem d_Li_append_7 : decode b_Li_append 7 = .ok (.aload_n 0, 1) := by decide +kernel
theorem d_Li_append_8 : decode b_Li_append 8 = .ok (.getfield 18, 3) := by decide +kernel
theorem d_Li_append_11 : decode b_Li_append 11 = .ok (.iload 4, 2) := by decide +kernel
theorem d_Li_append_13 : decode b_Li_append 13 = .ok (.iaload, 1) := by decide +kernel
theorem d_Li_append_14 : decode b_Li_append 14 = .ok (.bipush 7, 2) := by decide +kernel
theorem d_Li_append_16 : decode b_Li_append 16 = .ok (.if_icmp .ge 33, 3) := by decide +kernel
theorem d_Li_append_19 : decode b_Li_append 19 = .ok (.aload_n 0, 1) := by decide +kernel
theorem d_Li_append_20 : decode b_Li_append 20 = .ok (.getfield 21, 3) := by decide +kernel
theorem d_Li_append_23 : decode b_Li_append 23 = .ok (.iload 4, 2) := by decide +kernel
theorem d_Li_append_25 : decode b_Li_append 25 = .ok (.bipush 7, 2) := by decide +kernel
theorem d_Li_append_27 : decode b_Li_append 27 = .ok (.imul, 1) := by decide +kernel
theorem d_Li_append_28 : decode b_Li_append 28 = .ok (.aload_n 0, 1) := by decide +kernel
theorem d_Li_append_29 : decode b_Li_append 29 = .ok (.getfield 18, 3) := by decide +kernel
theorem d_Li_append_32 : decode b_Li_append 32 = .ok (.iload 4, 2) := by decide +kernel
theorem d_Li_append_34 : decode b_Li_append 34 = .ok (.iaload, 1) := by decide +kernel
theorem d_Li_append_35 : decode b_Li_append 35 = .ok (.iadd, 1) := by decide +kernel
theorem d_Li_append_36 : decode b_Li_append 36 = .ok (.iload_n 3, 1) := by decide +kernel
theorem d_Li_append_37 : decode b_Li_append 37 = .ok (.iastore, 1) := by decide +kernel
theorem d_Li_append_38 : decode b_Li_append 38 = .ok (.aload_n 0, 1) := by decide +kernel
theorem d_Li_append_39 : decode b_Li_append 39 = .ok (.getfield 18, 3) := by decide +kernel
theorem d_Li_append_42 : decode b_Li_append 42 = .ok (.iload 4, 2) := by decide +kernel
theorem d_Li_append_44 : decode b_Li_append 44 = .ok (.dup2, 1) := by decide +kernel
theorem d_Li_append_45 : decode b_Li_append 45 = .ok (.iaload, 1) := by decide +kernel
theorem d_Li_append_46 : decode b_Li_append 46 = .ok (.iconst 1, 1) := by decide +kernel
theorem d_Li_append_47 : decode b_Li_append 47 = .ok (.iadd, 1) := by decide +kernel
theorem d_Li_append_48 : decode b_Li_append 48 = .ok (.iastore, 1) := by decide +kernel
theorem d_Li_append_49 : decode b_Li_append 49 = .ok (.return_, 1) := by decide +kernel
theorem d_Li_most_0 : decode b_Li_most 0 = .ok (.iload_n 1, 1) := by decide +kernel
theorem d_Li_most_1 : decode b_Li_most 1 = .ok (.ifCond .ne 8, 3) := by decide +kernel
theorem d_Li_most_4 : decode b_Li_most 4 = .ok (.bipush 6, 2) := by decide +kernel
theorem d_Li_most_6 : decode b_Li_most 6 = .ok (.goto 4, 3) := by decide +kernel
theorem d_Li_most_9 : decode b_Li_most 9 = .ok (.iconst 3, 1) := by decide +kernel
theorem d_Li_most_10 : decode b_Li_most 10 = .ok (.ireturn, 1) := by decide +kernel
theorem d_Li_size_0 : decode b_Li_size 0 = .ok (.aload_n 0, 1) := by decide +kernel
theorem d_Li_size_1 : decode b_Li_size 1 = .ok (.getfield 27, 3) := by decide +kernel
theorem d_Li_size_4 : decode b_Li_size 4 = .ok (.ireturn, 1) := by decide +kernel
theorem d_Li_clear_0 : decode b_Li_clear 0 = .ok (.iconst 0, 1) := by decide +kernel
theorem d_Li_clear_1 : decode b_Li_clear 1 = .ok (.istore_n 1, 1) := by decide +kernel
theorem d_Li_clear_2 : decode b_Li_clear 2 = .ok (.iload_n 1, 1) := by decide +kernel
theorem d_Li_clear_3 : decode b_Li_clear 3 = .ok (.bipush 30, 2) := by decide +kernel
theorem d_Li_clear_5 : decode b_Li_clear 5 = .ok (.if_icmp .ge 16, 3) := by decide +kernel
theorem d_Li_clear_8 : decode b_Li_clear 8 = .ok (.aload_n 0, 1) := by decide +kernel
theorem d_Li_clear_9 : decode b_Li_clear 9 = .ok (.getfield 9, 3) := by decide +kernel
theorem d_Li_clear_12 : decode b_Li_clear 12 = .ok (.iload_n 1, 1) := by decide +kernel
theorem d_Li_clear_13 : decode b_Li_clear 13 = .ok (.iconst 0, 1) := by decide +kernel
theorem d_Li_clear_14 : decode b_Li_clear 14 = .ok (.iastore, 1) := by decide +kernel
theorem d_Li_clear_15 : decode b_Li_clear 15 = .ok (.iinc 1 1, 3) := by decide +kernel
theorem d_Li_clear_18 : decode b_Li_clear 18 = .ok (.goto (-16), 3) := by decide +kernel
theorem d_Li_clear_21 : decode b_Li_clear 21 = .ok (.aload_n 0, 1) := by decide +kernel
theorem d_Li_clear_22 : decode b_Li_clear 22 = .ok (.iconst 0, 1) := by decide +kernel
theorem d_Li_clear_23 : decode b_Li_clear 23 = .ok (.putfield 27, 3) := by decide +kernel
theorem d_Li_clear_26 : decode b_Li_clear 26 = .ok (.return_, 1) := by decide +kernel
theorem d_Li_isNode_0 : decode b_Li_isNode 0 = .ok (.iload_n 1, 1) := by decide +kernel
theorem d_Li_isNode_1 : decode b_Li_isNode 1 = .ok (.invokestatic 35, 3) := by decide +kernel
theorem d_Li_isNode_4 : decode b_Li_isNode 4 = .ok (.ifCond .eq 16, 3) := by decide +kernel
theorem d_Li_isNode_7 : decode b_Li_isNode 7 = .ok (.aload_n 0, 1) := by decide +kernel
theorem d_Li_isNode_8 : decode b_Li_isNode 8 = .ok (.getfield 9, 3) := by decide +kernel
theorem d_Li_isNode_11 : decode b_Li_isNode 11 = .ok (.iload_n 1, 1) := by decide +kernel
theorem d_Li_isNode_12 : decode b_Li_isNode 12 = .ok (.iaload, 1) := by decide +kernel
theorem d_Li_isNode_13 : decode b_Li_isNode 13 = .ok (.ifCond .le 7, 3) := by decide +kernel
theorem d_Li_isNode_16 : decode b_Li_isNode 16 = .ok (.iconst 1, 1) := by decide +kernel
theorem d_Li_isNode_17 : decode b_Li_isNode 17 = .ok (.goto 4, 3) := by decide +kernel
theorem d_Li_isNode_20 : decode b_Li_isNode 20 = .ok (.iconst 0, 1) := by decide +kernel
theorem d_Li_isNode_21 : decode b_Li_isNode 21 = .ok (.ireturn, 1) := by decide +kernel
theorem d_Li_isInLayer_0 : decode b_Li_isInLayer 0 = .ok (.aload_n 0, 1) := by decide +kernel
theorem d_Li_isInLayer_1 : decode b_Li_isInLayer 1 = .ok (.iload_n 1, 1) := by decide +kernel
theorem d_Li_isInLayer_2 : decode b_Li_isInLayer 2 = .ok (.invokevirtual 39, 3) := by decide +kernel
theorem d_Li_isInLayer_5 : decode b_Li_isInLayer 5 = .ok (.ifCond .eq 21, 3) := by decide +kernel
theorem d_Li_isInLayer_8 : decode b_Li_isInLayer 8 = .ok (.iload_n 2, 1) := by decide +kernel
theorem d_Li_isInLayer_9 : decode b_Li_isInLayer 9 = .ok (.iconst 0, 1) := by decide +kernel
theorem d_Li_isInLayer_10 : decode b_Li_isInLayer 10 = .ok (.aload_n 0, 1) := by decide +kernel
theorem d_Li_isInLayer_11 : decode b_Li_isInLayer 11 = .ok (.getfield 15, 3) := by decide +kernel
theorem d_Li_isInLayer_14 : decode b_Li_isInLayer 14 = .ok (.iload_n 1, 1) := by decide +kernel
theorem d_Li_isInLayer_15 : decode b_Li_isInLayer 15 = .ok (.iaload, 1) := by decide +kernel
theorem d_Li_isInLayer_16 : decode b_Li_isInLayer 16 = .ok (.invokestatic 42, 3) := by decide +kernel
theorem d_Li_isInLayer_19 : decode b_Li_isInLayer 19 = .ok (.ifCond .eq 7, 3) := by decide +kernel
theorem d_Li_isInLayer_22 : decode b_Li_isInLayer 22 = .ok (.iconst 1, 1) := by decide +kernel
theorem d_Li_isInLayer_23 : decode b_Li_isInLayer 23 = .ok (.goto 4, 3) := by decide +kernel
theorem d_Li_isInLayer_26 : decode b_Li_isInLayer 26 = .ok (.iconst 0, 1) := by decide +kernel
theorem d_Li_isInLayer_27 : decode b_Li_isInLayer 27 = .ok (.ireturn, 1) := by decide +kernel
theorem d_Li_order_0 : decode b_Li_order 0 = .ok (.aload_n 0, 1) := by decide +kernel
theorem d_Li_order_1 : decode b_Li_order 1 = .ok (.getfield 9, 3) := by decide +kernel
theorem d_Li_order_4 : decode b_Li_order 4 = .ok (.iload_n 1, 1) := by decide +kernel
theorem d_Li_order_5 : decode b_Li_order 5 = .ok (.iaload, 1) := by decide +kernel
theorem d_Li_order_6 : decode b_Li_order 6 = .ok (.ireturn, 1) := by decide +kernel
theorem d_Li_oneSidedPairs_0 : decode b_Li_oneSidedPairs 0 = .ok (.iconst 0, 1) := by decide +kernel
theorem d_Li_oneSidedPairs_1 : decode b_Li_oneSidedPairs 1 = .ok (.istore_n 1, 1) := by decide +kernel
theorem d_Li_oneSidedPairs_2 : decode b_Li_oneSidedPairs 2 = .ok (.iconst 0, 1) := by decide +kernel
theorem d_Li_oneSidedPairs_3 : decode b_Li_oneSidedPairs 3 = .ok (.istore_n 2, 1) := by decide +kernel
theorem d_Li_oneSidedPairs_4 : decode b_Li_oneSidedPairs 4 = .ok (.iload_n 2, 1) := by decide +kernel
theorem d_Li_oneSidedPairs_5 : decode b_Li_oneSidedPairs 5 = .ok (.bipush 30, 2) := by decide +kernel
theorem d_Li_oneSidedPairs_7 : decode b_Li_oneSidedPairs 7 = .ok (.if_icmp .ge 25, 3) := by decide +kernel
theorem d_Li_oneSidedPairs_10 : decode b_Li_oneSidedPairs 10 = .ok (.aload_n 0, 1) := by decide +kernel
theorem d_Li_oneSidedPairs_11 : decode b_Li_oneSidedPairs 11 = .ok (.iload_n 2, 1) := by decide +kernel
theorem d_Li_oneSidedPairs_12 : decode b_Li_oneSidedPairs 12 = .ok (.invokevirtual 39, 3) := by decide +kernel
theorem d_Li_oneSidedPairs_15 : decode b_Li_oneSidedPairs 15 = .ok (.ifCond .eq 11, 3) := by decide +kernel
theorem d_Li_oneSidedPairs_18 : decode b_Li_oneSidedPairs 18 = .ok (.iload_n 1, 1) := by decide +kernel
theorem d_Li_oneSidedPairs_19 : decode b_Li_oneSidedPairs 19 = .ok (.aload_n 0, 1) := by decide +kernel
theorem d_Li_oneSidedPairs_20 : decode b_Li_oneSidedPairs 20 = .ok (.iload_n 2, 1) := by decide +kernel
theorem d_Li_oneSidedPairs_21 : decode b_Li_oneSidedPairs 21 = .ok (.invokevirtual 58, 3) := by decide +kernel
theorem d_Li_oneSidedPairs_24 : decode b_Li_oneSidedPairs 24 = .ok (.iadd, 1) := by decide +kernel
theorem d_Li_oneSidedPairs_25 : decode b_Li_oneSidedPairs 25 = .ok (.istore_n 1, 1) := by decide +kernel
theorem d_Li_oneSidedPairs_26 : decode b_Li_oneSidedPairs 26 = .ok (.iinc 2 1, 3) := by decide +kernel
theorem d_Li_oneSidedPairs_29 : decode b_Li_oneSidedPairs 29 = .ok (.goto (-25), 3) := by decide +kernel
theorem d_Li_oneSidedPairs_32 : decode b_Li_oneSidedPairs 32 = .ok (.iload_n 1, 1) := by decide +kernel
theorem d_Li_oneSidedPairs_33 : decode b_Li_oneSidedPairs 33 = .ok (.ireturn, 1) := by decide +kernel
theorem d_Li_unreturned_0 : decode b_Li_unreturned 0 = .ok (.iconst 0, 1) := by decide +kernel
theorem d_Li_unreturned_1 : decode b_Li_unreturned 1 = .ok (.istore_n 2, 1) := by decide +kernel
theorem d_Li_unreturned_2 : decode b_Li_unreturned 2 = .ok (.iconst 0, 1) := by decide +kernel
theorem d_Li_unreturned_3 : decode b_Li_unreturned 3 = .ok (.istore_n 3, 1) := by decide +kernel
theorem d_Li_unreturned_4 : decode b_Li_unreturned 4 = .ok (.iload_n 3, 1) := by decide +kernel
theorem d_Li_unreturned_5 : decode b_Li_unreturned 5 = .ok (.aload_n 0, 1) := by decide +kernel
theorem d_Li_unreturned_6 : decode b_Li_unreturned 6 = .ok (.iload_n 1, 1) := by decide +kernel
theorem d_Li_unreturned_7 : decode b_Li_unreturned 7 = .ok (.iconst 0, 1) := by decide +kernel
theorem d_Li_unreturned_8 : decode b_Li_unreturned 8 = .ok (.invokevirtual 61, 3) := by decide +kernel
theorem d_Li_unreturned_11 : decode b_Li_unreturned 11 = .ok (.if_icmp .ge 27, 3) := by decide +kernel
theorem d_Li_unreturned_14 : decode b_Li_unreturned 14 = .ok (.aload_n 0, 1) := by decide +kernel
theorem d_Li_unreturned_15 : decode b_Li_unreturned 15 = .ok (.aload_n 0, 1) := by decide +kernel
theorem d_Li_unreturned_16 : decode b_Li_unreturned 16 = .ok (.iload_n 1, 1) := by decide +kernel
theorem d_Li_unreturned_17 : decode b_Li_unreturned 17 = .ok (.iconst 0, 1) := by decide +kernel
theorem d_Li_unreturned_18 : decode b_Li_unreturned 18 = .ok (.iload_n 3, 1) := by decide +kernel
theorem d_Li_unreturned_19 : decode b_Li_unreturned 19 = .ok (.invokevirtual 65, 3) := by decide +kernel
theorem d_Li_unreturned_22 : decode b_Li_unreturned 22 = .ok (.iload_n 1, 1) := by decide +kernel
theorem d_Li_unreturned_23 : decode b_Li_unreturned 23 = .ok (.invokevirtual 73, 3) := by decide +kernel
theorem d_Li_unreturned_26 : decode b_Li_unreturned 26 = .ok (.ifCond .ne 6, 3) := by decide +kernel
theorem d_Li_unreturned_29 : decode b_Li_unreturned 29 = .ok (.iinc 2 1, 3) := by decide +kernel
theorem d_Li_unreturned_32 : decode b_Li_unreturned 32 = .ok (.iinc 3 1, 3) := by decide +kernel
theorem d_Li_unreturned_35 : decode b_Li_unreturned 35 = .ok (.goto (-31), 3) := by decide +kernel
theorem d_Li_unreturned_38 : decode b_Li_unreturned 38 = .ok (.iload_n 2, 1) := by decide +kernel
theorem d_Li_unreturned_39 : decode b_Li_unreturned 39 = .ok (.ireturn, 1) := by decide +kernel
theorem d_Li_isLinked_0 : decode b_Li_isLinked 0 = .ok (.iconst 0, 1) := by decide +kernel
theorem d_Li_isLinked_1 : decode b_Li_isLinked 1 = .ok (.istore_n 3, 1) := by decide +kernel
theorem d_Li_isLinked_2 : decode b_Li_isLinked 2 = .ok (.iload_n 3, 1) := by decide +kernel
theorem d_Li_isLinked_3 : decode b_Li_isLinked 3 = .ok (.aload_n 0, 1) := by decide +kernel
theorem d_Li_isLinked_4 : decode b_Li_isLinked 4 = .ok (.iload_n 1, 1) := by decide +kernel
theorem d_Li_isLinked_5 : decode b_Li_isLinked 5 = .ok (.iconst 0, 1) := by decide +kernel
theorem d_Li_isLinked_6 : decode b_Li_isLinked 6 = .ok (.invokevirtual 61, 3) := by decide +kernel
theorem d_Li_isLinked_9 : decode b_Li_isLinked 9 = .ok (.if_icmp .ge 22, 3) := by decide +kernel
theorem d_Li_isLinked_12 : decode b_Li_isLinked 12 = .ok (.aload_n 0, 1) := by decide +kernel
theorem d_Li_isLinked_13 : decode b_Li_isLinked 13 = .ok (.iload_n 1, 1) := by decide +kernel
theorem d_Li_isLinked_14 : decode b_Li_isLinked 14 = .ok (.iconst 0, 1) := by decide +kernel
theorem d_Li_isLinked_15 : decode b_Li_isLinked 15 = .ok (.iload_n 3, 1) := by decide +kernel
theorem d_Li_isLinked_16 : decode b_Li_isLinked 16 = .ok (.invokevirtual 65, 3) := by decide +kernel
theorem d_Li_isLinked_19 : decode b_Li_isLinked 19 = .ok (.iload_n 2, 1) := by decide +kernel
theorem d_Li_isLinked_20 : decode b_Li_isLinked 20 = .ok (.if_icmp .ne 5, 3) := by decide +kernel
theorem d_Li_isLinked_23 : decode b_Li_isLinked 23 = .ok (.iconst 1, 1) := by decide +kernel
theorem d_Li_isLinked_24 : decode b_Li_isLinked 24 = .ok (.ireturn, 1) := by decide +kernel
theorem d_Li_isLinked_25 : decode b_Li_isLinked 25 = .ok (.iinc 3 1, 3) := by decide +kernel
theorem d_Li_isLinked_28 : decode b_Li_isLinked 28 = .ok (.goto (-26), 3) := by decide +kernel
theorem d_Li_isLinked_31 : decode b_Li_isLinked 31 = .ok (.iconst 0, 1) := by decide +kernel
theorem d_Li_isLinked_32 : decode b_Li_isLinked 32 = .ok (.ireturn, 1) := by decide +kernel
theorem d_Li_reachedFrom_0 : decode b_Li_reachedFrom 0 = .ok (.aload_n 0, 1) := by decide +kernel
theorem d_Li_reachedFrom_1 : decode b_Li_reachedFrom 1 = .ok (.iload_n 1, 1) := by decide +kernel
theorem d_Li_reachedFrom_2 : decode b_Li_reachedFrom 2 = .ok (.invokevirtual 39, 3) := by decide +kernel
theorem d_Li_reachedFrom_5 : decode b_Li_reachedFrom 5 = .ok (.ifCond .ne 5, 3) := by decide +kernel
theorem d_Li_reachedFrom_8 : decode b_Li_reachedFrom 8 = .ok (.iconst 0, 1) := by decide +kernel
theorem d_Li_reachedFrom_9 : decode b_Li_reachedFrom 9 = .ok (.ireturn, 1) := by decide +kernel
theorem d_Li_reachedFrom_10 : decode b_Li_reachedFrom 10 = .ok (.iconst 1, 1) := by decide +kernel
theorem d_Li_reachedFrom_11 : decode b_Li_reachedFrom 11 = .ok (.iload_n 1, 1) := by decide +kernel
theorem d_Li_reachedFrom_12 : decode b_Li_reachedFrom 12 = .ok (.ishl, 1) := by decide +kernel
theorem d_Li_reachedFrom_13 : decode b_Li_reachedFrom 13 = .ok (.istore_n 2, 1) := by decide +kernel
theorem d_Li_reachedFrom_14 : decode b_Li_reachedFrom 14 = .ok (.iconst 1, 1) := by decide +kernel
theorem d_Li_reachedFrom_15 : decode b_Li_reachedFrom 15 = .ok (.istore_n 3, 1) := by decide +kernel
theorem d_Li_reachedFrom_16 : decode b_Li_reachedFrom 16 = .ok (.aload_n 0, 1) := by decide +kernel
theorem d_Li_reachedFrom_17 : decode b_Li_reachedFrom 17 = .ok (.getfield 24, 3) := by decide +kernel
theorem d_Li_reachedFrom_20 : decode b_Li_reachedFrom 20 = .ok (.iconst 0, 1) := by decide +kernel
theorem d_Li_reachedFrom_21 : decode b_Li_reachedFrom 21 = .ok (.iload_n 1, 1) := by decide +kernel
theorem d_Li_reachedFrom_22 : decode b_Li_reachedFrom 22 = .ok (.iastore, 1) := by decide +kernel
theorem d_Li_reachedFrom_23 : decode b_Li_reachedFrom 23 = .ok (.iconst 0, 1) := by decide +kernel
theorem d_Li_reachedFrom_24 : decode b_Li_reachedFrom 24 = .ok (.istore 4, 2) := by decide +kernel
theorem d_Li_reachedFrom_26 : decode b_Li_reachedFrom 26 = .ok (.iload 4, 2) := by decide +kernel
theorem d_Li_reachedFrom_28 : decode b_Li_reachedFrom 28 = .ok (.bipush 30, 2) := by decide +kernel
theorem d_Li_reachedFrom_30 : decode b_Li_reachedFrom 30 = .ok (.if_icmp .ge 84, 3) := by decide +kernel
theorem d_Li_reachedFrom_33 : decode b_Li_reachedFrom 33 = .ok (.iload 4, 2) := by decide +kernel
theorem d_Li_reachedFrom_35 : decode b_Li_reachedFrom 35 = .ok (.iload_n 3, 1) := by decide +kernel
theorem d_Li_reachedFrom_36 : decode b_Li_reachedFrom 36 = .ok (.if_icmp .ge 78, 3) := by decide +kernel
theorem d_Li_reachedFrom_39 : decode b_Li_reachedFrom 39 = .ok (.iconst 0, 1) := by decide +kernel
theorem d_Li_reachedFrom_40 : decode b_Li_reachedFrom 40 = .ok (.istore 5, 2) := by decide +kernel
theorem d_Li_reachedFrom_42 : decode b_Li_reachedFrom 42 = .ok (.iload 5, 2) := by decide +kernel
theorem d_Li_reachedFrom_44 : decode b_Li_reachedFrom 44 = .ok (.aload_n 0, 1) := by decide +kernel
theorem d_Li_reachedFrom_45 : decode b_Li_reachedFrom 45 = .ok (.aload_n 0, 1) := by decide +kernel
theorem d_Li_reachedFrom_46 : decode b_Li_reachedFrom 46 = .ok (.getfield 24, 3) := by decide +kernel
theorem d_Li_reachedFrom_49 : decode b_Li_reachedFrom 49 = .ok (.iload 4, 2) := by decide +kernel
theorem d_Li_reachedFrom_51 : decode b_Li_reachedFrom 51 = .ok (.iaload, 1) := by decide +kernel
theorem d_Li_reachedFrom_52 : decode b_Li_reachedFrom 52 = .ok (.iconst 0, 1) := by decide +kernel
theorem d_Li_reachedFrom_53 : decode b_Li_reachedFrom 53 = .ok (.invokevirtual 61, 3) := by decide +kernel
theorem d_Li_reachedFrom_56 : decode b_Li_reachedFrom 56 = .ok (.if_icmp .ge 52, 3) := by decide +kernel
theorem d_Li_reachedFrom_59 : decode b_Li_reachedFrom 59 = .ok (.aload_n 0, 1) := by decide +kernel
theorem d_Li_reachedFrom_60 : decode b_Li_reachedFrom 60 = .ok (.aload_n 0, 1) := by decide +kernel
theorem d_Li_reachedFrom_61 : decode b_Li_reachedFrom 61 = .ok (.getfield 24, 3) := by decide +kernel
theorem d_Li_reachedFrom_64 : decode b_Li_reachedFrom 64 = .ok (.iload 4, 2) := by decide +kernel
theorem d_Li_reachedFrom_66 : decode b_Li_reachedFrom 66 = .ok (.iaload, 1) := by decide +kernel
theorem d_Li_reachedFrom_67 : decode b_Li_reachedFrom 67 = .ok (.iconst 0, 1) := by decide +kernel
theorem d_Li_reachedFrom_68 : decode b_Li_reachedFrom 68 = .ok (.iload 5, 2) := by decide +kernel
theorem d_Li_reachedFrom_70 : decode b_Li_reachedFrom 70 = .ok (.invokevirtual 65, 3) := by decide +kernel
theorem d_Li_reachedFrom_73 : decode b_Li_reachedFrom 73 = .ok (.istore 6, 2) := by decide +kernel
theorem d_Li_reachedFrom_75 : decode b_Li_reachedFrom 75 = .ok (.iload_n 2, 1) := by decide +kernel
theorem d_Li_reachedFrom_76 : decode b_Li_reachedFrom 76 = .ok (.iload 6, 2) := by decide +kernel
theorem d_Li_reachedFrom_78 : decode b_Li_reachedFrom 78 = .ok (.invokestatic 69, 3) := by decide +kernel
theorem d_Li_reachedFrom_81 : decode b_Li_reachedFrom 81 = .ok (.ifCond .ne 21, 3) := by decide +kernel
theorem d_Li_reachedFrom_84 : decode b_Li_reachedFrom 84 = .ok (.iload_n 2, 1) := by decide +kernel
theorem d_Li_reachedFrom_85 : decode b_Li_reachedFrom 85 = .ok (.iconst 1, 1) := by decide +kernel
theorem d_Li_reachedFrom_86 : decode b_Li_reachedFrom 86 = .ok (.iload 6, 2) := by decide +kernel
theorem d_Li_reachedFrom_88 : decode b_Li_reachedFrom 88 = .ok (.ishl, 1) := by decide +kernel
theorem d_Li_reachedFrom_89 : decode b_Li_reachedFrom 89 = .ok (.ior, 1) := by decide +kernel
theorem d_Li_reachedFrom_90 : decode b_Li_reachedFrom 90 = .ok (.istore_n 2, 1) := by decide +kernel
theorem d_Li_reachedFrom_91 : decode b_Li_reachedFrom 91 = .ok (.aload_n 0, 1) := by decide +kernel
theorem d_Li_reachedFrom_92 : decode b_Li_reachedFrom 92 = .ok (.getfield 24, 3) := by decide +kernel
theorem d_Li_reachedFrom_95 : decode b_Li_reachedFrom 95 = .ok (.iload_n 3, 1) := by decide +kernel
theorem d_Li_reachedFrom_96 : decode b_Li_reachedFrom 96 = .ok (.iload 6, 2) := by decide +kernel
theorem d_Li_reachedFrom_98 : decode b_Li_reachedFrom 98 = .ok (.iastore, 1) := by decide +kernel
theorem d_Li_reachedFrom_99 : decode b_Li_reachedFrom 99 = .ok (.iinc 3 1, 3) := by decide +kernel
theorem d_Li_reachedFrom_102 : decode b_Li_reachedFrom 102 = .ok (.iinc 5 1, 3) := by decide +kernel
theorem d_Li_reachedFrom_105 : decode b_Li_reachedFrom 105 = .ok (.goto (-63), 3) := by decide +kernel
theorem d_Li_reachedFrom_108 : decode b_Li_reachedFrom 108 = .ok (.iinc 4 1, 3) := by decide +kernel
theorem d_Li_reachedFrom_111 : decode b_Li_reachedFrom 111 = .ok (.goto (-85), 3) := by decide +kernel
theorem d_Li_reachedFrom_114 : decode b_Li_reachedFrom 114 = .ok (.iload_n 3, 1) := by decide +kernel
theorem d_Li_reachedFrom_115 : decode b_Li_reachedFrom 115 = .ok (.ireturn, 1) := by decide +kernel
end
section
theorem d_Wa_standAt_0 : decode b_Wa_standAt 0 = .ok (.aload_n 1, 1) := by decide +kernel
theorem d_Wa_standAt_1 : decode b_Wa_standAt 1 = .ok (.aload_n 2, 1) := by decide +kernel
theorem d_Wa_standAt_2 : decode b_Wa_standAt 2 = .ok (.aload_n 0, 1) := by decide +kernel
theorem d_Wa_standAt_3 : decode b_Wa_standAt 3 = .ok (.getfield 21, 3) := by decide +kernel
theorem d_Wa_standAt_6 : decode b_Wa_standAt 6 = .ok (.invokevirtual 25, 3) := by decide +kernel
theorem d_Wa_standAt_9 : decode b_Wa_standAt 9 = .ok (.aload_n 0, 1) := by decide +kernel
theorem d_Wa_standAt_10 : decode b_Wa_standAt 10 = .ok (.getfield 12, 3) := by decide +kernel
theorem d_Wa_standAt_13 : decode b_Wa_standAt 13 = .ok (.iconst 1, 1) := by decide +kernel
theorem d_Wa_standAt_14 : decode b_Wa_standAt 14 = .ok (.iconst 0, 1) := by decide +kernel
theorem d_Wa_standAt_15 : decode b_Wa_standAt 15 = .ok (.invokevirtual 31, 3) := by decide +kernel
theorem d_Wa_standAt_18 : decode b_Wa_standAt 18 = .ok (.aload_n 0, 1) := by decide +kernel
theorem d_Wa_standAt_19 : decode b_Wa_standAt 19 = .ok (.getfield 12, 3) := by decide +kernel
theorem d_Wa_standAt_22 : decode b_Wa_standAt 22 = .ok (.iload_n 3, 1) := by decide +kernel
theorem d_Wa_standAt_23 : decode b_Wa_standAt 23 = .ok (.aload_n 0, 1) := by decide +kernel
theorem d_Wa_standAt_24 : decode b_Wa_standAt 24 = .ok (.getfield 21, 3) := by decide +kernel
theorem d_Wa_standAt_27 : decode b_Wa_standAt 27 = .ok (.iload_n 3, 1) := by decide +kernel
theorem d_Wa_standAt_28 : decode b_Wa_standAt 28 = .ok (.iaload, 1) := by decide +kernel
theorem d_Wa_standAt_29 : decode b_Wa_standAt 29 = .ok (.invokevirtual 35, 3) := by decide +kernel
theorem d_Wa_standAt_32 : decode b_Wa_standAt 32 = .ok (.pop, 1) := by decide +kernel
theorem d_Wa_standAt_33 : decode b_Wa_standAt 33 = .ok (.return_, 1) := by decide +kernel
theorem d_Wa_walk_0 : decode b_Wa_walk 0 = .ok (.aload_n 0, 1) := by decide +kernel
theorem d_Wa_walk_1 : decode b_Wa_walk 1 = .ok (.iload_n 3, 1) := by decide +kernel
theorem d_Wa_walk_2 : decode b_Wa_walk 2 = .ok (.invokevirtual 39, 3) := by decide +kernel
theorem d_Wa_walk_5 : decode b_Wa_walk 5 = .ok (.iconst 0, 1) := by decide +kernel
theorem d_Wa_walk_6 : decode b_Wa_walk 6 = .ok (.istore 4, 2) := by decide +kernel
theorem d_Wa_walk_8 : decode b_Wa_walk 8 = .ok (.iload 4, 2) := by decide +kernel
theorem d_Wa_walk_10 : decode b_Wa_walk 10 = .ok (.bipush 30, 2) := by decide +kernel
theorem d_Wa_walk_12 : decode b_Wa_walk 12 = .ok (.if_icmp .ge 76, 3) := by decide +kernel
theorem d_Wa_walk_15 : decode b_Wa_walk 15 = .ok (.aload_n 0, 1) := by decide +kernel
theorem d_Wa_walk_16 : decode b_Wa_walk 16 = .ok (.getfield 18, 3) := by decide +kernel
theorem d_Wa_walk_19 : decode b_Wa_walk 19 = .ok (.invokevirtual 43, 3) := by decide +kernel
theorem d_Wa_walk_22 : decode b_Wa_walk 22 = .ok (.ifCond .le 66, 3) := by decide +kernel
theorem d_Wa_walk_25 : decode b_Wa_walk 25 = .ok (.aload_n 0, 1) := by decide +kernel
theorem d_Wa_walk_26 : decode b_Wa_walk 26 = .ok (.getfield 18, 3) := by decide +kernel
theorem d_Wa_walk_29 : decode b_Wa_walk 29 = .ok (.iconst 0, 1) := by decide +kernel
theorem d_Wa_walk_30 : decode b_Wa_walk 30 = .ok (.invokevirtual 47, 3) := by decide +kernel
theorem d_Wa_walk_33 : decode b_Wa_walk 33 = .ok (.istore 5, 2) := by decide +kernel
theorem d_Wa_walk_35 : decode b_Wa_walk 35 = .ok (.aload_n 0, 1) := by decide +kernel
theorem d_Wa_walk_36 : decode b_Wa_walk 36 = .ok (.getfield 18, 3) := by decide +kernel
theorem d_Wa_walk_39 : decode b_Wa_walk 39 = .ok (.invokevirtual 51, 3) := by decide +kernel
theorem d_Wa_walk_42 : decode b_Wa_walk 42 = .ok (.aload_n 0, 1) := by decide +kernel
theorem d_Wa_walk_43 : decode b_Wa_walk 43 = .ok (.getfield 12, 3) := by decide +kernel
theorem d_Wa_walk_46 : decode b_Wa_walk 46 = .ok (.invokevirtual 54, 3) := by decide +kernel
theorem d_Wa_walk_49 : decode b_Wa_walk 49 = .ok (.ifCond .eq 25, 3) := by decide +kernel
theorem d_Wa_walk_52 : decode b_Wa_walk 52 = .ok (.aload_n 0, 1) := by decide +kernel
theorem d_Wa_walk_53 : decode b_Wa_walk 53 = .ok (.getfield 12, 3) := by decide +kernel
theorem d_Wa_walk_56 : decode b_Wa_walk 56 = .ok (.iload 5, 2) := by decide +kernel
theorem d_Wa_walk_58 : decode b_Wa_walk 58 = .ok (.aload_n 0, 1) := by decide +kernel
theorem d_Wa_walk_59 : decode b_Wa_walk 59 = .ok (.getfield 21, 3) := by decide +kernel
theorem d_Wa_walk_62 : decode b_Wa_walk 62 = .ok (.iload 5, 2) := by decide +kernel
theorem d_Wa_walk_64 : decode b_Wa_walk 64 = .ok (.iaload, 1) := by decide +kernel
theorem d_Wa_walk_65 : decode b_Wa_walk 65 = .ok (.invokevirtual 58, 3) := by decide +kernel
theorem d_Wa_walk_68 : decode b_Wa_walk 68 = .ok (.ifCond .eq 6, 3) := by decide +kernel
theorem d_Wa_walk_71 : decode b_Wa_walk 71 = .ok (.goto 17, 3) := by decide +kernel
theorem d_Wa_walk_74 : decode b_Wa_walk 74 = .ok (.aload_n 0, 1) := by decide +kernel
theorem d_Wa_walk_75 : decode b_Wa_walk 75 = .ok (.aload_n 1, 1) := by decide +kernel
theorem d_Wa_walk_76 : decode b_Wa_walk 76 = .ok (.iload_n 2, 1) := by decide +kernel
theorem d_Wa_walk_77 : decode b_Wa_walk 77 = .ok (.iload 5, 2) := by decide +kernel
theorem d_Wa_walk_79 : decode b_Wa_walk 79 = .ok (.invokevirtual 61, 3) := by decide +kernel
theorem d_Wa_walk_82 : decode b_Wa_walk 82 = .ok (.iinc 4 1, 3) := by decide +kernel
theorem d_Wa_walk_85 : decode b_Wa_walk 85 = .ok (.goto (-77), 3) := by decide +kernel
theorem d_Wa_walk_88 : decode b_Wa_walk 88 = .ok (.aload_n 0, 1) := by decide +kernel
theorem d_Wa_walk_89 : decode b_Wa_walk 89 = .ok (.getfield 65, 3) := by decide +kernel
theorem d_Wa_walk_92 : decode b_Wa_walk 92 = .ok (.invokestatic 69, 3) := by decide +kernel
theorem d_Wa_walk_95 : decode b_Wa_walk 95 = .ok (.ireturn, 1) := by decide +kernel
theorem d_Wa_begin_0 : decode b_Wa_begin 0 = .ok (.aload_n 0, 1) := by decide +kernel
theorem d_Wa_begin_1 : decode b_Wa_begin 1 = .ok (.iconst 0, 1) := by decide +kernel
theorem d_Wa_begin_2 : decode b_Wa_begin 2 = .ok (.putfield 65, 3) := by decide +kernel
theorem d_Wa_begin_5 : decode b_Wa_begin 5 = .ok (.iconst 0, 1) := by decide +kernel
theorem d_Wa_begin_6 : decode b_Wa_begin 6 = .ok (.istore_n 2, 1) := by decide +kernel
theorem d_Wa_begin_7 : decode b_Wa_begin 7 = .ok (.iload_n 2, 1) := by decide +kernel
theorem d_Wa_begin_8 : decode b_Wa_begin 8 = .ok (.aload_n 0, 1) := by decide +kernel
theorem d_Wa_begin_9 : decode b_Wa_begin 9 = .ok (.getfield 12, 3) := by decide +kernel
theorem d_Wa_begin_12 : decode b_Wa_begin 12 = .ok (.invokevirtual 43, 3) := by decide +kernel
theorem d_Wa_begin_15 : decode b_Wa_begin 15 = .ok (.if_icmp .ge 28, 3) := by decide +kernel
theorem d_Wa_begin_18 : decode b_Wa_begin 18 = .ok (.aload_n 0, 1) := by decide +kernel
theorem d_Wa_begin_19 : decode b_Wa_begin 19 = .ok (.dup, 1) := by decide +kernel
theorem d_Wa_begin_20 : decode b_Wa_begin 20 = .ok (.getfield 65, 3) := by decide +kernel
theorem d_Wa_begin_23 : decode b_Wa_begin 23 = .ok (.iconst 1, 1) := by decide +kernel
theorem d_Wa_begin_24 : decode b_Wa_begin 24 = .ok (.aload_n 0, 1) := by decide +kernel
theorem d_Wa_begin_25 : decode b_Wa_begin 25 = .ok (.getfield 12, 3) := by decide +kernel
theorem d_Wa_begin_28 : decode b_Wa_begin 28 = .ok (.iload_n 2, 1) := by decide +kernel
theorem d_Wa_begin_29 : decode b_Wa_begin 29 = .ok (.invokevirtual 47, 3) := by decide +kernel
theorem d_Wa_begin_32 : decode b_Wa_begin 32 = .ok (.ishl, 1) := by decide +kernel
theorem d_Wa_begin_33 : decode b_Wa_begin 33 = .ok (.ior, 1) := by decide +kernel
theorem d_Wa_begin_34 : decode b_Wa_begin 34 = .ok (.putfield 65, 3) := by decide +kernel
theorem d_Wa_begin_37 : decode b_Wa_begin 37 = .ok (.iinc 2 1, 3) := by decide +kernel
theorem d_Wa_begin_40 : decode b_Wa_begin 40 = .ok (.goto (-33), 3) := by decide +kernel
theorem d_Wa_begin_43 : decode b_Wa_begin 43 = .ok (.aload_n 0, 1) := by decide +kernel
theorem d_Wa_begin_44 : decode b_Wa_begin 44 = .ok (.getfield 12, 3) := by decide +kernel
theorem d_Wa_begin_47 : decode b_Wa_begin 47 = .ok (.iload_n 1, 1) := by decide +kernel
theorem d_Wa_begin_48 : decode b_Wa_begin 48 = .ok (.invokevirtual 74, 3) := by decide +kernel
theorem d_Wa_begin_51 : decode b_Wa_begin 51 = .ok (.aload_n 0, 1) := by decide +kernel
theorem d_Wa_begin_52 : decode b_Wa_begin 52 = .ok (.getfield 18, 3) := by decide +kernel
theorem d_Wa_begin_55 : decode b_Wa_begin 55 = .ok (.bipush 30, 2) := by decide +kernel
theorem d_Wa_begin_57 : decode b_Wa_begin 57 = .ok (.iconst 0, 1) := by decide +kernel
theorem d_Wa_begin_58 : decode b_Wa_begin 58 = .ok (.invokevirtual 31, 3) := by decide +kernel
theorem d_Wa_begin_61 : decode b_Wa_begin 61 = .ok (.iconst 0, 1) := by decide +kernel
theorem d_Wa_begin_62 : decode b_Wa_begin 62 = .ok (.istore_n 2, 1) := by decide +kernel
theorem d_Wa_begin_63 : decode b_Wa_begin 63 = .ok (.iload_n 2, 1) := by decide +kernel
theorem d_Wa_begin_64 : decode b_Wa_begin 64 = .ok (.aload_n 0, 1) := by decide +kernel
theorem d_Wa_begin_65 : decode b_Wa_begin 65 = .ok (.getfield 12, 3) := by decide +kernel
theorem d_Wa_begin_68 : decode b_Wa_begin 68 = .ok (.invokevirtual 43, 3) := by decide +kernel
theorem d_Wa_begin_71 : decode b_Wa_begin 71 = .ok (.if_icmp .ge 33, 3) := by decide +kernel
theorem d_Wa_begin_74 : decode b_Wa_begin 74 = .ok (.aload_n 0, 1) := by decide +kernel
theorem d_Wa_begin_75 : decode b_Wa_begin 75 = .ok (.getfield 18, 3) := by decide +kernel
theorem d_Wa_begin_78 : decode b_Wa_begin 78 = .ok (.aload_n 0, 1) := by decide +kernel
theorem d_Wa_begin_79 : decode b_Wa_begin 79 = .ok (.getfield 12, 3) := by decide +kernel
theorem d_Wa_begin_82 : decode b_Wa_begin 82 = .ok (.iload_n 2, 1) := by decide +kernel
theorem d_Wa_begin_83 : decode b_Wa_begin 83 = .ok (.invokevirtual 47, 3) := by decide +kernel
theorem d_Wa_begin_86 : decode b_Wa_begin 86 = .ok (.aload_n 0, 1) := by decide +kernel
theorem d_Wa_begin_87 : decode b_Wa_begin 87 = .ok (.getfield 12, 3) := by decide +kernel
theorem d_Wa_begin_90 : decode b_Wa_begin 90 = .ok (.iload_n 2, 1) := by decide +kernel
theorem d_Wa_begin_91 : decode b_Wa_begin 91 = .ok (.invokevirtual 77, 3) := by decide +kernel
theorem d_Wa_begin_94 : decode b_Wa_begin 94 = .ok (.invokevirtual 35, 3) := by decide +kernel
theorem d_Wa_begin_97 : decode b_Wa_begin 97 = .ok (.pop, 1) := by decide +kernel
theorem d_Wa_begin_98 : decode b_Wa_begin 98 = .ok (.iinc 2 1, 3) := by decide +kernel
theorem d_Wa_begin_101 : decode b_Wa_begin 101 = .ok (.goto (-38), 3) := by decide +kernel
theorem d_Wa_begin_104 : decode b_Wa_begin 104 = .ok (.return_, 1) := by decide +kernel
theorem d_Wa_lookAround_0 : decode b_Wa_lookAround 0 = .ok (.iconst 0, 1) := by decide +kernel
theorem d_Wa_lookAround_1 : decode b_Wa_lookAround 1 = .ok (.istore 4, 2) := by decide +kernel
theorem d_Wa_lookAround_3 : decode b_Wa_lookAround 3 = .ok (.iload 4, 2) := by decide +kernel
theorem d_Wa_lookAround_5 : decode b_Wa_lookAround 5 = .ok (.aload_n 1, 1) := by decide +kernel
theorem d_Wa_lookAround_6 : decode b_Wa_lookAround 6 = .ok (.iload_n 3, 1) := by decide +kernel
theorem d_Wa_lookAround_7 : decode b_Wa_lookAround 7 = .ok (.iload_n 2, 1) := by decide +kernel
theorem d_Wa_lookAround_8 : decode b_Wa_lookAround 8 = .ok (.invokevirtual 80, 3) := by decide +kernel
theorem d_Wa_lookAround_11 : decode b_Wa_lookAround 11 = .ok (.if_icmp .ge 80, 3) := by decide +kernel
theorem d_Wa_lookAround_14 : decode b_Wa_lookAround 14 = .ok (.aload_n 1, 1) := by decide +kernel
theorem d_Wa_lookAround_15 : decode b_Wa_lookAround 15 = .ok (.iload_n 3, 1) := by decide +kernel
theorem d_Wa_lookAround_16 : decode b_Wa_lookAround 16 = .ok (.iload_n 2, 1) := by decide +kernel
theorem d_Wa_lookAround_17 : decode b_Wa_lookAround 17 = .ok (.iload 4, 2) := by decide +kernel
theorem d_Wa_lookAround_19 : decode b_Wa_lookAround 19 = .ok (.invokevirtual 86, 3) := by decide +kernel
theorem d_Wa_lookAround_22 : decode b_Wa_lookAround 22 = .ok (.istore 5, 2) := by decide +kernel
theorem d_Wa_lookAround_24 : decode b_Wa_lookAround 24 = .ok (.aload_n 0, 1) := by decide +kernel
theorem d_Wa_lookAround_25 : decode b_Wa_lookAround 25 = .ok (.getfield 65, 3) := by decide +kernel
theorem d_Wa_lookAround_28 : decode b_Wa_lookAround 28 = .ok (.iload 5, 2) := by decide +kernel
theorem d_Wa_lookAround_30 : decode b_Wa_lookAround 30 = .ok (.invokestatic 90, 3) := by decide +kernel
theorem d_Wa_lookAround_33 : decode b_Wa_lookAround 33 = .ok (.ifCond .ne 52, 3) := by decide +kernel
theorem d_Wa_lookAround_36 : decode b_Wa_lookAround 36 = .ok (.aload_n 0, 1) := by decide +kernel
theorem d_Wa_lookAround_37 : decode b_Wa_lookAround 37 = .ok (.dup, 1) := by decide +kernel
theorem d_Wa_lookAround_38 : decode b_Wa_lookAround 38 = .ok (.getfield 65, 3) := by decide +kernel
theorem d_Wa_lookAround_41 : decode b_Wa_lookAround 41 = .ok (.iconst 1, 1) := by decide +kernel
theorem d_Wa_lookAround_42 : decode b_Wa_lookAround 42 = .ok (.iload 5, 2) := by decide +kernel
theorem d_Wa_lookAround_44 : decode b_Wa_lookAround 44 = .ok (.ishl, 1) := by decide +kernel
theorem d_Wa_lookAround_45 : decode b_Wa_lookAround 45 = .ok (.ior, 1) := by decide +kernel
theorem d_Wa_lookAround_46 : decode b_Wa_lookAround 46 = .ok (.putfield 65, 3) := by decide +kernel
theorem d_Wa_lookAround_49 : decode b_Wa_lookAround 49 = .ok (.aload_n 0, 1) := by decide +kernel
theorem d_Wa_lookAround_50 : decode b_Wa_lookAround 50 = .ok (.getfield 12, 3) := by decide +kernel
theorem d_Wa_lookAround_53 : decode b_Wa_lookAround 53 = .ok (.iload 5, 2) := by decide +kernel
theorem d_Wa_lookAround_55 : decode b_Wa_lookAround 55 = .ok (.aload_n 0, 1) := by decide +kernel
theorem d_Wa_lookAround_56 : decode b_Wa_lookAround 56 = .ok (.getfield 21, 3) := by decide +kernel
theorem d_Wa_lookAround_59 : decode b_Wa_lookAround 59 = .ok (.iload 5, 2) := by decide +kernel
theorem d_Wa_lookAround_61 : decode b_Wa_lookAround 61 = .ok (.iaload, 1) := by decide +kernel
theorem d_Wa_lookAround_62 : decode b_Wa_lookAround 62 = .ok (.invokevirtual 35, 3) := by decide +kernel
theorem d_Wa_lookAround_65 : decode b_Wa_lookAround 65 = .ok (.ifCond .eq 20, 3) := by decide +kernel
theorem d_Wa_lookAround_68 : decode b_Wa_lookAround 68 = .ok (.aload_n 0, 1) := by decide +kernel
theorem d_Wa_lookAround_69 : decode b_Wa_lookAround 69 = .ok (.getfield 18, 3) := by decide +kernel
theorem d_Wa_lookAround_72 : decode b_Wa_lookAround 72 = .ok (.iload 5, 2) := by decide +kernel
theorem d_Wa_lookAround_74 : decode b_Wa_lookAround 74 = .ok (.aload_n 0, 1) := by decide +kernel
theorem d_Wa_lookAround_75 : decode b_Wa_lookAround 75 = .ok (.getfield 21, 3) := by decide +kernel
theorem d_Wa_lookAround_78 : decode b_Wa_lookAround 78 = .ok (.iload 5, 2) := by decide +kernel
theorem d_Wa_lookAround_80 : decode b_Wa_lookAround 80 = .ok (.iaload, 1) := by decide +kernel
theorem d_Wa_lookAround_81 : decode b_Wa_lookAround 81 = .ok (.invokevirtual 35, 3) := by decide +kernel
theorem d_Wa_lookAround_84 : decode b_Wa_lookAround 84 = .ok (.pop, 1) := by decide +kernel
theorem d_Wa_lookAround_85 : decode b_Wa_lookAround 85 = .ok (.iinc 4 1, 3) := by decide +kernel
theorem d_Wa_lookAround_88 : decode b_Wa_lookAround 88 = .ok (.goto (-85), 3) := by decide +kernel
theorem d_Wa_lookAround_91 : decode b_Wa_lookAround 91 = .ok (.return_, 1) := by decide +kernel
theorem d_Wa_held_0 : decode b_Wa_held 0 = .ok (.aload_n 0, 1) := by decide +kernel
theorem d_Wa_held_1 : decode b_Wa_held 1 = .ok (.getfield 12, 3) := by decide +kernel
theorem d_Wa_held_4 : decode b_Wa_held 4 = .ok (.areturn, 1) := by decide +kernel
theorem d_Wa_standNowhere_0 : decode b_Wa_standNowhere 0 = .ok (.aload_n 0, 1) := by decide +kernel
theorem d_Wa_standNowhere_1 : decode b_Wa_standNowhere 1 = .ok (.getfield 12, 3) := by decide +kernel
theorem d_Wa_standNowhere_4 : decode b_Wa_standNowhere 4 = .ok (.iconst 0, 1) := by decide +kernel
theorem d_Wa_standNowhere_5 : decode b_Wa_standNowhere 5 = .ok (.iconst 0, 1) := by decide +kernel
theorem d_Wa_standNowhere_6 : decode b_Wa_standNowhere 6 = .ok (.invokevirtual 31, 3) := by decide +kernel
theorem d_Wa_standNowhere_9 : decode b_Wa_standNowhere 9 = .ok (.return_, 1) := by decide +kernel
end
section
theorem d_Gr_enter_0 : decode b_Gr_enter 0 = .ok (.aload_n 0, 1) := by decide +kernel
theorem d_Gr_enter_1 : decode b_Gr_enter 1 = .ok (.getfield 12, 3) := by decide +kernel
theorem d_Gr_enter_4 : decode b_Gr_enter 4 = .ok (.iload_n 2, 1) := by decide +kernel
theorem d_Gr_enter_5 : decode b_Gr_enter 5 = .ok (.invokevirtual 56, 3) := by decide +kernel
theorem d_Gr_enter_8 : decode b_Gr_enter 8 = .ok (.aload_n 0, 1) := by decide +kernel
theorem d_Gr_enter_9 : decode b_Gr_enter 9 = .ok (.getfield 39, 3) := by decide +kernel
theorem d_Gr_enter_12 : decode b_Gr_enter 12 = .ok (.bipush (-2), 2) := by decide +kernel
theorem d_Gr_enter_14 : decode b_Gr_enter 14 = .ok (.if_icmp .ne 9, 3) := by decide +kernel
theorem d_Gr_enter_17 : decode b_Gr_enter 17 = .ok (.aload_n 0, 1) := by decide +kernel
theorem d_Gr_enter_18 : decode b_Gr_enter 18 = .ok (.iload_n 2, 1) := by decide +kernel
theorem d_Gr_enter_19 : decode b_Gr_enter 19 = .ok (.putfield 39, 3) := by decide +kernel
theorem d_Gr_enter_22 : decode b_Gr_enter 22 = .ok (.return_, 1) := by decide +kernel
theorem d_Gr_enter_23 : decode b_Gr_enter 23 = .ok (.aload_n 0, 1) := by decide +kernel
theorem d_Gr_enter_24 : decode b_Gr_enter 24 = .ok (.getfield 12, 3) := by decide +kernel
theorem d_Gr_enter_27 : decode b_Gr_enter 27 = .ok (.iload_n 2, 1) := by decide +kernel
theorem d_Gr_enter_28 : decode b_Gr_enter 28 = .ok (.invokevirtual 43, 3) := by decide +kernel
theorem d_Gr_enter_31 : decode b_Gr_enter 31 = .ok (.istore_n 3, 1) := by decide +kernel
theorem d_Gr_enter_32 : decode b_Gr_enter 32 = .ok (.aload_n 0, 1) := by decide +kernel
theorem d_Gr_enter_33 : decode b_Gr_enter 33 = .ok (.getfield 21, 3) := by decide +kernel
theorem d_Gr_enter_36 : decode b_Gr_enter 36 = .ok (.aload_n 1, 1) := by decide +kernel
theorem d_Gr_enter_37 : decode b_Gr_enter 37 = .ok (.aload_n 1, 1) := by decide +kernel
theorem d_Gr_enter_38 : decode b_Gr_enter 38 = .ok (.iload_n 2, 1) := by decide +kernel
theorem d_Gr_enter_39 : decode b_Gr_enter 39 = .ok (.invokevirtual 60, 3) := by decide +kernel
theorem d_Gr_enter_42 : decode b_Gr_enter 42 = .ok (.aload_n 0, 1) := by decide +kernel
theorem d_Gr_enter_43 : decode b_Gr_enter 43 = .ok (.getfield 39, 3) := by decide +kernel
theorem d_Gr_enter_46 : decode b_Gr_enter 46 = .ok (.invokevirtual 66, 3) := by decide +kernel
theorem d_Gr_enter_49 : decode b_Gr_enter 49 = .ok (.aload_n 0, 1) := by decide +kernel
theorem d_Gr_enter_50 : decode b_Gr_enter 50 = .ok (.invokevirtual 70, 3) := by decide +kernel
theorem d_Gr_enter_53 : decode b_Gr_enter 53 = .ok (.istore 4, 2) := by decide +kernel
theorem d_Gr_enter_55 : decode b_Gr_enter 55 = .ok (.iload 4, 2) := by decide +kernel
theorem d_Gr_enter_57 : decode b_Gr_enter 57 = .ok (.ifCond .lt 67, 3) := by decide +kernel
theorem d_Gr_enter_60 : decode b_Gr_enter 60 = .ok (.iload 4, 2) := by decide +kernel
theorem d_Gr_enter_62 : decode b_Gr_enter 62 = .ok (.iload_n 3, 1) := by decide +kernel
theorem d_Gr_enter_63 : decode b_Gr_enter 63 = .ok (.if_icmp .le 7, 3) := by decide +kernel
theorem d_Gr_enter_66 : decode b_Gr_enter 66 = .ok (.iconst 1, 1) := by decide +kernel
theorem d_Gr_enter_67 : decode b_Gr_enter 67 = .ok (.goto 4, 3) := by decide +kernel
theorem d_Gr_enter_70 : decode b_Gr_enter 70 = .ok (.iconst 0, 1) := by decide +kernel
theorem d_Gr_enter_71 : decode b_Gr_enter 71 = .ok (.istore 5, 2) := by decide +kernel
theorem d_Gr_enter_73 : decode b_Gr_enter 73 = .ok (.aload_n 0, 1) := by decide +kernel
theorem d_Gr_enter_74 : decode b_Gr_enter 74 = .ok (.dup, 1) := by decide +kernel
theorem d_Gr_enter_75 : decode b_Gr_enter 75 = .ok (.getfield 50, 3) := by decide +kernel
theorem d_Gr_enter_78 : decode b_Gr_enter 78 = .ok (.aload_n 0, 1) := by decide +kernel
theorem d_Gr_enter_79 : decode b_Gr_enter 79 = .ok (.getfield 21, 3) := by decide +kernel
theorem d_Gr_enter_82 : decode b_Gr_enter 82 = .ok (.aload_n 0, 1) := by decide +kernel
theorem d_Gr_enter_83 : decode b_Gr_enter 83 = .ok (.getfield 12, 3) := by decide +kernel
theorem d_Gr_enter_86 : decode b_Gr_enter 86 = .ok (.iload 4, 2) := by decide +kernel
theorem d_Gr_enter_88 : decode b_Gr_enter 88 = .ok (.iload 5, 2) := by decide +kernel
theorem d_Gr_enter_90 : decode b_Gr_enter 90 = .ok (.ifCond .eq 7, 3) := by decide +kernel
theorem d_Gr_enter_93 : decode b_Gr_enter 93 = .ok (.iconst 1, 1) := by decide +kernel
theorem d_Gr_enter_94 : decode b_Gr_enter 94 = .ok (.goto 4, 3) := by decide +kernel
theorem d_Gr_enter_97 : decode b_Gr_enter 97 = .ok (.iconst 5, 1) := by decide +kernel
theorem d_Gr_enter_98 : decode b_Gr_enter 98 = .ok (.invokevirtual 74, 3) := by decide +kernel
theorem d_Gr_enter_101 : decode b_Gr_enter 101 = .ok (.iadd, 1) := by decide +kernel
theorem d_Gr_enter_102 : decode b_Gr_enter 102 = .ok (.putfield 50, 3) := by decide +kernel
theorem d_Gr_enter_105 : decode b_Gr_enter 105 = .ok (.iload 5, 2) := by decide +kernel
theorem d_Gr_enter_107 : decode b_Gr_enter 107 = .ok (.ifCond .ne 11, 3) := by decide +kernel
theorem d_Gr_enter_110 : decode b_Gr_enter 110 = .ok (.aload_n 0, 1) := by decide +kernel
theorem d_Gr_enter_111 : decode b_Gr_enter 111 = .ok (.aload_n 1, 1) := by decide +kernel
theorem d_Gr_enter_112 : decode b_Gr_enter 112 = .ok (.iload_n 2, 1) := by decide +kernel
theorem d_Gr_enter_113 : decode b_Gr_enter 113 = .ok (.iload 4, 2) := by decide +kernel
theorem d_Gr_enter_115 : decode b_Gr_enter 115 = .ok (.invokevirtual 78, 3) := by decide +kernel
theorem d_Gr_enter_118 : decode b_Gr_enter 118 = .ok (.iinc 4 (-1), 3) := by decide +kernel
theorem d_Gr_enter_121 : decode b_Gr_enter 121 = .ok (.goto (-66), 3) := by decide +kernel
theorem d_Gr_enter_124 : decode b_Gr_enter 124 = .ok (.iload_n 3, 1) := by decide +kernel
theorem d_Gr_enter_125 : decode b_Gr_enter 125 = .ok (.aload_n 0, 1) := by decide +kernel
theorem d_Gr_enter_126 : decode b_Gr_enter 126 = .ok (.invokevirtual 70, 3) := by decide +kernel
theorem d_Gr_enter_129 : decode b_Gr_enter 129 = .ok (.if_icmp .le 8, 3) := by decide +kernel
theorem d_Gr_enter_132 : decode b_Gr_enter 132 = .ok (.aload_n 0, 1) := by decide +kernel
theorem d_Gr_enter_133 : decode b_Gr_enter 133 = .ok (.iload_n 2, 1) := by decide +kernel
theorem d_Gr_enter_134 : decode b_Gr_enter 134 = .ok (.putfield 39, 3) := by decide +kernel
theorem d_Gr_enter_137 : decode b_Gr_enter 137 = .ok (.return_, 1) := by decide +kernel
theorem d_Gr_top_0 : decode b_Gr_top 0 = .ok (.aload_n 0, 1) := by decide +kernel
theorem d_Gr_top_1 : decode b_Gr_top 1 = .ok (.getfield 39, 3) := by decide +kernel
theorem d_Gr_top_4 : decode b_Gr_top 4 = .ok (.bipush (-2), 2) := by decide +kernel
theorem d_Gr_top_6 : decode b_Gr_top 6 = .ok (.if_icmp .ne 8, 3) := by decide +kernel
theorem d_Gr_top_9 : decode b_Gr_top 9 = .ok (.bipush (-2), 2) := by decide +kernel
theorem d_Gr_top_11 : decode b_Gr_top 11 = .ok (.goto 14, 3) := by decide +kernel
theorem d_Gr_top_14 : decode b_Gr_top 14 = .ok (.aload_n 0, 1) := by decide +kernel
theorem d_Gr_top_15 : decode b_Gr_top 15 = .ok (.getfield 12, 3) := by decide +kernel
theorem d_Gr_top_18 : decode b_Gr_top 18 = .ok (.aload_n 0, 1) := by decide +kernel
theorem d_Gr_top_19 : decode b_Gr_top 19 = .ok (.getfield 39, 3) := by decide +kernel
theorem d_Gr_top_22 : decode b_Gr_top 22 = .ok (.invokevirtual 43, 3) := by decide +kernel
theorem d_Gr_top_25 : decode b_Gr_top 25 = .ok (.ireturn, 1) := by decide +kernel
theorem d_Gr_link_0 : decode b_Gr_link 0 = .ok (.aload_n 0, 1) := by decide +kernel
theorem d_Gr_link_1 : decode b_Gr_link 1 = .ok (.getfield 28, 3) := by decide +kernel
theorem d_Gr_link_4 : decode b_Gr_link 4 = .ok (.aload_n 1, 1) := by decide +kernel
theorem d_Gr_link_5 : decode b_Gr_link 5 = .ok (.aload_n 0, 1) := by decide +kernel
theorem d_Gr_link_6 : decode b_Gr_link 6 = .ok (.getfield 21, 3) := by decide +kernel
theorem d_Gr_link_9 : decode b_Gr_link 9 = .ok (.invokevirtual 85, 3) := by decide +kernel
theorem d_Gr_link_12 : decode b_Gr_link 12 = .ok (.iconst 3, 1) := by decide +kernel
theorem d_Gr_link_13 : decode b_Gr_link 13 = .ok (.invokevirtual 89, 3) := by decide +kernel
theorem d_Gr_link_16 : decode b_Gr_link 16 = .ok (.aload_n 0, 1) := by decide +kernel
theorem d_Gr_link_17 : decode b_Gr_link 17 = .ok (.getfield 12, 3) := by decide +kernel
theorem d_Gr_link_20 : decode b_Gr_link 20 = .ok (.iload_n 2, 1) := by decide +kernel
theorem d_Gr_link_21 : decode b_Gr_link 21 = .ok (.iload_n 3, 1) := by decide +kernel
theorem d_Gr_link_22 : decode b_Gr_link 22 = .ok (.aload_n 0, 1) := by decide +kernel
theorem d_Gr_link_23 : decode b_Gr_link 23 = .ok (.getfield 28, 3) := by decide +kernel
theorem d_Gr_link_26 : decode b_Gr_link 26 = .ok (.invokevirtual 93, 3) := by decide +kernel
theorem d_Gr_link_29 : decode b_Gr_link 29 = .ok (.iconst 0, 1) := by decide +kernel
theorem d_Gr_link_30 : decode b_Gr_link 30 = .ok (.istore 4, 2) := by decide +kernel
theorem d_Gr_link_32 : decode b_Gr_link 32 = .ok (.iload 4, 2) := by decide +kernel
theorem d_Gr_link_34 : decode b_Gr_link 34 = .ok (.aload_n 0, 1) := by decide +kernel
theorem d_Gr_link_35 : decode b_Gr_link 35 = .ok (.getfield 12, 3) := by decide +kernel
theorem d_Gr_link_38 : decode b_Gr_link 38 = .ok (.iload_n 2, 1) := by decide +kernel
theorem d_Gr_link_39 : decode b_Gr_link 39 = .ok (.iload_n 3, 1) := by decide +kernel
theorem d_Gr_link_40 : decode b_Gr_link 40 = .ok (.invokevirtual 97, 3) := by decide +kernel
theorem d_Gr_link_43 : decode b_Gr_link 43 = .ok (.if_icmp .ge 62, 3) := by decide +kernel
theorem d_Gr_link_46 : decode b_Gr_link 46 = .ok (.aload_n 0, 1) := by decide +kernel
theorem d_Gr_link_47 : decode b_Gr_link 47 = .ok (.getfield 12, 3) := by decide +kernel
theorem d_Gr_link_50 : decode b_Gr_link 50 = .ok (.iload_n 2, 1) := by decide +kernel
theorem d_Gr_link_51 : decode b_Gr_link 51 = .ok (.iload_n 3, 1) := by decide +kernel
theorem d_Gr_link_52 : decode b_Gr_link 52 = .ok (.iload 4, 2) := by decide +kernel
theorem d_Gr_link_54 : decode b_Gr_link 54 = .ok (.invokevirtual 101, 3) := by decide +kernel
theorem d_Gr_link_57 : decode b_Gr_link 57 = .ok (.istore 5, 2) := by decide +kernel
theorem d_Gr_link_59 : decode b_Gr_link 59 = .ok (.aload_n 0, 1) := by decide +kernel
theorem d_Gr_link_60 : decode b_Gr_link 60 = .ok (.getfield 12, 3) := by decide +kernel
theorem d_Gr_link_63 : decode b_Gr_link 63 = .ok (.iload 5, 2) := by decide +kernel
theorem d_Gr_link_65 : decode b_Gr_link 65 = .ok (.iload_n 3, 1) := by decide +kernel
theorem d_Gr_link_66 : decode b_Gr_link 66 = .ok (.iload_n 2, 1) := by decide +kernel
theorem d_Gr_link_67 : decode b_Gr_link 67 = .ok (.invokevirtual 105, 3) := by decide +kernel
theorem d_Gr_link_70 : decode b_Gr_link 70 = .ok (.aload_n 0, 1) := by decide +kernel
theorem d_Gr_link_71 : decode b_Gr_link 71 = .ok (.getfield 12, 3) := by decide +kernel
theorem d_Gr_link_74 : decode b_Gr_link 74 = .ok (.iload 5, 2) := by decide +kernel
theorem d_Gr_link_76 : decode b_Gr_link 76 = .ok (.iload_n 3, 1) := by decide +kernel
theorem d_Gr_link_77 : decode b_Gr_link 77 = .ok (.invokevirtual 97, 3) := by decide +kernel
theorem d_Gr_link_80 : decode b_Gr_link 80 = .ok (.aload_n 0, 1) := by decide +kernel
theorem d_Gr_link_81 : decode b_Gr_link 81 = .ok (.getfield 12, 3) := by decide +kernel
theorem d_Gr_link_84 : decode b_Gr_link 84 = .ok (.iload_n 3, 1) := by decide +kernel
theorem d_Gr_link_85 : decode b_Gr_link 85 = .ok (.invokevirtual 109, 3) := by decide +kernel
theorem d_Gr_link_88 : decode b_Gr_link 88 = .ok (.if_icmp .le 11, 3) := by decide +kernel
theorem d_Gr_link_91 : decode b_Gr_link 91 = .ok (.aload_n 0, 1) := by decide +kernel
theorem d_Gr_link_92 : decode b_Gr_link 92 = .ok (.aload_n 1, 1) := by decide +kernel
theorem d_Gr_link_93 : decode b_Gr_link 93 = .ok (.iload 5, 2) := by decide +kernel
theorem d_Gr_link_95 : decode b_Gr_link 95 = .ok (.iload_n 3, 1) := by decide +kernel
theorem d_Gr_link_96 : decode b_Gr_link 96 = .ok (.invokevirtual 112, 3) := by decide +kernel
theorem d_Gr_link_99 : decode b_Gr_link 99 = .ok (.iinc 4 1, 3) := by decide +kernel
theorem d_Gr_link_102 : decode b_Gr_link 102 = .ok (.goto (-70), 3) := by decide +kernel
theorem d_Gr_link_105 : decode b_Gr_link 105 = .ok (.return_, 1) := by decide +kernel
theorem d_Gr_shorten_0 : decode b_Gr_shorten 0 = .ok (.aload_n 0, 1) := by decide +kernel
theorem d_Gr_shorten_1 : decode b_Gr_shorten 1 = .ok (.getfield 35, 3) := by decide +kernel
theorem d_Gr_shorten_4 : decode b_Gr_shorten 4 = .ok (.bipush 30, 2) := by decide +kernel
theorem d_Gr_shorten_6 : decode b_Gr_shorten 6 = .ok (.iconst 0, 1) := by decide +kernel
theorem d_Gr_shorten_7 : decode b_Gr_shorten 7 = .ok (.invokevirtual 115, 3) := by decide +kernel
theorem d_Gr_shorten_10 : decode b_Gr_shorten 10 = .ok (.iconst 0, 1) := by decide +kernel
theorem d_Gr_shorten_11 : decode b_Gr_shorten 11 = .ok (.istore 4, 2) := by decide +kernel
theorem d_Gr_shorten_13 : decode b_Gr_shorten 13 = .ok (.iload 4, 2) := by decide +kernel
theorem d_Gr_shorten_15 : decode b_Gr_shorten 15 = .ok (.aload_n 0, 1) := by decide +kernel
theorem d_Gr_shorten_16 : decode b_Gr_shorten 16 = .ok (.getfield 12, 3) := by decide +kernel
theorem d_Gr_shorten_19 : decode b_Gr_shorten 19 = .ok (.iload_n 2, 1) := by decide +kernel
theorem d_Gr_shorten_20 : decode b_Gr_shorten 20 = .ok (.iload_n 3, 1) := by decide +kernel
theorem d_Gr_shorten_21 : decode b_Gr_shorten 21 = .ok (.invokevirtual 97, 3) := by decide +kernel
theorem d_Gr_shorten_24 : decode b_Gr_shorten 24 = .ok (.if_icmp .ge 46, 3) := by decide +kernel
theorem d_Gr_shorten_27 : decode b_Gr_shorten 27 = .ok (.aload_n 0, 1) := by decide +kernel
theorem d_Gr_shorten_28 : decode b_Gr_shorten 28 = .ok (.getfield 12, 3) := by decide +kernel
theorem d_Gr_shorten_31 : decode b_Gr_shorten 31 = .ok (.iload_n 2, 1) := by decide +kernel
theorem d_Gr_shorten_32 : decode b_Gr_shorten 32 = .ok (.iload_n 3, 1) := by decide +kernel
theorem d_Gr_shorten_33 : decode b_Gr_shorten 33 = .ok (.iload 4, 2) := by decide +kernel
theorem d_Gr_shorten_35 : decode b_Gr_shorten 35 = .ok (.invokevirtual 101, 3) := by decide +kernel
theorem d_Gr_shorten_38 : decode b_Gr_shorten 38 = .ok (.istore 5, 2) := by decide +kernel
theorem d_Gr_shorten_40 : decode b_Gr_shorten 40 = .ok (.aload_n 0, 1) := by decide +kernel
theorem d_Gr_shorten_41 : decode b_Gr_shorten 41 = .ok (.getfield 35, 3) := by decide +kernel
theorem d_Gr_shorten_44 : decode b_Gr_shorten 44 = .ok (.iload 5, 2) := by decide +kernel
theorem d_Gr_shorten_46 : decode b_Gr_shorten 46 = .ok (.aload_n 1, 1) := by decide +kernel
theorem d_Gr_shorten_47 : decode b_Gr_shorten 47 = .ok (.iload_n 2, 1) := by decide +kernel
theorem d_Gr_shorten_48 : decode b_Gr_shorten 48 = .ok (.invokevirtual 60, 3) := by decide +kernel
theorem d_Gr_shorten_51 : decode b_Gr_shorten 51 = .ok (.aload_n 1, 1) := by decide +kernel
theorem d_Gr_shorten_52 : decode b_Gr_shorten 52 = .ok (.iload 5, 2) := by decide +kernel
theorem d_Gr_shorten_54 : decode b_Gr_shorten 54 = .ok (.invokevirtual 60, 3) := by decide +kernel
theorem d_Gr_shorten_57 : decode b_Gr_shorten 57 = .ok (.invokestatic 119, 3) := by decide +kernel
theorem d_Gr_shorten_60 : decode b_Gr_shorten 60 = .ok (.invokevirtual 123, 3) := by decide +kernel
theorem d_Gr_shorten_63 : decode b_Gr_shorten 63 = .ok (.pop, 1) := by decide +kernel
theorem d_Gr_shorten_64 : decode b_Gr_shorten 64 = .ok (.iinc 4 1, 3) := by decide +kernel
theorem d_Gr_shorten_67 : decode b_Gr_shorten 67 = .ok (.goto (-54), 3) := by decide +kernel
theorem d_Gr_shorten_70 : decode b_Gr_shorten 70 = .ok (.aload_n 0, 1) := by decide +kernel
theorem d_Gr_shorten_71 : decode b_Gr_shorten 71 = .ok (.getfield 28, 3) := by decide +kernel
theorem d_Gr_shorten_74 : decode b_Gr_shorten 74 = .ok (.aload_n 1, 1) := by decide +kernel
theorem d_Gr_shorten_75 : decode b_Gr_shorten 75 = .ok (.aload_n 0, 1) := by decide +kernel
theorem d_Gr_shorten_76 : decode b_Gr_shorten 76 = .ok (.getfield 35, 3) := by decide +kernel
theorem d_Gr_shorten_79 : decode b_Gr_shorten 79 = .ok (.aload_n 0, 1) := by decide +kernel
theorem d_Gr_shorten_80 : decode b_Gr_shorten 80 = .ok (.getfield 12, 3) := by decide +kernel
theorem d_Gr_shorten_83 : decode b_Gr_shorten 83 = .ok (.iload_n 3, 1) := by decide +kernel
theorem d_Gr_shorten_84 : decode b_Gr_shorten 84 = .ok (.invokevirtual 109, 3) := by decide +kernel
theorem d_Gr_shorten_87 : decode b_Gr_shorten 87 = .ok (.invokevirtual 89, 3) := by decide +kernel
theorem d_Gr_shorten_90 : decode b_Gr_shorten 90 = .ok (.aload_n 0, 1) := by decide +kernel
theorem d_Gr_shorten_91 : decode b_Gr_shorten 91 = .ok (.getfield 12, 3) := by decide +kernel
theorem d_Gr_shorten_94 : decode b_Gr_shorten 94 = .ok (.iload_n 2, 1) := by decide +kernel
theorem d_Gr_shorten_95 : decode b_Gr_shorten 95 = .ok (.iload_n 3, 1) := by decide +kernel
theorem d_Gr_shorten_96 : decode b_Gr_shorten 96 = .ok (.aload_n 0, 1) := by decide +kernel
theorem d_Gr_shorten_97 : decode b_Gr_shorten 97 = .ok (.getfield 28, 3) := by decide +kernel
theorem d_Gr_shorten_100 : decode b_Gr_shorten 100 = .ok (.invokevirtual 93, 3) := by decide +kernel
theorem d_Gr_shorten_103 : decode b_Gr_shorten 103 = .ok (.return_, 1) := by decide +kernel
theorem d_Gr_clear_0 : decode b_Gr_clear 0 = .ok (.aload_n 0, 1) := by decide +kernel
theorem d_Gr_clear_1 : decode b_Gr_clear 1 = .ok (.getfield 12, 3) := by decide +kernel
theorem d_Gr_clear_4 : decode b_Gr_clear 4 = .ok (.invokevirtual 53, 3) := by decide +kernel
theorem d_Gr_clear_7 : decode b_Gr_clear 7 = .ok (.aload_n 0, 1) := by decide +kernel
theorem d_Gr_clear_8 : decode b_Gr_clear 8 = .ok (.bipush (-2), 2) := by decide +kernel
theorem d_Gr_clear_10 : decode b_Gr_clear 10 = .ok (.putfield 39, 3) := by decide +kernel
theorem d_Gr_clear_13 : decode b_Gr_clear 13 = .ok (.return_, 1) := by decide +kernel
theorem d_Gr_search_0 : decode b_Gr_search 0 = .ok (.aload_n 0, 1) := by decide +kernel
theorem d_Gr_search_1 : decode b_Gr_search 1 = .ok (.getfield 39, 3) := by decide +kernel
theorem d_Gr_search_4 : decode b_Gr_search 4 = .ok (.bipush (-2), 2) := by decide +kernel
theorem d_Gr_search_6 : decode b_Gr_search 6 = .ok (.if_icmp .ne 13, 3) := by decide +kernel
theorem d_Gr_search_9 : decode b_Gr_search 9 = .ok (.aload_n 0, 1) := by decide +kernel
theorem d_Gr_search_10 : decode b_Gr_search 10 = .ok (.getfield 21, 3) := by decide +kernel
theorem d_Gr_search_13 : decode b_Gr_search 13 = .ok (.invokevirtual 82, 3) := by decide +kernel
theorem d_Gr_search_16 : decode b_Gr_search 16 = .ok (.goto 65, 3) := by decide +kernel
theorem d_Gr_search_19 : decode b_Gr_search 19 = .ok (.aload_n 0, 1) := by decide +kernel
theorem d_Gr_search_20 : decode b_Gr_search 20 = .ok (.getfield 21, 3) := by decide +kernel
theorem d_Gr_search_23 : decode b_Gr_search 23 = .ok (.aload_n 1, 1) := by decide +kernel
theorem d_Gr_search_24 : decode b_Gr_search 24 = .ok (.aload_n 2, 1) := by decide +kernel
theorem d_Gr_search_25 : decode b_Gr_search 25 = .ok (.aload_n 0, 1) := by decide +kernel
theorem d_Gr_search_26 : decode b_Gr_search 26 = .ok (.getfield 39, 3) := by decide +kernel
theorem d_Gr_search_29 : decode b_Gr_search 29 = .ok (.invokevirtual 66, 3) := by decide +kernel
theorem d_Gr_search_32 : decode b_Gr_search 32 = .ok (.aload_n 0, 1) := by decide +kernel
theorem d_Gr_search_33 : decode b_Gr_search 33 = .ok (.invokevirtual 70, 3) := by decide +kernel
theorem d_Gr_search_36 : decode b_Gr_search 36 = .ok (.istore 4, 2) := by decide +kernel
theorem d_Gr_search_38 : decode b_Gr_search 38 = .ok (.iload 4, 2) := by decide +kernel
theorem d_Gr_search_40 : decode b_Gr_search 40 = .ok (.ifCond .lt 41, 3) := by decide +kernel
theorem d_Gr_search_43 : decode b_Gr_search 43 = .ok (.aload_n 0, 1) := by decide +kernel
theorem d_Gr_search_44 : decode b_Gr_search 44 = .ok (.dup, 1) := by decide +kernel
theorem d_Gr_search_45 : decode b_Gr_search 45 = .ok (.getfield 47, 3) := by decide +kernel
theorem d_Gr_search_48 : decode b_Gr_search 48 = .ok (.aload_n 0, 1) := by decide +kernel
theorem d_Gr_search_49 : decode b_Gr_search 49 = .ok (.getfield 21, 3) := by decide +kernel
theorem d_Gr_search_52 : decode b_Gr_search 52 = .ok (.aload_n 0, 1) := by decide +kernel
theorem d_Gr_search_53 : decode b_Gr_search 53 = .ok (.getfield 12, 3) := by decide +kernel
theorem d_Gr_search_56 : decode b_Gr_search 56 = .ok (.iload 4, 2) := by decide +kernel
theorem d_Gr_search_58 : decode b_Gr_search 58 = .ok (.iload 4, 2) := by decide +kernel
theorem d_Gr_search_60 : decode b_Gr_search 60 = .ok (.ifCond .le 7, 3) := by decide +kernel
theorem d_Gr_search_63 : decode b_Gr_search 63 = .ok (.iconst 1, 1) := by decide +kernel
theorem d_Gr_search_64 : decode b_Gr_search 64 = .ok (.goto 4, 3) := by decide +kernel
theorem d_Gr_search_67 : decode b_Gr_search 67 = .ok (.iload_n 3, 1) := by decide +kernel
theorem d_Gr_search_68 : decode b_Gr_search 68 = .ok (.invokevirtual 74, 3) := by decide +kernel
theorem d_Gr_search_71 : decode b_Gr_search 71 = .ok (.iadd, 1) := by decide +kernel
theorem d_Gr_search_72 : decode b_Gr_search 72 = .ok (.putfield 47, 3) := by decide +kernel
theorem d_Gr_search_75 : decode b_Gr_search 75 = .ok (.iinc 4 (-1), 3) := by decide +kernel
theorem d_Gr_search_78 : decode b_Gr_search 78 = .ok (.goto (-40), 3) := by decide +kernel
theorem d_Gr_search_81 : decode b_Gr_search 81 = .ok (.aload_n 0, 1) := by decide +kernel
theorem d_Gr_search_82 : decode b_Gr_search 82 = .ok (.getfield 21, 3) := by decide +kernel
theorem d_Gr_search_85 : decode b_Gr_search 85 = .ok (.invokevirtual 85, 3) := by decide +kernel
theorem d_Gr_search_88 : decode b_Gr_search 88 = .ok (.areturn, 1) := by decide +kernel
theorem d_Gr_entry_0 : decode b_Gr_entry 0 = .ok (.aload_n 0, 1) := by decide +kernel
theorem d_Gr_entry_1 : decode b_Gr_entry 1 = .ok (.getfield 39, 3) := by decide +kernel
theorem d_Gr_entry_4 : decode b_Gr_entry 4 = .ok (.ireturn, 1) := by decide +kernel
theorem d_Gr_seenInSearches_0 : decode b_Gr_seenInSearches 0 = .ok (.aload_n 0, 1) := by decide +kernel
theorem d_Gr_seenInSearches_1 : decode b_Gr_seenInSearches 1 = .ok (.getfield 47, 3) := by decide +kernel
theorem d_Gr_seenInSearches_4 : decode b_Gr_seenInSearches 4 = .ok (.ireturn, 1) := by decide +kernel
theorem d_Gr_seenInEntering_0 : decode b_Gr_seenInEntering 0 = .ok (.aload_n 0, 1) := by decide +kernel
theorem d_Gr_seenInEntering_1 : decode b_Gr_seenInEntering 1 = .ok (.getfield 50, 3) := by decide +kernel
theorem d_Gr_seenInEntering_4 : decode b_Gr_seenInEntering 4 = .ok (.ireturn, 1) := by decide +kernel
end
section
theorem d_Nd_put_0 : decode b_Nd_put 0 = .ok (.iload_n 1, 1) := by decide +kernel
theorem d_Nd_put_1 : decode b_Nd_put 1 = .ok (.iload_n 2, 1) := by decide +kernel
theorem d_Nd_put_2 : decode b_Nd_put 2 = .ok (.iload_n 3, 1) := by decide +kernel
theorem d_Nd_put_3 : decode b_Nd_put 3 = .ok (.iload 4, 2) := by decide +kernel
theorem d_Nd_put_5 : decode b_Nd_put 5 = .ok (.invokestatic 40, 3) := by decide +kernel
theorem d_Nd_put_8 : decode b_Nd_put 8 = .ok (.ifCond .eq 14, 3) := by decide +kernel
theorem d_Nd_put_11 : decode b_Nd_put 11 = .ok (.iload 5, 2) := by decide +kernel
theorem d_Nd_put_13 : decode b_Nd_put 13 = .ok (.iconst 0, 1) := by decide +kernel
theorem d_Nd_put_14 : decode b_Nd_put 14 = .ok (.ldc 44, 2) := by decide +kernel
theorem d_Nd_put_16 : decode b_Nd_put 16 = .ok (.invokestatic 45, 3) := by decide +kernel
theorem d_Nd_put_19 : decode b_Nd_put 19 = .ok (.ifCond .ne 5, 3) := by decide +kernel
theorem d_Nd_put_22 : decode b_Nd_put 22 = .ok (.iconst (-1), 1) := by decide +kernel
theorem d_Nd_put_23 : decode b_Nd_put 23 = .ok (.ireturn, 1) := by decide +kernel
theorem d_Nd_put_24 : decode b_Nd_put 24 = .ok (.aload_n 0, 1) := by decide +kernel
theorem d_Nd_put_25 : decode b_Nd_put 25 = .ok (.getfield 19, 3) := by decide +kernel
theorem d_Nd_put_28 : decode b_Nd_put 28 = .ok (.getfield 49, 3) := by decide +kernel
theorem d_Nd_put_31 : decode b_Nd_put 31 = .ok (.invokevirtual 53, 3) := by decide +kernel
theorem d_Nd_put_34 : decode b_Nd_put 34 = .ok (.istore 6, 2) := by decide +kernel
theorem d_Nd_put_36 : decode b_Nd_put 36 = .ok (.iload 6, 2) := by decide +kernel
theorem d_Nd_put_38 : decode b_Nd_put 38 = .ok (.bipush (-2), 2) := by decide +kernel
theorem d_Nd_put_40 : decode b_Nd_put 40 = .ok (.if_icmp .ne 6, 3) := by decide +kernel
theorem d_Nd_put_43 : decode b_Nd_put 43 = .ok (.bipush (-3), 2) := by decide +kernel
theorem d_Nd_put_45 : decode b_Nd_put 45 = .ok (.ireturn, 1) := by decide +kernel
theorem d_Nd_put_46 : decode b_Nd_put 46 = .ok (.aload_n 0, 1) := by decide +kernel
theorem d_Nd_put_47 : decode b_Nd_put 47 = .ok (.getfield 12, 3) := by decide +kernel
theorem d_Nd_put_50 : decode b_Nd_put 50 = .ok (.iload 6, 2) := by decide +kernel
theorem d_Nd_put_52 : decode b_Nd_put 52 = .ok (.iload_n 1, 1) := by decide +kernel
theorem d_Nd_put_53 : decode b_Nd_put 53 = .ok (.iload_n 2, 1) := by decide +kernel
theorem d_Nd_put_54 : decode b_Nd_put 54 = .ok (.iload_n 3, 1) := by decide +kernel
theorem d_Nd_put_55 : decode b_Nd_put 55 = .ok (.iload 4, 2) := by decide +kernel
theorem d_Nd_put_57 : decode b_Nd_put 57 = .ok (.iload 5, 2) := by decide +kernel
theorem d_Nd_put_59 : decode b_Nd_put 59 = .ok (.invokevirtual 59, 3) := by decide +kernel
theorem d_Nd_put_62 : decode b_Nd_put 62 = .ok (.aload_n 0, 1) := by decide +kernel
theorem d_Nd_put_63 : decode b_Nd_put 63 = .ok (.getfield 19, 3) := by decide +kernel
theorem d_Nd_put_66 : decode b_Nd_put 66 = .ok (.aload_n 0, 1) := by decide +kernel
theorem d_Nd_put_67 : decode b_Nd_put 67 = .ok (.getfield 12, 3) := by decide +kernel
theorem d_Nd_put_70 : decode b_Nd_put 70 = .ok (.iload 6, 2) := by decide +kernel
theorem d_Nd_put_72 : decode b_Nd_put 72 = .ok (.invokevirtual 63, 3) := by decide +kernel
theorem d_Nd_put_75 : decode b_Nd_put 75 = .ok (.iload 6, 2) := by decide +kernel
theorem d_Nd_put_77 : decode b_Nd_put 77 = .ok (.ireturn, 1) := by decide +kernel
theorem d_Nd_remove_0 : decode b_Nd_remove 0 = .ok (.aload_n 0, 1) := by decide +kernel
theorem d_Nd_remove_1 : decode b_Nd_remove 1 = .ok (.getfield 12, 3) := by decide +kernel
theorem d_Nd_remove_4 : decode b_Nd_remove 4 = .ok (.iload_n 1, 1) := by decide +kernel
theorem d_Nd_remove_5 : decode b_Nd_remove 5 = .ok (.invokevirtual 67, 3) := by decide +kernel
theorem d_Nd_remove_8 : decode b_Nd_remove 8 = .ok (.ireturn, 1) := by decide +kernel
theorem d_Nd_renew_0 : decode b_Nd_renew 0 = .ok (.aload_n 0, 1) := by decide +kernel
theorem d_Nd_renew_1 : decode b_Nd_renew 1 = .ok (.getfield 19, 3) := by decide +kernel
theorem d_Nd_renew_4 : decode b_Nd_renew 4 = .ok (.getfield 49, 3) := by decide +kernel
theorem d_Nd_renew_7 : decode b_Nd_renew 7 = .ok (.invokevirtual 71, 3) := by decide +kernel
theorem d_Nd_renew_10 : decode b_Nd_renew 10 = .ok (.aload_n 0, 1) := by decide +kernel
theorem d_Nd_renew_11 : decode b_Nd_renew 11 = .ok (.getfield 12, 3) := by decide +kernel
theorem d_Nd_renew_14 : decode b_Nd_renew 14 = .ok (.invokevirtual 74, 3) := by decide +kernel
theorem d_Nd_renew_17 : decode b_Nd_renew 17 = .ok (.isub, 1) := by decide +kernel
theorem d_Nd_renew_18 : decode b_Nd_renew 18 = .ok (.istore_n 1, 1) := by decide +kernel
theorem d_Nd_renew_19 : decode b_Nd_renew 19 = .ok (.aload_n 0, 1) := by decide +kernel
theorem d_Nd_renew_20 : decode b_Nd_renew 20 = .ok (.getfield 19, 3) := by decide +kernel
theorem d_Nd_renew_23 : decode b_Nd_renew 23 = .ok (.invokevirtual 77, 3) := by decide +kernel
theorem d_Nd_renew_26 : decode b_Nd_renew 26 = .ok (.iconst 0, 1) := by decide +kernel
theorem d_Nd_renew_27 : decode b_Nd_renew 27 = .ok (.istore_n 2, 1) := by decide +kernel
theorem d_Nd_renew_28 : decode b_Nd_renew 28 = .ok (.iload_n 2, 1) := by decide +kernel
theorem d_Nd_renew_29 : decode b_Nd_renew 29 = .ok (.bipush 30, 2) := by decide +kernel
theorem d_Nd_renew_31 : decode b_Nd_renew 31 = .ok (.if_icmp .ge 32, 3) := by decide +kernel
theorem d_Nd_renew_34 : decode b_Nd_renew 34 = .ok (.aload_n 0, 1) := by decide +kernel
theorem d_Nd_renew_35 : decode b_Nd_renew 35 = .ok (.getfield 12, 3) := by decide +kernel
theorem d_Nd_renew_38 : decode b_Nd_renew 38 = .ok (.iload_n 2, 1) := by decide +kernel
theorem d_Nd_renew_39 : decode b_Nd_renew 39 = .ok (.invokevirtual 80, 3) := by decide +kernel
theorem d_Nd_renew_42 : decode b_Nd_renew 42 = .ok (.ifCond .eq 15, 3) := by decide +kernel
theorem d_Nd_renew_45 : decode b_Nd_renew 45 = .ok (.aload_n 0, 1) := by decide +kernel
theorem d_Nd_renew_46 : decode b_Nd_renew 46 = .ok (.getfield 19, 3) := by decide +kernel
theorem d_Nd_renew_49 : decode b_Nd_renew 49 = .ok (.aload_n 0, 1) := by decide +kernel
theorem d_Nd_renew_50 : decode b_Nd_renew 50 = .ok (.getfield 12, 3) := by decide +kernel
theorem d_Nd_renew_53 : decode b_Nd_renew 53 = .ok (.iload_n 2, 1) := by decide +kernel
theorem d_Nd_renew_54 : decode b_Nd_renew 54 = .ok (.invokevirtual 63, 3) := by decide +kernel
theorem d_Nd_renew_57 : decode b_Nd_renew 57 = .ok (.iinc 2 1, 3) := by decide +kernel
theorem d_Nd_renew_60 : decode b_Nd_renew 60 = .ok (.goto (-32), 3) := by decide +kernel
theorem d_Nd_renew_63 : decode b_Nd_renew 63 = .ok (.iload_n 1, 1) := by decide +kernel
theorem d_Nd_renew_64 : decode b_Nd_renew 64 = .ok (.ireturn, 1) := by decide +kernel
theorem d_Nd_ask_0 : decode b_Nd_ask 0 = .ok (.iload_n 1, 1) := by decide +kernel
theorem d_Nd_ask_1 : decode b_Nd_ask 1 = .ok (.iload_n 2, 1) := by decide +kernel
theorem d_Nd_ask_2 : decode b_Nd_ask 2 = .ok (.iload_n 3, 1) := by decide +kernel
theorem d_Nd_ask_3 : decode b_Nd_ask 3 = .ok (.iload 4, 2) := by decide +kernel
theorem d_Nd_ask_5 : decode b_Nd_ask 5 = .ok (.invokestatic 40, 3) := by decide +kernel
theorem d_Nd_ask_8 : decode b_Nd_ask 8 = .ok (.ifCond .ne 5, 3) := by decide +kernel
theorem d_Nd_ask_11 : decode b_Nd_ask 11 = .ok (.iconst 0, 1) := by decide +kernel
theorem d_Nd_ask_12 : decode b_Nd_ask 12 = .ok (.ireturn, 1) := by decide +kernel
theorem d_Nd_ask_13 : decode b_Nd_ask 13 = .ok (.aload_n 0, 1) := by decide +kernel
theorem d_Nd_ask_14 : decode b_Nd_ask 14 = .ok (.getfield 33, 3) := by decide +kernel
theorem d_Nd_ask_17 : decode b_Nd_ask 17 = .ok (.iload_n 1, 1) := by decide +kernel
theorem d_Nd_ask_18 : decode b_Nd_ask 18 = .ok (.iload_n 2, 1) := by decide +kernel
theorem d_Nd_ask_19 : decode b_Nd_ask 19 = .ok (.iload_n 3, 1) := by decide +kernel
theorem d_Nd_ask_20 : decode b_Nd_ask 20 = .ok (.iload 4, 2) := by decide +kernel
theorem d_Nd_ask_22 : decode b_Nd_ask 22 = .ok (.invokestatic 83, 3) := by decide +kernel
theorem d_Nd_ask_25 : decode b_Nd_ask 25 = .ok (.iconst 1, 1) := by decide +kernel
theorem d_Nd_ask_26 : decode b_Nd_ask 26 = .ok (.ireturn, 1) := by decide +kernel
theorem d_Nd_near_0 : decode b_Nd_near 0 = .ok (.iload_n 1, 1) := by decide +kernel
theorem d_Nd_near_1 : decode b_Nd_near 1 = .ok (.iconst 1, 1) := by decide +kernel
theorem d_Nd_near_2 : decode b_Nd_near 2 = .ok (.bipush 10, 2) := by decide +kernel
theorem d_Nd_near_4 : decode b_Nd_near 4 = .ok (.invokestatic 45, 3) := by decide +kernel
theorem d_Nd_near_7 : decode b_Nd_near 7 = .ok (.ifCond .eq 13, 3) := by decide +kernel
theorem d_Nd_near_10 : decode b_Nd_near 10 = .ok (.iload_n 2, 1) := by decide +kernel
theorem d_Nd_near_11 : decode b_Nd_near 11 = .ok (.iconst 1, 1) := by decide +kernel
theorem d_Nd_near_12 : decode b_Nd_near 12 = .ok (.bipush 10, 2) := by decide +kernel
theorem d_Nd_near_14 : decode b_Nd_near 14 = .ok (.invokestatic 45, 3) := by decide +kernel
theorem d_Nd_near_17 : decode b_Nd_near 17 = .ok (.ifCond .ne 5, 3) := by decide +kernel
theorem d_Nd_near_20 : decode b_Nd_near 20 = .ok (.iconst (-1), 1) := by decide +kernel
theorem d_Nd_near_21 : decode b_Nd_near 21 = .ok (.ireturn, 1) := by decide +kernel
theorem d_Nd_near_22 : decode b_Nd_near 22 = .ok (.aload_n 0, 1) := by decide +kernel
theorem d_Nd_near_23 : decode b_Nd_near 23 = .ok (.getfield 26, 3) := by decide +kernel
theorem d_Nd_near_26 : decode b_Nd_near 26 = .ok (.iload_n 1, 1) := by decide +kernel
theorem d_Nd_near_27 : decode b_Nd_near 27 = .ok (.iconst 0, 1) := by decide +kernel
theorem d_Nd_near_28 : decode b_Nd_near 28 = .ok (.invokevirtual 87, 3) := by decide +kernel
theorem d_Nd_near_31 : decode b_Nd_near 31 = .ok (.aload_n 0, 1) := by decide +kernel
theorem d_Nd_near_32 : decode b_Nd_near 32 = .ok (.aload_n 0, 1) := by decide +kernel
theorem d_Nd_near_33 : decode b_Nd_near 33 = .ok (.getfield 26, 3) := by decide +kernel
theorem d_Nd_near_36 : decode b_Nd_near 36 = .ok (.iload_n 1, 1) := by decide +kernel
theorem d_Nd_near_37 : decode b_Nd_near 37 = .ok (.iload_n 2, 1) := by decide +kernel
theorem d_Nd_near_38 : decode b_Nd_near 38 = .ok (.invokestatic 91, 3) := by decide +kernel
theorem d_Nd_near_41 : decode b_Nd_near 41 = .ok (.invokevirtual 97, 3) := by decide +kernel
theorem d_Nd_near_44 : decode b_Nd_near 44 = .ok (.aload_n 0, 1) := by decide +kernel
theorem d_Nd_near_45 : decode b_Nd_near 45 = .ok (.getfield 26, 3) := by decide +kernel
theorem d_Nd_near_48 : decode b_Nd_near 48 = .ok (.invokevirtual 101, 3) := by decide +kernel
theorem d_Nd_near_51 : decode b_Nd_near 51 = .ok (.ireturn, 1) := by decide +kernel
theorem d_Nd_searchInto_0 : decode b_Nd_searchInto 0 = .ok (.aload_n 0, 1) := by decide +kernel
theorem d_Nd_searchInto_1 : decode b_Nd_searchInto 1 = .ok (.getfield 19, 3) := by decide +kernel
theorem d_Nd_searchInto_4 : decode b_Nd_searchInto 4 = .ok (.aload_n 0, 1) := by decide +kernel
theorem d_Nd_searchInto_5 : decode b_Nd_searchInto 5 = .ok (.getfield 12, 3) := by decide +kernel
theorem d_Nd_searchInto_8 : decode b_Nd_searchInto 8 = .ok (.aload_n 0, 1) := by decide +kernel
theorem d_Nd_searchInto_9 : decode b_Nd_searchInto 9 = .ok (.getfield 33, 3) := by decide +kernel
theorem d_Nd_searchInto_12 : decode b_Nd_searchInto 12 = .ok (.iload_n 2, 1) := by decide +kernel
theorem d_Nd_searchInto_13 : decode b_Nd_searchInto 13 = .ok (.invokevirtual 174, 3) := by decide +kernel
theorem d_Nd_searchInto_16 : decode b_Nd_searchInto 16 = .ok (.astore_n 3, 1) := by decide +kernel
theorem d_Nd_searchInto_17 : decode b_Nd_searchInto 17 = .ok (.iconst 0, 1) := by decide +kernel
theorem d_Nd_searchInto_18 : decode b_Nd_searchInto 18 = .ok (.istore 4, 2) := by decide +kernel
theorem d_Nd_searchInto_20 : decode b_Nd_searchInto 20 = .ok (.iload 4, 2) := by decide +kernel
theorem d_Nd_searchInto_22 : decode b_Nd_searchInto 22 = .ok (.aload_n 3, 1) := by decide +kernel
theorem d_Nd_searchInto_23 : decode b_Nd_searchInto 23 = .ok (.invokevirtual 101, 3) := by decide +kernel
theorem d_Nd_searchInto_26 : decode b_Nd_searchInto 26 = .ok (.if_icmp .ge 42, 3) := by decide +kernel
theorem d_Nd_searchInto_29 : decode b_Nd_searchInto 29 = .ok (.aload_n 3, 1) := by decide +kernel
theorem d_Nd_searchInto_30 : decode b_Nd_searchInto 30 = .ok (.iload 4, 2) := by decide +kernel
theorem d_Nd_searchInto_32 : decode b_Nd_searchInto 32 = .ok (.invokevirtual 120, 3) := by decide +kernel
theorem d_Nd_searchInto_35 : decode b_Nd_searchInto 35 = .ok (.istore 5, 2) := by decide +kernel
theorem d_Nd_searchInto_37 : decode b_Nd_searchInto 37 = .ok (.aload_n 0, 1) := by decide +kernel
theorem d_Nd_searchInto_38 : decode b_Nd_searchInto 38 = .ok (.getfield 12, 3) := by decide +kernel
theorem d_Nd_searchInto_41 : decode b_Nd_searchInto 41 = .ok (.iload 5, 2) := by decide +kernel
theorem d_Nd_searchInto_43 : decode b_Nd_searchInto 43 = .ok (.invokevirtual 80, 3) := by decide +kernel
theorem d_Nd_searchInto_46 : decode b_Nd_searchInto 46 = .ok (.ifCond .eq 16, 3) := by decide +kernel
theorem d_Nd_searchInto_49 : decode b_Nd_searchInto 49 = .ok (.aload_n 1, 1) := by decide +kernel
theorem d_Nd_searchInto_50 : decode b_Nd_searchInto 50 = .ok (.iload 5, 2) := by decide +kernel
theorem d_Nd_searchInto_52 : decode b_Nd_searchInto 52 = .ok (.aload_n 3, 1) := by decide +kernel
theorem d_Nd_searchInto_53 : decode b_Nd_searchInto 53 = .ok (.iload 4, 2) := by decide +kernel
theorem d_Nd_searchInto_55 : decode b_Nd_searchInto 55 = .ok (.invokevirtual 124, 3) := by decide +kernel
theorem d_Nd_searchInto_58 : decode b_Nd_searchInto 58 = .ok (.invokevirtual 178, 3) := by decide +kernel
theorem d_Nd_searchInto_61 : decode b_Nd_searchInto 61 = .ok (.pop, 1) := by decide +kernel
theorem d_Nd_searchInto_62 : decode b_Nd_searchInto 62 = .ok (.iinc 4 1, 3) := by decide +kernel
theorem d_Nd_searchInto_65 : decode b_Nd_searchInto 65 = .ok (.goto (-45), 3) := by decide +kernel
theorem d_Nd_searchInto_68 : decode b_Nd_searchInto 68 = .ok (.return_, 1) := by decide +kernel
theorem d_Nd_exact_0 : decode b_Nd_exact 0 = .ok (.iload_n 1, 1) := by decide +kernel
theorem d_Nd_exact_1 : decode b_Nd_exact 1 = .ok (.iconst 1, 1) := by decide +kernel
theorem d_Nd_exact_2 : decode b_Nd_exact 2 = .ok (.bipush 10, 2) := by decide +kernel
theorem d_Nd_exact_4 : decode b_Nd_exact 4 = .ok (.invokestatic 45, 3) := by decide +kernel
theorem d_Nd_exact_7 : decode b_Nd_exact 7 = .ok (.ifCond .ne 5, 3) := by decide +kernel
theorem d_Nd_exact_10 : decode b_Nd_exact 10 = .ok (.iconst (-1), 1) := by decide +kernel
theorem d_Nd_exact_11 : decode b_Nd_exact 11 = .ok (.ireturn, 1) := by decide +kernel
theorem d_Nd_exact_12 : decode b_Nd_exact 12 = .ok (.aload_n 0, 1) := by decide +kernel
theorem d_Nd_exact_13 : decode b_Nd_exact 13 = .ok (.getfield 26, 3) := by decide +kernel
theorem d_Nd_exact_16 : decode b_Nd_exact 16 = .ok (.iload_n 1, 1) := by decide +kernel
theorem d_Nd_exact_17 : decode b_Nd_exact 17 = .ok (.iconst 0, 1) := by decide +kernel
theorem d_Nd_exact_18 : decode b_Nd_exact 18 = .ok (.invokevirtual 87, 3) := by decide +kernel
theorem d_Nd_exact_21 : decode b_Nd_exact 21 = .ok (.aload_n 0, 1) := by decide +kernel
theorem d_Nd_exact_22 : decode b_Nd_exact 22 = .ok (.getfield 12, 3) := by decide +kernel
theorem d_Nd_exact_25 : decode b_Nd_exact 25 = .ok (.aload_n 0, 1) := by decide +kernel
theorem d_Nd_exact_26 : decode b_Nd_exact 26 = .ok (.getfield 33, 3) := by decide +kernel
theorem d_Nd_exact_29 : decode b_Nd_exact 29 = .ok (.aload_n 0, 1) := by decide +kernel
theorem d_Nd_exact_30 : decode b_Nd_exact 30 = .ok (.getfield 26, 3) := by decide +kernel
theorem d_Nd_exact_33 : decode b_Nd_exact 33 = .ok (.invokevirtual 102, 3) := by decide +kernel
theorem d_Nd_exact_36 : decode b_Nd_exact 36 = .ok (.aload_n 0, 1) := by decide +kernel
theorem d_Nd_exact_37 : decode b_Nd_exact 37 = .ok (.getfield 26, 3) := by decide +kernel
theorem d_Nd_exact_40 : decode b_Nd_exact 40 = .ok (.invokevirtual 101, 3) := by decide +kernel
theorem d_Nd_exact_43 : decode b_Nd_exact 43 = .ok (.ireturn, 1) := by decide +kernel
theorem d_Nd_match_0 : decode b_Nd_match 0 = .ok (.iload_n 1, 1) := by decide +kernel
theorem d_Nd_match_1 : decode b_Nd_match 1 = .ok (.iconst 1, 1) := by decide +kernel
theorem d_Nd_match_2 : decode b_Nd_match 2 = .ok (.bipush 10, 2) := by decide +kernel
theorem d_Nd_match_4 : decode b_Nd_match 4 = .ok (.invokestatic 45, 3) := by decide +kernel
theorem d_Nd_match_7 : decode b_Nd_match 7 = .ok (.ifCond .eq 14, 3) := by decide +kernel
theorem d_Nd_match_10 : decode b_Nd_match 10 = .ok (.iload_n 2, 1) := by decide +kernel
theorem d_Nd_match_11 : decode b_Nd_match 11 = .ok (.iconst 0, 1) := by decide +kernel
theorem d_Nd_match_12 : decode b_Nd_match 12 = .ok (.sipush 255, 3) := by decide +kernel
theorem d_Nd_match_15 : decode b_Nd_match 15 = .ok (.invokestatic 45, 3) := by decide +kernel
theorem d_Nd_match_18 : decode b_Nd_match 18 = .ok (.ifCond .ne 5, 3) := by decide +kernel
theorem d_Nd_match_21 : decode b_Nd_match 21 = .ok (.iconst (-1), 1) := by decide +kernel
theorem d_Nd_match_22 : decode b_Nd_match 22 = .ok (.ireturn, 1) := by decide +kernel
theorem d_Nd_match_23 : decode b_Nd_match 23 = .ok (.aload_n 0, 1) := by decide +kernel
theorem d_Nd_match_24 : decode b_Nd_match 24 = .ok (.getfield 26, 3) := by decide +kernel
theorem d_Nd_match_27 : decode b_Nd_match 27 = .ok (.iload_n 1, 1) := by decide +kernel
theorem d_Nd_match_28 : decode b_Nd_match 28 = .ok (.iconst 1, 1) := by decide +kernel
theorem d_Nd_match_29 : decode b_Nd_match 29 = .ok (.invokevirtual 87, 3) := by decide +kernel
theorem d_Nd_match_32 : decode b_Nd_match 32 = .ok (.aload_n 0, 1) := by decide +kernel
theorem d_Nd_match_33 : decode b_Nd_match 33 = .ok (.getfield 12, 3) := by decide +kernel
theorem d_Nd_match_36 : decode b_Nd_match 36 = .ok (.iload_n 2, 1) := by decide +kernel
theorem d_Nd_match_37 : decode b_Nd_match 37 = .ok (.aload_n 0, 1) := by decide +kernel
theorem d_Nd_match_38 : decode b_Nd_match 38 = .ok (.getfield 26, 3) := by decide +kernel
theorem d_Nd_match_41 : decode b_Nd_match 41 = .ok (.invokevirtual 106, 3) := by decide +kernel
theorem d_Nd_match_44 : decode b_Nd_match 44 = .ok (.aload_n 0, 1) := by decide +kernel
theorem d_Nd_match_45 : decode b_Nd_match 45 = .ok (.getfield 26, 3) := by decide +kernel
theorem d_Nd_match_48 : decode b_Nd_match 48 = .ok (.invokevirtual 101, 3) := by decide +kernel
theorem d_Nd_match_51 : decode b_Nd_match 51 = .ok (.ireturn, 1) := by decide +kernel
theorem d_Nd_fuse_0 : decode b_Nd_fuse 0 = .ok (.iload_n 1, 1) := by decide +kernel
theorem d_Nd_fuse_1 : decode b_Nd_fuse 1 = .ok (.iconst 1, 1) := by decide +kernel
theorem d_Nd_fuse_2 : decode b_Nd_fuse 2 = .ok (.bipush 10, 2) := by decide +kernel
theorem d_Nd_fuse_4 : decode b_Nd_fuse 4 = .ok (.invokestatic 45, 3) := by decide +kernel
theorem d_Nd_fuse_7 : decode b_Nd_fuse 7 = .ok (.ifCond .eq 14, 3) := by decide +kernel
theorem d_Nd_fuse_10 : decode b_Nd_fuse 10 = .ok (.iload_n 2, 1) := by decide +kernel
theorem d_Nd_fuse_11 : decode b_Nd_fuse 11 = .ok (.iconst 0, 1) := by decide +kernel
theorem d_Nd_fuse_12 : decode b_Nd_fuse 12 = .ok (.sipush 255, 3) := by decide +kernel
theorem d_Nd_fuse_15 : decode b_Nd_fuse 15 = .ok (.invokestatic 45, 3) := by decide +kernel
theorem d_Nd_fuse_18 : decode b_Nd_fuse 18 = .ok (.ifCond .ne 5, 3) := by decide +kernel
theorem d_Nd_fuse_21 : decode b_Nd_fuse 21 = .ok (.iconst (-1), 1) := by decide +kernel
theorem d_Nd_fuse_22 : decode b_Nd_fuse 22 = .ok (.ireturn, 1) := by decide +kernel
theorem d_Nd_fuse_23 : decode b_Nd_fuse 23 = .ok (.aload_n 0, 1) := by decide +kernel
theorem d_Nd_fuse_24 : decode b_Nd_fuse 24 = .ok (.invokevirtual 110, 3) := by decide +kernel
theorem d_Nd_fuse_27 : decode b_Nd_fuse 27 = .ok (.aload_n 0, 1) := by decide +kernel
theorem d_Nd_fuse_28 : decode b_Nd_fuse 28 = .ok (.getfield 30, 3) := by decide +kernel
theorem d_Nd_fuse_31 : decode b_Nd_fuse 31 = .ok (.bipush 10, 2) := by decide +kernel
theorem d_Nd_fuse_33 : decode b_Nd_fuse 33 = .ok (.iconst 1, 1) := by decide +kernel
theorem d_Nd_fuse_34 : decode b_Nd_fuse 34 = .ok (.invokevirtual 87, 3) := by decide +kernel
theorem d_Nd_fuse_37 : decode b_Nd_fuse 37 = .ok (.aload_n 0, 1) := by decide +kernel
theorem d_Nd_fuse_38 : decode b_Nd_fuse 38 = .ok (.getfield 12, 3) := by decide +kernel
theorem d_Nd_fuse_41 : decode b_Nd_fuse 41 = .ok (.iload_n 2, 1) := by decide +kernel
theorem d_Nd_fuse_42 : decode b_Nd_fuse 42 = .ok (.aload_n 0, 1) := by decide +kernel
theorem d_Nd_fuse_43 : decode b_Nd_fuse 43 = .ok (.getfield 30, 3) := by decide +kernel
theorem d_Nd_fuse_46 : decode b_Nd_fuse 46 = .ok (.invokevirtual 106, 3) := by decide +kernel
theorem d_Nd_fuse_49 : decode b_Nd_fuse 49 = .ok (.aload_n 0, 1) := by decide +kernel
theorem d_Nd_fuse_50 : decode b_Nd_fuse 50 = .ok (.aload_n 0, 1) := by decide +kernel
theorem d_Nd_fuse_51 : decode b_Nd_fuse 51 = .ok (.getfield 30, 3) := by decide +kernel
theorem d_Nd_fuse_54 : decode b_Nd_fuse 54 = .ok (.invokevirtual 113, 3) := by decide +kernel
theorem d_Nd_fuse_57 : decode b_Nd_fuse 57 = .ok (.aload_n 0, 1) := by decide +kernel
theorem d_Nd_fuse_58 : decode b_Nd_fuse 58 = .ok (.getfield 30, 3) := by decide +kernel
theorem d_Nd_fuse_61 : decode b_Nd_fuse 61 = .ok (.bipush 10, 2) := by decide +kernel
theorem d_Nd_fuse_63 : decode b_Nd_fuse 63 = .ok (.iconst 0, 1) := by decide +kernel
theorem d_Nd_fuse_64 : decode b_Nd_fuse 64 = .ok (.invokevirtual 87, 3) := by decide +kernel
theorem d_Nd_fuse_67 : decode b_Nd_fuse 67 = .ok (.aload_n 0, 1) := by decide +kernel
theorem d_Nd_fuse_68 : decode b_Nd_fuse 68 = .ok (.aload_n 0, 1) := by decide +kernel
theorem d_Nd_fuse_69 : decode b_Nd_fuse 69 = .ok (.getfield 30, 3) := by decide +kernel
theorem d_Nd_fuse_72 : decode b_Nd_fuse 72 = .ok (.bipush 10, 2) := by decide +kernel
theorem d_Nd_fuse_74 : decode b_Nd_fuse 74 = .ok (.invokevirtual 97, 3) := by decide +kernel
theorem d_Nd_fuse_77 : decode b_Nd_fuse 77 = .ok (.aload_n 0, 1) := by decide +kernel
theorem d_Nd_fuse_78 : decode b_Nd_fuse 78 = .ok (.aload_n 0, 1) := by decide +kernel
theorem d_Nd_fuse_79 : decode b_Nd_fuse 79 = .ok (.getfield 30, 3) := by decide +kernel
theorem d_Nd_fuse_82 : decode b_Nd_fuse 82 = .ok (.invokevirtual 113, 3) := by decide +kernel
theorem d_Nd_fuse_85 : decode b_Nd_fuse 85 = .ok (.aload_n 0, 1) := by decide +kernel
theorem d_Nd_fuse_86 : decode b_Nd_fuse 86 = .ok (.getfield 26, 3) := by decide +kernel
theorem d_Nd_fuse_89 : decode b_Nd_fuse 89 = .ok (.iload_n 1, 1) := by decide +kernel
theorem d_Nd_fuse_90 : decode b_Nd_fuse 90 = .ok (.iconst 1, 1) := by decide +kernel
theorem d_Nd_fuse_91 : decode b_Nd_fuse 91 = .ok (.invokevirtual 87, 3) := by decide +kernel
theorem d_Nd_fuse_94 : decode b_Nd_fuse 94 = .ok (.aload_n 0, 1) := by decide +kernel
theorem d_Nd_fuse_95 : decode b_Nd_fuse 95 = .ok (.aload_n 0, 1) := by decide +kernel
theorem d_Nd_fuse_96 : decode b_Nd_fuse 96 = .ok (.getfield 26, 3) := by decide +kernel
theorem d_Nd_fuse_99 : decode b_Nd_fuse 99 = .ok (.invokevirtual 117, 3) := by decide +kernel
theorem d_Nd_fuse_102 : decode b_Nd_fuse 102 = .ok (.aload_n 0, 1) := by decide +kernel
theorem d_Nd_fuse_103 : decode b_Nd_fuse 103 = .ok (.getfield 26, 3) := by decide +kernel
theorem d_Nd_fuse_106 : decode b_Nd_fuse 106 = .ok (.invokevirtual 101, 3) := by decide +kernel
theorem d_Nd_fuse_109 : decode b_Nd_fuse 109 = .ok (.ireturn, 1) := by decide +kernel
theorem d_Nd_clearPoints_0 : decode b_Nd_clearPoints 0 = .ok (.iconst 0, 1) := by decide +kernel
theorem d_Nd_clearPoints_1 : decode b_Nd_clearPoints 1 = .ok (.istore_n 1, 1) := by decide +kernel
theorem d_Nd_clearPoints_2 : decode b_Nd_clearPoints 2 = .ok (.iload_n 1, 1) := by decide +kernel
theorem d_Nd_clearPoints_3 : decode b_Nd_clearPoints 3 = .ok (.bipush 30, 2) := by decide +kernel
theorem d_Nd_clearPoints_5 : decode b_Nd_clearPoints 5 = .ok (.if_icmp .ge 16, 3) := by decide +kernel
theorem d_Nd_clearPoints_8 : decode b_Nd_clearPoints 8 = .ok (.aload_n 0, 1) := by decide +kernel
theorem d_Nd_clearPoints_9 : decode b_Nd_clearPoints 9 = .ok (.getfield 37, 3) := by decide +kernel
theorem d_Nd_clearPoints_12 : decode b_Nd_clearPoints 12 = .ok (.iload_n 1, 1) := by decide +kernel
theorem d_Nd_clearPoints_13 : decode b_Nd_clearPoints 13 = .ok (.iconst 0, 1) := by decide +kernel
theorem d_Nd_clearPoints_14 : decode b_Nd_clearPoints 14 = .ok (.iastore, 1) := by decide +kernel
theorem d_Nd_clearPoints_15 : decode b_Nd_clearPoints 15 = .ok (.iinc 1 1, 3) := by decide +kernel
theorem d_Nd_clearPoints_18 : decode b_Nd_clearPoints 18 = .ok (.goto (-16), 3) := by decide +kernel
theorem d_Nd_clearPoints_21 : decode b_Nd_clearPoints 21 = .ok (.return_, 1) := by decide +kernel
theorem d_Nd_addPoints_0 : decode b_Nd_addPoints 0 = .ok (.iconst 0, 1) := by decide +kernel
theorem d_Nd_addPoints_1 : decode b_Nd_addPoints 1 = .ok (.istore_n 2, 1) := by decide +kernel
theorem d_Nd_addPoints_2 : decode b_Nd_addPoints 2 = .ok (.iload_n 2, 1) := by decide +kernel
theorem d_Nd_addPoints_3 : decode b_Nd_addPoints 3 = .ok (.aload_n 1, 1) := by decide +kernel
theorem d_Nd_addPoints_4 : decode b_Nd_addPoints 4 = .ok (.invokevirtual 101, 3) := by decide +kernel
theorem d_Nd_addPoints_7 : decode b_Nd_addPoints 7 = .ok (.if_icmp .ge 30, 3) := by decide +kernel
theorem d_Nd_addPoints_10 : decode b_Nd_addPoints 10 = .ok (.aload_n 0, 1) := by decide +kernel
theorem d_Nd_addPoints_11 : decode b_Nd_addPoints 11 = .ok (.getfield 37, 3) := by decide +kernel
theorem d_Nd_addPoints_14 : decode b_Nd_addPoints 14 = .ok (.aload_n 1, 1) := by decide +kernel
theorem d_Nd_addPoints_15 : decode b_Nd_addPoints 15 = .ok (.iload_n 2, 1) := by decide +kernel
theorem d_Nd_addPoints_16 : decode b_Nd_addPoints 16 = .ok (.invokevirtual 120, 3) := by decide +kernel
theorem d_Nd_addPoints_19 : decode b_Nd_addPoints 19 = .ok (.dup2, 1) := by decide +kernel
theorem d_Nd_addPoints_20 : decode b_Nd_addPoints 20 = .ok (.iaload, 1) := by decide +kernel
theorem d_Nd_addPoints_21 : decode b_Nd_addPoints 21 = .ok (.sipush 1000, 3) := by decide +kernel
theorem d_Nd_addPoints_24 : decode b_Nd_addPoints 24 = .ok (.bipush 10, 2) := by decide +kernel
theorem d_Nd_addPoints_26 : decode b_Nd_addPoints 26 = .ok (.iload_n 2, 1) := by decide +kernel
theorem d_Nd_addPoints_27 : decode b_Nd_addPoints 27 = .ok (.iadd, 1) := by decide +kernel
theorem d_Nd_addPoints_28 : decode b_Nd_addPoints 28 = .ok (.idiv, 1) := by decide +kernel
theorem d_Nd_addPoints_29 : decode b_Nd_addPoints 29 = .ok (.iadd, 1) := by decide +kernel
theorem d_Nd_addPoints_30 : decode b_Nd_addPoints 30 = .ok (.iastore, 1) := by decide +kernel
theorem d_Nd_addPoints_31 : decode b_Nd_addPoints 31 = .ok (.iinc 2 1, 3) := by decide +kernel
theorem d_Nd_addPoints_34 : decode b_Nd_addPoints 34 = .ok (.goto (-32), 3) := by decide +kernel
theorem d_Nd_addPoints_37 : decode b_Nd_addPoints 37 = .ok (.return_, 1) := by decide +kernel
theorem d_Nd_rankByPoints_0 : decode b_Nd_rankByPoints 0 = .ok (.iconst 0, 1) := by decide +kernel
theorem d_Nd_rankByPoints_1 : decode b_Nd_rankByPoints 1 = .ok (.istore_n 2, 1) := by decide +kernel
theorem d_Nd_rankByPoints_2 : decode b_Nd_rankByPoints 2 = .ok (.iload_n 2, 1) := by decide +kernel
theorem d_Nd_rankByPoints_3 : decode b_Nd_rankByPoints 3 = .ok (.bipush 30, 2) := by decide +kernel
theorem d_Nd_rankByPoints_5 : decode b_Nd_rankByPoints 5 = .ok (.if_icmp .ge 30, 3) := by decide +kernel
theorem d_Nd_rankByPoints_8 : decode b_Nd_rankByPoints 8 = .ok (.aload_n 0, 1) := by decide +kernel
theorem d_Nd_rankByPoints_9 : decode b_Nd_rankByPoints 9 = .ok (.getfield 37, 3) := by decide +kernel
theorem d_Nd_rankByPoints_12 : decode b_Nd_rankByPoints 12 = .ok (.iload_n 2, 1) := by decide +kernel
theorem d_Nd_rankByPoints_13 : decode b_Nd_rankByPoints 13 = .ok (.iaload, 1) := by decide +kernel
theorem d_Nd_rankByPoints_14 : decode b_Nd_rankByPoints 14 = .ok (.ifCond .le 15, 3) := by decide +kernel
theorem d_Nd_rankByPoints_17 : decode b_Nd_rankByPoints 17 = .ok (.aload_n 1, 1) := by decide +kernel
theorem d_Nd_rankByPoints_18 : decode b_Nd_rankByPoints 18 = .ok (.iload_n 2, 1) := by decide +kernel
theorem d_Nd_rankByPoints_19 : decode b_Nd_rankByPoints 19 = .ok (.aload_n 0, 1) := by decide +kernel
theorem d_Nd_rankByPoints_20 : decode b_Nd_rankByPoints 20 = .ok (.getfield 37, 3) := by decide +kernel
theorem d_Nd_rankByPoints_23 : decode b_Nd_rankByPoints 23 = .ok (.iload_n 2, 1) := by decide +kernel
theorem d_Nd_rankByPoints_24 : decode b_Nd_rankByPoints 24 = .ok (.iaload, 1) := by decide +kernel
theorem d_Nd_rankByPoints_25 : decode b_Nd_rankByPoints 25 = .ok (.invokevirtual 178, 3) := by decide +kernel
theorem d_Nd_rankByPoints_28 : decode b_Nd_rankByPoints 28 = .ok (.pop, 1) := by decide +kernel
theorem d_Nd_rankByPoints_29 : decode b_Nd_rankByPoints 29 = .ok (.iinc 2 1, 3) := by decide +kernel
theorem d_Nd_rankByPoints_32 : decode b_Nd_rankByPoints 32 = .ok (.goto (-30), 3) := by decide +kernel
theorem d_Nd_rankByPoints_35 : decode b_Nd_rankByPoints 35 = .ok (.return_, 1) := by decide +kernel
theorem d_Nd_found_0 : decode b_Nd_found 0 = .ok (.iload_n 2, 1) := by decide +kernel
theorem d_Nd_found_1 : decode b_Nd_found 1 = .ok (.iconst 0, 1) := by decide +kernel
theorem d_Nd_found_2 : decode b_Nd_found 2 = .ok (.iconst 2, 1) := by decide +kernel
theorem d_Nd_found_3 : decode b_Nd_found 3 = .ok (.invokestatic 45, 3) := by decide +kernel
theorem d_Nd_found_6 : decode b_Nd_found 6 = .ok (.ifCond .ne 5, 3) := by decide +kernel
theorem d_Nd_found_9 : decode b_Nd_found 9 = .ok (.iconst (-1), 1) := by decide +kernel
theorem d_Nd_found_10 : decode b_Nd_found 10 = .ok (.ireturn, 1) := by decide +kernel
theorem d_Nd_found_11 : decode b_Nd_found 11 = .ok (.iload_n 1, 1) := by decide +kernel
theorem d_Nd_found_12 : decode b_Nd_found 12 = .ok (.iconst 0, 1) := by decide +kernel
theorem d_Nd_found_13 : decode b_Nd_found 13 = .ok (.aload_n 0, 1) := by decide +kernel
theorem d_Nd_found_14 : decode b_Nd_found 14 = .ok (.getfield 26, 3) := by decide +kernel
theorem d_Nd_found_17 : decode b_Nd_found 17 = .ok (.invokevirtual 101, 3) := by decide +kernel
theorem d_Nd_found_20 : decode b_Nd_found 20 = .ok (.iconst 1, 1) := by decide +kernel
theorem d_Nd_found_21 : decode b_Nd_found 21 = .ok (.isub, 1) := by decide +kernel
theorem d_Nd_found_22 : decode b_Nd_found 22 = .ok (.invokestatic 45, 3) := by decide +kernel
theorem d_Nd_found_25 : decode b_Nd_found 25 = .ok (.ifCond .ne 6, 3) := by decide +kernel
theorem d_Nd_found_28 : decode b_Nd_found 28 = .ok (.bipush (-2), 2) := by decide +kernel
theorem d_Nd_found_30 : decode b_Nd_found 30 = .ok (.ireturn, 1) := by decide +kernel
theorem d_Nd_found_31 : decode b_Nd_found 31 = .ok (.aload_n 0, 1) := by decide +kernel
theorem d_Nd_found_32 : decode b_Nd_found 32 = .ok (.getfield 26, 3) := by decide +kernel
theorem d_Nd_found_35 : decode b_Nd_found 35 = .ok (.iload_n 1, 1) := by decide +kernel
theorem d_Nd_found_36 : decode b_Nd_found 36 = .ok (.invokevirtual 120, 3) := by decide +kernel
theorem d_Nd_found_39 : decode b_Nd_found 39 = .ok (.istore_n 3, 1) := by decide +kernel
theorem d_Nd_found_40 : decode b_Nd_found 40 = .ok (.iload_n 2, 1) := by decide +kernel
theorem d_Nd_found_41 : decode b_Nd_found 41 = .ok (.lookupswitch 38 #[(0, 27), (1, 29)], 27) := by decide +kernel
theorem d_Nd_found_68 : decode b_Nd_found 68 = .ok (.iload_n 3, 1) := by decide +kernel
theorem d_Nd_found_69 : decode b_Nd_found 69 = .ok (.ireturn, 1) := by decide +kernel
theorem d_Nd_found_70 : decode b_Nd_found 70 = .ok (.aload_n 0, 1) := by decide +kernel
theorem d_Nd_found_71 : decode b_Nd_found 71 = .ok (.getfield 26, 3) := by decide +kernel
theorem d_Nd_found_74 : decode b_Nd_found 74 = .ok (.iload_n 1, 1) := by decide +kernel
theorem d_Nd_found_75 : decode b_Nd_found 75 = .ok (.invokevirtual 124, 3) := by decide +kernel
theorem d_Nd_found_78 : decode b_Nd_found 78 = .ok (.ireturn, 1) := by decide +kernel
theorem d_Nd_found_79 : decode b_Nd_found 79 = .ok (.aload_n 0, 1) := by decide +kernel
theorem d_Nd_found_80 : decode b_Nd_found 80 = .ok (.getfield 12, 3) := by decide +kernel
theorem d_Nd_found_83 : decode b_Nd_found 83 = .ok (.iload_n 3, 1) := by decide +kernel
theorem d_Nd_found_84 : decode b_Nd_found 84 = .ok (.invokevirtual 80, 3) := by decide +kernel
theorem d_Nd_found_87 : decode b_Nd_found 87 = .ok (.ifCond .eq 7, 3) := by decide +kernel
theorem d_Nd_found_90 : decode b_Nd_found 90 = .ok (.iconst 1, 1) := by decide +kernel
theorem d_Nd_found_91 : decode b_Nd_found 91 = .ok (.goto 4, 3) := by decide +kernel
theorem d_Nd_found_94 : decode b_Nd_found 94 = .ok (.iconst 0, 1) := by decide +kernel
theorem d_Nd_found_95 : decode b_Nd_found 95 = .ok (.ireturn, 1) := by decide +kernel
theorem d_Nd_node_0 : decode b_Nd_node 0 = .ok (.iload_n 2, 1) := by decide +kernel
theorem d_Nd_node_1 : decode b_Nd_node 1 = .ok (.iconst 0, 1) := by decide +kernel
theorem d_Nd_node_2 : decode b_Nd_node 2 = .ok (.bipush 7, 2) := by decide +kernel
theorem d_Nd_node_4 : decode b_Nd_node 4 = .ok (.invokestatic 45, 3) := by decide +kernel
theorem d_Nd_node_7 : decode b_Nd_node 7 = .ok (.ifCond .ne 16, 3) := by decide +kernel
theorem d_Nd_node_10 : decode b_Nd_node 10 = .ok (.iload_n 2, 1) := by decide +kernel
theorem d_Nd_node_11 : decode b_Nd_node 11 = .ok (.bipush 10, 2) := by decide +kernel
theorem d_Nd_node_13 : decode b_Nd_node 13 = .ok (.bipush 13, 2) := by decide +kernel
theorem d_Nd_node_15 : decode b_Nd_node 15 = .ok (.invokestatic 45, 3) := by decide +kernel
theorem d_Nd_node_18 : decode b_Nd_node 18 = .ok (.ifCond .ne 5, 3) := by decide +kernel
theorem d_Nd_node_21 : decode b_Nd_node 21 = .ok (.iconst (-1), 1) := by decide +kernel
theorem d_Nd_node_22 : decode b_Nd_node 22 = .ok (.ireturn, 1) := by decide +kernel
theorem d_Nd_node_23 : decode b_Nd_node 23 = .ok (.aload_n 0, 1) := by decide +kernel
theorem d_Nd_node_24 : decode b_Nd_node 24 = .ok (.getfield 19, 3) := by decide +kernel
theorem d_Nd_node_27 : decode b_Nd_node 27 = .ok (.getfield 49, 3) := by decide +kernel
theorem d_Nd_node_30 : decode b_Nd_node 30 = .ok (.iload_n 1, 1) := by decide +kernel
theorem d_Nd_node_31 : decode b_Nd_node 31 = .ok (.invokevirtual 127, 3) := by decide +kernel
theorem d_Nd_node_34 : decode b_Nd_node 34 = .ok (.ifCond .ne 6, 3) := by decide +kernel
theorem d_Nd_node_37 : decode b_Nd_node 37 = .ok (.bipush (-2), 2) := by decide +kernel
theorem d_Nd_node_39 : decode b_Nd_node 39 = .ok (.ireturn, 1) := by decide +kernel
theorem d_Nd_node_40 : decode b_Nd_node 40 = .ok (.iload_n 2, 1) := by decide +kernel
theorem d_Nd_node_41 : decode b_Nd_node 41 = .ok (.bipush 10, 2) := by decide +kernel
theorem d_Nd_node_43 : decode b_Nd_node 43 = .ok (.if_icmp .lt 41, 3) := by decide +kernel
theorem d_Nd_node_46 : decode b_Nd_node 46 = .ok (.iload_n 2, 1) := by decide +kernel
theorem d_Nd_node_47 : decode b_Nd_node 47 = .ok (.bipush 10, 2) := by decide +kernel
theorem d_Nd_node_49 : decode b_Nd_node 49 = .ok (.isub, 1) := by decide +kernel
theorem d_Nd_node_50 : decode b_Nd_node 50 = .ok (.istore_n 3, 1) := by decide +kernel
theorem d_Nd_node_51 : decode b_Nd_node 51 = .ok (.aload_n 0, 1) := by decide +kernel
theorem d_Nd_node_52 : decode b_Nd_node 52 = .ok (.getfield 19, 3) := by decide +kernel
theorem d_Nd_node_55 : decode b_Nd_node 55 = .ok (.getfield 49, 3) := by decide +kernel
theorem d_Nd_node_58 : decode b_Nd_node 58 = .ok (.iload_n 1, 1) := by decide +kernel
theorem d_Nd_node_59 : decode b_Nd_node 59 = .ok (.iload_n 3, 1) := by decide +kernel
theorem d_Nd_node_60 : decode b_Nd_node 60 = .ok (.invokevirtual 130, 3) := by decide +kernel
theorem d_Nd_node_63 : decode b_Nd_node 63 = .ok (.ifCond .eq 18, 3) := by decide +kernel
theorem d_Nd_node_66 : decode b_Nd_node 66 = .ok (.aload_n 0, 1) := by decide +kernel
theorem d_Nd_node_67 : decode b_Nd_node 67 = .ok (.getfield 19, 3) := by decide +kernel
theorem d_Nd_node_70 : decode b_Nd_node 70 = .ok (.getfield 49, 3) := by decide +kernel
theorem d_Nd_node_73 : decode b_Nd_node 73 = .ok (.iload_n 1, 1) := by decide +kernel
theorem d_Nd_node_74 : decode b_Nd_node 74 = .ok (.iload_n 3, 1) := by decide +kernel
theorem d_Nd_node_75 : decode b_Nd_node 75 = .ok (.invokevirtual 134, 3) := by decide +kernel
theorem d_Nd_node_78 : decode b_Nd_node 78 = .ok (.goto 5, 3) := by decide +kernel
theorem d_Nd_node_81 : decode b_Nd_node 81 = .ok (.bipush (-2), 2) := by decide +kernel
theorem d_Nd_node_83 : decode b_Nd_node 83 = .ok (.ireturn, 1) := by decide +kernel
theorem d_Nd_node_84 : decode b_Nd_node 84 = .ok (.iload_n 2, 1) := by decide +kernel
theorem d_Nd_node_85 : decode b_Nd_node 85 = .ok (.tableswitch 97 0 7 #[47, 59, 71, 97, 97, 97, 97, 88], 47) := by decide +kernel
theorem d_Nd_node_132 : decode b_Nd_node 132 = .ok (.aload_n 0, 1) := by decide +kernel
theorem d_Nd_node_133 : decode b_Nd_node 133 = .ok (.getfield 19, 3) := by decide +kernel
theorem d_Nd_node_136 : decode b_Nd_node 136 = .ok (.getfield 49, 3) := by decide +kernel
theorem d_Nd_node_139 : decode b_Nd_node 139 = .ok (.iload_n 1, 1) := by decide +kernel
theorem d_Nd_node_140 : decode b_Nd_node 140 = .ok (.invokevirtual 137, 3) := by decide +kernel
theorem d_Nd_node_143 : decode b_Nd_node 143 = .ok (.ireturn, 1) := by decide +kernel
theorem d_Nd_node_144 : decode b_Nd_node 144 = .ok (.aload_n 0, 1) := by decide +kernel
theorem d_Nd_node_145 : decode b_Nd_node 145 = .ok (.getfield 19, 3) := by decide +kernel
theorem d_Nd_node_148 : decode b_Nd_node 148 = .ok (.getfield 49, 3) := by decide +kernel
theorem d_Nd_node_151 : decode b_Nd_node 151 = .ok (.iload_n 1, 1) := by decide +kernel
theorem d_Nd_node_152 : decode b_Nd_node 152 = .ok (.invokevirtual 140, 3) := by decide +kernel
theorem d_Nd_node_155 : decode b_Nd_node 155 = .ok (.ireturn, 1) := by decide +kernel
theorem d_Nd_node_156 : decode b_Nd_node 156 = .ok (.aload_n 0, 1) := by decide +kernel
theorem d_Nd_node_157 : decode b_Nd_node 157 = .ok (.getfield 12, 3) := by decide +kernel
theorem d_Nd_node_160 : decode b_Nd_node 160 = .ok (.iload_n 1, 1) := by decide +kernel
theorem d_Nd_node_161 : decode b_Nd_node 161 = .ok (.invokevirtual 80, 3) := by decide +kernel
theorem d_Nd_node_164 : decode b_Nd_node 164 = .ok (.ifCond .eq 7, 3) := by decide +kernel
theorem d_Nd_node_167 : decode b_Nd_node 167 = .ok (.iconst 1, 1) := by decide +kernel
theorem d_Nd_node_168 : decode b_Nd_node 168 = .ok (.goto 4, 3) := by decide +kernel
theorem d_Nd_node_171 : decode b_Nd_node 171 = .ok (.iconst 0, 1) := by decide +kernel
theorem d_Nd_node_172 : decode b_Nd_node 172 = .ok (.ireturn, 1) := by decide +kernel
theorem d_Nd_node_173 : decode b_Nd_node 173 = .ok (.aload_n 0, 1) := by decide +kernel
theorem d_Nd_node_174 : decode b_Nd_node 174 = .ok (.getfield 12, 3) := by decide +kernel
theorem d_Nd_node_177 : decode b_Nd_node 177 = .ok (.iload_n 1, 1) := by decide +kernel
theorem d_Nd_node_178 : decode b_Nd_node 178 = .ok (.invokevirtual 143, 3) := by decide +kernel
theorem d_Nd_node_181 : decode b_Nd_node 181 = .ok (.ireturn, 1) := by decide +kernel
theorem d_Nd_node_182 : decode b_Nd_node 182 = .ok (.aload_n 0, 1) := by decide +kernel
theorem d_Nd_node_183 : decode b_Nd_node 183 = .ok (.getfield 12, 3) := by decide +kernel
theorem d_Nd_node_186 : decode b_Nd_node 186 = .ok (.iload_n 1, 1) := by decide +kernel
theorem d_Nd_node_187 : decode b_Nd_node 187 = .ok (.iload_n 2, 1) := by decide +kernel
theorem d_Nd_node_188 : decode b_Nd_node 188 = .ok (.iconst 3, 1) := by decide +kernel
theorem d_Nd_node_189 : decode b_Nd_node 189 = .ok (.isub, 1) := by decide +kernel
theorem d_Nd_node_190 : decode b_Nd_node 190 = .ok (.invokevirtual 146, 3) := by decide +kernel
theorem d_Nd_node_193 : decode b_Nd_node 193 = .ok (.ireturn, 1) := by decide +kernel
theorem d_Nd_neighbour_0 : decode b_Nd_neighbour 0 = .ok (.aload_n 0, 1) := by decide +kernel
theorem d_Nd_neighbour_1 : decode b_Nd_neighbour 1 = .ok (.getfield 19, 3) := by decide +kernel
theorem d_Nd_neighbour_4 : decode b_Nd_neighbour 4 = .ok (.getfield 49, 3) := by decide +kernel
theorem d_Nd_neighbour_7 : decode b_Nd_neighbour 7 = .ok (.iload_n 1, 1) := by decide +kernel
theorem d_Nd_neighbour_8 : decode b_Nd_neighbour 8 = .ok (.iload_n 2, 1) := by decide +kernel
theorem d_Nd_neighbour_9 : decode b_Nd_neighbour 9 = .ok (.invokevirtual 130, 3) := by decide +kernel
theorem d_Nd_neighbour_12 : decode b_Nd_neighbour 12 = .ok (.ifCond .eq 25, 3) := by decide +kernel
theorem d_Nd_neighbour_15 : decode b_Nd_neighbour 15 = .ok (.iload_n 3, 1) := by decide +kernel
theorem d_Nd_neighbour_16 : decode b_Nd_neighbour 16 = .ok (.iconst 0, 1) := by decide +kernel
theorem d_Nd_neighbour_17 : decode b_Nd_neighbour 17 = .ok (.aload_n 0, 1) := by decide +kernel
theorem d_Nd_neighbour_18 : decode b_Nd_neighbour 18 = .ok (.getfield 19, 3) := by decide +kernel
theorem d_Nd_neighbour_21 : decode b_Nd_neighbour 21 = .ok (.getfield 49, 3) := by decide +kernel
theorem d_Nd_neighbour_24 : decode b_Nd_neighbour 24 = .ok (.iload_n 1, 1) := by decide +kernel
theorem d_Nd_neighbour_25 : decode b_Nd_neighbour 25 = .ok (.iload_n 2, 1) := by decide +kernel
theorem d_Nd_neighbour_26 : decode b_Nd_neighbour 26 = .ok (.invokevirtual 134, 3) := by decide +kernel
theorem d_Nd_neighbour_29 : decode b_Nd_neighbour 29 = .ok (.iconst 1, 1) := by decide +kernel
theorem d_Nd_neighbour_30 : decode b_Nd_neighbour 30 = .ok (.isub, 1) := by decide +kernel
theorem d_Nd_neighbour_31 : decode b_Nd_neighbour 31 = .ok (.invokestatic 45, 3) := by decide +kernel
theorem d_Nd_neighbour_34 : decode b_Nd_neighbour 34 = .ok (.ifCond .ne 6, 3) := by decide +kernel
theorem d_Nd_neighbour_37 : decode b_Nd_neighbour 37 = .ok (.bipush (-2), 2) := by decide +kernel
theorem d_Nd_neighbour_39 : decode b_Nd_neighbour 39 = .ok (.ireturn, 1) := by decide +kernel
theorem d_Nd_neighbour_40 : decode b_Nd_neighbour 40 = .ok (.aload_n 0, 1) := by decide +kernel
theorem d_Nd_neighbour_41 : decode b_Nd_neighbour 41 = .ok (.getfield 19, 3) := by decide +kernel
theorem d_Nd_neighbour_44 : decode b_Nd_neighbour 44 = .ok (.getfield 49, 3) := by decide +kernel
theorem d_Nd_neighbour_47 : decode b_Nd_neighbour 47 = .ok (.iload_n 1, 1) := by decide +kernel
theorem d_Nd_neighbour_48 : decode b_Nd_neighbour 48 = .ok (.iload_n 2, 1) := by decide +kernel
theorem d_Nd_neighbour_49 : decode b_Nd_neighbour 49 = .ok (.iload_n 3, 1) := by decide +kernel
theorem d_Nd_neighbour_50 : decode b_Nd_neighbour 50 = .ok (.invokevirtual 149, 3) := by decide +kernel
theorem d_Nd_neighbour_53 : decode b_Nd_neighbour 53 = .ok (.ireturn, 1) := by decide +kernel
theorem d_Nd_count_0 : decode b_Nd_count 0 = .ok (.iload_n 1, 1) := by decide +kernel
theorem d_Nd_count_1 : decode b_Nd_count 1 = .ok (.tableswitch 148 0 9 #[55, 66, 74, 82, 90, 98, 106, 114, 119, 130], 55) := by decide +kernel
theorem d_Nd_count_56 : decode b_Nd_count 56 = .ok (.aload_n 0, 1) := by decide +kernel
theorem d_Nd_count_57 : decode b_Nd_count 57 = .ok (.getfield 19, 3) := by decide +kernel
theorem d_Nd_count_60 : decode b_Nd_count 60 = .ok (.getfield 49, 3) := by decide +kernel
theorem d_Nd_count_63 : decode b_Nd_count 63 = .ok (.invokevirtual 71, 3) := by decide +kernel
theorem d_Nd_count_66 : decode b_Nd_count 66 = .ok (.ireturn, 1) := by decide +kernel
theorem d_Nd_count_67 : decode b_Nd_count 67 = .ok (.aload_n 0, 1) := by decide +kernel
theorem d_Nd_count_68 : decode b_Nd_count 68 = .ok (.getfield 12, 3) := by decide +kernel
theorem d_Nd_count_71 : decode b_Nd_count 71 = .ok (.invokevirtual 74, 3) := by decide +kernel
theorem d_Nd_count_74 : decode b_Nd_count 74 = .ok (.ireturn, 1) := by decide +kernel
theorem d_Nd_count_75 : decode b_Nd_count 75 = .ok (.aload_n 0, 1) := by decide +kernel
theorem d_Nd_count_76 : decode b_Nd_count 76 = .ok (.getfield 19, 3) := by decide +kernel
theorem d_Nd_count_79 : decode b_Nd_count 79 = .ok (.invokevirtual 153, 3) := by decide +kernel
theorem d_Nd_count_82 : decode b_Nd_count 82 = .ok (.ireturn, 1) := by decide +kernel
theorem d_Nd_count_83 : decode b_Nd_count 83 = .ok (.aload_n 0, 1) := by decide +kernel
theorem d_Nd_count_84 : decode b_Nd_count 84 = .ok (.getfield 19, 3) := by decide +kernel
theorem d_Nd_count_87 : decode b_Nd_count 87 = .ok (.invokevirtual 156, 3) := by decide +kernel
theorem d_Nd_count_90 : decode b_Nd_count 90 = .ok (.ireturn, 1) := by decide +kernel
theorem d_Nd_count_91 : decode b_Nd_count 91 = .ok (.aload_n 0, 1) := by decide +kernel
theorem d_Nd_count_92 : decode b_Nd_count 92 = .ok (.getfield 19, 3) := by decide +kernel
theorem d_Nd_count_95 : decode b_Nd_count 95 = .ok (.invokevirtual 159, 3) := by decide +kernel
theorem d_Nd_count_98 : decode b_Nd_count 98 = .ok (.ireturn, 1) := by decide +kernel
theorem d_Nd_count_99 : decode b_Nd_count 99 = .ok (.aload_n 0, 1) := by decide +kernel
theorem d_Nd_count_100 : decode b_Nd_count 100 = .ok (.getfield 19, 3) := by decide +kernel
theorem d_Nd_count_103 : decode b_Nd_count 103 = .ok (.invokevirtual 162, 3) := by decide +kernel
theorem d_Nd_count_106 : decode b_Nd_count 106 = .ok (.ireturn, 1) := by decide +kernel
theorem d_Nd_count_107 : decode b_Nd_count 107 = .ok (.aload_n 0, 1) := by decide +kernel
theorem d_Nd_count_108 : decode b_Nd_count 108 = .ok (.getfield 26, 3) := by decide +kernel
theorem d_Nd_count_111 : decode b_Nd_count 111 = .ok (.invokevirtual 101, 3) := by decide +kernel
theorem d_Nd_count_114 : decode b_Nd_count 114 = .ok (.ireturn, 1) := by decide +kernel
theorem d_Nd_count_115 : decode b_Nd_count 115 = .ok (.aload_n 0, 1) := by decide +kernel
theorem d_Nd_count_116 : decode b_Nd_count 116 = .ok (.invokevirtual 165, 3) := by decide +kernel
theorem d_Nd_count_119 : decode b_Nd_count 119 = .ok (.ireturn, 1) := by decide +kernel
theorem d_Nd_count_120 : decode b_Nd_count 120 = .ok (.aload_n 0, 1) := by decide +kernel
theorem d_Nd_count_121 : decode b_Nd_count 121 = .ok (.getfield 19, 3) := by decide +kernel
theorem d_Nd_count_124 : decode b_Nd_count 124 = .ok (.getfield 49, 3) := by decide +kernel
theorem d_Nd_count_127 : decode b_Nd_count 127 = .ok (.invokevirtual 168, 3) := by decide +kernel
theorem d_Nd_count_130 : decode b_Nd_count 130 = .ok (.ireturn, 1) := by decide +kernel
theorem d_Nd_count_131 : decode b_Nd_count 131 = .ok (.aload_n 0, 1) := by decide +kernel
theorem d_Nd_count_132 : decode b_Nd_count 132 = .ok (.getfield 19, 3) := by decide +kernel
theorem d_Nd_count_135 : decode b_Nd_count 135 = .ok (.getfield 49, 3) := by decide +kernel
theorem d_Nd_count_138 : decode b_Nd_count 138 = .ok (.aload_n 0, 1) := by decide +kernel
theorem d_Nd_count_139 : decode b_Nd_count 139 = .ok (.getfield 19, 3) := by decide +kernel
theorem d_Nd_count_142 : decode b_Nd_count 142 = .ok (.invokevirtual 153, 3) := by decide +kernel
theorem d_Nd_count_145 : decode b_Nd_count 145 = .ok (.invokevirtual 171, 3) := by decide +kernel
theorem d_Nd_count_148 : decode b_Nd_count 148 = .ok (.ireturn, 1) := by decide +kernel
theorem d_Nd_count_149 : decode b_Nd_count 149 = .ok (.iconst (-1), 1) := by decide +kernel
theorem d_Nd_count_150 : decode b_Nd_count 150 = .ok (.ireturn, 1) := by decide +kernel
theorem d_Nd_foundAmongNearest_0 : decode b_Nd_foundAmongNearest 0 = .ok (.aload_n 0, 1) := by decide +kernel
theorem d_Nd_foundAmongNearest_1 : decode b_Nd_foundAmongNearest 1 = .ok (.getfield 30, 3) := by decide +kernel
theorem d_Nd_foundAmongNearest_4 : decode b_Nd_foundAmongNearest 4 = .ok (.aload_n 0, 1) := by decide +kernel
theorem d_Nd_foundAmongNearest_5 : decode b_Nd_foundAmongNearest 5 = .ok (.getfield 26, 3) := by decide +kernel
theorem d_Nd_foundAmongNearest_8 : decode b_Nd_foundAmongNearest 8 = .ok (.invokevirtual 101, 3) := by decide +kernel
theorem d_Nd_foundAmongNearest_11 : decode b_Nd_foundAmongNearest 11 = .ok (.iconst 0, 1) := by decide +kernel
theorem d_Nd_foundAmongNearest_12 : decode b_Nd_foundAmongNearest 12 = .ok (.invokevirtual 87, 3) := by decide +kernel
theorem d_Nd_foundAmongNearest_15 : decode b_Nd_foundAmongNearest 15 = .ok (.aload_n 0, 1) := by decide +kernel
theorem d_Nd_foundAmongNearest_16 : decode b_Nd_foundAmongNearest 16 = .ok (.getfield 12, 3) := by decide +kernel
theorem d_Nd_foundAmongNearest_19 : decode b_Nd_foundAmongNearest 19 = .ok (.aload_n 0, 1) := by decide +kernel
theorem d_Nd_foundAmongNearest_20 : decode b_Nd_foundAmongNearest 20 = .ok (.getfield 33, 3) := by decide +kernel
theorem d_Nd_foundAmongNearest_23 : decode b_Nd_foundAmongNearest 23 = .ok (.aload_n 0, 1) := by decide +kernel
theorem d_Nd_foundAmongNearest_24 : decode b_Nd_foundAmongNearest 24 = .ok (.getfield 30, 3) := by decide +kernel
theorem d_Nd_foundAmongNearest_27 : decode b_Nd_foundAmongNearest 27 = .ok (.invokevirtual 102, 3) := by decide +kernel
theorem d_Nd_foundAmongNearest_30 : decode b_Nd_foundAmongNearest 30 = .ok (.iconst 0, 1) := by decide +kernel
theorem d_Nd_foundAmongNearest_31 : decode b_Nd_foundAmongNearest 31 = .ok (.istore_n 1, 1) := by decide +kernel
theorem d_Nd_foundAmongNearest_32 : decode b_Nd_foundAmongNearest 32 = .ok (.iconst 0, 1) := by decide +kernel
theorem d_Nd_foundAmongNearest_33 : decode b_Nd_foundAmongNearest 33 = .ok (.istore_n 2, 1) := by decide +kernel
theorem d_Nd_foundAmongNearest_34 : decode b_Nd_foundAmongNearest 34 = .ok (.iload_n 2, 1) := by decide +kernel
theorem d_Nd_foundAmongNearest_35 : decode b_Nd_foundAmongNearest 35 = .ok (.aload_n 0, 1) := by decide +kernel
theorem d_Nd_foundAmongNearest_36 : decode b_Nd_foundAmongNearest 36 = .ok (.getfield 26, 3) := by decide +kernel
theorem d_Nd_foundAmongNearest_39 : decode b_Nd_foundAmongNearest 39 = .ok (.invokevirtual 101, 3) := by decide +kernel
theorem d_Nd_foundAmongNearest_42 : decode b_Nd_foundAmongNearest 42 = .ok (.if_icmp .ge 30, 3) := by decide +kernel
theorem d_Nd_foundAmongNearest_45 : decode b_Nd_foundAmongNearest 45 = .ok (.aload_n 0, 1) := by decide +kernel
theorem d_Nd_foundAmongNearest_46 : decode b_Nd_foundAmongNearest 46 = .ok (.getfield 30, 3) := by decide +kernel
theorem d_Nd_foundAmongNearest_49 : decode b_Nd_foundAmongNearest 49 = .ok (.aload_n 0, 1) := by decide +kernel
theorem d_Nd_foundAmongNearest_50 : decode b_Nd_foundAmongNearest 50 = .ok (.getfield 26, 3) := by decide +kernel
theorem d_Nd_foundAmongNearest_53 : decode b_Nd_foundAmongNearest 53 = .ok (.iload_n 2, 1) := by decide +kernel
theorem d_Nd_foundAmongNearest_54 : decode b_Nd_foundAmongNearest 54 = .ok (.invokevirtual 120, 3) := by decide +kernel
theorem d_Nd_foundAmongNearest_57 : decode b_Nd_foundAmongNearest 57 = .ok (.invokevirtual 181, 3) := by decide +kernel
theorem d_Nd_foundAmongNearest_60 : decode b_Nd_foundAmongNearest 60 = .ok (.ifCond .eq 6, 3) := by decide +kernel
theorem d_Nd_foundAmongNearest_63 : decode b_Nd_foundAmongNearest 63 = .ok (.iinc 1 1, 3) := by decide +kernel
theorem d_Nd_foundAmongNearest_66 : decode b_Nd_foundAmongNearest 66 = .ok (.iinc 2 1, 3) := by decide +kernel
theorem d_Nd_foundAmongNearest_69 : decode b_Nd_foundAmongNearest 69 = .ok (.goto (-35), 3) := by decide +kernel
theorem d_Nd_foundAmongNearest_72 : decode b_Nd_foundAmongNearest 72 = .ok (.iload_n 1, 1) := by decide +kernel
theorem d_Nd_foundAmongNearest_73 : decode b_Nd_foundAmongNearest 73 = .ok (.ireturn, 1) := by decide +kernel
end
section
theorem d_Mo_put_0 : decode b_Mo_put 0 = .ok (.iload_n 1, 1) := by decide +kernel
theorem d_Mo_put_1 : decode b_Mo_put 1 = .ok (.iconst 0, 1) := by decide +kernel
theorem d_Mo_put_2 : decode b_Mo_put 2 = .ok (.bipush 99, 2) := by decide +kernel
theorem d_Mo_put_4 : decode b_Mo_put 4 = .ok (.invokestatic 136, 3) := by decide +kernel
theorem d_Mo_put_7 : decode b_Mo_put 7 = .ok (.ifCond .eq 45, 3) := by decide +kernel
theorem d_Mo_put_10 : decode b_Mo_put 10 = .ok (.iload_n 2, 1) := by decide +kernel
theorem d_Mo_put_11 : decode b_Mo_put 11 = .ok (.iconst 0, 1) := by decide +kernel
theorem d_Mo_put_12 : decode b_Mo_put 12 = .ok (.bipush 99, 2) := by decide +kernel
theorem d_Mo_put_14 : decode b_Mo_put 14 = .ok (.invokestatic 136, 3) := by decide +kernel
theorem d_Mo_put_17 : decode b_Mo_put 17 = .ok (.ifCond .eq 35, 3) := by decide +kernel
theorem d_Mo_put_20 : decode b_Mo_put 20 = .ok (.iload_n 3, 1) := by decide +kernel
theorem d_Mo_put_21 : decode b_Mo_put 21 = .ok (.iconst 0, 1) := by decide +kernel
theorem d_Mo_put_22 : decode b_Mo_put 22 = .ok (.bipush 99, 2) := by decide +kernel
theorem d_Mo_put_24 : decode b_Mo_put 24 = .ok (.invokestatic 136, 3) := by decide +kernel
theorem d_Mo_put_27 : decode b_Mo_put 27 = .ok (.ifCond .eq 25, 3) := by decide +kernel
theorem d_Mo_put_30 : decode b_Mo_put 30 = .ok (.iload 4, 2) := by decide +kernel
theorem d_Mo_put_32 : decode b_Mo_put 32 = .ok (.iconst 0, 1) := by decide +kernel
theorem d_Mo_put_33 : decode b_Mo_put 33 = .ok (.bipush 99, 2) := by decide +kernel
theorem d_Mo_put_35 : decode b_Mo_put 35 = .ok (.invokestatic 136, 3) := by decide +kernel
theorem d_Mo_put_38 : decode b_Mo_put 38 = .ok (.ifCond .eq 14, 3) := by decide +kernel
theorem d_Mo_put_41 : decode b_Mo_put 41 = .ok (.iload 5, 2) := by decide +kernel
theorem d_Mo_put_43 : decode b_Mo_put 43 = .ok (.iconst 0, 1) := by decide +kernel
theorem d_Mo_put_44 : decode b_Mo_put 44 = .ok (.ldc 140, 2) := by decide +kernel
theorem d_Mo_put_46 : decode b_Mo_put 46 = .ok (.invokestatic 136, 3) := by decide +kernel
theorem d_Mo_put_49 : decode b_Mo_put 49 = .ok (.ifCond .ne 5, 3) := by decide +kernel
theorem d_Mo_put_52 : decode b_Mo_put 52 = .ok (.iconst (-1), 1) := by decide +kernel
theorem d_Mo_put_53 : decode b_Mo_put 53 = .ok (.ireturn, 1) := by decide +kernel
theorem d_Mo_put_54 : decode b_Mo_put 54 = .ok (.iconst 0, 1) := by decide +kernel
theorem d_Mo_put_55 : decode b_Mo_put 55 = .ok (.istore 6, 2) := by decide +kernel
theorem d_Mo_put_57 : decode b_Mo_put 57 = .ok (.iload 6, 2) := by decide +kernel
theorem d_Mo_put_59 : decode b_Mo_put 59 = .ok (.bipush 30, 2) := by decide +kernel
theorem d_Mo_put_61 : decode b_Mo_put 61 = .ok (.if_icmp .ge 19, 3) := by decide +kernel
theorem d_Mo_put_64 : decode b_Mo_put 64 = .ok (.aload_n 0, 1) := by decide +kernel
theorem d_Mo_put_65 : decode b_Mo_put 65 = .ok (.getfield 7, 3) := by decide +kernel
theorem d_Mo_put_68 : decode b_Mo_put 68 = .ok (.iload 6, 2) := by decide +kernel
theorem d_Mo_put_70 : decode b_Mo_put 70 = .ok (.baload, 1) := by decide +kernel
theorem d_Mo_put_71 : decode b_Mo_put 71 = .ok (.ifCond .eq 9, 3) := by decide +kernel
theorem d_Mo_put_74 : decode b_Mo_put 74 = .ok (.iinc 6 1, 3) := by decide +kernel
theorem d_Mo_put_77 : decode b_Mo_put 77 = .ok (.goto (-20), 3) := by decide +kernel
theorem d_Mo_put_80 : decode b_Mo_put 80 = .ok (.iload 6, 2) := by decide +kernel
theorem d_Mo_put_82 : decode b_Mo_put 82 = .ok (.bipush 30, 2) := by decide +kernel
theorem d_Mo_put_84 : decode b_Mo_put 84 = .ok (.if_icmp .ne 6, 3) := by decide +kernel
theorem d_Mo_put_87 : decode b_Mo_put 87 = .ok (.bipush (-3), 2) := by decide +kernel
theorem d_Mo_put_89 : decode b_Mo_put 89 = .ok (.ireturn, 1) := by decide +kernel
theorem d_Mo_put_90 : decode b_Mo_put 90 = .ok (.aload_n 0, 1) := by decide +kernel
theorem d_Mo_put_91 : decode b_Mo_put 91 = .ok (.getfield 16, 3) := by decide +kernel
theorem d_Mo_put_94 : decode b_Mo_put 94 = .ok (.iconst 4, 1) := by decide +kernel
theorem d_Mo_put_95 : decode b_Mo_put 95 = .ok (.iload 6, 2) := by decide +kernel
theorem d_Mo_put_97 : decode b_Mo_put 97 = .ok (.imul, 1) := by decide +kernel
theorem d_Mo_put_98 : decode b_Mo_put 98 = .ok (.iload_n 1, 1) := by decide +kernel
theorem d_Mo_put_99 : decode b_Mo_put 99 = .ok (.iastore, 1) := by decide +kernel
theorem d_Mo_put_100 : decode b_Mo_put 100 = .ok (.aload_n 0, 1) := by decide +kernel
theorem d_Mo_put_101 : decode b_Mo_put 101 = .ok (.getfield 16, 3) := by decide +kernel
theorem d_Mo_put_104 : decode b_Mo_put 104 = .ok (.iconst 4, 1) := by decide +kernel
theorem d_Mo_put_105 : decode b_Mo_put 105 = .ok (.iload 6, 2) := by decide +kernel
theorem d_Mo_put_107 : decode b_Mo_put 107 = .ok (.imul, 1) := by decide +kernel
theorem d_Mo_put_108 : decode b_Mo_put 108 = .ok (.iconst 1, 1) := by decide +kernel
theorem d_Mo_put_109 : decode b_Mo_put 109 = .ok (.iadd, 1) := by decide +kernel
theorem d_Mo_put_110 : decode b_Mo_put 110 = .ok (.iload_n 2, 1) := by decide +kernel
theorem d_Mo_put_111 : decode b_Mo_put 111 = .ok (.iastore, 1) := by decide +kernel
theorem d_Mo_put_112 : decode b_Mo_put 112 = .ok (.aload_n 0, 1) := by decide +kernel
theorem d_Mo_put_113 : decode b_Mo_put 113 = .ok (.getfield 16, 3) := by decide +kernel
theorem d_Mo_put_116 : decode b_Mo_put 116 = .ok (.iconst 4, 1) := by decide +kernel
theorem d_Mo_put_117 : decode b_Mo_put 117 = .ok (.iload 6, 2) := by decide +kernel
theorem d_Mo_put_119 : decode b_Mo_put 119 = .ok (.imul, 1) := by decide +kernel
theorem d_Mo_put_120 : decode b_Mo_put 120 = .ok (.iconst 2, 1) := by decide +kernel
theorem d_Mo_put_121 : decode b_Mo_put 121 = .ok (.iadd, 1) := by decide +kernel
theorem d_Mo_put_122 : decode b_Mo_put 122 = .ok (.iload_n 3, 1) := by decide +kernel
theorem d_Mo_put_123 : decode b_Mo_put 123 = .ok (.iastore, 1) := by decide +kernel
theorem d_Mo_put_124 : decode b_Mo_put 124 = .ok (.aload_n 0, 1) := by decide +kernel
theorem d_Mo_put_125 : decode b_Mo_put 125 = .ok (.getfield 16, 3) := by decide +kernel
theorem d_Mo_put_128 : decode b_Mo_put 128 = .ok (.iconst 4, 1) := by decide +kernel
theorem d_Mo_put_129 : decode b_Mo_put 129 = .ok (.iload 6, 2) := by decide +kernel
theorem d_Mo_put_131 : decode b_Mo_put 131 = .ok (.imul, 1) := by decide +kernel
theorem d_Mo_put_132 : decode b_Mo_put 132 = .ok (.iconst 3, 1) := by decide +kernel
theorem d_Mo_put_133 : decode b_Mo_put 133 = .ok (.iadd, 1) := by decide +kernel
theorem d_Mo_put_134 : decode b_Mo_put 134 = .ok (.iload 4, 2) := by decide +kernel
theorem d_Mo_put_136 : decode b_Mo_put 136 = .ok (.iastore, 1) := by decide +kernel
theorem d_Mo_put_137 : decode b_Mo_put 137 = .ok (.aload_n 0, 1) := by decide +kernel
theorem d_Mo_put_138 : decode b_Mo_put 138 = .ok (.getfield 20, 3) := by decide +kernel
theorem d_Mo_put_141 : decode b_Mo_put 141 = .ok (.iload 6, 2) := by decide +kernel
theorem d_Mo_put_143 : decode b_Mo_put 143 = .ok (.iload 5, 2) := by decide +kernel
theorem d_Mo_put_145 : decode b_Mo_put 145 = .ok (.iastore, 1) := by decide +kernel
theorem d_Mo_put_146 : decode b_Mo_put 146 = .ok (.aload_n 0, 1) := by decide +kernel
theorem d_Mo_put_147 : decode b_Mo_put 147 = .ok (.iload 6, 2) := by decide +kernel
theorem d_Mo_put_149 : decode b_Mo_put 149 = .ok (.invokevirtual 141, 3) := by decide +kernel
theorem d_Mo_put_152 : decode b_Mo_put 152 = .ok (.iload 6, 2) := by decide +kernel
theorem d_Mo_put_154 : decode b_Mo_put 154 = .ok (.ireturn, 1) := by decide +kernel
theorem d_Mo_in_0 : decode b_Mo_in 0 = .ok (.iload_n 0, 1) := by decide +kernel
theorem d_Mo_in_1 : decode b_Mo_in 1 = .ok (.iload_n 1, 1) := by decide +kernel
theorem d_Mo_in_2 : decode b_Mo_in 2 = .ok (.if_icmp .lt 12, 3) := by decide +kernel
theorem d_Mo_in_5 : decode b_Mo_in 5 = .ok (.iload_n 0, 1) := by decide +kernel
theorem d_Mo_in_6 : decode b_Mo_in 6 = .ok (.iload_n 2, 1) := by decide +kernel
theorem d_Mo_in_7 : decode b_Mo_in 7 = .ok (.if_icmp .gt 7, 3) := by decide +kernel
theorem d_Mo_in_10 : decode b_Mo_in 10 = .ok (.iconst 1, 1) := by decide +kernel
theorem d_Mo_in_11 : decode b_Mo_in 11 = .ok (.goto 4, 3) := by decide +kernel
theorem d_Mo_in_14 : decode b_Mo_in 14 = .ok (.iconst 0, 1) := by decide +kernel
theorem d_Mo_in_15 : decode b_Mo_in 15 = .ok (.ireturn, 1) := by decide +kernel
theorem d_Mo_enter_0 : decode b_Mo_enter 0 = .ok (.aload_n 0, 1) := by decide +kernel
theorem d_Mo_enter_1 : decode b_Mo_enter 1 = .ok (.dup, 1) := by decide +kernel
theorem d_Mo_enter_2 : decode b_Mo_enter 2 = .ok (.getfield 114, 3) := by decide +kernel
theorem d_Mo_enter_5 : decode b_Mo_enter 5 = .ok (.iconst 1, 1) := by decide +kernel
theorem d_Mo_enter_6 : decode b_Mo_enter 6 = .ok (.iadd, 1) := by decide +kernel
theorem d_Mo_enter_7 : decode b_Mo_enter 7 = .ok (.putfield 114, 3) := by decide +kernel
theorem d_Mo_enter_10 : decode b_Mo_enter 10 = .ok (.aload_n 0, 1) := by decide +kernel
theorem d_Mo_enter_11 : decode b_Mo_enter 11 = .ok (.getfield 26, 3) := by decide +kernel
theorem d_Mo_enter_14 : decode b_Mo_enter 14 = .ok (.iload_n 1, 1) := by decide +kernel
theorem d_Mo_enter_15 : decode b_Mo_enter 15 = .ok (.aload_n 0, 1) := by decide +kernel
theorem d_Mo_enter_16 : decode b_Mo_enter 16 = .ok (.getfield 114, 3) := by decide +kernel
theorem d_Mo_enter_19 : decode b_Mo_enter 19 = .ok (.iastore, 1) := by decide +kernel
theorem d_Mo_enter_20 : decode b_Mo_enter 20 = .ok (.iconst 0, 1) := by decide +kernel
theorem d_Mo_enter_21 : decode b_Mo_enter 21 = .ok (.istore_n 2, 1) := by decide +kernel
theorem d_Mo_enter_22 : decode b_Mo_enter 22 = .ok (.aload_n 0, 1) := by decide +kernel
theorem d_Mo_enter_23 : decode b_Mo_enter 23 = .ok (.getfield 114, 3) := by decide +kernel
theorem d_Mo_enter_26 : decode b_Mo_enter 26 = .ok (.istore_n 3, 1) := by decide +kernel
theorem d_Mo_enter_27 : decode b_Mo_enter 27 = .ok (.iload_n 3, 1) := by decide +kernel
theorem d_Mo_enter_28 : decode b_Mo_enter 28 = .ok (.iconst 3, 1) := by decide +kernel
theorem d_Mo_enter_29 : decode b_Mo_enter 29 = .ok (.irem, 1) := by decide +kernel
theorem d_Mo_enter_30 : decode b_Mo_enter 30 = .ok (.ifCond .ne 18, 3) := by decide +kernel
theorem d_Mo_enter_33 : decode b_Mo_enter 33 = .ok (.iload_n 2, 1) := by decide +kernel
theorem d_Mo_enter_34 : decode b_Mo_enter 34 = .ok (.iconst 3, 1) := by decide +kernel
theorem d_Mo_enter_35 : decode b_Mo_enter 35 = .ok (.if_icmp .ge 13, 3) := by decide +kernel
theorem d_Mo_enter_38 : decode b_Mo_enter 38 = .ok (.iinc 2 1, 3) := by decide +kernel
theorem d_Mo_enter_41 : decode b_Mo_enter 41 = .ok (.iload_n 3, 1) := by decide +kernel
theorem d_Mo_enter_42 : decode b_Mo_enter 42 = .ok (.iconst 3, 1) := by decide +kernel
theorem d_Mo_enter_43 : decode b_Mo_enter 43 = .ok (.idiv, 1) := by decide +kernel
theorem d_Mo_enter_44 : decode b_Mo_enter 44 = .ok (.istore_n 3, 1) := by decide +kernel
theorem d_Mo_enter_45 : decode b_Mo_enter 45 = .ok (.goto (-18), 3) := by decide +kernel
theorem d_Mo_enter_48 : decode b_Mo_enter 48 = .ok (.aload_n 0, 1) := by decide +kernel
theorem d_Mo_enter_49 : decode b_Mo_enter 49 = .ok (.getfield 23, 3) := by decide +kernel
theorem d_Mo_enter_52 : decode b_Mo_enter 52 = .ok (.iload_n 1, 1) := by decide +kernel
theorem d_Mo_enter_53 : decode b_Mo_enter 53 = .ok (.iload_n 2, 1) := by decide +kernel
theorem d_Mo_enter_54 : decode b_Mo_enter 54 = .ok (.iastore, 1) := by decide +kernel
theorem d_Mo_enter_55 : decode b_Mo_enter 55 = .ok (.iconst 0, 1) := by decide +kernel
theorem d_Mo_enter_56 : decode b_Mo_enter 56 = .ok (.istore_n 3, 1) := by decide +kernel
theorem d_Mo_enter_57 : decode b_Mo_enter 57 = .ok (.iload_n 3, 1) := by decide +kernel
theorem d_Mo_enter_58 : decode b_Mo_enter 58 = .ok (.iconst 4, 1) := by decide +kernel
theorem d_Mo_enter_59 : decode b_Mo_enter 59 = .ok (.if_icmp .ge 20, 3) := by decide +kernel
theorem d_Mo_enter_62 : decode b_Mo_enter 62 = .ok (.aload_n 0, 1) := by decide +kernel
theorem d_Mo_enter_63 : decode b_Mo_enter 63 = .ok (.getfield 32, 3) := by decide +kernel
theorem d_Mo_enter_66 : decode b_Mo_enter 66 = .ok (.iconst 4, 1) := by decide +kernel
theorem d_Mo_enter_67 : decode b_Mo_enter 67 = .ok (.iload_n 1, 1) := by decide +kernel
theorem d_Mo_enter_68 : decode b_Mo_enter 68 = .ok (.imul, 1) := by decide +kernel
theorem d_Mo_enter_69 : decode b_Mo_enter 69 = .ok (.iload_n 3, 1) := by decide +kernel
theorem d_Mo_enter_70 : decode b_Mo_enter 70 = .ok (.iadd, 1) := by decide +kernel
theorem d_Mo_enter_71 : decode b_Mo_enter 71 = .ok (.iconst 0, 1) := by decide +kernel
theorem d_Mo_enter_72 : decode b_Mo_enter 72 = .ok (.iastore, 1) := by decide +kernel
theorem d_Mo_enter_73 : decode b_Mo_enter 73 = .ok (.iinc 3 1, 3) := by decide +kernel
theorem d_Mo_enter_76 : decode b_Mo_enter 76 = .ok (.goto (-19), 3) := by decide +kernel
theorem d_Mo_enter_79 : decode b_Mo_enter 79 = .ok (.aload_n 0, 1) := by decide +kernel
theorem d_Mo_enter_80 : decode b_Mo_enter 80 = .ok (.getfield 35, 3) := by decide +kernel
theorem d_Mo_enter_83 : decode b_Mo_enter 83 = .ok (.ifCond .lt 117, 3) := by decide +kernel
theorem d_Mo_enter_86 : decode b_Mo_enter 86 = .ok (.aload_n 0, 1) := by decide +kernel
theorem d_Mo_enter_87 : decode b_Mo_enter 87 = .ok (.iload_n 1, 1) := by decide +kernel
theorem d_Mo_enter_88 : decode b_Mo_enter 88 = .ok (.invokevirtual 117, 3) := by decide +kernel
theorem d_Mo_enter_91 : decode b_Mo_enter 91 = .ok (.aload_n 0, 1) := by decide +kernel
theorem d_Mo_enter_92 : decode b_Mo_enter 92 = .ok (.getfield 57, 3) := by decide +kernel
theorem d_Mo_enter_95 : decode b_Mo_enter 95 = .ok (.iconst 0, 1) := by decide +kernel
theorem d_Mo_enter_96 : decode b_Mo_enter 96 = .ok (.aload_n 0, 1) := by decide +kernel
theorem d_Mo_enter_97 : decode b_Mo_enter 97 = .ok (.getfield 35, 3) := by decide +kernel
theorem d_Mo_enter_100 : decode b_Mo_enter 100 = .ok (.iastore, 1) := by decide +kernel
theorem d_Mo_enter_101 : decode b_Mo_enter 101 = .ok (.aload_n 0, 1) := by decide +kernel
theorem d_Mo_enter_102 : decode b_Mo_enter 102 = .ok (.iconst 1, 1) := by decide +kernel
theorem d_Mo_enter_103 : decode b_Mo_enter 103 = .ok (.putfield 83, 3) := by decide +kernel
theorem d_Mo_enter_106 : decode b_Mo_enter 106 = .ok (.aload_n 0, 1) := by decide +kernel
theorem d_Mo_enter_107 : decode b_Mo_enter 107 = .ok (.getfield 23, 3) := by decide +kernel
theorem d_Mo_enter_110 : decode b_Mo_enter 110 = .ok (.aload_n 0, 1) := by decide +kernel
theorem d_Mo_enter_111 : decode b_Mo_enter 111 = .ok (.getfield 35, 3) := by decide +kernel
theorem d_Mo_enter_114 : decode b_Mo_enter 114 = .ok (.iaload, 1) := by decide +kernel
theorem d_Mo_enter_115 : decode b_Mo_enter 115 = .ok (.istore_n 3, 1) := by decide +kernel
theorem d_Mo_enter_116 : decode b_Mo_enter 116 = .ok (.iload_n 3, 1) := by decide +kernel
theorem d_Mo_enter_117 : decode b_Mo_enter 117 = .ok (.istore 4, 2) := by decide +kernel
theorem d_Mo_enter_119 : decode b_Mo_enter 119 = .ok (.iload 4, 2) := by decide +kernel
theorem d_Mo_enter_121 : decode b_Mo_enter 121 = .ok (.iload_n 2, 1) := by decide +kernel
theorem d_Mo_enter_122 : decode b_Mo_enter 122 = .ok (.if_icmp .le 26, 3) := by decide +kernel
theorem d_Mo_enter_125 : decode b_Mo_enter 125 = .ok (.aload_n 0, 1) := by decide +kernel
theorem d_Mo_enter_126 : decode b_Mo_enter 126 = .ok (.dup, 1) := by decide +kernel
theorem d_Mo_enter_127 : decode b_Mo_enter 127 = .ok (.getfield 120, 3) := by decide +kernel
theorem d_Mo_enter_130 : decode b_Mo_enter 130 = .ok (.aload_n 0, 1) := by decide +kernel
theorem d_Mo_enter_131 : decode b_Mo_enter 131 = .ok (.iload 4, 2) := by decide +kernel
theorem d_Mo_enter_133 : decode b_Mo_enter 133 = .ok (.iconst 1, 1) := by decide +kernel
theorem d_Mo_enter_134 : decode b_Mo_enter 134 = .ok (.invokevirtual 124, 3) := by decide +kernel
theorem d_Mo_enter_137 : decode b_Mo_enter 137 = .ok (.i2l, 1) := by decide +kernel
theorem d_Mo_enter_138 : decode b_Mo_enter 138 = .ok (.ladd, 1) := by decide +kernel
theorem d_Mo_enter_139 : decode b_Mo_enter 139 = .ok (.putfield 120, 3) := by decide +kernel
theorem d_Mo_enter_142 : decode b_Mo_enter 142 = .ok (.iinc 4 (-1), 3) := by decide +kernel
theorem d_Mo_enter_145 : decode b_Mo_enter 145 = .ok (.goto (-26), 3) := by decide +kernel
theorem d_Mo_enter_148 : decode b_Mo_enter 148 = .ok (.iload_n 2, 1) := by decide +kernel
theorem d_Mo_enter_149 : decode b_Mo_enter 149 = .ok (.iload_n 3, 1) := by decide +kernel
theorem d_Mo_enter_150 : decode b_Mo_enter 150 = .ok (.if_icmp .ge 7, 3) := by decide +kernel
theorem d_Mo_enter_153 : decode b_Mo_enter 153 = .ok (.iload_n 2, 1) := by decide +kernel
theorem d_Mo_enter_154 : decode b_Mo_enter 154 = .ok (.goto 4, 3) := by decide +kernel
theorem d_Mo_enter_157 : decode b_Mo_enter 157 = .ok (.iload_n 3, 1) := by decide +kernel
theorem d_Mo_enter_158 : decode b_Mo_enter 158 = .ok (.istore 4, 2) := by decide +kernel
theorem d_Mo_enter_160 : decode b_Mo_enter 160 = .ok (.iload 4, 2) := by decide +kernel
theorem d_Mo_enter_162 : decode b_Mo_enter 162 = .ok (.ifCond .lt 38, 3) := by decide +kernel
theorem d_Mo_enter_165 : decode b_Mo_enter 165 = .ok (.aload_n 0, 1) := by decide +kernel
theorem d_Mo_enter_166 : decode b_Mo_enter 166 = .ok (.dup, 1) := by decide +kernel
theorem d_Mo_enter_167 : decode b_Mo_enter 167 = .ok (.getfield 120, 3) := by decide +kernel
theorem d_Mo_enter_170 : decode b_Mo_enter 170 = .ok (.aload_n 0, 1) := by decide +kernel
theorem d_Mo_enter_171 : decode b_Mo_enter 171 = .ok (.iload 4, 2) := by decide +kernel
theorem d_Mo_enter_173 : decode b_Mo_enter 173 = .ok (.iconst 5, 1) := by decide +kernel
theorem d_Mo_enter_174 : decode b_Mo_enter 174 = .ok (.invokevirtual 124, 3) := by decide +kernel
theorem d_Mo_enter_177 : decode b_Mo_enter 177 = .ok (.i2l, 1) := by decide +kernel
theorem d_Mo_enter_178 : decode b_Mo_enter 178 = .ok (.ladd, 1) := by decide +kernel
theorem d_Mo_enter_179 : decode b_Mo_enter 179 = .ok (.putfield 120, 3) := by decide +kernel
theorem d_Mo_enter_182 : decode b_Mo_enter 182 = .ok (.aload_n 0, 1) := by decide +kernel
theorem d_Mo_enter_183 : decode b_Mo_enter 183 = .ok (.iload_n 1, 1) := by decide +kernel
theorem d_Mo_enter_184 : decode b_Mo_enter 184 = .ok (.iload 4, 2) := by decide +kernel
theorem d_Mo_enter_186 : decode b_Mo_enter 186 = .ok (.invokevirtual 127, 3) := by decide +kernel
theorem d_Mo_enter_189 : decode b_Mo_enter 189 = .ok (.aload_n 0, 1) := by decide +kernel
theorem d_Mo_enter_190 : decode b_Mo_enter 190 = .ok (.iload_n 1, 1) := by decide +kernel
theorem d_Mo_enter_191 : decode b_Mo_enter 191 = .ok (.invokevirtual 117, 3) := by decide +kernel
theorem d_Mo_enter_194 : decode b_Mo_enter 194 = .ok (.iinc 4 (-1), 3) := by decide +kernel
theorem d_Mo_enter_197 : decode b_Mo_enter 197 = .ok (.goto (-37), 3) := by decide +kernel
theorem d_Mo_enter_200 : decode b_Mo_enter 200 = .ok (.aload_n 0, 1) := by decide +kernel
theorem d_Mo_enter_201 : decode b_Mo_enter 201 = .ok (.getfield 7, 3) := by decide +kernel
theorem d_Mo_enter_204 : decode b_Mo_enter 204 = .ok (.iload_n 1, 1) := by decide +kernel
theorem d_Mo_enter_205 : decode b_Mo_enter 205 = .ok (.iconst 1, 1) := by decide +kernel
theorem d_Mo_enter_206 : decode b_Mo_enter 206 = .ok (.bastore, 1) := by decide +kernel
theorem d_Mo_enter_207 : decode b_Mo_enter 207 = .ok (.aload_n 0, 1) := by decide +kernel
theorem d_Mo_enter_208 : decode b_Mo_enter 208 = .ok (.getfield 13, 3) := by decide +kernel
theorem d_Mo_enter_211 : decode b_Mo_enter 211 = .ok (.iload_n 1, 1) := by decide +kernel
theorem d_Mo_enter_212 : decode b_Mo_enter 212 = .ok (.iconst 1, 1) := by decide +kernel
theorem d_Mo_enter_213 : decode b_Mo_enter 213 = .ok (.bastore, 1) := by decide +kernel
theorem d_Mo_enter_214 : decode b_Mo_enter 214 = .ok (.aload_n 0, 1) := by decide +kernel
theorem d_Mo_enter_215 : decode b_Mo_enter 215 = .ok (.getfield 35, 3) := by decide +kernel
theorem d_Mo_enter_218 : decode b_Mo_enter 218 = .ok (.ifCond .lt 16, 3) := by decide +kernel
theorem d_Mo_enter_221 : decode b_Mo_enter 221 = .ok (.iload_n 2, 1) := by decide +kernel
theorem d_Mo_enter_222 : decode b_Mo_enter 222 = .ok (.aload_n 0, 1) := by decide +kernel
theorem d_Mo_enter_223 : decode b_Mo_enter 223 = .ok (.getfield 23, 3) := by decide +kernel
theorem d_Mo_enter_226 : decode b_Mo_enter 226 = .ok (.aload_n 0, 1) := by decide +kernel
theorem d_Mo_enter_227 : decode b_Mo_enter 227 = .ok (.getfield 35, 3) := by decide +kernel
theorem d_Mo_enter_230 : decode b_Mo_enter 230 = .ok (.iaload, 1) := by decide +kernel
theorem d_Mo_enter_231 : decode b_Mo_enter 231 = .ok (.if_icmp .le 8, 3) := by decide +kernel
theorem d_Mo_enter_234 : decode b_Mo_enter 234 = .ok (.aload_n 0, 1) := by decide +kernel
theorem d_Mo_enter_235 : decode b_Mo_enter 235 = .ok (.iload_n 1, 1) := by decide +kernel
theorem d_Mo_enter_236 : decode b_Mo_enter 236 = .ok (.putfield 35, 3) := by decide +kernel
theorem d_Mo_enter_239 : decode b_Mo_enter 239 = .ok (.return_, 1) := by decide +kernel
theorem d_Mo_aimAt_0 : decode b_Mo_aimAt 0 = .ok (.iconst 0, 1) := by decide +kernel
theorem d_Mo_aimAt_1 : decode b_Mo_aimAt 1 = .ok (.istore_n 2, 1) := by decide +kernel
theorem d_Mo_aimAt_2 : decode b_Mo_aimAt 2 = .ok (.iload_n 2, 1) := by decide +kernel
theorem d_Mo_aimAt_3 : decode b_Mo_aimAt 3 = .ok (.iconst 4, 1) := by decide +kernel
theorem d_Mo_aimAt_4 : decode b_Mo_aimAt 4 = .ok (.if_icmp .ge 25, 3) := by decide +kernel
theorem d_Mo_aimAt_7 : decode b_Mo_aimAt 7 = .ok (.aload_n 0, 1) := by decide +kernel
theorem d_Mo_aimAt_8 : decode b_Mo_aimAt 8 = .ok (.getfield 39, 3) := by decide +kernel
theorem d_Mo_aimAt_11 : decode b_Mo_aimAt 11 = .ok (.iload_n 2, 1) := by decide +kernel
theorem d_Mo_aimAt_12 : decode b_Mo_aimAt 12 = .ok (.aload_n 0, 1) := by decide +kernel
theorem d_Mo_aimAt_13 : decode b_Mo_aimAt 13 = .ok (.getfield 16, 3) := by decide +kernel
theorem d_Mo_aimAt_16 : decode b_Mo_aimAt 16 = .ok (.iconst 4, 1) := by decide +kernel
theorem d_Mo_aimAt_17 : decode b_Mo_aimAt 17 = .ok (.iload_n 1, 1) := by decide +kernel
theorem d_Mo_aimAt_18 : decode b_Mo_aimAt 18 = .ok (.imul, 1) := by decide +kernel
theorem d_Mo_aimAt_19 : decode b_Mo_aimAt 19 = .ok (.iload_n 2, 1) := by decide +kernel
theorem d_Mo_aimAt_20 : decode b_Mo_aimAt 20 = .ok (.iadd, 1) := by decide +kernel
theorem d_Mo_aimAt_21 : decode b_Mo_aimAt 21 = .ok (.iaload, 1) := by decide +kernel
theorem d_Mo_aimAt_22 : decode b_Mo_aimAt 22 = .ok (.iastore, 1) := by decide +kernel
theorem d_Mo_aimAt_23 : decode b_Mo_aimAt 23 = .ok (.iinc 2 1, 3) := by decide +kernel
theorem d_Mo_aimAt_26 : decode b_Mo_aimAt 26 = .ok (.goto (-24), 3) := by decide +kernel
theorem d_Mo_aimAt_29 : decode b_Mo_aimAt 29 = .ok (.return_, 1) := by decide +kernel
theorem d_Mo_walk_0 : decode b_Mo_walk 0 = .ok (.iconst 0, 1) := by decide +kernel
theorem d_Mo_walk_1 : decode b_Mo_walk 1 = .ok (.istore_n 3, 1) := by decide +kernel
theorem d_Mo_walk_2 : decode b_Mo_walk 2 = .ok (.iload_n 3, 1) := by decide +kernel
theorem d_Mo_walk_3 : decode b_Mo_walk 3 = .ok (.bipush 30, 2) := by decide +kernel
theorem d_Mo_walk_5 : decode b_Mo_walk 5 = .ok (.if_icmp .ge 23, 3) := by decide +kernel
theorem d_Mo_walk_8 : decode b_Mo_walk 8 = .ok (.aload_n 0, 1) := by decide +kernel
theorem d_Mo_walk_9 : decode b_Mo_walk 9 = .ok (.getfield 45, 3) := by decide +kernel
theorem d_Mo_walk_12 : decode b_Mo_walk 12 = .ok (.iload_n 3, 1) := by decide +kernel
theorem d_Mo_walk_13 : decode b_Mo_walk 13 = .ok (.iconst 0, 1) := by decide +kernel
theorem d_Mo_walk_14 : decode b_Mo_walk 14 = .ok (.bastore, 1) := by decide +kernel
theorem d_Mo_walk_15 : decode b_Mo_walk 15 = .ok (.aload_n 0, 1) := by decide +kernel
theorem d_Mo_walk_16 : decode b_Mo_walk 16 = .ok (.getfield 48, 3) := by decide +kernel
theorem d_Mo_walk_19 : decode b_Mo_walk 19 = .ok (.iload_n 3, 1) := by decide +kernel
theorem d_Mo_walk_20 : decode b_Mo_walk 20 = .ok (.iconst 0, 1) := by decide +kernel
theorem d_Mo_walk_21 : decode b_Mo_walk 21 = .ok (.bastore, 1) := by decide +kernel
theorem d_Mo_walk_22 : decode b_Mo_walk 22 = .ok (.iinc 3 1, 3) := by decide +kernel
theorem d_Mo_walk_25 : decode b_Mo_walk 25 = .ok (.goto (-23), 3) := by decide +kernel
theorem d_Mo_walk_28 : decode b_Mo_walk 28 = .ok (.iconst 0, 1) := by decide +kernel
theorem d_Mo_walk_29 : decode b_Mo_walk 29 = .ok (.istore_n 3, 1) := by decide +kernel
theorem d_Mo_walk_30 : decode b_Mo_walk 30 = .ok (.iload_n 3, 1) := by decide +kernel
theorem d_Mo_walk_31 : decode b_Mo_walk 31 = .ok (.aload_n 0, 1) := by decide +kernel
theorem d_Mo_walk_32 : decode b_Mo_walk 32 = .ok (.getfield 83, 3) := by decide +kernel
theorem d_Mo_walk_35 : decode b_Mo_walk 35 = .ok (.if_icmp .ge 33, 3) := by decide +kernel
theorem d_Mo_walk_38 : decode b_Mo_walk 38 = .ok (.aload_n 0, 1) := by decide +kernel
theorem d_Mo_walk_39 : decode b_Mo_walk 39 = .ok (.getfield 45, 3) := by decide +kernel
theorem d_Mo_walk_42 : decode b_Mo_walk 42 = .ok (.aload_n 0, 1) := by decide +kernel
theorem d_Mo_walk_43 : decode b_Mo_walk 43 = .ok (.getfield 57, 3) := by decide +kernel
theorem d_Mo_walk_46 : decode b_Mo_walk 46 = .ok (.iload_n 3, 1) := by decide +kernel
theorem d_Mo_walk_47 : decode b_Mo_walk 47 = .ok (.iaload, 1) := by decide +kernel
theorem d_Mo_walk_48 : decode b_Mo_walk 48 = .ok (.iconst 1, 1) := by decide +kernel
theorem d_Mo_walk_49 : decode b_Mo_walk 49 = .ok (.bastore, 1) := by decide +kernel
theorem d_Mo_walk_50 : decode b_Mo_walk 50 = .ok (.aload_n 0, 1) := by decide +kernel
theorem d_Mo_walk_51 : decode b_Mo_walk 51 = .ok (.getfield 48, 3) := by decide +kernel
theorem d_Mo_walk_54 : decode b_Mo_walk 54 = .ok (.aload_n 0, 1) := by decide +kernel
theorem d_Mo_walk_55 : decode b_Mo_walk 55 = .ok (.getfield 57, 3) := by decide +kernel
theorem d_Mo_walk_58 : decode b_Mo_walk 58 = .ok (.iload_n 3, 1) := by decide +kernel
theorem d_Mo_walk_59 : decode b_Mo_walk 59 = .ok (.iaload, 1) := by decide +kernel
theorem d_Mo_walk_60 : decode b_Mo_walk 60 = .ok (.iconst 1, 1) := by decide +kernel
theorem d_Mo_walk_61 : decode b_Mo_walk 61 = .ok (.bastore, 1) := by decide +kernel
theorem d_Mo_walk_62 : decode b_Mo_walk 62 = .ok (.iinc 3 1, 3) := by decide +kernel
theorem d_Mo_walk_65 : decode b_Mo_walk 65 = .ok (.goto (-35), 3) := by decide +kernel
theorem d_Mo_walk_68 : decode b_Mo_walk 68 = .ok (.aload_n 0, 1) := by decide +kernel
theorem d_Mo_walk_69 : decode b_Mo_walk 69 = .ok (.getfield 48, 3) := by decide +kernel
theorem d_Mo_walk_72 : decode b_Mo_walk 72 = .ok (.invokestatic 86, 3) := by decide +kernel
theorem d_Mo_walk_75 : decode b_Mo_walk 75 = .ok (.iload_n 2, 1) := by decide +kernel
theorem d_Mo_walk_76 : decode b_Mo_walk 76 = .ok (.if_icmp .le 20, 3) := by decide +kernel
theorem d_Mo_walk_79 : decode b_Mo_walk 79 = .ok (.aload_n 0, 1) := by decide +kernel
theorem d_Mo_walk_80 : decode b_Mo_walk 80 = .ok (.getfield 48, 3) := by decide +kernel
theorem d_Mo_walk_83 : decode b_Mo_walk 83 = .ok (.aload_n 0, 1) := by decide +kernel
theorem d_Mo_walk_84 : decode b_Mo_walk 84 = .ok (.aload_n 0, 1) := by decide +kernel
theorem d_Mo_walk_85 : decode b_Mo_walk 85 = .ok (.getfield 48, 3) := by decide +kernel
theorem d_Mo_walk_88 : decode b_Mo_walk 88 = .ok (.invokevirtual 90, 3) := by decide +kernel
theorem d_Mo_walk_91 : decode b_Mo_walk 91 = .ok (.iconst 0, 1) := by decide +kernel
theorem d_Mo_walk_92 : decode b_Mo_walk 92 = .ok (.bastore, 1) := by decide +kernel
theorem d_Mo_walk_93 : decode b_Mo_walk 93 = .ok (.goto (-25), 3) := by decide +kernel
theorem d_Mo_walk_96 : decode b_Mo_walk 96 = .ok (.iconst 0, 1) := by decide +kernel
theorem d_Mo_walk_97 : decode b_Mo_walk 97 = .ok (.istore_n 3, 1) := by decide +kernel
theorem d_Mo_walk_98 : decode b_Mo_walk 98 = .ok (.iload_n 3, 1) := by decide +kernel
theorem d_Mo_walk_99 : decode b_Mo_walk 99 = .ok (.bipush 30, 2) := by decide +kernel
theorem d_Mo_walk_101 : decode b_Mo_walk 101 = .ok (.if_icmp .ge 21, 3) := by decide +kernel
theorem d_Mo_walk_104 : decode b_Mo_walk 104 = .ok (.aload_n 0, 1) := by decide +kernel
theorem d_Mo_walk_105 : decode b_Mo_walk 105 = .ok (.getfield 51, 3) := by decide +kernel
theorem d_Mo_walk_108 : decode b_Mo_walk 108 = .ok (.iload_n 3, 1) := by decide +kernel
theorem d_Mo_walk_109 : decode b_Mo_walk 109 = .ok (.aload_n 0, 1) := by decide +kernel
theorem d_Mo_walk_110 : decode b_Mo_walk 110 = .ok (.getfield 48, 3) := by decide +kernel
theorem d_Mo_walk_113 : decode b_Mo_walk 113 = .ok (.iload_n 3, 1) := by decide +kernel
theorem d_Mo_walk_114 : decode b_Mo_walk 114 = .ok (.baload, 1) := by decide +kernel
theorem d_Mo_walk_115 : decode b_Mo_walk 115 = .ok (.bastore, 1) := by decide +kernel
theorem d_Mo_walk_116 : decode b_Mo_walk 116 = .ok (.iinc 3 1, 3) := by decide +kernel
theorem d_Mo_walk_119 : decode b_Mo_walk 119 = .ok (.goto (-21), 3) := by decide +kernel
theorem d_Mo_walk_122 : decode b_Mo_walk 122 = .ok (.aload_n 0, 1) := by decide +kernel
theorem d_Mo_walk_123 : decode b_Mo_walk 123 = .ok (.aload_n 0, 1) := by decide +kernel
theorem d_Mo_walk_124 : decode b_Mo_walk 124 = .ok (.getfield 51, 3) := by decide +kernel
theorem d_Mo_walk_127 : decode b_Mo_walk 127 = .ok (.invokevirtual 93, 3) := by decide +kernel
theorem d_Mo_walk_130 : decode b_Mo_walk 130 = .ok (.istore_n 3, 1) := by decide +kernel
theorem d_Mo_walk_131 : decode b_Mo_walk 131 = .ok (.iload_n 3, 1) := by decide +kernel
theorem d_Mo_walk_132 : decode b_Mo_walk 132 = .ok (.ifCond .lt 102, 3) := by decide +kernel
theorem d_Mo_walk_135 : decode b_Mo_walk 135 = .ok (.aload_n 0, 1) := by decide +kernel
theorem d_Mo_walk_136 : decode b_Mo_walk 136 = .ok (.getfield 51, 3) := by decide +kernel
theorem d_Mo_walk_139 : decode b_Mo_walk 139 = .ok (.iload_n 3, 1) := by decide +kernel
theorem d_Mo_walk_140 : decode b_Mo_walk 140 = .ok (.iconst 0, 1) := by decide +kernel
theorem d_Mo_walk_141 : decode b_Mo_walk 141 = .ok (.bastore, 1) := by decide +kernel
theorem d_Mo_walk_142 : decode b_Mo_walk 142 = .ok (.aload_n 0, 1) := by decide +kernel
theorem d_Mo_walk_143 : decode b_Mo_walk 143 = .ok (.getfield 48, 3) := by decide +kernel
theorem d_Mo_walk_146 : decode b_Mo_walk 146 = .ok (.invokestatic 86, 3) := by decide +kernel
theorem d_Mo_walk_149 : decode b_Mo_walk 149 = .ok (.iload_n 2, 1) := by decide +kernel
theorem d_Mo_walk_150 : decode b_Mo_walk 150 = .ok (.if_icmp .ne 22, 3) := by decide +kernel
theorem d_Mo_walk_153 : decode b_Mo_walk 153 = .ok (.aload_n 0, 1) := by decide +kernel
theorem d_Mo_walk_154 : decode b_Mo_walk 154 = .ok (.aload_n 0, 1) := by decide +kernel
theorem d_Mo_walk_155 : decode b_Mo_walk 155 = .ok (.aload_n 0, 1) := by decide +kernel
theorem d_Mo_walk_156 : decode b_Mo_walk 156 = .ok (.getfield 48, 3) := by decide +kernel
theorem d_Mo_walk_159 : decode b_Mo_walk 159 = .ok (.invokevirtual 90, 3) := by decide +kernel
theorem d_Mo_walk_162 : decode b_Mo_walk 162 = .ok (.iload_n 3, 1) := by decide +kernel
theorem d_Mo_walk_163 : decode b_Mo_walk 163 = .ok (.invokevirtual 79, 3) := by decide +kernel
theorem d_Mo_walk_166 : decode b_Mo_walk 166 = .ok (.ifCond .eq 6, 3) := by decide +kernel
theorem d_Mo_walk_169 : decode b_Mo_walk 169 = .ok (.goto 65, 3) := by decide +kernel
theorem d_Mo_walk_172 : decode b_Mo_walk 172 = .ok (.iconst 4, 1) := by decide +kernel
theorem d_Mo_walk_173 : decode b_Mo_walk 173 = .ok (.iload_n 3, 1) := by decide +kernel
theorem d_Mo_walk_174 : decode b_Mo_walk 174 = .ok (.imul, 1) := by decide +kernel
theorem d_Mo_walk_175 : decode b_Mo_walk 175 = .ok (.iload_n 1, 1) := by decide +kernel
theorem d_Mo_walk_176 : decode b_Mo_walk 176 = .ok (.iadd, 1) := by decide +kernel
theorem d_Mo_walk_177 : decode b_Mo_walk 177 = .ok (.istore 4, 2) := by decide +kernel
theorem d_Mo_walk_179 : decode b_Mo_walk 179 = .ok (.bipush 7, 2) := by decide +kernel
theorem d_Mo_walk_181 : decode b_Mo_walk 181 = .ok (.iload 4, 2) := by decide +kernel
theorem d_Mo_walk_183 : decode b_Mo_walk 183 = .ok (.imul, 1) := by decide +kernel
theorem d_Mo_walk_184 : decode b_Mo_walk 184 = .ok (.istore 5, 2) := by decide +kernel
theorem d_Mo_walk_186 : decode b_Mo_walk 186 = .ok (.iload 5, 2) := by decide +kernel
theorem d_Mo_walk_188 : decode b_Mo_walk 188 = .ok (.bipush 7, 2) := by decide +kernel
theorem d_Mo_walk_190 : decode b_Mo_walk 190 = .ok (.iload 4, 2) := by decide +kernel
theorem d_Mo_walk_192 : decode b_Mo_walk 192 = .ok (.imul, 1) := by decide +kernel
theorem d_Mo_walk_193 : decode b_Mo_walk 193 = .ok (.aload_n 0, 1) := by decide +kernel
theorem d_Mo_walk_194 : decode b_Mo_walk 194 = .ok (.getfield 32, 3) := by decide +kernel
theorem d_Mo_walk_197 : decode b_Mo_walk 197 = .ok (.iload 4, 2) := by decide +kernel
theorem d_Mo_walk_199 : decode b_Mo_walk 199 = .ok (.iaload, 1) := by decide +kernel
theorem d_Mo_walk_200 : decode b_Mo_walk 200 = .ok (.iadd, 1) := by decide +kernel
theorem d_Mo_walk_201 : decode b_Mo_walk 201 = .ok (.if_icmp .ge 21, 3) := by decide +kernel
theorem d_Mo_walk_204 : decode b_Mo_walk 204 = .ok (.aload_n 0, 1) := by decide +kernel
theorem d_Mo_walk_205 : decode b_Mo_walk 205 = .ok (.aload_n 0, 1) := by decide +kernel
theorem d_Mo_walk_206 : decode b_Mo_walk 206 = .ok (.getfield 29, 3) := by decide +kernel
theorem d_Mo_walk_209 : decode b_Mo_walk 209 = .ok (.iload 5, 2) := by decide +kernel
theorem d_Mo_walk_211 : decode b_Mo_walk 211 = .ok (.iaload, 1) := by decide +kernel
theorem d_Mo_walk_212 : decode b_Mo_walk 212 = .ok (.iload_n 2, 1) := by decide +kernel
theorem d_Mo_walk_213 : decode b_Mo_walk 213 = .ok (.invokevirtual 96, 3) := by decide +kernel
theorem d_Mo_walk_216 : decode b_Mo_walk 216 = .ok (.iinc 5 1, 3) := by decide +kernel
theorem d_Mo_walk_219 : decode b_Mo_walk 219 = .ok (.goto (-33), 3) := by decide +kernel
theorem d_Mo_walk_222 : decode b_Mo_walk 222 = .ok (.aload_n 0, 1) := by decide +kernel
theorem d_Mo_walk_223 : decode b_Mo_walk 223 = .ok (.aload_n 0, 1) := by decide +kernel
theorem d_Mo_walk_224 : decode b_Mo_walk 224 = .ok (.getfield 51, 3) := by decide +kernel
theorem d_Mo_walk_227 : decode b_Mo_walk 227 = .ok (.invokevirtual 93, 3) := by decide +kernel
theorem d_Mo_walk_230 : decode b_Mo_walk 230 = .ok (.istore_n 3, 1) := by decide +kernel
theorem d_Mo_walk_231 : decode b_Mo_walk 231 = .ok (.goto (-100), 3) := by decide +kernel
theorem d_Mo_walk_234 : decode b_Mo_walk 234 = .ok (.aload_n 0, 1) := by decide +kernel
theorem d_Mo_walk_235 : decode b_Mo_walk 235 = .ok (.iconst 0, 1) := by decide +kernel
theorem d_Mo_walk_236 : decode b_Mo_walk 236 = .ok (.putfield 83, 3) := by decide +kernel
theorem d_Mo_walk_239 : decode b_Mo_walk 239 = .ok (.aload_n 0, 1) := by decide +kernel
theorem d_Mo_walk_240 : decode b_Mo_walk 240 = .ok (.getfield 48, 3) := by decide +kernel
theorem d_Mo_walk_243 : decode b_Mo_walk 243 = .ok (.invokestatic 86, 3) := by decide +kernel
theorem d_Mo_walk_246 : decode b_Mo_walk 246 = .ok (.istore 4, 2) := by decide +kernel
theorem d_Mo_walk_248 : decode b_Mo_walk 248 = .ok (.iconst 0, 1) := by decide +kernel
theorem d_Mo_walk_249 : decode b_Mo_walk 249 = .ok (.istore 5, 2) := by decide +kernel
theorem d_Mo_walk_251 : decode b_Mo_walk 251 = .ok (.iload 5, 2) := by decide +kernel
theorem d_Mo_walk_253 : decode b_Mo_walk 253 = .ok (.iload 4, 2) := by decide +kernel
theorem d_Mo_walk_255 : decode b_Mo_walk 255 = .ok (.if_icmp .ge 36, 3) := by decide +kernel
theorem d_Mo_walk_258 : decode b_Mo_walk 258 = .ok (.aload_n 0, 1) := by decide +kernel
theorem d_Mo_walk_259 : decode b_Mo_walk 259 = .ok (.aload_n 0, 1) := by decide +kernel
theorem d_Mo_walk_260 : decode b_Mo_walk 260 = .ok (.getfield 48, 3) := by decide +kernel
theorem d_Mo_walk_263 : decode b_Mo_walk 263 = .ok (.invokevirtual 93, 3) := by decide +kernel
theorem d_Mo_walk_266 : decode b_Mo_walk 266 = .ok (.istore 6, 2) := by decide +kernel
theorem d_Mo_walk_268 : decode b_Mo_walk 268 = .ok (.aload_n 0, 1) := by decide +kernel
theorem d_Mo_walk_269 : decode b_Mo_walk 269 = .ok (.getfield 57, 3) := by decide +kernel
theorem d_Mo_walk_272 : decode b_Mo_walk 272 = .ok (.iload 5, 2) := by decide +kernel
theorem d_Mo_walk_274 : decode b_Mo_walk 274 = .ok (.iload 6, 2) := by decide +kernel
theorem d_Mo_walk_276 : decode b_Mo_walk 276 = .ok (.iastore, 1) := by decide +kernel
theorem d_Mo_walk_277 : decode b_Mo_walk 277 = .ok (.aload_n 0, 1) := by decide +kernel
theorem d_Mo_walk_278 : decode b_Mo_walk 278 = .ok (.getfield 48, 3) := by decide +kernel
theorem d_Mo_walk_281 : decode b_Mo_walk 281 = .ok (.iload 6, 2) := by decide +kernel
theorem d_Mo_walk_283 : decode b_Mo_walk 283 = .ok (.iconst 0, 1) := by decide +kernel
theorem d_Mo_walk_284 : decode b_Mo_walk 284 = .ok (.bastore, 1) := by decide +kernel
theorem d_Mo_walk_285 : decode b_Mo_walk 285 = .ok (.iinc 5 1, 3) := by decide +kernel
theorem d_Mo_walk_288 : decode b_Mo_walk 288 = .ok (.goto (-37), 3) := by decide +kernel
theorem d_Mo_walk_291 : decode b_Mo_walk 291 = .ok (.aload_n 0, 1) := by decide +kernel
theorem d_Mo_walk_292 : decode b_Mo_walk 292 = .ok (.iload 4, 2) := by decide +kernel
theorem d_Mo_walk_294 : decode b_Mo_walk 294 = .ok (.putfield 83, 3) := by decide +kernel
theorem d_Mo_walk_297 : decode b_Mo_walk 297 = .ok (.aload_n 0, 1) := by decide +kernel
theorem d_Mo_walk_298 : decode b_Mo_walk 298 = .ok (.getfield 45, 3) := by decide +kernel
theorem d_Mo_walk_301 : decode b_Mo_walk 301 = .ok (.invokestatic 86, 3) := by decide +kernel
theorem d_Mo_walk_304 : decode b_Mo_walk 304 = .ok (.ireturn, 1) := by decide +kernel
theorem d_Mo_size_0 : decode b_Mo_size 0 = .ok (.iconst 0, 1) := by decide +kernel
theorem d_Mo_size_1 : decode b_Mo_size 1 = .ok (.istore_n 1, 1) := by decide +kernel
theorem d_Mo_size_2 : decode b_Mo_size 2 = .ok (.iconst 0, 1) := by decide +kernel
theorem d_Mo_size_3 : decode b_Mo_size 3 = .ok (.istore_n 2, 1) := by decide +kernel
theorem d_Mo_size_4 : decode b_Mo_size 4 = .ok (.iload_n 2, 1) := by decide +kernel
theorem d_Mo_size_5 : decode b_Mo_size 5 = .ok (.bipush 30, 2) := by decide +kernel
theorem d_Mo_size_7 : decode b_Mo_size 7 = .ok (.if_icmp .ge 18, 3) := by decide +kernel
theorem d_Mo_size_10 : decode b_Mo_size 10 = .ok (.aload_n 0, 1) := by decide +kernel
theorem d_Mo_size_11 : decode b_Mo_size 11 = .ok (.iload_n 2, 1) := by decide +kernel
theorem d_Mo_size_12 : decode b_Mo_size 12 = .ok (.baload, 1) := by decide +kernel
theorem d_Mo_size_13 : decode b_Mo_size 13 = .ok (.ifCond .eq 6, 3) := by decide +kernel
theorem d_Mo_size_16 : decode b_Mo_size 16 = .ok (.iinc 1 1, 3) := by decide +kernel
theorem d_Mo_size_19 : decode b_Mo_size 19 = .ok (.iinc 2 1, 3) := by decide +kernel
theorem d_Mo_size_22 : decode b_Mo_size 22 = .ok (.goto (-18), 3) := by decide +kernel
theorem d_Mo_size_25 : decode b_Mo_size 25 = .ok (.iload_n 1, 1) := by decide +kernel
theorem d_Mo_size_26 : decode b_Mo_size 26 = .ok (.ireturn, 1) := by decide +kernel
theorem d_Mo_farthest_0 : decode b_Mo_farthest 0 = .ok (.iconst (-1), 1) := by decide +kernel
theorem d_Mo_farthest_1 : decode b_Mo_farthest 1 = .ok (.istore_n 2, 1) := by decide +kernel
theorem d_Mo_farthest_2 : decode b_Mo_farthest 2 = .ok (.iconst 0, 1) := by decide +kernel
theorem d_Mo_farthest_3 : decode b_Mo_farthest 3 = .ok (.istore_n 3, 1) := by decide +kernel
theorem d_Mo_farthest_4 : decode b_Mo_farthest 4 = .ok (.iload_n 3, 1) := by decide +kernel
theorem d_Mo_farthest_5 : decode b_Mo_farthest 5 = .ok (.bipush 30, 2) := by decide +kernel
theorem d_Mo_farthest_7 : decode b_Mo_farthest 7 = .ok (.if_icmp .ge 30, 3) := by decide +kernel
theorem d_Mo_farthest_10 : decode b_Mo_farthest 10 = .ok (.aload_n 1, 1) := by decide +kernel
theorem d_Mo_farthest_11 : decode b_Mo_farthest 11 = .ok (.iload_n 3, 1) := by decide +kernel
theorem d_Mo_farthest_12 : decode b_Mo_farthest 12 = .ok (.baload, 1) := by decide +kernel
theorem d_Mo_farthest_13 : decode b_Mo_farthest 13 = .ok (.ifCond .eq 18, 3) := by decide +kernel
theorem d_Mo_farthest_16 : decode b_Mo_farthest 16 = .ok (.iload_n 2, 1) := by decide +kernel
theorem d_Mo_farthest_17 : decode b_Mo_farthest 17 = .ok (.ifCond .lt 12, 3) := by decide +kernel
theorem d_Mo_farthest_20 : decode b_Mo_farthest 20 = .ok (.aload_n 0, 1) := by decide +kernel
theorem d_Mo_farthest_21 : decode b_Mo_farthest 21 = .ok (.iload_n 2, 1) := by decide +kernel
theorem d_Mo_farthest_22 : decode b_Mo_farthest 22 = .ok (.iload_n 3, 1) := by decide +kernel
theorem d_Mo_farthest_23 : decode b_Mo_farthest 23 = .ok (.invokevirtual 79, 3) := by decide +kernel
theorem d_Mo_farthest_26 : decode b_Mo_farthest 26 = .ok (.ifCond .eq 5, 3) := by decide +kernel
theorem d_Mo_farthest_29 : decode b_Mo_farthest 29 = .ok (.iload_n 3, 1) := by decide +kernel
theorem d_Mo_farthest_30 : decode b_Mo_farthest 30 = .ok (.istore_n 2, 1) := by decide +kernel
theorem d_Mo_farthest_31 : decode b_Mo_farthest 31 = .ok (.iinc 3 1, 3) := by decide +kernel
theorem d_Mo_farthest_34 : decode b_Mo_farthest 34 = .ok (.goto (-30), 3) := by decide +kernel
theorem d_Mo_farthest_37 : decode b_Mo_farthest 37 = .ok (.iload_n 2, 1) := by decide +kernel
theorem d_Mo_farthest_38 : decode b_Mo_farthest 38 = .ok (.ireturn, 1) := by decide +kernel
theorem d_Mo_isNearer_0 : decode b_Mo_isNearer 0 = .ok (.aload_n 0, 1) := by decide +kernel
theorem d_Mo_isNearer_1 : decode b_Mo_isNearer 1 = .ok (.iload_n 1, 1) := by decide +kernel
theorem d_Mo_isNearer_2 : decode b_Mo_isNearer 2 = .ok (.invokevirtual 75, 3) := by decide +kernel
theorem d_Mo_isNearer_5 : decode b_Mo_isNearer 5 = .ok (.aload_n 0, 1) := by decide +kernel
theorem d_Mo_isNearer_6 : decode b_Mo_isNearer 6 = .ok (.iload_n 2, 1) := by decide +kernel
theorem d_Mo_isNearer_7 : decode b_Mo_isNearer 7 = .ok (.invokevirtual 75, 3) := by decide +kernel
theorem d_Mo_isNearer_10 : decode b_Mo_isNearer 10 = .ok (.if_icmp .lt 21, 3) := by decide +kernel
theorem d_Mo_isNearer_13 : decode b_Mo_isNearer 13 = .ok (.aload_n 0, 1) := by decide +kernel
theorem d_Mo_isNearer_14 : decode b_Mo_isNearer 14 = .ok (.iload_n 1, 1) := by decide +kernel
theorem d_Mo_isNearer_15 : decode b_Mo_isNearer 15 = .ok (.invokevirtual 75, 3) := by decide +kernel
theorem d_Mo_isNearer_18 : decode b_Mo_isNearer 18 = .ok (.aload_n 0, 1) := by decide +kernel
theorem d_Mo_isNearer_19 : decode b_Mo_isNearer 19 = .ok (.iload_n 2, 1) := by decide +kernel
theorem d_Mo_isNearer_20 : decode b_Mo_isNearer 20 = .ok (.invokevirtual 75, 3) := by decide +kernel
theorem d_Mo_isNearer_23 : decode b_Mo_isNearer 23 = .ok (.if_icmp .ne 12, 3) := by decide +kernel
theorem d_Mo_isNearer_26 : decode b_Mo_isNearer 26 = .ok (.iload_n 1, 1) := by decide +kernel
theorem d_Mo_isNearer_27 : decode b_Mo_isNearer 27 = .ok (.iload_n 2, 1) := by decide +kernel
theorem d_Mo_isNearer_28 : decode b_Mo_isNearer 28 = .ok (.if_icmp .ge 7, 3) := by decide +kernel
theorem d_Mo_isNearer_31 : decode b_Mo_isNearer 31 = .ok (.iconst 1, 1) := by decide +kernel
theorem d_Mo_isNearer_32 : decode b_Mo_isNearer 32 = .ok (.goto 4, 3) := by decide +kernel
theorem d_Mo_isNearer_35 : decode b_Mo_isNearer 35 = .ok (.iconst 0, 1) := by decide +kernel
theorem d_Mo_isNearer_36 : decode b_Mo_isNearer 36 = .ok (.ireturn, 1) := by decide +kernel
theorem d_Mo_far_0 : decode b_Mo_far 0 = .ok (.iconst 0, 1) := by decide +kernel
theorem d_Mo_far_1 : decode b_Mo_far 1 = .ok (.istore_n 2, 1) := by decide +kernel
theorem d_Mo_far_2 : decode b_Mo_far 2 = .ok (.iconst 0, 1) := by decide +kernel
theorem d_Mo_far_3 : decode b_Mo_far 3 = .ok (.istore_n 3, 1) := by decide +kernel
theorem d_Mo_far_4 : decode b_Mo_far 4 = .ok (.iload_n 3, 1) := by decide +kernel
theorem d_Mo_far_5 : decode b_Mo_far 5 = .ok (.iconst 4, 1) := by decide +kernel
theorem d_Mo_far_6 : decode b_Mo_far 6 = .ok (.if_icmp .ge 47, 3) := by decide +kernel
theorem d_Mo_far_9 : decode b_Mo_far 9 = .ok (.iload_n 2, 1) := by decide +kernel
theorem d_Mo_far_10 : decode b_Mo_far 10 = .ok (.aload_n 0, 1) := by decide +kernel
theorem d_Mo_far_11 : decode b_Mo_far 11 = .ok (.getfield 16, 3) := by decide +kernel
theorem d_Mo_far_14 : decode b_Mo_far 14 = .ok (.iconst 4, 1) := by decide +kernel
theorem d_Mo_far_15 : decode b_Mo_far 15 = .ok (.iload_n 1, 1) := by decide +kernel
theorem d_Mo_far_16 : decode b_Mo_far 16 = .ok (.imul, 1) := by decide +kernel
theorem d_Mo_far_17 : decode b_Mo_far 17 = .ok (.iload_n 3, 1) := by decide +kernel
theorem d_Mo_far_18 : decode b_Mo_far 18 = .ok (.iadd, 1) := by decide +kernel
theorem d_Mo_far_19 : decode b_Mo_far 19 = .ok (.iaload, 1) := by decide +kernel
theorem d_Mo_far_20 : decode b_Mo_far 20 = .ok (.aload_n 0, 1) := by decide +kernel
theorem d_Mo_far_21 : decode b_Mo_far 21 = .ok (.getfield 39, 3) := by decide +kernel
theorem d_Mo_far_24 : decode b_Mo_far 24 = .ok (.iload_n 3, 1) := by decide +kernel
theorem d_Mo_far_25 : decode b_Mo_far 25 = .ok (.iaload, 1) := by decide +kernel
theorem d_Mo_far_26 : decode b_Mo_far 26 = .ok (.isub, 1) := by decide +kernel
theorem d_Mo_far_27 : decode b_Mo_far 27 = .ok (.aload_n 0, 1) := by decide +kernel
theorem d_Mo_far_28 : decode b_Mo_far 28 = .ok (.getfield 16, 3) := by decide +kernel
theorem d_Mo_far_31 : decode b_Mo_far 31 = .ok (.iconst 4, 1) := by decide +kernel
theorem d_Mo_far_32 : decode b_Mo_far 32 = .ok (.iload_n 1, 1) := by decide +kernel
theorem d_Mo_far_33 : decode b_Mo_far 33 = .ok (.imul, 1) := by decide +kernel
theorem d_Mo_far_34 : decode b_Mo_far 34 = .ok (.iload_n 3, 1) := by decide +kernel
theorem d_Mo_far_35 : decode b_Mo_far 35 = .ok (.iadd, 1) := by decide +kernel
theorem d_Mo_far_36 : decode b_Mo_far 36 = .ok (.iaload, 1) := by decide +kernel
theorem d_Mo_far_37 : decode b_Mo_far 37 = .ok (.aload_n 0, 1) := by decide +kernel
theorem d_Mo_far_38 : decode b_Mo_far 38 = .ok (.getfield 39, 3) := by decide +kernel
theorem d_Mo_far_41 : decode b_Mo_far 41 = .ok (.iload_n 3, 1) := by decide +kernel
theorem d_Mo_far_42 : decode b_Mo_far 42 = .ok (.iaload, 1) := by decide +kernel
theorem d_Mo_far_43 : decode b_Mo_far 43 = .ok (.isub, 1) := by decide +kernel
theorem d_Mo_far_44 : decode b_Mo_far 44 = .ok (.imul, 1) := by decide +kernel
theorem d_Mo_far_45 : decode b_Mo_far 45 = .ok (.iadd, 1) := by decide +kernel
theorem d_Mo_far_46 : decode b_Mo_far 46 = .ok (.istore_n 2, 1) := by decide +kernel
theorem d_Mo_far_47 : decode b_Mo_far 47 = .ok (.iinc 3 1, 3) := by decide +kernel
theorem d_Mo_far_50 : decode b_Mo_far 50 = .ok (.goto (-46), 3) := by decide +kernel
theorem d_Mo_far_53 : decode b_Mo_far 53 = .ok (.iload_n 2, 1) := by decide +kernel
theorem d_Mo_far_54 : decode b_Mo_far 54 = .ok (.ireturn, 1) := by decide +kernel
theorem d_Mo_nearest_0 : decode b_Mo_nearest 0 = .ok (.iconst (-1), 1) := by decide +kernel
theorem d_Mo_nearest_1 : decode b_Mo_nearest 1 = .ok (.istore_n 2, 1) := by decide +kernel
theorem d_Mo_nearest_2 : decode b_Mo_nearest 2 = .ok (.iconst 0, 1) := by decide +kernel
theorem d_Mo_nearest_3 : decode b_Mo_nearest 3 = .ok (.istore_n 3, 1) := by decide +kernel
theorem d_Mo_nearest_4 : decode b_Mo_nearest 4 = .ok (.iload_n 3, 1) := by decide +kernel
theorem d_Mo_nearest_5 : decode b_Mo_nearest 5 = .ok (.bipush 30, 2) := by decide +kernel
theorem d_Mo_nearest_7 : decode b_Mo_nearest 7 = .ok (.if_icmp .ge 30, 3) := by decide +kernel
theorem d_Mo_nearest_10 : decode b_Mo_nearest 10 = .ok (.aload_n 1, 1) := by decide +kernel
theorem d_Mo_nearest_11 : decode b_Mo_nearest 11 = .ok (.iload_n 3, 1) := by decide +kernel
theorem d_Mo_nearest_12 : decode b_Mo_nearest 12 = .ok (.baload, 1) := by decide +kernel
theorem d_Mo_nearest_13 : decode b_Mo_nearest 13 = .ok (.ifCond .eq 18, 3) := by decide +kernel
theorem d_Mo_nearest_16 : decode b_Mo_nearest 16 = .ok (.iload_n 2, 1) := by decide +kernel
theorem d_Mo_nearest_17 : decode b_Mo_nearest 17 = .ok (.ifCond .lt 12, 3) := by decide +kernel
theorem d_Mo_nearest_20 : decode b_Mo_nearest 20 = .ok (.aload_n 0, 1) := by decide +kernel
theorem d_Mo_nearest_21 : decode b_Mo_nearest 21 = .ok (.iload_n 3, 1) := by decide +kernel
theorem d_Mo_nearest_22 : decode b_Mo_nearest 22 = .ok (.iload_n 2, 1) := by decide +kernel
theorem d_Mo_nearest_23 : decode b_Mo_nearest 23 = .ok (.invokevirtual 79, 3) := by decide +kernel
theorem d_Mo_nearest_26 : decode b_Mo_nearest 26 = .ok (.ifCond .eq 5, 3) := by decide +kernel
theorem d_Mo_nearest_29 : decode b_Mo_nearest 29 = .ok (.iload_n 3, 1) := by decide +kernel
theorem d_Mo_nearest_30 : decode b_Mo_nearest 30 = .ok (.istore_n 2, 1) := by decide +kernel
theorem d_Mo_nearest_31 : decode b_Mo_nearest 31 = .ok (.iinc 3 1, 3) := by decide +kernel
theorem d_Mo_nearest_34 : decode b_Mo_nearest 34 = .ok (.goto (-30), 3) := by decide +kernel
theorem d_Mo_nearest_37 : decode b_Mo_nearest 37 = .ok (.iload_n 2, 1) := by decide +kernel
theorem d_Mo_nearest_38 : decode b_Mo_nearest 38 = .ok (.ireturn, 1) := by decide +kernel
theorem d_Mo_look_0 : decode b_Mo_look 0 = .ok (.aload_n 0, 1) := by decide +kernel
theorem d_Mo_look_1 : decode b_Mo_look 1 = .ok (.getfield 45, 3) := by decide +kernel
theorem d_Mo_look_4 : decode b_Mo_look 4 = .ok (.iload_n 1, 1) := by decide +kernel
theorem d_Mo_look_5 : decode b_Mo_look 5 = .ok (.baload, 1) := by decide +kernel
theorem d_Mo_look_6 : decode b_Mo_look 6 = .ok (.ifCond .eq 4, 3) := by decide +kernel
theorem d_Mo_look_9 : decode b_Mo_look 9 = .ok (.return_, 1) := by decide +kernel
theorem d_Mo_look_10 : decode b_Mo_look 10 = .ok (.aload_n 0, 1) := by decide +kernel
theorem d_Mo_look_11 : decode b_Mo_look 11 = .ok (.getfield 45, 3) := by decide +kernel
theorem d_Mo_look_14 : decode b_Mo_look 14 = .ok (.iload_n 1, 1) := by decide +kernel
theorem d_Mo_look_15 : decode b_Mo_look 15 = .ok (.iconst 1, 1) := by decide +kernel
theorem d_Mo_look_16 : decode b_Mo_look 16 = .ok (.bastore, 1) := by decide +kernel
theorem d_Mo_look_17 : decode b_Mo_look 17 = .ok (.aload_n 0, 1) := by decide +kernel
theorem d_Mo_look_18 : decode b_Mo_look 18 = .ok (.getfield 48, 3) := by decide +kernel
theorem d_Mo_look_21 : decode b_Mo_look 21 = .ok (.invokestatic 86, 3) := by decide +kernel
theorem d_Mo_look_24 : decode b_Mo_look 24 = .ok (.iload_n 2, 1) := by decide +kernel
theorem d_Mo_look_25 : decode b_Mo_look 25 = .ok (.if_icmp .ne 20, 3) := by decide +kernel
theorem d_Mo_look_28 : decode b_Mo_look 28 = .ok (.aload_n 0, 1) := by decide +kernel
theorem d_Mo_look_29 : decode b_Mo_look 29 = .ok (.iload_n 1, 1) := by decide +kernel
theorem d_Mo_look_30 : decode b_Mo_look 30 = .ok (.aload_n 0, 1) := by decide +kernel
theorem d_Mo_look_31 : decode b_Mo_look 31 = .ok (.aload_n 0, 1) := by decide +kernel
theorem d_Mo_look_32 : decode b_Mo_look 32 = .ok (.getfield 48, 3) := by decide +kernel
theorem d_Mo_look_35 : decode b_Mo_look 35 = .ok (.invokevirtual 90, 3) := by decide +kernel
theorem d_Mo_look_38 : decode b_Mo_look 38 = .ok (.invokevirtual 79, 3) := by decide +kernel
theorem d_Mo_look_41 : decode b_Mo_look 41 = .ok (.ifCond .ne 4, 3) := by decide +kernel
theorem d_Mo_look_44 : decode b_Mo_look 44 = .ok (.return_, 1) := by decide +kernel
theorem d_Mo_look_45 : decode b_Mo_look 45 = .ok (.aload_n 0, 1) := by decide +kernel
theorem d_Mo_look_46 : decode b_Mo_look 46 = .ok (.getfield 48, 3) := by decide +kernel
theorem d_Mo_look_49 : decode b_Mo_look 49 = .ok (.iload_n 1, 1) := by decide +kernel
theorem d_Mo_look_50 : decode b_Mo_look 50 = .ok (.iconst 1, 1) := by decide +kernel
theorem d_Mo_look_51 : decode b_Mo_look 51 = .ok (.bastore, 1) := by decide +kernel
theorem d_Mo_look_52 : decode b_Mo_look 52 = .ok (.aload_n 0, 1) := by decide +kernel
theorem d_Mo_look_53 : decode b_Mo_look 53 = .ok (.getfield 51, 3) := by decide +kernel
theorem d_Mo_look_56 : decode b_Mo_look 56 = .ok (.iload_n 1, 1) := by decide +kernel
theorem d_Mo_look_57 : decode b_Mo_look 57 = .ok (.iconst 1, 1) := by decide +kernel
theorem d_Mo_look_58 : decode b_Mo_look 58 = .ok (.bastore, 1) := by decide +kernel
theorem d_Mo_look_59 : decode b_Mo_look 59 = .ok (.aload_n 0, 1) := by decide +kernel
theorem d_Mo_look_60 : decode b_Mo_look 60 = .ok (.getfield 48, 3) := by decide +kernel
theorem d_Mo_look_63 : decode b_Mo_look 63 = .ok (.invokestatic 86, 3) := by decide +kernel
theorem d_Mo_look_66 : decode b_Mo_look 66 = .ok (.iload_n 2, 1) := by decide +kernel
theorem d_Mo_look_67 : decode b_Mo_look 67 = .ok (.if_icmp .le 17, 3) := by decide +kernel
theorem d_Mo_look_70 : decode b_Mo_look 70 = .ok (.aload_n 0, 1) := by decide +kernel
theorem d_Mo_look_71 : decode b_Mo_look 71 = .ok (.getfield 48, 3) := by decide +kernel
theorem d_Mo_look_74 : decode b_Mo_look 74 = .ok (.aload_n 0, 1) := by decide +kernel
theorem d_Mo_look_75 : decode b_Mo_look 75 = .ok (.aload_n 0, 1) := by decide +kernel
theorem d_Mo_look_76 : decode b_Mo_look 76 = .ok (.getfield 48, 3) := by decide +kernel
theorem d_Mo_look_79 : decode b_Mo_look 79 = .ok (.invokevirtual 90, 3) := by decide +kernel
theorem d_Mo_look_82 : decode b_Mo_look 82 = .ok (.iconst 0, 1) := by decide +kernel
theorem d_Mo_look_83 : decode b_Mo_look 83 = .ok (.bastore, 1) := by decide +kernel
theorem d_Mo_look_84 : decode b_Mo_look 84 = .ok (.return_, 1) := by decide +kernel
theorem d_Mo_tie_0 : decode b_Mo_tie 0 = .ok (.aload_n 0, 1) := by decide +kernel
theorem d_Mo_tie_1 : decode b_Mo_tie 1 = .ok (.aload_n 0, 1) := by decide +kernel
theorem d_Mo_tie_2 : decode b_Mo_tie 2 = .ok (.getfield 83, 3) := by decide +kernel
theorem d_Mo_tie_5 : decode b_Mo_tie 5 = .ok (.putfield 100, 3) := by decide +kernel
theorem d_Mo_tie_8 : decode b_Mo_tie 8 = .ok (.iconst 0, 1) := by decide +kernel
theorem d_Mo_tie_9 : decode b_Mo_tie 9 = .ok (.istore_n 3, 1) := by decide +kernel
theorem d_Mo_tie_10 : decode b_Mo_tie 10 = .ok (.iload_n 3, 1) := by decide +kernel
theorem d_Mo_tie_11 : decode b_Mo_tie 11 = .ok (.aload_n 0, 1) := by decide +kernel
theorem d_Mo_tie_12 : decode b_Mo_tie 12 = .ok (.getfield 83, 3) := by decide +kernel
theorem d_Mo_tie_15 : decode b_Mo_tie 15 = .ok (.if_icmp .ge 21, 3) := by decide +kernel
theorem d_Mo_tie_18 : decode b_Mo_tie 18 = .ok (.aload_n 0, 1) := by decide +kernel
theorem d_Mo_tie_19 : decode b_Mo_tie 19 = .ok (.getfield 63, 3) := by decide +kernel
theorem d_Mo_tie_22 : decode b_Mo_tie 22 = .ok (.iload_n 3, 1) := by decide +kernel
theorem d_Mo_tie_23 : decode b_Mo_tie 23 = .ok (.aload_n 0, 1) := by decide +kernel
theorem d_Mo_tie_24 : decode b_Mo_tie 24 = .ok (.getfield 57, 3) := by decide +kernel
theorem d_Mo_tie_27 : decode b_Mo_tie 27 = .ok (.iload_n 3, 1) := by decide +kernel
theorem d_Mo_tie_28 : decode b_Mo_tie 28 = .ok (.iaload, 1) := by decide +kernel
theorem d_Mo_tie_29 : decode b_Mo_tie 29 = .ok (.iastore, 1) := by decide +kernel
theorem d_Mo_tie_30 : decode b_Mo_tie 30 = .ok (.iinc 3 1, 3) := by decide +kernel
theorem d_Mo_tie_33 : decode b_Mo_tie 33 = .ok (.goto (-23), 3) := by decide +kernel
theorem d_Mo_tie_36 : decode b_Mo_tie 36 = .ok (.aload_n 0, 1) := by decide +kernel
theorem d_Mo_tie_37 : decode b_Mo_tie 37 = .ok (.iconst 3, 1) := by decide +kernel
theorem d_Mo_tie_38 : decode b_Mo_tie 38 = .ok (.invokevirtual 130, 3) := by decide +kernel
theorem d_Mo_tie_41 : decode b_Mo_tie 41 = .ok (.aload_n 0, 1) := by decide +kernel
theorem d_Mo_tie_42 : decode b_Mo_tie 42 = .ok (.iconst 4, 1) := by decide +kernel
theorem d_Mo_tie_43 : decode b_Mo_tie 43 = .ok (.iload_n 1, 1) := by decide +kernel
theorem d_Mo_tie_44 : decode b_Mo_tie 44 = .ok (.imul, 1) := by decide +kernel
theorem d_Mo_tie_45 : decode b_Mo_tie 45 = .ok (.iload_n 2, 1) := by decide +kernel
theorem d_Mo_tie_46 : decode b_Mo_tie 46 = .ok (.iadd, 1) := by decide +kernel
theorem d_Mo_tie_47 : decode b_Mo_tie 47 = .ok (.invokevirtual 133, 3) := by decide +kernel
theorem d_Mo_tie_50 : decode b_Mo_tie 50 = .ok (.iload_n 2, 1) := by decide +kernel
theorem d_Mo_tie_51 : decode b_Mo_tie 51 = .ok (.ifCond .ne 8, 3) := by decide +kernel
theorem d_Mo_tie_54 : decode b_Mo_tie 54 = .ok (.bipush 6, 2) := by decide +kernel
theorem d_Mo_tie_56 : decode b_Mo_tie 56 = .ok (.goto 4, 3) := by decide +kernel
theorem d_Mo_tie_59 : decode b_Mo_tie 59 = .ok (.iconst 3, 1) := by decide +kernel
theorem d_Mo_tie_60 : decode b_Mo_tie 60 = .ok (.istore_n 3, 1) := by decide +kernel
theorem d_Mo_tie_61 : decode b_Mo_tie 61 = .ok (.iconst 0, 1) := by decide +kernel
theorem d_Mo_tie_62 : decode b_Mo_tie 62 = .ok (.istore 4, 2) := by decide +kernel
theorem d_Mo_tie_64 : decode b_Mo_tie 64 = .ok (.iload 4, 2) := by decide +kernel
theorem d_Mo_tie_66 : decode b_Mo_tie 66 = .ok (.aload_n 0, 1) := by decide +kernel
theorem d_Mo_tie_67 : decode b_Mo_tie 67 = .ok (.getfield 32, 3) := by decide +kernel
theorem d_Mo_tie_70 : decode b_Mo_tie 70 = .ok (.iconst 4, 1) := by decide +kernel
theorem d_Mo_tie_71 : decode b_Mo_tie 71 = .ok (.iload_n 1, 1) := by decide +kernel
theorem d_Mo_tie_72 : decode b_Mo_tie 72 = .ok (.imul, 1) := by decide +kernel
theorem d_Mo_tie_73 : decode b_Mo_tie 73 = .ok (.iload_n 2, 1) := by decide +kernel
theorem d_Mo_tie_74 : decode b_Mo_tie 74 = .ok (.iadd, 1) := by decide +kernel
theorem d_Mo_tie_75 : decode b_Mo_tie 75 = .ok (.iaload, 1) := by decide +kernel
theorem d_Mo_tie_76 : decode b_Mo_tie 76 = .ok (.if_icmp .ge 145, 3) := by decide +kernel
theorem d_Mo_tie_79 : decode b_Mo_tie 79 = .ok (.aload_n 0, 1) := by decide +kernel
theorem d_Mo_tie_80 : decode b_Mo_tie 80 = .ok (.getfield 29, 3) := by decide +kernel
theorem d_Mo_tie_83 : decode b_Mo_tie 83 = .ok (.bipush 7, 2) := by decide +kernel
theorem d_Mo_tie_85 : decode b_Mo_tie 85 = .ok (.iconst 4, 1) := by decide +kernel
theorem d_Mo_tie_86 : decode b_Mo_tie 86 = .ok (.iload_n 1, 1) := by decide +kernel
theorem d_Mo_tie_87 : decode b_Mo_tie 87 = .ok (.imul, 1) := by decide +kernel
theorem d_Mo_tie_88 : decode b_Mo_tie 88 = .ok (.iload_n 2, 1) := by decide +kernel
theorem d_Mo_tie_89 : decode b_Mo_tie 89 = .ok (.iadd, 1) := by decide +kernel
theorem d_Mo_tie_90 : decode b_Mo_tie 90 = .ok (.imul, 1) := by decide +kernel
theorem d_Mo_tie_91 : decode b_Mo_tie 91 = .ok (.iload 4, 2) := by decide +kernel
theorem d_Mo_tie_93 : decode b_Mo_tie 93 = .ok (.iadd, 1) := by decide +kernel
theorem d_Mo_tie_94 : decode b_Mo_tie 94 = .ok (.iaload, 1) := by decide +kernel
theorem d_Mo_tie_95 : decode b_Mo_tie 95 = .ok (.istore 5, 2) := by decide +kernel
theorem d_Mo_tie_97 : decode b_Mo_tie 97 = .ok (.iconst 4, 1) := by decide +kernel
theorem d_Mo_tie_98 : decode b_Mo_tie 98 = .ok (.iload 5, 2) := by decide +kernel
theorem d_Mo_tie_100 : decode b_Mo_tie 100 = .ok (.imul, 1) := by decide +kernel
theorem d_Mo_tie_101 : decode b_Mo_tie 101 = .ok (.iload_n 2, 1) := by decide +kernel
theorem d_Mo_tie_102 : decode b_Mo_tie 102 = .ok (.iadd, 1) := by decide +kernel
theorem d_Mo_tie_103 : decode b_Mo_tie 103 = .ok (.istore 6, 2) := by decide +kernel
theorem d_Mo_tie_105 : decode b_Mo_tie 105 = .ok (.aload_n 0, 1) := by decide +kernel
theorem d_Mo_tie_106 : decode b_Mo_tie 106 = .ok (.getfield 29, 3) := by decide +kernel
theorem d_Mo_tie_109 : decode b_Mo_tie 109 = .ok (.bipush 7, 2) := by decide +kernel
theorem d_Mo_tie_111 : decode b_Mo_tie 111 = .ok (.iload 6, 2) := by decide +kernel
theorem d_Mo_tie_113 : decode b_Mo_tie 113 = .ok (.imul, 1) := by decide +kernel
theorem d_Mo_tie_114 : decode b_Mo_tie 114 = .ok (.aload_n 0, 1) := by decide +kernel
theorem d_Mo_tie_115 : decode b_Mo_tie 115 = .ok (.getfield 32, 3) := by decide +kernel
theorem d_Mo_tie_118 : decode b_Mo_tie 118 = .ok (.iload 6, 2) := by decide +kernel
theorem d_Mo_tie_120 : decode b_Mo_tie 120 = .ok (.iaload, 1) := by decide +kernel
theorem d_Mo_tie_121 : decode b_Mo_tie 121 = .ok (.iadd, 1) := by decide +kernel
theorem d_Mo_tie_122 : decode b_Mo_tie 122 = .ok (.iload_n 1, 1) := by decide +kernel
theorem d_Mo_tie_123 : decode b_Mo_tie 123 = .ok (.iastore, 1) := by decide +kernel
theorem d_Mo_tie_124 : decode b_Mo_tie 124 = .ok (.aload_n 0, 1) := by decide +kernel
theorem d_Mo_tie_125 : decode b_Mo_tie 125 = .ok (.getfield 32, 3) := by decide +kernel
theorem d_Mo_tie_128 : decode b_Mo_tie 128 = .ok (.iload 6, 2) := by decide +kernel
theorem d_Mo_tie_130 : decode b_Mo_tie 130 = .ok (.dup2, 1) := by decide +kernel
theorem d_Mo_tie_131 : decode b_Mo_tie 131 = .ok (.iaload, 1) := by decide +kernel
theorem d_Mo_tie_132 : decode b_Mo_tie 132 = .ok (.iconst 1, 1) := by decide +kernel
theorem d_Mo_tie_133 : decode b_Mo_tie 133 = .ok (.iadd, 1) := by decide +kernel
theorem d_Mo_tie_134 : decode b_Mo_tie 134 = .ok (.iastore, 1) := by decide +kernel
theorem d_Mo_tie_135 : decode b_Mo_tie 135 = .ok (.aload_n 0, 1) := by decide +kernel
theorem d_Mo_tie_136 : decode b_Mo_tie 136 = .ok (.getfield 32, 3) := by decide +kernel
theorem d_Mo_tie_139 : decode b_Mo_tie 139 = .ok (.iload 6, 2) := by decide +kernel
theorem d_Mo_tie_141 : decode b_Mo_tie 141 = .ok (.iaload, 1) := by decide +kernel
theorem d_Mo_tie_142 : decode b_Mo_tie 142 = .ok (.iload_n 3, 1) := by decide +kernel
theorem d_Mo_tie_143 : decode b_Mo_tie 143 = .ok (.if_icmp .gt 6, 3) := by decide +kernel
theorem d_Mo_tie_146 : decode b_Mo_tie 146 = .ok (.goto 69, 3) := by decide +kernel
theorem d_Mo_tie_149 : decode b_Mo_tie 149 = .ok (.aload_n 0, 1) := by decide +kernel
theorem d_Mo_tie_150 : decode b_Mo_tie 150 = .ok (.iload 5, 2) := by decide +kernel
theorem d_Mo_tie_152 : decode b_Mo_tie 152 = .ok (.invokevirtual 117, 3) := by decide +kernel
theorem d_Mo_tie_155 : decode b_Mo_tie 155 = .ok (.aload_n 0, 1) := by decide +kernel
theorem d_Mo_tie_156 : decode b_Mo_tie 156 = .ok (.aload_n 0, 1) := by decide +kernel
theorem d_Mo_tie_157 : decode b_Mo_tie 157 = .ok (.getfield 32, 3) := by decide +kernel
theorem d_Mo_tie_160 : decode b_Mo_tie 160 = .ok (.iload 6, 2) := by decide +kernel
theorem d_Mo_tie_162 : decode b_Mo_tie 162 = .ok (.iaload, 1) := by decide +kernel
theorem d_Mo_tie_163 : decode b_Mo_tie 163 = .ok (.putfield 100, 3) := by decide +kernel
theorem d_Mo_tie_166 : decode b_Mo_tie 166 = .ok (.iconst 0, 1) := by decide +kernel
theorem d_Mo_tie_167 : decode b_Mo_tie 167 = .ok (.istore 7, 2) := by decide +kernel
theorem d_Mo_tie_169 : decode b_Mo_tie 169 = .ok (.iload 7, 2) := by decide +kernel
theorem d_Mo_tie_171 : decode b_Mo_tie 171 = .ok (.aload_n 0, 1) := by decide +kernel
theorem d_Mo_tie_172 : decode b_Mo_tie 172 = .ok (.getfield 100, 3) := by decide +kernel
theorem d_Mo_tie_175 : decode b_Mo_tie 175 = .ok (.if_icmp .ge 29, 3) := by decide +kernel
theorem d_Mo_tie_178 : decode b_Mo_tie 178 = .ok (.aload_n 0, 1) := by decide +kernel
theorem d_Mo_tie_179 : decode b_Mo_tie 179 = .ok (.getfield 63, 3) := by decide +kernel
theorem d_Mo_tie_182 : decode b_Mo_tie 182 = .ok (.iload 7, 2) := by decide +kernel
theorem d_Mo_tie_184 : decode b_Mo_tie 184 = .ok (.aload_n 0, 1) := by decide +kernel
theorem d_Mo_tie_185 : decode b_Mo_tie 185 = .ok (.getfield 29, 3) := by decide +kernel
theorem d_Mo_tie_188 : decode b_Mo_tie 188 = .ok (.bipush 7, 2) := by decide +kernel
theorem d_Mo_tie_190 : decode b_Mo_tie 190 = .ok (.iload 6, 2) := by decide +kernel
theorem d_Mo_tie_192 : decode b_Mo_tie 192 = .ok (.imul, 1) := by decide +kernel
theorem d_Mo_tie_193 : decode b_Mo_tie 193 = .ok (.iload 7, 2) := by decide +kernel
theorem d_Mo_tie_195 : decode b_Mo_tie 195 = .ok (.iadd, 1) := by decide +kernel
theorem d_Mo_tie_196 : decode b_Mo_tie 196 = .ok (.iaload, 1) := by decide +kernel
theorem d_Mo_tie_197 : decode b_Mo_tie 197 = .ok (.iastore, 1) := by decide +kernel
theorem d_Mo_tie_198 : decode b_Mo_tie 198 = .ok (.iinc 7 1, 3) := by decide +kernel
theorem d_Mo_tie_201 : decode b_Mo_tie 201 = .ok (.goto (-32), 3) := by decide +kernel
theorem d_Mo_tie_204 : decode b_Mo_tie 204 = .ok (.aload_n 0, 1) := by decide +kernel
theorem d_Mo_tie_205 : decode b_Mo_tie 205 = .ok (.iload_n 3, 1) := by decide +kernel
theorem d_Mo_tie_206 : decode b_Mo_tie 206 = .ok (.invokevirtual 130, 3) := by decide +kernel
theorem d_Mo_tie_209 : decode b_Mo_tie 209 = .ok (.aload_n 0, 1) := by decide +kernel
theorem d_Mo_tie_210 : decode b_Mo_tie 210 = .ok (.iload 6, 2) := by decide +kernel
theorem d_Mo_tie_212 : decode b_Mo_tie 212 = .ok (.invokevirtual 133, 3) := by decide +kernel
theorem d_Mo_tie_215 : decode b_Mo_tie 215 = .ok (.iinc 4 1, 3) := by decide +kernel
theorem d_Mo_tie_218 : decode b_Mo_tie 218 = .ok (.goto (-154), 3) := by decide +kernel
theorem d_Mo_tie_221 : decode b_Mo_tie 221 = .ok (.return_, 1) := by decide +kernel
theorem d_Mo_choose_0 : decode b_Mo_choose 0 = .ok (.iconst 0, 1) := by decide +kernel
theorem d_Mo_choose_1 : decode b_Mo_choose 1 = .ok (.istore_n 2, 1) := by decide +kernel
theorem d_Mo_choose_2 : decode b_Mo_choose 2 = .ok (.iload_n 2, 1) := by decide +kernel
theorem d_Mo_choose_3 : decode b_Mo_choose 3 = .ok (.bipush 30, 2) := by decide +kernel
theorem d_Mo_choose_5 : decode b_Mo_choose 5 = .ok (.if_icmp .ge 23, 3) := by decide +kernel
theorem d_Mo_choose_8 : decode b_Mo_choose 8 = .ok (.aload_n 0, 1) := by decide +kernel
theorem d_Mo_choose_9 : decode b_Mo_choose 9 = .ok (.getfield 51, 3) := by decide +kernel
theorem d_Mo_choose_12 : decode b_Mo_choose 12 = .ok (.iload_n 2, 1) := by decide +kernel
theorem d_Mo_choose_13 : decode b_Mo_choose 13 = .ok (.iconst 0, 1) := by decide +kernel
theorem d_Mo_choose_14 : decode b_Mo_choose 14 = .ok (.bastore, 1) := by decide +kernel
theorem d_Mo_choose_15 : decode b_Mo_choose 15 = .ok (.aload_n 0, 1) := by decide +kernel
theorem d_Mo_choose_16 : decode b_Mo_choose 16 = .ok (.getfield 54, 3) := by decide +kernel
theorem d_Mo_choose_19 : decode b_Mo_choose 19 = .ok (.iload_n 2, 1) := by decide +kernel
theorem d_Mo_choose_20 : decode b_Mo_choose 20 = .ok (.iconst 0, 1) := by decide +kernel
theorem d_Mo_choose_21 : decode b_Mo_choose 21 = .ok (.bastore, 1) := by decide +kernel
theorem d_Mo_choose_22 : decode b_Mo_choose 22 = .ok (.iinc 2 1, 3) := by decide +kernel
theorem d_Mo_choose_25 : decode b_Mo_choose 25 = .ok (.goto (-23), 3) := by decide +kernel
theorem d_Mo_choose_28 : decode b_Mo_choose 28 = .ok (.iconst 0, 1) := by decide +kernel
theorem d_Mo_choose_29 : decode b_Mo_choose 29 = .ok (.istore_n 2, 1) := by decide +kernel
theorem d_Mo_choose_30 : decode b_Mo_choose 30 = .ok (.iload_n 2, 1) := by decide +kernel
theorem d_Mo_choose_31 : decode b_Mo_choose 31 = .ok (.aload_n 0, 1) := by decide +kernel
theorem d_Mo_choose_32 : decode b_Mo_choose 32 = .ok (.getfield 100, 3) := by decide +kernel
theorem d_Mo_choose_35 : decode b_Mo_choose 35 = .ok (.if_icmp .ge 21, 3) := by decide +kernel
theorem d_Mo_choose_38 : decode b_Mo_choose 38 = .ok (.aload_n 0, 1) := by decide +kernel
theorem d_Mo_choose_39 : decode b_Mo_choose 39 = .ok (.getfield 51, 3) := by decide +kernel
theorem d_Mo_choose_42 : decode b_Mo_choose 42 = .ok (.aload_n 0, 1) := by decide +kernel
theorem d_Mo_choose_43 : decode b_Mo_choose 43 = .ok (.getfield 63, 3) := by decide +kernel
theorem d_Mo_choose_46 : decode b_Mo_choose 46 = .ok (.iload_n 2, 1) := by decide +kernel
theorem d_Mo_choose_47 : decode b_Mo_choose 47 = .ok (.iaload, 1) := by decide +kernel
theorem d_Mo_choose_48 : decode b_Mo_choose 48 = .ok (.iconst 1, 1) := by decide +kernel
theorem d_Mo_choose_49 : decode b_Mo_choose 49 = .ok (.bastore, 1) := by decide +kernel
theorem d_Mo_choose_50 : decode b_Mo_choose 50 = .ok (.iinc 2 1, 3) := by decide +kernel
theorem d_Mo_choose_53 : decode b_Mo_choose 53 = .ok (.goto (-23), 3) := by decide +kernel
theorem d_Mo_choose_56 : decode b_Mo_choose 56 = .ok (.aload_n 0, 1) := by decide +kernel
theorem d_Mo_choose_57 : decode b_Mo_choose 57 = .ok (.iconst 0, 1) := by decide +kernel
theorem d_Mo_choose_58 : decode b_Mo_choose 58 = .ok (.putfield 103, 3) := by decide +kernel
theorem d_Mo_choose_61 : decode b_Mo_choose 61 = .ok (.iconst 0, 1) := by decide +kernel
theorem d_Mo_choose_62 : decode b_Mo_choose 62 = .ok (.istore_n 2, 1) := by decide +kernel
theorem d_Mo_choose_63 : decode b_Mo_choose 63 = .ok (.iload_n 2, 1) := by decide +kernel
theorem d_Mo_choose_64 : decode b_Mo_choose 64 = .ok (.aload_n 0, 1) := by decide +kernel
theorem d_Mo_choose_65 : decode b_Mo_choose 65 = .ok (.getfield 100, 3) := by decide +kernel
theorem d_Mo_choose_68 : decode b_Mo_choose 68 = .ok (.if_icmp .ge 91, 3) := by decide +kernel
theorem d_Mo_choose_71 : decode b_Mo_choose 71 = .ok (.aload_n 0, 1) := by decide +kernel
theorem d_Mo_choose_72 : decode b_Mo_choose 72 = .ok (.aload_n 0, 1) := by decide +kernel
theorem d_Mo_choose_73 : decode b_Mo_choose 73 = .ok (.getfield 51, 3) := by decide +kernel
theorem d_Mo_choose_76 : decode b_Mo_choose 76 = .ok (.invokevirtual 93, 3) := by decide +kernel
theorem d_Mo_choose_79 : decode b_Mo_choose 79 = .ok (.istore_n 3, 1) := by decide +kernel
theorem d_Mo_choose_80 : decode b_Mo_choose 80 = .ok (.aload_n 0, 1) := by decide +kernel
theorem d_Mo_choose_81 : decode b_Mo_choose 81 = .ok (.getfield 51, 3) := by decide +kernel
theorem d_Mo_choose_84 : decode b_Mo_choose 84 = .ok (.iload_n 3, 1) := by decide +kernel
theorem d_Mo_choose_85 : decode b_Mo_choose 85 = .ok (.iconst 0, 1) := by decide +kernel
theorem d_Mo_choose_86 : decode b_Mo_choose 86 = .ok (.bastore, 1) := by decide +kernel
theorem d_Mo_choose_87 : decode b_Mo_choose 87 = .ok (.aload_n 0, 1) := by decide +kernel
theorem d_Mo_choose_88 : decode b_Mo_choose 88 = .ok (.getfield 103, 3) := by decide +kernel
theorem d_Mo_choose_91 : decode b_Mo_choose 91 = .ok (.iload_n 1, 1) := by decide +kernel
theorem d_Mo_choose_92 : decode b_Mo_choose 92 = .ok (.if_icmp .ge 7, 3) := by decide +kernel
theorem d_Mo_choose_95 : decode b_Mo_choose 95 = .ok (.iconst 1, 1) := by decide +kernel
theorem d_Mo_choose_96 : decode b_Mo_choose 96 = .ok (.goto 4, 3) := by decide +kernel
theorem d_Mo_choose_99 : decode b_Mo_choose 99 = .ok (.iconst 0, 1) := by decide +kernel
theorem d_Mo_choose_100 : decode b_Mo_choose 100 = .ok (.istore 4, 2) := by decide +kernel
theorem d_Mo_choose_102 : decode b_Mo_choose 102 = .ok (.iconst 0, 1) := by decide +kernel
theorem d_Mo_choose_103 : decode b_Mo_choose 103 = .ok (.istore 5, 2) := by decide +kernel
theorem d_Mo_choose_105 : decode b_Mo_choose 105 = .ok (.iload 5, 2) := by decide +kernel
theorem d_Mo_choose_107 : decode b_Mo_choose 107 = .ok (.aload_n 0, 1) := by decide +kernel
theorem d_Mo_choose_108 : decode b_Mo_choose 108 = .ok (.getfield 103, 3) := by decide +kernel
theorem d_Mo_choose_111 : decode b_Mo_choose 111 = .ok (.if_icmp .ge 32, 3) := by decide +kernel
theorem d_Mo_choose_114 : decode b_Mo_choose 114 = .ok (.aload_n 0, 1) := by decide +kernel
theorem d_Mo_choose_115 : decode b_Mo_choose 115 = .ok (.iload_n 3, 1) := by decide +kernel
theorem d_Mo_choose_116 : decode b_Mo_choose 116 = .ok (.invokevirtual 75, 3) := by decide +kernel
theorem d_Mo_choose_119 : decode b_Mo_choose 119 = .ok (.aload_n 0, 1) := by decide +kernel
theorem d_Mo_choose_120 : decode b_Mo_choose 120 = .ok (.iload_n 3, 1) := by decide +kernel
theorem d_Mo_choose_121 : decode b_Mo_choose 121 = .ok (.aload_n 0, 1) := by decide +kernel
theorem d_Mo_choose_122 : decode b_Mo_choose 122 = .ok (.getfield 60, 3) := by decide +kernel
theorem d_Mo_choose_125 : decode b_Mo_choose 125 = .ok (.iload 5, 2) := by decide +kernel
theorem d_Mo_choose_127 : decode b_Mo_choose 127 = .ok (.iaload, 1) := by decide +kernel
theorem d_Mo_choose_128 : decode b_Mo_choose 128 = .ok (.invokevirtual 106, 3) := by decide +kernel
theorem d_Mo_choose_131 : decode b_Mo_choose 131 = .ok (.if_icmp .lt 6, 3) := by decide +kernel
theorem d_Mo_choose_134 : decode b_Mo_choose 134 = .ok (.iconst 0, 1) := by decide +kernel
theorem d_Mo_choose_135 : decode b_Mo_choose 135 = .ok (.istore 4, 2) := by decide +kernel
theorem d_Mo_choose_137 : decode b_Mo_choose 137 = .ok (.iinc 5 1, 3) := by decide +kernel
theorem d_Mo_choose_140 : decode b_Mo_choose 140 = .ok (.goto (-35), 3) := by decide +kernel
theorem d_Mo_choose_143 : decode b_Mo_choose 143 = .ok (.iload 4, 2) := by decide +kernel
theorem d_Mo_choose_145 : decode b_Mo_choose 145 = .ok (.ifCond .eq 8, 3) := by decide +kernel
theorem d_Mo_choose_148 : decode b_Mo_choose 148 = .ok (.aload_n 0, 1) := by decide +kernel
theorem d_Mo_choose_149 : decode b_Mo_choose 149 = .ok (.iload_n 3, 1) := by decide +kernel
theorem d_Mo_choose_150 : decode b_Mo_choose 150 = .ok (.invokevirtual 110, 3) := by decide +kernel
theorem d_Mo_choose_153 : decode b_Mo_choose 153 = .ok (.iinc 2 1, 3) := by decide +kernel
theorem d_Mo_choose_156 : decode b_Mo_choose 156 = .ok (.goto (-93), 3) := by decide +kernel
theorem d_Mo_choose_159 : decode b_Mo_choose 159 = .ok (.iconst 0, 1) := by decide +kernel
theorem d_Mo_choose_160 : decode b_Mo_choose 160 = .ok (.istore_n 2, 1) := by decide +kernel
theorem d_Mo_choose_161 : decode b_Mo_choose 161 = .ok (.iload_n 2, 1) := by decide +kernel
theorem d_Mo_choose_162 : decode b_Mo_choose 162 = .ok (.aload_n 0, 1) := by decide +kernel
theorem d_Mo_choose_163 : decode b_Mo_choose 163 = .ok (.getfield 100, 3) := by decide +kernel
theorem d_Mo_choose_166 : decode b_Mo_choose 166 = .ok (.if_icmp .ge 39, 3) := by decide +kernel
theorem d_Mo_choose_169 : decode b_Mo_choose 169 = .ok (.aload_n 0, 1) := by decide +kernel
theorem d_Mo_choose_170 : decode b_Mo_choose 170 = .ok (.getfield 51, 3) := by decide +kernel
theorem d_Mo_choose_173 : decode b_Mo_choose 173 = .ok (.aload_n 0, 1) := by decide +kernel
theorem d_Mo_choose_174 : decode b_Mo_choose 174 = .ok (.getfield 63, 3) := by decide +kernel
theorem d_Mo_choose_177 : decode b_Mo_choose 177 = .ok (.iload_n 2, 1) := by decide +kernel
theorem d_Mo_choose_178 : decode b_Mo_choose 178 = .ok (.iaload, 1) := by decide +kernel
theorem d_Mo_choose_179 : decode b_Mo_choose 179 = .ok (.aload_n 0, 1) := by decide +kernel
theorem d_Mo_choose_180 : decode b_Mo_choose 180 = .ok (.getfield 54, 3) := by decide +kernel
theorem d_Mo_choose_183 : decode b_Mo_choose 183 = .ok (.aload_n 0, 1) := by decide +kernel
theorem d_Mo_choose_184 : decode b_Mo_choose 184 = .ok (.getfield 63, 3) := by decide +kernel
theorem d_Mo_choose_187 : decode b_Mo_choose 187 = .ok (.iload_n 2, 1) := by decide +kernel
theorem d_Mo_choose_188 : decode b_Mo_choose 188 = .ok (.iaload, 1) := by decide +kernel
theorem d_Mo_choose_189 : decode b_Mo_choose 189 = .ok (.baload, 1) := by decide +kernel
theorem d_Mo_choose_190 : decode b_Mo_choose 190 = .ok (.ifCond .ne 7, 3) := by decide +kernel
theorem d_Mo_choose_193 : decode b_Mo_choose 193 = .ok (.iconst 1, 1) := by decide +kernel
theorem d_Mo_choose_194 : decode b_Mo_choose 194 = .ok (.goto 4, 3) := by decide +kernel
theorem d_Mo_choose_197 : decode b_Mo_choose 197 = .ok (.iconst 0, 1) := by decide +kernel
theorem d_Mo_choose_198 : decode b_Mo_choose 198 = .ok (.bastore, 1) := by decide +kernel
theorem d_Mo_choose_199 : decode b_Mo_choose 199 = .ok (.iinc 2 1, 3) := by decide +kernel
theorem d_Mo_choose_202 : decode b_Mo_choose 202 = .ok (.goto (-41), 3) := by decide +kernel
theorem d_Mo_choose_205 : decode b_Mo_choose 205 = .ok (.aload_n 0, 1) := by decide +kernel
theorem d_Mo_choose_206 : decode b_Mo_choose 206 = .ok (.aload_n 0, 1) := by decide +kernel
theorem d_Mo_choose_207 : decode b_Mo_choose 207 = .ok (.getfield 51, 3) := by decide +kernel
theorem d_Mo_choose_210 : decode b_Mo_choose 210 = .ok (.invokevirtual 93, 3) := by decide +kernel
theorem d_Mo_choose_213 : decode b_Mo_choose 213 = .ok (.istore_n 2, 1) := by decide +kernel
theorem d_Mo_choose_214 : decode b_Mo_choose 214 = .ok (.iload_n 2, 1) := by decide +kernel
theorem d_Mo_choose_215 : decode b_Mo_choose 215 = .ok (.ifCond .lt 35, 3) := by decide +kernel
theorem d_Mo_choose_218 : decode b_Mo_choose 218 = .ok (.aload_n 0, 1) := by decide +kernel
theorem d_Mo_choose_219 : decode b_Mo_choose 219 = .ok (.getfield 103, 3) := by decide +kernel
theorem d_Mo_choose_222 : decode b_Mo_choose 222 = .ok (.iload_n 1, 1) := by decide +kernel
theorem d_Mo_choose_223 : decode b_Mo_choose 223 = .ok (.if_icmp .ge 27, 3) := by decide +kernel
theorem d_Mo_choose_226 : decode b_Mo_choose 226 = .ok (.aload_n 0, 1) := by decide +kernel
theorem d_Mo_choose_227 : decode b_Mo_choose 227 = .ok (.getfield 51, 3) := by decide +kernel
theorem d_Mo_choose_230 : decode b_Mo_choose 230 = .ok (.iload_n 2, 1) := by decide +kernel
theorem d_Mo_choose_231 : decode b_Mo_choose 231 = .ok (.iconst 0, 1) := by decide +kernel
theorem d_Mo_choose_232 : decode b_Mo_choose 232 = .ok (.bastore, 1) := by decide +kernel
theorem d_Mo_choose_233 : decode b_Mo_choose 233 = .ok (.aload_n 0, 1) := by decide +kernel
theorem d_Mo_choose_234 : decode b_Mo_choose 234 = .ok (.iload_n 2, 1) := by decide +kernel
theorem d_Mo_choose_235 : decode b_Mo_choose 235 = .ok (.invokevirtual 110, 3) := by decide +kernel
theorem d_Mo_choose_238 : decode b_Mo_choose 238 = .ok (.aload_n 0, 1) := by decide +kernel
theorem d_Mo_choose_239 : decode b_Mo_choose 239 = .ok (.aload_n 0, 1) := by decide +kernel
theorem d_Mo_choose_240 : decode b_Mo_choose 240 = .ok (.getfield 51, 3) := by decide +kernel
theorem d_Mo_choose_243 : decode b_Mo_choose 243 = .ok (.invokevirtual 93, 3) := by decide +kernel
theorem d_Mo_choose_246 : decode b_Mo_choose 246 = .ok (.istore_n 2, 1) := by decide +kernel
theorem d_Mo_choose_247 : decode b_Mo_choose 247 = .ok (.goto (-33), 3) := by decide +kernel
theorem d_Mo_choose_250 : decode b_Mo_choose 250 = .ok (.return_, 1) := by decide +kernel
theorem d_Mo_between_0 : decode b_Mo_between 0 = .ok (.iconst 0, 1) := by decide +kernel
theorem d_Mo_between_1 : decode b_Mo_between 1 = .ok (.istore_n 3, 1) := by decide +kernel
theorem d_Mo_between_2 : decode b_Mo_between 2 = .ok (.iconst 0, 1) := by decide +kernel
theorem d_Mo_between_3 : decode b_Mo_between 3 = .ok (.istore 4, 2) := by decide +kernel
theorem d_Mo_between_5 : decode b_Mo_between 5 = .ok (.iload 4, 2) := by decide +kernel
theorem d_Mo_between_7 : decode b_Mo_between 7 = .ok (.iconst 4, 1) := by decide +kernel
theorem d_Mo_between_8 : decode b_Mo_between 8 = .ok (.if_icmp .ge 59, 3) := by decide +kernel
theorem d_Mo_between_11 : decode b_Mo_between 11 = .ok (.iload_n 3, 1) := by decide +kernel
theorem d_Mo_between_12 : decode b_Mo_between 12 = .ok (.aload_n 0, 1) := by decide +kernel
theorem d_Mo_between_13 : decode b_Mo_between 13 = .ok (.getfield 16, 3) := by decide +kernel
theorem d_Mo_between_16 : decode b_Mo_between 16 = .ok (.iconst 4, 1) := by decide +kernel
theorem d_Mo_between_17 : decode b_Mo_between 17 = .ok (.iload_n 1, 1) := by decide +kernel
theorem d_Mo_between_18 : decode b_Mo_between 18 = .ok (.imul, 1) := by decide +kernel
theorem d_Mo_between_19 : decode b_Mo_between 19 = .ok (.iload 4, 2) := by decide +kernel
theorem d_Mo_between_21 : decode b_Mo_between 21 = .ok (.iadd, 1) := by decide +kernel
theorem d_Mo_between_22 : decode b_Mo_between 22 = .ok (.iaload, 1) := by decide +kernel
theorem d_Mo_between_23 : decode b_Mo_between 23 = .ok (.aload_n 0, 1) := by decide +kernel
theorem d_Mo_between_24 : decode b_Mo_between 24 = .ok (.getfield 16, 3) := by decide +kernel
theorem d_Mo_between_27 : decode b_Mo_between 27 = .ok (.iconst 4, 1) := by decide +kernel
theorem d_Mo_between_28 : decode b_Mo_between 28 = .ok (.iload_n 2, 1) := by decide +kernel
theorem d_Mo_between_29 : decode b_Mo_between 29 = .ok (.imul, 1) := by decide +kernel
theorem d_Mo_between_30 : decode b_Mo_between 30 = .ok (.iload 4, 2) := by decide +kernel
theorem d_Mo_between_32 : decode b_Mo_between 32 = .ok (.iadd, 1) := by decide +kernel
theorem d_Mo_between_33 : decode b_Mo_between 33 = .ok (.iaload, 1) := by decide +kernel
theorem d_Mo_between_34 : decode b_Mo_between 34 = .ok (.isub, 1) := by decide +kernel
theorem d_Mo_between_35 : decode b_Mo_between 35 = .ok (.aload_n 0, 1) := by decide +kernel
theorem d_Mo_between_36 : decode b_Mo_between 36 = .ok (.getfield 16, 3) := by decide +kernel
theorem d_Mo_between_39 : decode b_Mo_between 39 = .ok (.iconst 4, 1) := by decide +kernel
theorem d_Mo_between_40 : decode b_Mo_between 40 = .ok (.iload_n 1, 1) := by decide +kernel
theorem d_Mo_between_41 : decode b_Mo_between 41 = .ok (.imul, 1) := by decide +kernel
theorem d_Mo_between_42 : decode b_Mo_between 42 = .ok (.iload 4, 2) := by decide +kernel
theorem d_Mo_between_44 : decode b_Mo_between 44 = .ok (.iadd, 1) := by decide +kernel
theorem d_Mo_between_45 : decode b_Mo_between 45 = .ok (.iaload, 1) := by decide +kernel
theorem d_Mo_between_46 : decode b_Mo_between 46 = .ok (.aload_n 0, 1) := by decide +kernel
theorem d_Mo_between_47 : decode b_Mo_between 47 = .ok (.getfield 16, 3) := by decide +kernel
theorem d_Mo_between_50 : decode b_Mo_between 50 = .ok (.iconst 4, 1) := by decide +kernel
theorem d_Mo_between_51 : decode b_Mo_between 51 = .ok (.iload_n 2, 1) := by decide +kernel
theorem d_Mo_between_52 : decode b_Mo_between 52 = .ok (.imul, 1) := by decide +kernel
theorem d_Mo_between_53 : decode b_Mo_between 53 = .ok (.iload 4, 2) := by decide +kernel
theorem d_Mo_between_55 : decode b_Mo_between 55 = .ok (.iadd, 1) := by decide +kernel
theorem d_Mo_between_56 : decode b_Mo_between 56 = .ok (.iaload, 1) := by decide +kernel
theorem d_Mo_between_57 : decode b_Mo_between 57 = .ok (.isub, 1) := by decide +kernel
theorem d_Mo_between_58 : decode b_Mo_between 58 = .ok (.imul, 1) := by decide +kernel
theorem d_Mo_between_59 : decode b_Mo_between 59 = .ok (.iadd, 1) := by decide +kernel
theorem d_Mo_between_60 : decode b_Mo_between 60 = .ok (.istore_n 3, 1) := by decide +kernel
theorem d_Mo_between_61 : decode b_Mo_between 61 = .ok (.iinc 4 1, 3) := by decide +kernel
theorem d_Mo_between_64 : decode b_Mo_between 64 = .ok (.goto (-59), 3) := by decide +kernel
theorem d_Mo_between_67 : decode b_Mo_between 67 = .ok (.iload_n 3, 1) := by decide +kernel
theorem d_Mo_between_68 : decode b_Mo_between 68 = .ok (.ireturn, 1) := by decide +kernel
theorem d_Mo_pick_0 : decode b_Mo_pick 0 = .ok (.aload_n 0, 1) := by decide +kernel
theorem d_Mo_pick_1 : decode b_Mo_pick 1 = .ok (.getfield 60, 3) := by decide +kernel
theorem d_Mo_pick_4 : decode b_Mo_pick 4 = .ok (.aload_n 0, 1) := by decide +kernel
theorem d_Mo_pick_5 : decode b_Mo_pick 5 = .ok (.getfield 103, 3) := by decide +kernel
theorem d_Mo_pick_8 : decode b_Mo_pick 8 = .ok (.iload_n 1, 1) := by decide +kernel
theorem d_Mo_pick_9 : decode b_Mo_pick 9 = .ok (.iastore, 1) := by decide +kernel
theorem d_Mo_pick_10 : decode b_Mo_pick 10 = .ok (.aload_n 0, 1) := by decide +kernel
theorem d_Mo_pick_11 : decode b_Mo_pick 11 = .ok (.dup, 1) := by decide +kernel
theorem d_Mo_pick_12 : decode b_Mo_pick 12 = .ok (.getfield 103, 3) := by decide +kernel
theorem d_Mo_pick_15 : decode b_Mo_pick 15 = .ok (.iconst 1, 1) := by decide +kernel
theorem d_Mo_pick_16 : decode b_Mo_pick 16 = .ok (.iadd, 1) := by decide +kernel
theorem d_Mo_pick_17 : decode b_Mo_pick 17 = .ok (.putfield 103, 3) := by decide +kernel
theorem d_Mo_pick_20 : decode b_Mo_pick 20 = .ok (.aload_n 0, 1) := by decide +kernel
theorem d_Mo_pick_21 : decode b_Mo_pick 21 = .ok (.getfield 54, 3) := by decide +kernel
theorem d_Mo_pick_24 : decode b_Mo_pick 24 = .ok (.iload_n 1, 1) := by decide +kernel
theorem d_Mo_pick_25 : decode b_Mo_pick 25 = .ok (.iconst 1, 1) := by decide +kernel
theorem d_Mo_pick_26 : decode b_Mo_pick 26 = .ok (.bastore, 1) := by decide +kernel
theorem d_Mo_pick_27 : decode b_Mo_pick 27 = .ok (.return_, 1) := by decide +kernel
theorem d_Mo_take_0 : decode b_Mo_take 0 = .ok (.iconst 0, 1) := by decide +kernel
theorem d_Mo_take_1 : decode b_Mo_take 1 = .ok (.istore_n 2, 1) := by decide +kernel
theorem d_Mo_take_2 : decode b_Mo_take 2 = .ok (.iload_n 2, 1) := by decide +kernel
theorem d_Mo_take_3 : decode b_Mo_take 3 = .ok (.aload_n 0, 1) := by decide +kernel
theorem d_Mo_take_4 : decode b_Mo_take 4 = .ok (.getfield 103, 3) := by decide +kernel
theorem d_Mo_take_7 : decode b_Mo_take 7 = .ok (.if_icmp .ge 26, 3) := by decide +kernel
theorem d_Mo_take_10 : decode b_Mo_take 10 = .ok (.aload_n 0, 1) := by decide +kernel
theorem d_Mo_take_11 : decode b_Mo_take 11 = .ok (.getfield 29, 3) := by decide +kernel
theorem d_Mo_take_14 : decode b_Mo_take 14 = .ok (.bipush 7, 2) := by decide +kernel
theorem d_Mo_take_16 : decode b_Mo_take 16 = .ok (.iload_n 1, 1) := by decide +kernel
theorem d_Mo_take_17 : decode b_Mo_take 17 = .ok (.imul, 1) := by decide +kernel
theorem d_Mo_take_18 : decode b_Mo_take 18 = .ok (.iload_n 2, 1) := by decide +kernel
theorem d_Mo_take_19 : decode b_Mo_take 19 = .ok (.iadd, 1) := by decide +kernel
theorem d_Mo_take_20 : decode b_Mo_take 20 = .ok (.aload_n 0, 1) := by decide +kernel
theorem d_Mo_take_21 : decode b_Mo_take 21 = .ok (.getfield 60, 3) := by decide +kernel
theorem d_Mo_take_24 : decode b_Mo_take 24 = .ok (.iload_n 2, 1) := by decide +kernel
theorem d_Mo_take_25 : decode b_Mo_take 25 = .ok (.iaload, 1) := by decide +kernel
theorem d_Mo_take_26 : decode b_Mo_take 26 = .ok (.iastore, 1) := by decide +kernel
theorem d_Mo_take_27 : decode b_Mo_take 27 = .ok (.iinc 2 1, 3) := by decide +kernel
theorem d_Mo_take_30 : decode b_Mo_take 30 = .ok (.goto (-28), 3) := by decide +kernel
theorem d_Mo_take_33 : decode b_Mo_take 33 = .ok (.aload_n 0, 1) := by decide +kernel
theorem d_Mo_take_34 : decode b_Mo_take 34 = .ok (.getfield 32, 3) := by decide +kernel
theorem d_Mo_take_37 : decode b_Mo_take 37 = .ok (.iload_n 1, 1) := by decide +kernel
theorem d_Mo_take_38 : decode b_Mo_take 38 = .ok (.aload_n 0, 1) := by decide +kernel
theorem d_Mo_take_39 : decode b_Mo_take 39 = .ok (.getfield 103, 3) := by decide +kernel
theorem d_Mo_take_42 : decode b_Mo_take 42 = .ok (.iastore, 1) := by decide +kernel
theorem d_Mo_take_43 : decode b_Mo_take 43 = .ok (.return_, 1) := by decide +kernel
theorem d_Mo_remove_0 : decode b_Mo_remove 0 = .ok (.iload_n 1, 1) := by decide +kernel
theorem d_Mo_remove_1 : decode b_Mo_remove 1 = .ok (.iconst 0, 1) := by decide +kernel
theorem d_Mo_remove_2 : decode b_Mo_remove 2 = .ok (.bipush 29, 2) := by decide +kernel
theorem d_Mo_remove_4 : decode b_Mo_remove 4 = .ok (.invokestatic 136, 3) := by decide +kernel
theorem d_Mo_remove_7 : decode b_Mo_remove 7 = .ok (.ifCond .eq 12, 3) := by decide +kernel
theorem d_Mo_remove_10 : decode b_Mo_remove 10 = .ok (.aload_n 0, 1) := by decide +kernel
theorem d_Mo_remove_11 : decode b_Mo_remove 11 = .ok (.getfield 13, 3) := by decide +kernel
theorem d_Mo_remove_14 : decode b_Mo_remove 14 = .ok (.iload_n 1, 1) := by decide +kernel
theorem d_Mo_remove_15 : decode b_Mo_remove 15 = .ok (.baload, 1) := by decide +kernel
theorem d_Mo_remove_16 : decode b_Mo_remove 16 = .ok (.ifCond .ne 5, 3) := by decide +kernel
theorem d_Mo_remove_19 : decode b_Mo_remove 19 = .ok (.iconst 0, 1) := by decide +kernel
theorem d_Mo_remove_20 : decode b_Mo_remove 20 = .ok (.ireturn, 1) := by decide +kernel
theorem d_Mo_remove_21 : decode b_Mo_remove 21 = .ok (.aload_n 0, 1) := by decide +kernel
theorem d_Mo_remove_22 : decode b_Mo_remove 22 = .ok (.getfield 13, 3) := by decide +kernel
theorem d_Mo_remove_25 : decode b_Mo_remove 25 = .ok (.iload_n 1, 1) := by decide +kernel
theorem d_Mo_remove_26 : decode b_Mo_remove 26 = .ok (.iconst 0, 1) := by decide +kernel
theorem d_Mo_remove_27 : decode b_Mo_remove 27 = .ok (.bastore, 1) := by decide +kernel
theorem d_Mo_remove_28 : decode b_Mo_remove 28 = .ok (.iconst 1, 1) := by decide +kernel
theorem d_Mo_remove_29 : decode b_Mo_remove 29 = .ok (.ireturn, 1) := by decide +kernel
theorem d_Mo_renew_0 : decode b_Mo_renew 0 = .ok (.aload_n 0, 1) := by decide +kernel
theorem d_Mo_renew_1 : decode b_Mo_renew 1 = .ok (.getfield 7, 3) := by decide +kernel
theorem d_Mo_renew_4 : decode b_Mo_renew 4 = .ok (.invokestatic 86, 3) := by decide +kernel
theorem d_Mo_renew_7 : decode b_Mo_renew 7 = .ok (.aload_n 0, 1) := by decide +kernel
theorem d_Mo_renew_8 : decode b_Mo_renew 8 = .ok (.getfield 13, 3) := by decide +kernel
theorem d_Mo_renew_11 : decode b_Mo_renew 11 = .ok (.invokestatic 86, 3) := by decide +kernel
theorem d_Mo_renew_14 : decode b_Mo_renew 14 = .ok (.isub, 1) := by decide +kernel
theorem d_Mo_renew_15 : decode b_Mo_renew 15 = .ok (.istore_n 1, 1) := by decide +kernel
theorem d_Mo_renew_16 : decode b_Mo_renew 16 = .ok (.aload_n 0, 1) := by decide +kernel
theorem d_Mo_renew_17 : decode b_Mo_renew 17 = .ok (.iconst (-1), 1) := by decide +kernel
theorem d_Mo_renew_18 : decode b_Mo_renew 18 = .ok (.putfield 35, 3) := by decide +kernel
theorem d_Mo_renew_21 : decode b_Mo_renew 21 = .ok (.aload_n 0, 1) := by decide +kernel
theorem d_Mo_renew_22 : decode b_Mo_renew 22 = .ok (.iconst 0, 1) := by decide +kernel
theorem d_Mo_renew_23 : decode b_Mo_renew 23 = .ok (.putfield 114, 3) := by decide +kernel
theorem d_Mo_renew_26 : decode b_Mo_renew 26 = .ok (.iconst 0, 1) := by decide +kernel
theorem d_Mo_renew_27 : decode b_Mo_renew 27 = .ok (.istore_n 2, 1) := by decide +kernel
theorem d_Mo_renew_28 : decode b_Mo_renew 28 = .ok (.iload_n 2, 1) := by decide +kernel
theorem d_Mo_renew_29 : decode b_Mo_renew 29 = .ok (.bipush 30, 2) := by decide +kernel
theorem d_Mo_renew_31 : decode b_Mo_renew 31 = .ok (.if_icmp .ge 16, 3) := by decide +kernel
theorem d_Mo_renew_34 : decode b_Mo_renew 34 = .ok (.aload_n 0, 1) := by decide +kernel
theorem d_Mo_renew_35 : decode b_Mo_renew 35 = .ok (.getfield 7, 3) := by decide +kernel
theorem d_Mo_renew_38 : decode b_Mo_renew 38 = .ok (.iload_n 2, 1) := by decide +kernel
theorem d_Mo_renew_39 : decode b_Mo_renew 39 = .ok (.iconst 0, 1) := by decide +kernel
theorem d_Mo_renew_40 : decode b_Mo_renew 40 = .ok (.bastore, 1) := by decide +kernel
theorem d_Mo_renew_41 : decode b_Mo_renew 41 = .ok (.iinc 2 1, 3) := by decide +kernel
theorem d_Mo_renew_44 : decode b_Mo_renew 44 = .ok (.goto (-16), 3) := by decide +kernel
theorem d_Mo_renew_47 : decode b_Mo_renew 47 = .ok (.iconst 0, 1) := by decide +kernel
theorem d_Mo_renew_48 : decode b_Mo_renew 48 = .ok (.istore_n 2, 1) := by decide +kernel
theorem d_Mo_renew_49 : decode b_Mo_renew 49 = .ok (.iload_n 2, 1) := by decide +kernel
theorem d_Mo_renew_50 : decode b_Mo_renew 50 = .ok (.bipush 30, 2) := by decide +kernel
theorem d_Mo_renew_52 : decode b_Mo_renew 52 = .ok (.if_icmp .ge 23, 3) := by decide +kernel
theorem d_Mo_renew_55 : decode b_Mo_renew 55 = .ok (.aload_n 0, 1) := by decide +kernel
theorem d_Mo_renew_56 : decode b_Mo_renew 56 = .ok (.getfield 13, 3) := by decide +kernel
theorem d_Mo_renew_59 : decode b_Mo_renew 59 = .ok (.iload_n 2, 1) := by decide +kernel
theorem d_Mo_renew_60 : decode b_Mo_renew 60 = .ok (.baload, 1) := by decide +kernel
theorem d_Mo_renew_61 : decode b_Mo_renew 61 = .ok (.ifCond .eq 8, 3) := by decide +kernel
theorem d_Mo_renew_64 : decode b_Mo_renew 64 = .ok (.aload_n 0, 1) := by decide +kernel
theorem d_Mo_renew_65 : decode b_Mo_renew 65 = .ok (.iload_n 2, 1) := by decide +kernel
theorem d_Mo_renew_66 : decode b_Mo_renew 66 = .ok (.invokevirtual 141, 3) := by decide +kernel
theorem d_Mo_renew_69 : decode b_Mo_renew 69 = .ok (.iinc 2 1, 3) := by decide +kernel
theorem d_Mo_renew_72 : decode b_Mo_renew 72 = .ok (.goto (-23), 3) := by decide +kernel
theorem d_Mo_renew_75 : decode b_Mo_renew 75 = .ok (.iload_n 1, 1) := by decide +kernel
theorem d_Mo_renew_76 : decode b_Mo_renew 76 = .ok (.ireturn, 1) := by decide +kernel
theorem d_Mo_ask_0 : decode b_Mo_ask 0 = .ok (.iload_n 1, 1) := by decide +kernel
theorem d_Mo_ask_1 : decode b_Mo_ask 1 = .ok (.iconst 0, 1) := by decide +kernel
theorem d_Mo_ask_2 : decode b_Mo_ask 2 = .ok (.bipush 99, 2) := by decide +kernel
theorem d_Mo_ask_4 : decode b_Mo_ask 4 = .ok (.invokestatic 136, 3) := by decide +kernel
theorem d_Mo_ask_7 : decode b_Mo_ask 7 = .ok (.ifCond .eq 34, 3) := by decide +kernel
theorem d_Mo_ask_10 : decode b_Mo_ask 10 = .ok (.iload_n 2, 1) := by decide +kernel
theorem d_Mo_ask_11 : decode b_Mo_ask 11 = .ok (.iconst 0, 1) := by decide +kernel
theorem d_Mo_ask_12 : decode b_Mo_ask 12 = .ok (.bipush 99, 2) := by decide +kernel
theorem d_Mo_ask_14 : decode b_Mo_ask 14 = .ok (.invokestatic 136, 3) := by decide +kernel
theorem d_Mo_ask_17 : decode b_Mo_ask 17 = .ok (.ifCond .eq 24, 3) := by decide +kernel
theorem d_Mo_ask_20 : decode b_Mo_ask 20 = .ok (.iload_n 3, 1) := by decide +kernel
theorem d_Mo_ask_21 : decode b_Mo_ask 21 = .ok (.iconst 0, 1) := by decide +kernel
theorem d_Mo_ask_22 : decode b_Mo_ask 22 = .ok (.bipush 99, 2) := by decide +kernel
theorem d_Mo_ask_24 : decode b_Mo_ask 24 = .ok (.invokestatic 136, 3) := by decide +kernel
theorem d_Mo_ask_27 : decode b_Mo_ask 27 = .ok (.ifCond .eq 14, 3) := by decide +kernel
theorem d_Mo_ask_30 : decode b_Mo_ask 30 = .ok (.iload 4, 2) := by decide +kernel
theorem d_Mo_ask_32 : decode b_Mo_ask 32 = .ok (.iconst 0, 1) := by decide +kernel
theorem d_Mo_ask_33 : decode b_Mo_ask 33 = .ok (.bipush 99, 2) := by decide +kernel
theorem d_Mo_ask_35 : decode b_Mo_ask 35 = .ok (.invokestatic 136, 3) := by decide +kernel
theorem d_Mo_ask_38 : decode b_Mo_ask 38 = .ok (.ifCond .ne 5, 3) := by decide +kernel
theorem d_Mo_ask_41 : decode b_Mo_ask 41 = .ok (.iconst 0, 1) := by decide +kernel
theorem d_Mo_ask_42 : decode b_Mo_ask 42 = .ok (.ireturn, 1) := by decide +kernel
theorem d_Mo_ask_43 : decode b_Mo_ask 43 = .ok (.aload_n 0, 1) := by decide +kernel
theorem d_Mo_ask_44 : decode b_Mo_ask 44 = .ok (.getfield 42, 3) := by decide +kernel
theorem d_Mo_ask_47 : decode b_Mo_ask 47 = .ok (.iconst 0, 1) := by decide +kernel
theorem d_Mo_ask_48 : decode b_Mo_ask 48 = .ok (.iload_n 1, 1) := by decide +kernel
theorem d_Mo_ask_49 : decode b_Mo_ask 49 = .ok (.iastore, 1) := by decide +kernel
theorem d_Mo_ask_50 : decode b_Mo_ask 50 = .ok (.aload_n 0, 1) := by decide +kernel
theorem d_Mo_ask_51 : decode b_Mo_ask 51 = .ok (.getfield 42, 3) := by decide +kernel
theorem d_Mo_ask_54 : decode b_Mo_ask 54 = .ok (.iconst 1, 1) := by decide +kernel
theorem d_Mo_ask_55 : decode b_Mo_ask 55 = .ok (.iload_n 2, 1) := by decide +kernel
theorem d_Mo_ask_56 : decode b_Mo_ask 56 = .ok (.iastore, 1) := by decide +kernel
theorem d_Mo_ask_57 : decode b_Mo_ask 57 = .ok (.aload_n 0, 1) := by decide +kernel
theorem d_Mo_ask_58 : decode b_Mo_ask 58 = .ok (.getfield 42, 3) := by decide +kernel
theorem d_Mo_ask_61 : decode b_Mo_ask 61 = .ok (.iconst 2, 1) := by decide +kernel
theorem d_Mo_ask_62 : decode b_Mo_ask 62 = .ok (.iload_n 3, 1) := by decide +kernel
theorem d_Mo_ask_63 : decode b_Mo_ask 63 = .ok (.iastore, 1) := by decide +kernel
theorem d_Mo_ask_64 : decode b_Mo_ask 64 = .ok (.aload_n 0, 1) := by decide +kernel
theorem d_Mo_ask_65 : decode b_Mo_ask 65 = .ok (.getfield 42, 3) := by decide +kernel
theorem d_Mo_ask_68 : decode b_Mo_ask 68 = .ok (.iconst 3, 1) := by decide +kernel
theorem d_Mo_ask_69 : decode b_Mo_ask 69 = .ok (.iload 4, 2) := by decide +kernel
theorem d_Mo_ask_71 : decode b_Mo_ask 71 = .ok (.iastore, 1) := by decide +kernel
theorem d_Mo_ask_72 : decode b_Mo_ask 72 = .ok (.iconst 1, 1) := by decide +kernel
theorem d_Mo_ask_73 : decode b_Mo_ask 73 = .ok (.ireturn, 1) := by decide +kernel
theorem d_Mo_near_0 : decode b_Mo_near 0 = .ok (.iload_n 1, 1) := by decide +kernel
theorem d_Mo_near_1 : decode b_Mo_near 1 = .ok (.iconst 1, 1) := by decide +kernel
theorem d_Mo_near_2 : decode b_Mo_near 2 = .ok (.bipush 10, 2) := by decide +kernel
theorem d_Mo_near_4 : decode b_Mo_near 4 = .ok (.invokestatic 136, 3) := by decide +kernel
theorem d_Mo_near_7 : decode b_Mo_near 7 = .ok (.ifCond .eq 13, 3) := by decide +kernel
theorem d_Mo_near_10 : decode b_Mo_near 10 = .ok (.iload_n 2, 1) := by decide +kernel
theorem d_Mo_near_11 : decode b_Mo_near 11 = .ok (.iconst 1, 1) := by decide +kernel
theorem d_Mo_near_12 : decode b_Mo_near 12 = .ok (.bipush 10, 2) := by decide +kernel
theorem d_Mo_near_14 : decode b_Mo_near 14 = .ok (.invokestatic 136, 3) := by decide +kernel
theorem d_Mo_near_17 : decode b_Mo_near 17 = .ok (.ifCond .ne 5, 3) := by decide +kernel
theorem d_Mo_near_20 : decode b_Mo_near 20 = .ok (.iconst (-1), 1) := by decide +kernel
theorem d_Mo_near_21 : decode b_Mo_near 21 = .ok (.ireturn, 1) := by decide +kernel
theorem d_Mo_near_22 : decode b_Mo_near 22 = .ok (.aload_n 0, 1) := by decide +kernel
theorem d_Mo_near_23 : decode b_Mo_near 23 = .ok (.iload_n 2, 1) := by decide +kernel
theorem d_Mo_near_24 : decode b_Mo_near 24 = .ok (.iload_n 1, 1) := by decide +kernel
theorem d_Mo_near_25 : decode b_Mo_near 25 = .ok (.if_icmp .ge 7, 3) := by decide +kernel
theorem d_Mo_near_28 : decode b_Mo_near 28 = .ok (.iload_n 1, 1) := by decide +kernel
theorem d_Mo_near_29 : decode b_Mo_near 29 = .ok (.goto 4, 3) := by decide +kernel
theorem d_Mo_near_32 : decode b_Mo_near 32 = .ok (.iload_n 2, 1) := by decide +kernel
theorem d_Mo_near_33 : decode b_Mo_near 33 = .ok (.invokevirtual 150, 3) := by decide +kernel
theorem d_Mo_near_36 : decode b_Mo_near 36 = .ok (.aload_n 0, 1) := by decide +kernel
theorem d_Mo_near_37 : decode b_Mo_near 37 = .ok (.aload_n 0, 1) := by decide +kernel
theorem d_Mo_near_38 : decode b_Mo_near 38 = .ok (.getfield 83, 3) := by decide +kernel
theorem d_Mo_near_41 : decode b_Mo_near 41 = .ok (.iload_n 1, 1) := by decide +kernel
theorem d_Mo_near_42 : decode b_Mo_near 42 = .ok (.if_icmp .ge 10, 3) := by decide +kernel
theorem d_Mo_near_45 : decode b_Mo_near 45 = .ok (.aload_n 0, 1) := by decide +kernel
theorem d_Mo_near_46 : decode b_Mo_near 46 = .ok (.getfield 83, 3) := by decide +kernel
theorem d_Mo_near_49 : decode b_Mo_near 49 = .ok (.goto 4, 3) := by decide +kernel
theorem d_Mo_near_52 : decode b_Mo_near 52 = .ok (.iload_n 1, 1) := by decide +kernel
theorem d_Mo_near_53 : decode b_Mo_near 53 = .ok (.putfield 153, 3) := by decide +kernel
theorem d_Mo_near_56 : decode b_Mo_near 56 = .ok (.iconst 0, 1) := by decide +kernel
theorem d_Mo_near_57 : decode b_Mo_near 57 = .ok (.istore_n 3, 1) := by decide +kernel
theorem d_Mo_near_58 : decode b_Mo_near 58 = .ok (.iload_n 3, 1) := by decide +kernel
theorem d_Mo_near_59 : decode b_Mo_near 59 = .ok (.aload_n 0, 1) := by decide +kernel
theorem d_Mo_near_60 : decode b_Mo_near 60 = .ok (.getfield 153, 3) := by decide +kernel
theorem d_Mo_near_63 : decode b_Mo_near 63 = .ok (.if_icmp .ge 37, 3) := by decide +kernel
theorem d_Mo_near_66 : decode b_Mo_near 66 = .ok (.aload_n 0, 1) := by decide +kernel
theorem d_Mo_near_67 : decode b_Mo_near 67 = .ok (.getfield 66, 3) := by decide +kernel
theorem d_Mo_near_70 : decode b_Mo_near 70 = .ok (.iload_n 3, 1) := by decide +kernel
theorem d_Mo_near_71 : decode b_Mo_near 71 = .ok (.aload_n 0, 1) := by decide +kernel
theorem d_Mo_near_72 : decode b_Mo_near 72 = .ok (.getfield 57, 3) := by decide +kernel
theorem d_Mo_near_75 : decode b_Mo_near 75 = .ok (.iload_n 3, 1) := by decide +kernel
theorem d_Mo_near_76 : decode b_Mo_near 76 = .ok (.iaload, 1) := by decide +kernel
theorem d_Mo_near_77 : decode b_Mo_near 77 = .ok (.iastore, 1) := by decide +kernel
theorem d_Mo_near_78 : decode b_Mo_near 78 = .ok (.aload_n 0, 1) := by decide +kernel
theorem d_Mo_near_79 : decode b_Mo_near 79 = .ok (.getfield 69, 3) := by decide +kernel
theorem d_Mo_near_82 : decode b_Mo_near 82 = .ok (.iload_n 3, 1) := by decide +kernel
theorem d_Mo_near_83 : decode b_Mo_near 83 = .ok (.aload_n 0, 1) := by decide +kernel
theorem d_Mo_near_84 : decode b_Mo_near 84 = .ok (.aload_n 0, 1) := by decide +kernel
theorem d_Mo_near_85 : decode b_Mo_near 85 = .ok (.getfield 57, 3) := by decide +kernel
theorem d_Mo_near_88 : decode b_Mo_near 88 = .ok (.iload_n 3, 1) := by decide +kernel
theorem d_Mo_near_89 : decode b_Mo_near 89 = .ok (.iaload, 1) := by decide +kernel
theorem d_Mo_near_90 : decode b_Mo_near 90 = .ok (.invokevirtual 75, 3) := by decide +kernel
theorem d_Mo_near_93 : decode b_Mo_near 93 = .ok (.iastore, 1) := by decide +kernel
theorem d_Mo_near_94 : decode b_Mo_near 94 = .ok (.iinc 3 1, 3) := by decide +kernel
theorem d_Mo_near_97 : decode b_Mo_near 97 = .ok (.goto (-39), 3) := by decide +kernel
theorem d_Mo_near_100 : decode b_Mo_near 100 = .ok (.aload_n 0, 1) := by decide +kernel
theorem d_Mo_near_101 : decode b_Mo_near 101 = .ok (.getfield 153, 3) := by decide +kernel
theorem d_Mo_near_104 : decode b_Mo_near 104 = .ok (.ireturn, 1) := by decide +kernel
theorem d_Mo_search_0 : decode b_Mo_search 0 = .ok (.aload_n 0, 1) := by decide +kernel
theorem d_Mo_search_1 : decode b_Mo_search 1 = .ok (.invokevirtual 144, 3) := by decide +kernel
theorem d_Mo_search_4 : decode b_Mo_search 4 = .ok (.aload_n 0, 1) := by decide +kernel
theorem d_Mo_search_5 : decode b_Mo_search 5 = .ok (.iconst 0, 1) := by decide +kernel
theorem d_Mo_search_6 : decode b_Mo_search 6 = .ok (.putfield 83, 3) := by decide +kernel
theorem d_Mo_search_9 : decode b_Mo_search 9 = .ok (.aload_n 0, 1) := by decide +kernel
theorem d_Mo_search_10 : decode b_Mo_search 10 = .ok (.getfield 35, 3) := by decide +kernel
theorem d_Mo_search_13 : decode b_Mo_search 13 = .ok (.ifCond .ge 4, 3) := by decide +kernel
theorem d_Mo_search_16 : decode b_Mo_search 16 = .ok (.return_, 1) := by decide +kernel
theorem d_Mo_search_17 : decode b_Mo_search 17 = .ok (.aload_n 0, 1) := by decide +kernel
theorem d_Mo_search_18 : decode b_Mo_search 18 = .ok (.getfield 57, 3) := by decide +kernel
theorem d_Mo_search_21 : decode b_Mo_search 21 = .ok (.iconst 0, 1) := by decide +kernel
theorem d_Mo_search_22 : decode b_Mo_search 22 = .ok (.aload_n 0, 1) := by decide +kernel
theorem d_Mo_search_23 : decode b_Mo_search 23 = .ok (.getfield 35, 3) := by decide +kernel
theorem d_Mo_search_26 : decode b_Mo_search 26 = .ok (.iastore, 1) := by decide +kernel
theorem d_Mo_search_27 : decode b_Mo_search 27 = .ok (.aload_n 0, 1) := by decide +kernel
theorem d_Mo_search_28 : decode b_Mo_search 28 = .ok (.iconst 1, 1) := by decide +kernel
theorem d_Mo_search_29 : decode b_Mo_search 29 = .ok (.putfield 83, 3) := by decide +kernel
theorem d_Mo_search_32 : decode b_Mo_search 32 = .ok (.aload_n 0, 1) := by decide +kernel
theorem d_Mo_search_33 : decode b_Mo_search 33 = .ok (.getfield 23, 3) := by decide +kernel
theorem d_Mo_search_36 : decode b_Mo_search 36 = .ok (.aload_n 0, 1) := by decide +kernel
theorem d_Mo_search_37 : decode b_Mo_search 37 = .ok (.getfield 35, 3) := by decide +kernel
theorem d_Mo_search_40 : decode b_Mo_search 40 = .ok (.iaload, 1) := by decide +kernel
theorem d_Mo_search_41 : decode b_Mo_search 41 = .ok (.istore_n 2, 1) := by decide +kernel
theorem d_Mo_search_42 : decode b_Mo_search 42 = .ok (.iload_n 2, 1) := by decide +kernel
theorem d_Mo_search_43 : decode b_Mo_search 43 = .ok (.ifCond .le 25, 3) := by decide +kernel
theorem d_Mo_search_46 : decode b_Mo_search 46 = .ok (.aload_n 0, 1) := by decide +kernel
theorem d_Mo_search_47 : decode b_Mo_search 47 = .ok (.dup, 1) := by decide +kernel
theorem d_Mo_search_48 : decode b_Mo_search 48 = .ok (.getfield 147, 3) := by decide +kernel
theorem d_Mo_search_51 : decode b_Mo_search 51 = .ok (.aload_n 0, 1) := by decide +kernel
theorem d_Mo_search_52 : decode b_Mo_search 52 = .ok (.iload_n 2, 1) := by decide +kernel
theorem d_Mo_search_53 : decode b_Mo_search 53 = .ok (.iconst 1, 1) := by decide +kernel
theorem d_Mo_search_54 : decode b_Mo_search 54 = .ok (.invokevirtual 124, 3) := by decide +kernel
theorem d_Mo_search_57 : decode b_Mo_search 57 = .ok (.i2l, 1) := by decide +kernel
theorem d_Mo_search_58 : decode b_Mo_search 58 = .ok (.ladd, 1) := by decide +kernel
theorem d_Mo_search_59 : decode b_Mo_search 59 = .ok (.putfield 147, 3) := by decide +kernel
theorem d_Mo_search_62 : decode b_Mo_search 62 = .ok (.iinc 2 (-1), 3) := by decide +kernel
theorem d_Mo_search_65 : decode b_Mo_search 65 = .ok (.goto (-23), 3) := by decide +kernel
theorem d_Mo_search_68 : decode b_Mo_search 68 = .ok (.aload_n 0, 1) := by decide +kernel
theorem d_Mo_search_69 : decode b_Mo_search 69 = .ok (.dup, 1) := by decide +kernel
theorem d_Mo_search_70 : decode b_Mo_search 70 = .ok (.getfield 147, 3) := by decide +kernel
theorem d_Mo_search_73 : decode b_Mo_search 73 = .ok (.aload_n 0, 1) := by decide +kernel
theorem d_Mo_search_74 : decode b_Mo_search 74 = .ok (.iconst 0, 1) := by decide +kernel
theorem d_Mo_search_75 : decode b_Mo_search 75 = .ok (.iload_n 1, 1) := by decide +kernel
theorem d_Mo_search_76 : decode b_Mo_search 76 = .ok (.invokevirtual 124, 3) := by decide +kernel
theorem d_Mo_search_79 : decode b_Mo_search 79 = .ok (.i2l, 1) := by decide +kernel
theorem d_Mo_search_80 : decode b_Mo_search 80 = .ok (.ladd, 1) := by decide +kernel
theorem d_Mo_search_81 : decode b_Mo_search 81 = .ok (.putfield 147, 3) := by decide +kernel
theorem d_Mo_search_84 : decode b_Mo_search 84 = .ok (.aload_n 0, 1) := by decide +kernel
theorem d_Mo_search_85 : decode b_Mo_search 85 = .ok (.getfield 83, 3) := by decide +kernel
theorem d_Mo_search_88 : decode b_Mo_search 88 = .ok (.istore_n 2, 1) := by decide +kernel
theorem d_Mo_search_89 : decode b_Mo_search 89 = .ok (.aload_n 0, 1) := by decide +kernel
theorem d_Mo_search_90 : decode b_Mo_search 90 = .ok (.iconst 0, 1) := by decide +kernel
theorem d_Mo_search_91 : decode b_Mo_search 91 = .ok (.putfield 83, 3) := by decide +kernel
theorem d_Mo_search_94 : decode b_Mo_search 94 = .ok (.iconst 0, 1) := by decide +kernel
theorem d_Mo_search_95 : decode b_Mo_search 95 = .ok (.istore_n 3, 1) := by decide +kernel
theorem d_Mo_search_96 : decode b_Mo_search 96 = .ok (.iload_n 3, 1) := by decide +kernel
theorem d_Mo_search_97 : decode b_Mo_search 97 = .ok (.iload_n 2, 1) := by decide +kernel
theorem d_Mo_search_98 : decode b_Mo_search 98 = .ok (.if_icmp .ge 51, 3) := by decide +kernel
theorem d_Mo_search_101 : decode b_Mo_search 101 = .ok (.aload_n 0, 1) := by decide +kernel
theorem d_Mo_search_102 : decode b_Mo_search 102 = .ok (.getfield 13, 3) := by decide +kernel
theorem d_Mo_search_105 : decode b_Mo_search 105 = .ok (.aload_n 0, 1) := by decide +kernel
theorem d_Mo_search_106 : decode b_Mo_search 106 = .ok (.getfield 57, 3) := by decide +kernel
theorem d_Mo_search_109 : decode b_Mo_search 109 = .ok (.iload_n 3, 1) := by decide +kernel
theorem d_Mo_search_110 : decode b_Mo_search 110 = .ok (.iaload, 1) := by decide +kernel
theorem d_Mo_search_111 : decode b_Mo_search 111 = .ok (.baload, 1) := by decide +kernel
theorem d_Mo_search_112 : decode b_Mo_search 112 = .ok (.ifCond .ne 6, 3) := by decide +kernel
theorem d_Mo_search_115 : decode b_Mo_search 115 = .ok (.goto 28, 3) := by decide +kernel
theorem d_Mo_search_118 : decode b_Mo_search 118 = .ok (.aload_n 0, 1) := by decide +kernel
theorem d_Mo_search_119 : decode b_Mo_search 119 = .ok (.getfield 57, 3) := by decide +kernel
theorem d_Mo_search_122 : decode b_Mo_search 122 = .ok (.aload_n 0, 1) := by decide +kernel
theorem d_Mo_search_123 : decode b_Mo_search 123 = .ok (.getfield 83, 3) := by decide +kernel
theorem d_Mo_search_126 : decode b_Mo_search 126 = .ok (.aload_n 0, 1) := by decide +kernel
theorem d_Mo_search_127 : decode b_Mo_search 127 = .ok (.getfield 57, 3) := by decide +kernel
theorem d_Mo_search_130 : decode b_Mo_search 130 = .ok (.iload_n 3, 1) := by decide +kernel
theorem d_Mo_search_131 : decode b_Mo_search 131 = .ok (.iaload, 1) := by decide +kernel
theorem d_Mo_search_132 : decode b_Mo_search 132 = .ok (.iastore, 1) := by decide +kernel
theorem d_Mo_search_133 : decode b_Mo_search 133 = .ok (.aload_n 0, 1) := by decide +kernel
theorem d_Mo_search_134 : decode b_Mo_search 134 = .ok (.dup, 1) := by decide +kernel
theorem d_Mo_search_135 : decode b_Mo_search 135 = .ok (.getfield 83, 3) := by decide +kernel
theorem d_Mo_search_138 : decode b_Mo_search 138 = .ok (.iconst 1, 1) := by decide +kernel
theorem d_Mo_search_139 : decode b_Mo_search 139 = .ok (.iadd, 1) := by decide +kernel
theorem d_Mo_search_140 : decode b_Mo_search 140 = .ok (.putfield 83, 3) := by decide +kernel
theorem d_Mo_search_143 : decode b_Mo_search 143 = .ok (.iinc 3 1, 3) := by decide +kernel
theorem d_Mo_search_146 : decode b_Mo_search 146 = .ok (.goto (-50), 3) := by decide +kernel
theorem d_Mo_search_149 : decode b_Mo_search 149 = .ok (.return_, 1) := by decide +kernel
theorem d_Mo_aimAsked_0 : decode b_Mo_aimAsked 0 = .ok (.iconst 0, 1) := by decide +kernel
theorem d_Mo_aimAsked_1 : decode b_Mo_aimAsked 1 = .ok (.istore_n 1, 1) := by decide +kernel
theorem d_Mo_aimAsked_2 : decode b_Mo_aimAsked 2 = .ok (.iload_n 1, 1) := by decide +kernel
theorem d_Mo_aimAsked_3 : decode b_Mo_aimAsked 3 = .ok (.iconst 4, 1) := by decide +kernel
theorem d_Mo_aimAsked_4 : decode b_Mo_aimAsked 4 = .ok (.if_icmp .ge 21, 3) := by decide +kernel
theorem d_Mo_aimAsked_7 : decode b_Mo_aimAsked 7 = .ok (.aload_n 0, 1) := by decide +kernel
theorem d_Mo_aimAsked_8 : decode b_Mo_aimAsked 8 = .ok (.getfield 39, 3) := by decide +kernel
theorem d_Mo_aimAsked_11 : decode b_Mo_aimAsked 11 = .ok (.iload_n 1, 1) := by decide +kernel
theorem d_Mo_aimAsked_12 : decode b_Mo_aimAsked 12 = .ok (.aload_n 0, 1) := by decide +kernel
theorem d_Mo_aimAsked_13 : decode b_Mo_aimAsked 13 = .ok (.getfield 42, 3) := by decide +kernel
theorem d_Mo_aimAsked_16 : decode b_Mo_aimAsked 16 = .ok (.iload_n 1, 1) := by decide +kernel
theorem d_Mo_aimAsked_17 : decode b_Mo_aimAsked 17 = .ok (.iaload, 1) := by decide +kernel
theorem d_Mo_aimAsked_18 : decode b_Mo_aimAsked 18 = .ok (.iastore, 1) := by decide +kernel
theorem d_Mo_aimAsked_19 : decode b_Mo_aimAsked 19 = .ok (.iinc 1 1, 3) := by decide +kernel
theorem d_Mo_aimAsked_22 : decode b_Mo_aimAsked 22 = .ok (.goto (-20), 3) := by decide +kernel
theorem d_Mo_aimAsked_25 : decode b_Mo_aimAsked 25 = .ok (.return_, 1) := by decide +kernel
theorem d_Mo_exact_0 : decode b_Mo_exact 0 = .ok (.iload_n 1, 1) := by decide +kernel
theorem d_Mo_exact_1 : decode b_Mo_exact 1 = .ok (.iconst 1, 1) := by decide +kernel
theorem d_Mo_exact_2 : decode b_Mo_exact 2 = .ok (.bipush 10, 2) := by decide +kernel
theorem d_Mo_exact_4 : decode b_Mo_exact 4 = .ok (.invokestatic 136, 3) := by decide +kernel
theorem d_Mo_exact_7 : decode b_Mo_exact 7 = .ok (.ifCond .ne 5, 3) := by decide +kernel
theorem d_Mo_exact_10 : decode b_Mo_exact 10 = .ok (.iconst (-1), 1) := by decide +kernel
theorem d_Mo_exact_11 : decode b_Mo_exact 11 = .ok (.ireturn, 1) := by decide +kernel
theorem d_Mo_exact_12 : decode b_Mo_exact 12 = .ok (.aload_n 0, 1) := by decide +kernel
theorem d_Mo_exact_13 : decode b_Mo_exact 13 = .ok (.invokevirtual 144, 3) := by decide +kernel
theorem d_Mo_exact_16 : decode b_Mo_exact 16 = .ok (.iconst 0, 1) := by decide +kernel
theorem d_Mo_exact_17 : decode b_Mo_exact 17 = .ok (.istore_n 2, 1) := by decide +kernel
theorem d_Mo_exact_18 : decode b_Mo_exact 18 = .ok (.iload_n 2, 1) := by decide +kernel
theorem d_Mo_exact_19 : decode b_Mo_exact 19 = .ok (.bipush 30, 2) := by decide +kernel
theorem d_Mo_exact_21 : decode b_Mo_exact 21 = .ok (.if_icmp .ge 21, 3) := by decide +kernel
theorem d_Mo_exact_24 : decode b_Mo_exact 24 = .ok (.aload_n 0, 1) := by decide +kernel
theorem d_Mo_exact_25 : decode b_Mo_exact 25 = .ok (.getfield 48, 3) := by decide +kernel
theorem d_Mo_exact_28 : decode b_Mo_exact 28 = .ok (.iload_n 2, 1) := by decide +kernel
theorem d_Mo_exact_29 : decode b_Mo_exact 29 = .ok (.aload_n 0, 1) := by decide +kernel
theorem d_Mo_exact_30 : decode b_Mo_exact 30 = .ok (.getfield 13, 3) := by decide +kernel
theorem d_Mo_exact_33 : decode b_Mo_exact 33 = .ok (.iload_n 2, 1) := by decide +kernel
theorem d_Mo_exact_34 : decode b_Mo_exact 34 = .ok (.baload, 1) := by decide +kernel
theorem d_Mo_exact_35 : decode b_Mo_exact 35 = .ok (.bastore, 1) := by decide +kernel
theorem d_Mo_exact_36 : decode b_Mo_exact 36 = .ok (.iinc 2 1, 3) := by decide +kernel
theorem d_Mo_exact_39 : decode b_Mo_exact 39 = .ok (.goto (-21), 3) := by decide +kernel
theorem d_Mo_exact_42 : decode b_Mo_exact 42 = .ok (.aload_n 0, 1) := by decide +kernel
theorem d_Mo_exact_43 : decode b_Mo_exact 43 = .ok (.iconst 0, 1) := by decide +kernel
theorem d_Mo_exact_44 : decode b_Mo_exact 44 = .ok (.putfield 153, 3) := by decide +kernel
theorem d_Mo_exact_47 : decode b_Mo_exact 47 = .ok (.aload_n 0, 1) := by decide +kernel
theorem d_Mo_exact_48 : decode b_Mo_exact 48 = .ok (.aload_n 0, 1) := by decide +kernel
theorem d_Mo_exact_49 : decode b_Mo_exact 49 = .ok (.getfield 48, 3) := by decide +kernel
theorem d_Mo_exact_52 : decode b_Mo_exact 52 = .ok (.invokevirtual 93, 3) := by decide +kernel
theorem d_Mo_exact_55 : decode b_Mo_exact 55 = .ok (.istore_n 2, 1) := by decide +kernel
theorem d_Mo_exact_56 : decode b_Mo_exact 56 = .ok (.iload_n 2, 1) := by decide +kernel
theorem d_Mo_exact_57 : decode b_Mo_exact 57 = .ok (.ifCond .lt 64, 3) := by decide +kernel
theorem d_Mo_exact_60 : decode b_Mo_exact 60 = .ok (.aload_n 0, 1) := by decide +kernel
theorem d_Mo_exact_61 : decode b_Mo_exact 61 = .ok (.getfield 153, 3) := by decide +kernel
theorem d_Mo_exact_64 : decode b_Mo_exact 64 = .ok (.iload_n 1, 1) := by decide +kernel
theorem d_Mo_exact_65 : decode b_Mo_exact 65 = .ok (.if_icmp .ge 56, 3) := by decide +kernel
theorem d_Mo_exact_68 : decode b_Mo_exact 68 = .ok (.aload_n 0, 1) := by decide +kernel
theorem d_Mo_exact_69 : decode b_Mo_exact 69 = .ok (.getfield 48, 3) := by decide +kernel
theorem d_Mo_exact_72 : decode b_Mo_exact 72 = .ok (.iload_n 2, 1) := by decide +kernel
theorem d_Mo_exact_73 : decode b_Mo_exact 73 = .ok (.iconst 0, 1) := by decide +kernel
theorem d_Mo_exact_74 : decode b_Mo_exact 74 = .ok (.bastore, 1) := by decide +kernel
theorem d_Mo_exact_75 : decode b_Mo_exact 75 = .ok (.aload_n 0, 1) := by decide +kernel
theorem d_Mo_exact_76 : decode b_Mo_exact 76 = .ok (.getfield 66, 3) := by decide +kernel
theorem d_Mo_exact_79 : decode b_Mo_exact 79 = .ok (.aload_n 0, 1) := by decide +kernel
theorem d_Mo_exact_80 : decode b_Mo_exact 80 = .ok (.getfield 153, 3) := by decide +kernel
theorem d_Mo_exact_83 : decode b_Mo_exact 83 = .ok (.iload_n 2, 1) := by decide +kernel
theorem d_Mo_exact_84 : decode b_Mo_exact 84 = .ok (.iastore, 1) := by decide +kernel
theorem d_Mo_exact_85 : decode b_Mo_exact 85 = .ok (.aload_n 0, 1) := by decide +kernel
theorem d_Mo_exact_86 : decode b_Mo_exact 86 = .ok (.getfield 69, 3) := by decide +kernel
theorem d_Mo_exact_89 : decode b_Mo_exact 89 = .ok (.aload_n 0, 1) := by decide +kernel
theorem d_Mo_exact_90 : decode b_Mo_exact 90 = .ok (.getfield 153, 3) := by decide +kernel
theorem d_Mo_exact_93 : decode b_Mo_exact 93 = .ok (.aload_n 0, 1) := by decide +kernel
theorem d_Mo_exact_94 : decode b_Mo_exact 94 = .ok (.iload_n 2, 1) := by decide +kernel
theorem d_Mo_exact_95 : decode b_Mo_exact 95 = .ok (.invokevirtual 75, 3) := by decide +kernel
theorem d_Mo_exact_98 : decode b_Mo_exact 98 = .ok (.iastore, 1) := by decide +kernel
theorem d_Mo_exact_99 : decode b_Mo_exact 99 = .ok (.aload_n 0, 1) := by decide +kernel
theorem d_Mo_exact_100 : decode b_Mo_exact 100 = .ok (.dup, 1) := by decide +kernel
theorem d_Mo_exact_101 : decode b_Mo_exact 101 = .ok (.getfield 153, 3) := by decide +kernel
theorem d_Mo_exact_104 : decode b_Mo_exact 104 = .ok (.iconst 1, 1) := by decide +kernel
theorem d_Mo_exact_105 : decode b_Mo_exact 105 = .ok (.iadd, 1) := by decide +kernel
theorem d_Mo_exact_106 : decode b_Mo_exact 106 = .ok (.putfield 153, 3) := by decide +kernel
theorem d_Mo_exact_109 : decode b_Mo_exact 109 = .ok (.aload_n 0, 1) := by decide +kernel
theorem d_Mo_exact_110 : decode b_Mo_exact 110 = .ok (.aload_n 0, 1) := by decide +kernel
theorem d_Mo_exact_111 : decode b_Mo_exact 111 = .ok (.getfield 48, 3) := by decide +kernel
theorem d_Mo_exact_114 : decode b_Mo_exact 114 = .ok (.invokevirtual 93, 3) := by decide +kernel
theorem d_Mo_exact_117 : decode b_Mo_exact 117 = .ok (.istore_n 2, 1) := by decide +kernel
theorem d_Mo_exact_118 : decode b_Mo_exact 118 = .ok (.goto (-62), 3) := by decide +kernel
theorem d_Mo_exact_121 : decode b_Mo_exact 121 = .ok (.aload_n 0, 1) := by decide +kernel
theorem d_Mo_exact_122 : decode b_Mo_exact 122 = .ok (.getfield 153, 3) := by decide +kernel
theorem d_Mo_exact_125 : decode b_Mo_exact 125 = .ok (.ireturn, 1) := by decide +kernel
theorem d_Mo_match_0 : decode b_Mo_match 0 = .ok (.iload_n 1, 1) := by decide +kernel
theorem d_Mo_match_1 : decode b_Mo_match 1 = .ok (.iconst 1, 1) := by decide +kernel
theorem d_Mo_match_2 : decode b_Mo_match 2 = .ok (.bipush 10, 2) := by decide +kernel
theorem d_Mo_match_4 : decode b_Mo_match 4 = .ok (.invokestatic 136, 3) := by decide +kernel
theorem d_Mo_match_7 : decode b_Mo_match 7 = .ok (.ifCond .eq 14, 3) := by decide +kernel
theorem d_Mo_match_10 : decode b_Mo_match 10 = .ok (.iload_n 2, 1) := by decide +kernel
theorem d_Mo_match_11 : decode b_Mo_match 11 = .ok (.iconst 0, 1) := by decide +kernel
theorem d_Mo_match_12 : decode b_Mo_match 12 = .ok (.sipush 255, 3) := by decide +kernel
theorem d_Mo_match_15 : decode b_Mo_match 15 = .ok (.invokestatic 136, 3) := by decide +kernel
theorem d_Mo_match_18 : decode b_Mo_match 18 = .ok (.ifCond .ne 5, 3) := by decide +kernel
theorem d_Mo_match_21 : decode b_Mo_match 21 = .ok (.iconst (-1), 1) := by decide +kernel
theorem d_Mo_match_22 : decode b_Mo_match 22 = .ok (.ireturn, 1) := by decide +kernel
theorem d_Mo_match_23 : decode b_Mo_match 23 = .ok (.aload_n 0, 1) := by decide +kernel
theorem d_Mo_match_24 : decode b_Mo_match 24 = .ok (.iload_n 2, 1) := by decide +kernel
theorem d_Mo_match_25 : decode b_Mo_match 25 = .ok (.invokevirtual 165, 3) := by decide +kernel
theorem d_Mo_match_28 : decode b_Mo_match 28 = .ok (.aload_n 0, 1) := by decide +kernel
theorem d_Mo_match_29 : decode b_Mo_match 29 = .ok (.iload_n 1, 1) := by decide +kernel
theorem d_Mo_match_30 : decode b_Mo_match 30 = .ok (.invokevirtual 168, 3) := by decide +kernel
theorem d_Mo_match_33 : decode b_Mo_match 33 = .ok (.ireturn, 1) := by decide +kernel
theorem d_Mo_score_0 : decode b_Mo_score 0 = .ok (.iconst 0, 1) := by decide +kernel
theorem d_Mo_score_1 : decode b_Mo_score 1 = .ok (.istore_n 2, 1) := by decide +kernel
theorem d_Mo_score_2 : decode b_Mo_score 2 = .ok (.iload_n 2, 1) := by decide +kernel
theorem d_Mo_score_3 : decode b_Mo_score 3 = .ok (.bipush 30, 2) := by decide +kernel
theorem d_Mo_score_5 : decode b_Mo_score 5 = .ok (.if_icmp .ge 34, 3) := by decide +kernel
theorem d_Mo_score_8 : decode b_Mo_score 8 = .ok (.aload_n 0, 1) := by decide +kernel
theorem d_Mo_score_9 : decode b_Mo_score 9 = .ok (.getfield 72, 3) := by decide +kernel
theorem d_Mo_score_12 : decode b_Mo_score 12 = .ok (.iload_n 2, 1) := by decide +kernel
theorem d_Mo_score_13 : decode b_Mo_score 13 = .ok (.aload_n 0, 1) := by decide +kernel
theorem d_Mo_score_14 : decode b_Mo_score 14 = .ok (.getfield 13, 3) := by decide +kernel
theorem d_Mo_score_17 : decode b_Mo_score 17 = .ok (.iload_n 2, 1) := by decide +kernel
theorem d_Mo_score_18 : decode b_Mo_score 18 = .ok (.baload, 1) := by decide +kernel
theorem d_Mo_score_19 : decode b_Mo_score 19 = .ok (.ifCond .eq 12, 3) := by decide +kernel
theorem d_Mo_score_22 : decode b_Mo_score 22 = .ok (.aload_n 0, 1) := by decide +kernel
theorem d_Mo_score_23 : decode b_Mo_score 23 = .ok (.iload_n 2, 1) := by decide +kernel
theorem d_Mo_score_24 : decode b_Mo_score 24 = .ok (.iload_n 1, 1) := by decide +kernel
theorem d_Mo_score_25 : decode b_Mo_score 25 = .ok (.invokevirtual 159, 3) := by decide +kernel
theorem d_Mo_score_28 : decode b_Mo_score 28 = .ok (.goto 4, 3) := by decide +kernel
theorem d_Mo_score_31 : decode b_Mo_score 31 = .ok (.iconst 0, 1) := by decide +kernel
theorem d_Mo_score_32 : decode b_Mo_score 32 = .ok (.iastore, 1) := by decide +kernel
theorem d_Mo_score_33 : decode b_Mo_score 33 = .ok (.iinc 2 1, 3) := by decide +kernel
theorem d_Mo_score_36 : decode b_Mo_score 36 = .ok (.goto (-34), 3) := by decide +kernel
theorem d_Mo_score_39 : decode b_Mo_score 39 = .ok (.return_, 1) := by decide +kernel
theorem d_Mo_scoreOf_0 : decode b_Mo_scoreOf 0 = .ok (.iconst 0, 1) := by decide +kernel
theorem d_Mo_scoreOf_1 : decode b_Mo_scoreOf 1 = .ok (.istore_n 3, 1) := by decide +kernel
theorem d_Mo_scoreOf_2 : decode b_Mo_scoreOf 2 = .ok (.aload_n 0, 1) := by decide +kernel
theorem d_Mo_scoreOf_3 : decode b_Mo_scoreOf 3 = .ok (.getfield 13, 3) := by decide +kernel
theorem d_Mo_scoreOf_6 : decode b_Mo_scoreOf 6 = .ok (.invokestatic 86, 3) := by decide +kernel
theorem d_Mo_scoreOf_9 : decode b_Mo_scoreOf 9 = .ok (.istore 4, 2) := by decide +kernel
theorem d_Mo_scoreOf_11 : decode b_Mo_scoreOf 11 = .ok (.iconst 0, 1) := by decide +kernel
theorem d_Mo_scoreOf_12 : decode b_Mo_scoreOf 12 = .ok (.istore 5, 2) := by decide +kernel
theorem d_Mo_scoreOf_14 : decode b_Mo_scoreOf 14 = .ok (.iload 5, 2) := by decide +kernel
theorem d_Mo_scoreOf_16 : decode b_Mo_scoreOf 16 = .ok (.bipush 8, 2) := by decide +kernel
theorem d_Mo_scoreOf_18 : decode b_Mo_scoreOf 18 = .ok (.if_icmp .ge 99, 3) := by decide +kernel
theorem d_Mo_scoreOf_21 : decode b_Mo_scoreOf 21 = .ok (.aload_n 0, 1) := by decide +kernel
theorem d_Mo_scoreOf_22 : decode b_Mo_scoreOf 22 = .ok (.iload_n 1, 1) := by decide +kernel
theorem d_Mo_scoreOf_23 : decode b_Mo_scoreOf 23 = .ok (.iload 5, 2) := by decide +kernel
theorem d_Mo_scoreOf_25 : decode b_Mo_scoreOf 25 = .ok (.invokevirtual 156, 3) := by decide +kernel
theorem d_Mo_scoreOf_28 : decode b_Mo_scoreOf 28 = .ok (.istore 6, 2) := by decide +kernel
theorem d_Mo_scoreOf_30 : decode b_Mo_scoreOf 30 = .ok (.iconst 0, 1) := by decide +kernel
theorem d_Mo_scoreOf_31 : decode b_Mo_scoreOf 31 = .ok (.istore 7, 2) := by decide +kernel
theorem d_Mo_scoreOf_33 : decode b_Mo_scoreOf 33 = .ok (.iload_n 2, 1) := by decide +kernel
theorem d_Mo_scoreOf_34 : decode b_Mo_scoreOf 34 = .ok (.iload 5, 2) := by decide +kernel
theorem d_Mo_scoreOf_36 : decode b_Mo_scoreOf 36 = .ok (.ishr, 1) := by decide +kernel
theorem d_Mo_scoreOf_37 : decode b_Mo_scoreOf 37 = .ok (.iconst 1, 1) := by decide +kernel
theorem d_Mo_scoreOf_38 : decode b_Mo_scoreOf 38 = .ok (.iand, 1) := by decide +kernel
theorem d_Mo_scoreOf_39 : decode b_Mo_scoreOf 39 = .ok (.ifCond .eq 72, 3) := by decide +kernel
theorem d_Mo_scoreOf_42 : decode b_Mo_scoreOf 42 = .ok (.iload 6, 2) := by decide +kernel
theorem d_Mo_scoreOf_44 : decode b_Mo_scoreOf 44 = .ok (.ifCond .ne 6, 3) := by decide +kernel
theorem d_Mo_scoreOf_47 : decode b_Mo_scoreOf 47 = .ok (.goto 64, 3) := by decide +kernel
theorem d_Mo_scoreOf_50 : decode b_Mo_scoreOf 50 = .ok (.iconst 0, 1) := by decide +kernel
theorem d_Mo_scoreOf_51 : decode b_Mo_scoreOf 51 = .ok (.istore 8, 2) := by decide +kernel
theorem d_Mo_scoreOf_53 : decode b_Mo_scoreOf 53 = .ok (.iload 8, 2) := by decide +kernel
theorem d_Mo_scoreOf_55 : decode b_Mo_scoreOf 55 = .ok (.bipush 30, 2) := by decide +kernel
theorem d_Mo_scoreOf_57 : decode b_Mo_scoreOf 57 = .ok (.if_icmp .ge 33, 3) := by decide +kernel
theorem d_Mo_scoreOf_60 : decode b_Mo_scoreOf 60 = .ok (.aload_n 0, 1) := by decide +kernel
theorem d_Mo_scoreOf_61 : decode b_Mo_scoreOf 61 = .ok (.getfield 13, 3) := by decide +kernel
theorem d_Mo_scoreOf_64 : decode b_Mo_scoreOf 64 = .ok (.iload 8, 2) := by decide +kernel
theorem d_Mo_scoreOf_66 : decode b_Mo_scoreOf 66 = .ok (.baload, 1) := by decide +kernel
theorem d_Mo_scoreOf_67 : decode b_Mo_scoreOf 67 = .ok (.ifCond .eq 17, 3) := by decide +kernel
theorem d_Mo_scoreOf_70 : decode b_Mo_scoreOf 70 = .ok (.aload_n 0, 1) := by decide +kernel
theorem d_Mo_scoreOf_71 : decode b_Mo_scoreOf 71 = .ok (.iload 8, 2) := by decide +kernel
theorem d_Mo_scoreOf_73 : decode b_Mo_scoreOf 73 = .ok (.iload 5, 2) := by decide +kernel
theorem d_Mo_scoreOf_75 : decode b_Mo_scoreOf 75 = .ok (.invokevirtual 156, 3) := by decide +kernel
theorem d_Mo_scoreOf_78 : decode b_Mo_scoreOf 78 = .ok (.ifCond .le 6, 3) := by decide +kernel
theorem d_Mo_scoreOf_81 : decode b_Mo_scoreOf 81 = .ok (.iinc 7 1, 3) := by decide +kernel
theorem d_Mo_scoreOf_84 : decode b_Mo_scoreOf 84 = .ok (.iinc 8 1, 3) := by decide +kernel
theorem d_Mo_scoreOf_87 : decode b_Mo_scoreOf 87 = .ok (.goto (-34), 3) := by decide +kernel
theorem d_Mo_scoreOf_90 : decode b_Mo_scoreOf 90 = .ok (.iload_n 3, 1) := by decide +kernel
theorem d_Mo_scoreOf_91 : decode b_Mo_scoreOf 91 = .ok (.bipush 100, 2) := by decide +kernel
theorem d_Mo_scoreOf_93 : decode b_Mo_scoreOf 93 = .ok (.iload 6, 2) := by decide +kernel
theorem d_Mo_scoreOf_95 : decode b_Mo_scoreOf 95 = .ok (.imul, 1) := by decide +kernel
theorem d_Mo_scoreOf_96 : decode b_Mo_scoreOf 96 = .ok (.iload 6, 2) := by decide +kernel
theorem d_Mo_scoreOf_98 : decode b_Mo_scoreOf 98 = .ok (.iconst 1, 1) := by decide +kernel
theorem d_Mo_scoreOf_99 : decode b_Mo_scoreOf 99 = .ok (.iadd, 1) := by decide +kernel
theorem d_Mo_scoreOf_100 : decode b_Mo_scoreOf 100 = .ok (.idiv, 1) := by decide +kernel
theorem d_Mo_scoreOf_101 : decode b_Mo_scoreOf 101 = .ok (.iconst 1, 1) := by decide +kernel
theorem d_Mo_scoreOf_102 : decode b_Mo_scoreOf 102 = .ok (.iload 4, 2) := by decide +kernel
theorem d_Mo_scoreOf_104 : decode b_Mo_scoreOf 104 = .ok (.iload 7, 2) := by decide +kernel
theorem d_Mo_scoreOf_106 : decode b_Mo_scoreOf 106 = .ok (.idiv, 1) := by decide +kernel
theorem d_Mo_scoreOf_107 : decode b_Mo_scoreOf 107 = .ok (.iadd, 1) := by decide +kernel
theorem d_Mo_scoreOf_108 : decode b_Mo_scoreOf 108 = .ok (.imul, 1) := by decide +kernel
theorem d_Mo_scoreOf_109 : decode b_Mo_scoreOf 109 = .ok (.iadd, 1) := by decide +kernel
theorem d_Mo_scoreOf_110 : decode b_Mo_scoreOf 110 = .ok (.istore_n 3, 1) := by decide +kernel
theorem d_Mo_scoreOf_111 : decode b_Mo_scoreOf 111 = .ok (.iinc 5 1, 3) := by decide +kernel
theorem d_Mo_scoreOf_114 : decode b_Mo_scoreOf 114 = .ok (.goto (-100), 3) := by decide +kernel
theorem d_Mo_scoreOf_117 : decode b_Mo_scoreOf 117 = .ok (.iload_n 3, 1) := by decide +kernel
theorem d_Mo_scoreOf_118 : decode b_Mo_scoreOf 118 = .ok (.ireturn, 1) := by decide +kernel
theorem d_Mo_countOf_0 : decode b_Mo_countOf 0 = .ok (.aload_n 0, 1) := by decide +kernel
theorem d_Mo_countOf_1 : decode b_Mo_countOf 1 = .ok (.getfield 20, 3) := by decide +kernel
theorem d_Mo_countOf_4 : decode b_Mo_countOf 4 = .ok (.iload_n 1, 1) := by decide +kernel
theorem d_Mo_countOf_5 : decode b_Mo_countOf 5 = .ok (.iaload, 1) := by decide +kernel
theorem d_Mo_countOf_6 : decode b_Mo_countOf 6 = .ok (.iconst 3, 1) := by decide +kernel
theorem d_Mo_countOf_7 : decode b_Mo_countOf 7 = .ok (.iload_n 2, 1) := by decide +kernel
theorem d_Mo_countOf_8 : decode b_Mo_countOf 8 = .ok (.imul, 1) := by decide +kernel
theorem d_Mo_countOf_9 : decode b_Mo_countOf 9 = .ok (.ishr, 1) := by decide +kernel
theorem d_Mo_countOf_10 : decode b_Mo_countOf 10 = .ok (.bipush 7, 2) := by decide +kernel
theorem d_Mo_countOf_12 : decode b_Mo_countOf 12 = .ok (.iand, 1) := by decide +kernel
theorem d_Mo_countOf_13 : decode b_Mo_countOf 13 = .ok (.ireturn, 1) := by decide +kernel
theorem d_Mo_best_0 : decode b_Mo_best 0 = .ok (.aload_n 0, 1) := by decide +kernel
theorem d_Mo_best_1 : decode b_Mo_best 1 = .ok (.iconst 0, 1) := by decide +kernel
theorem d_Mo_best_2 : decode b_Mo_best 2 = .ok (.putfield 153, 3) := by decide +kernel
theorem d_Mo_best_5 : decode b_Mo_best 5 = .ok (.iconst 0, 1) := by decide +kernel
theorem d_Mo_best_6 : decode b_Mo_best 6 = .ok (.istore_n 2, 1) := by decide +kernel
theorem d_Mo_best_7 : decode b_Mo_best 7 = .ok (.iload_n 2, 1) := by decide +kernel
theorem d_Mo_best_8 : decode b_Mo_best 8 = .ok (.bipush 30, 2) := by decide +kernel
theorem d_Mo_best_10 : decode b_Mo_best 10 = .ok (.if_icmp .ge 61, 3) := by decide +kernel
theorem d_Mo_best_13 : decode b_Mo_best 13 = .ok (.aload_n 0, 1) := by decide +kernel
theorem d_Mo_best_14 : decode b_Mo_best 14 = .ok (.iload_n 2, 1) := by decide +kernel
theorem d_Mo_best_15 : decode b_Mo_best 15 = .ok (.invokevirtual 162, 3) := by decide +kernel
theorem d_Mo_best_18 : decode b_Mo_best 18 = .ok (.istore_n 3, 1) := by decide +kernel
theorem d_Mo_best_19 : decode b_Mo_best 19 = .ok (.aload_n 0, 1) := by decide +kernel
theorem d_Mo_best_20 : decode b_Mo_best 20 = .ok (.getfield 72, 3) := by decide +kernel
theorem d_Mo_best_23 : decode b_Mo_best 23 = .ok (.iload_n 2, 1) := by decide +kernel
theorem d_Mo_best_24 : decode b_Mo_best 24 = .ok (.iaload, 1) := by decide +kernel
theorem d_Mo_best_25 : decode b_Mo_best 25 = .ok (.ifCond .eq 40, 3) := by decide +kernel
theorem d_Mo_best_28 : decode b_Mo_best 28 = .ok (.iload_n 3, 1) := by decide +kernel
theorem d_Mo_best_29 : decode b_Mo_best 29 = .ok (.iload_n 1, 1) := by decide +kernel
theorem d_Mo_best_30 : decode b_Mo_best 30 = .ok (.if_icmp .lt 6, 3) := by decide +kernel
theorem d_Mo_best_33 : decode b_Mo_best 33 = .ok (.goto 32, 3) := by decide +kernel
theorem d_Mo_best_36 : decode b_Mo_best 36 = .ok (.aload_n 0, 1) := by decide +kernel
theorem d_Mo_best_37 : decode b_Mo_best 37 = .ok (.getfield 66, 3) := by decide +kernel
theorem d_Mo_best_40 : decode b_Mo_best 40 = .ok (.iload_n 3, 1) := by decide +kernel
theorem d_Mo_best_41 : decode b_Mo_best 41 = .ok (.iload_n 2, 1) := by decide +kernel
theorem d_Mo_best_42 : decode b_Mo_best 42 = .ok (.iastore, 1) := by decide +kernel
theorem d_Mo_best_43 : decode b_Mo_best 43 = .ok (.aload_n 0, 1) := by decide +kernel
theorem d_Mo_best_44 : decode b_Mo_best 44 = .ok (.getfield 69, 3) := by decide +kernel
theorem d_Mo_best_47 : decode b_Mo_best 47 = .ok (.iload_n 3, 1) := by decide +kernel
theorem d_Mo_best_48 : decode b_Mo_best 48 = .ok (.aload_n 0, 1) := by decide +kernel
theorem d_Mo_best_49 : decode b_Mo_best 49 = .ok (.getfield 72, 3) := by decide +kernel
theorem d_Mo_best_52 : decode b_Mo_best 52 = .ok (.iload_n 2, 1) := by decide +kernel
theorem d_Mo_best_53 : decode b_Mo_best 53 = .ok (.iaload, 1) := by decide +kernel
theorem d_Mo_best_54 : decode b_Mo_best 54 = .ok (.iastore, 1) := by decide +kernel
theorem d_Mo_best_55 : decode b_Mo_best 55 = .ok (.aload_n 0, 1) := by decide +kernel
theorem d_Mo_best_56 : decode b_Mo_best 56 = .ok (.dup, 1) := by decide +kernel
theorem d_Mo_best_57 : decode b_Mo_best 57 = .ok (.getfield 153, 3) := by decide +kernel
theorem d_Mo_best_60 : decode b_Mo_best 60 = .ok (.iconst 1, 1) := by decide +kernel
theorem d_Mo_best_61 : decode b_Mo_best 61 = .ok (.iadd, 1) := by decide +kernel
theorem d_Mo_best_62 : decode b_Mo_best 62 = .ok (.putfield 153, 3) := by decide +kernel
theorem d_Mo_best_65 : decode b_Mo_best 65 = .ok (.iinc 2 1, 3) := by decide +kernel
theorem d_Mo_best_68 : decode b_Mo_best 68 = .ok (.goto (-61), 3) := by decide +kernel
theorem d_Mo_best_71 : decode b_Mo_best 71 = .ok (.aload_n 0, 1) := by decide +kernel
theorem d_Mo_best_72 : decode b_Mo_best 72 = .ok (.getfield 153, 3) := by decide +kernel
theorem d_Mo_best_75 : decode b_Mo_best 75 = .ok (.ireturn, 1) := by decide +kernel
theorem d_Mo_placeOf_0 : decode b_Mo_placeOf 0 = .ok (.iconst 0, 1) := by decide +kernel
theorem d_Mo_placeOf_1 : decode b_Mo_placeOf 1 = .ok (.istore_n 2, 1) := by decide +kernel
theorem d_Mo_placeOf_2 : decode b_Mo_placeOf 2 = .ok (.iconst 0, 1) := by decide +kernel
theorem d_Mo_placeOf_3 : decode b_Mo_placeOf 3 = .ok (.istore_n 3, 1) := by decide +kernel
theorem d_Mo_placeOf_4 : decode b_Mo_placeOf 4 = .ok (.iload_n 3, 1) := by decide +kernel
theorem d_Mo_placeOf_5 : decode b_Mo_placeOf 5 = .ok (.bipush 30, 2) := by decide +kernel
theorem d_Mo_placeOf_7 : decode b_Mo_placeOf 7 = .ok (.if_icmp .ge 47, 3) := by decide +kernel
theorem d_Mo_placeOf_10 : decode b_Mo_placeOf 10 = .ok (.aload_n 0, 1) := by decide +kernel
theorem d_Mo_placeOf_11 : decode b_Mo_placeOf 11 = .ok (.getfield 72, 3) := by decide +kernel
theorem d_Mo_placeOf_14 : decode b_Mo_placeOf 14 = .ok (.iload_n 3, 1) := by decide +kernel
theorem d_Mo_placeOf_15 : decode b_Mo_placeOf 15 = .ok (.iaload, 1) := by decide +kernel
theorem d_Mo_placeOf_16 : decode b_Mo_placeOf 16 = .ok (.aload_n 0, 1) := by decide +kernel
theorem d_Mo_placeOf_17 : decode b_Mo_placeOf 17 = .ok (.getfield 72, 3) := by decide +kernel
theorem d_Mo_placeOf_20 : decode b_Mo_placeOf 20 = .ok (.iload_n 1, 1) := by decide +kernel
theorem d_Mo_placeOf_21 : decode b_Mo_placeOf 21 = .ok (.iaload, 1) := by decide +kernel
theorem d_Mo_placeOf_22 : decode b_Mo_placeOf 22 = .ok (.if_icmp .gt 23, 3) := by decide +kernel
theorem d_Mo_placeOf_25 : decode b_Mo_placeOf 25 = .ok (.aload_n 0, 1) := by decide +kernel
theorem d_Mo_placeOf_26 : decode b_Mo_placeOf 26 = .ok (.getfield 72, 3) := by decide +kernel
theorem d_Mo_placeOf_29 : decode b_Mo_placeOf 29 = .ok (.iload_n 3, 1) := by decide +kernel
theorem d_Mo_placeOf_30 : decode b_Mo_placeOf 30 = .ok (.iaload, 1) := by decide +kernel
theorem d_Mo_placeOf_31 : decode b_Mo_placeOf 31 = .ok (.aload_n 0, 1) := by decide +kernel
theorem d_Mo_placeOf_32 : decode b_Mo_placeOf 32 = .ok (.getfield 72, 3) := by decide +kernel
theorem d_Mo_placeOf_35 : decode b_Mo_placeOf 35 = .ok (.iload_n 1, 1) := by decide +kernel
theorem d_Mo_placeOf_36 : decode b_Mo_placeOf 36 = .ok (.iaload, 1) := by decide +kernel
theorem d_Mo_placeOf_37 : decode b_Mo_placeOf 37 = .ok (.if_icmp .ne 11, 3) := by decide +kernel
theorem d_Mo_placeOf_40 : decode b_Mo_placeOf 40 = .ok (.iload_n 3, 1) := by decide +kernel
theorem d_Mo_placeOf_41 : decode b_Mo_placeOf 41 = .ok (.iload_n 1, 1) := by decide +kernel
theorem d_Mo_placeOf_42 : decode b_Mo_placeOf 42 = .ok (.if_icmp .ge 6, 3) := by decide +kernel
theorem d_Mo_placeOf_45 : decode b_Mo_placeOf 45 = .ok (.iinc 2 1, 3) := by decide +kernel
theorem d_Mo_placeOf_48 : decode b_Mo_placeOf 48 = .ok (.iinc 3 1, 3) := by decide +kernel
theorem d_Mo_placeOf_51 : decode b_Mo_placeOf 51 = .ok (.goto (-47), 3) := by decide +kernel
theorem d_Mo_placeOf_54 : decode b_Mo_placeOf 54 = .ok (.iload_n 2, 1) := by decide +kernel
theorem d_Mo_placeOf_55 : decode b_Mo_placeOf 55 = .ok (.ireturn, 1) := by decide +kernel
theorem d_Mo_fuse_0 : decode b_Mo_fuse 0 = .ok (.iload_n 1, 1) := by decide +kernel
theorem d_Mo_fuse_1 : decode b_Mo_fuse 1 = .ok (.iconst 1, 1) := by decide +kernel
theorem d_Mo_fuse_2 : decode b_Mo_fuse 2 = .ok (.bipush 10, 2) := by decide +kernel
theorem d_Mo_fuse_4 : decode b_Mo_fuse 4 = .ok (.invokestatic 136, 3) := by decide +kernel
theorem d_Mo_fuse_7 : decode b_Mo_fuse 7 = .ok (.ifCond .eq 14, 3) := by decide +kernel
theorem d_Mo_fuse_10 : decode b_Mo_fuse 10 = .ok (.iload_n 2, 1) := by decide +kernel
theorem d_Mo_fuse_11 : decode b_Mo_fuse 11 = .ok (.iconst 0, 1) := by decide +kernel
theorem d_Mo_fuse_12 : decode b_Mo_fuse 12 = .ok (.sipush 255, 3) := by decide +kernel
theorem d_Mo_fuse_15 : decode b_Mo_fuse 15 = .ok (.invokestatic 136, 3) := by decide +kernel
theorem d_Mo_fuse_18 : decode b_Mo_fuse 18 = .ok (.ifCond .ne 5, 3) := by decide +kernel
theorem d_Mo_fuse_21 : decode b_Mo_fuse 21 = .ok (.iconst (-1), 1) := by decide +kernel
theorem d_Mo_fuse_22 : decode b_Mo_fuse 22 = .ok (.ireturn, 1) := by decide +kernel
theorem d_Mo_fuse_23 : decode b_Mo_fuse 23 = .ok (.aload_n 0, 1) := by decide +kernel
theorem d_Mo_fuse_24 : decode b_Mo_fuse 24 = .ok (.iload_n 2, 1) := by decide +kernel
theorem d_Mo_fuse_25 : decode b_Mo_fuse 25 = .ok (.invokevirtual 165, 3) := by decide +kernel
theorem d_Mo_fuse_28 : decode b_Mo_fuse 28 = .ok (.iconst 0, 1) := by decide +kernel
theorem d_Mo_fuse_29 : decode b_Mo_fuse 29 = .ok (.istore_n 3, 1) := by decide +kernel
theorem d_Mo_fuse_30 : decode b_Mo_fuse 30 = .ok (.iload_n 3, 1) := by decide +kernel
theorem d_Mo_fuse_31 : decode b_Mo_fuse 31 = .ok (.bipush 30, 2) := by decide +kernel
theorem d_Mo_fuse_33 : decode b_Mo_fuse 33 = .ok (.if_icmp .ge 51, 3) := by decide +kernel
theorem d_Mo_fuse_36 : decode b_Mo_fuse 36 = .ok (.aload_n 0, 1) := by decide +kernel
theorem d_Mo_fuse_37 : decode b_Mo_fuse 37 = .ok (.iload_n 3, 1) := by decide +kernel
theorem d_Mo_fuse_38 : decode b_Mo_fuse 38 = .ok (.invokevirtual 162, 3) := by decide +kernel
theorem d_Mo_fuse_41 : decode b_Mo_fuse 41 = .ok (.istore 4, 2) := by decide +kernel
theorem d_Mo_fuse_43 : decode b_Mo_fuse 43 = .ok (.aload_n 0, 1) := by decide +kernel
theorem d_Mo_fuse_44 : decode b_Mo_fuse 44 = .ok (.getfield 63, 3) := by decide +kernel
theorem d_Mo_fuse_47 : decode b_Mo_fuse 47 = .ok (.iload_n 3, 1) := by decide +kernel
theorem d_Mo_fuse_48 : decode b_Mo_fuse 48 = .ok (.aload_n 0, 1) := by decide +kernel
theorem d_Mo_fuse_49 : decode b_Mo_fuse 49 = .ok (.getfield 72, 3) := by decide +kernel
theorem d_Mo_fuse_52 : decode b_Mo_fuse 52 = .ok (.iload_n 3, 1) := by decide +kernel
theorem d_Mo_fuse_53 : decode b_Mo_fuse 53 = .ok (.iaload, 1) := by decide +kernel
theorem d_Mo_fuse_54 : decode b_Mo_fuse 54 = .ok (.ifCond .le 22, 3) := by decide +kernel
theorem d_Mo_fuse_57 : decode b_Mo_fuse 57 = .ok (.iload 4, 2) := by decide +kernel
theorem d_Mo_fuse_59 : decode b_Mo_fuse 59 = .ok (.bipush 10, 2) := by decide +kernel
theorem d_Mo_fuse_61 : decode b_Mo_fuse 61 = .ok (.if_icmp .ge 15, 3) := by decide +kernel
theorem d_Mo_fuse_64 : decode b_Mo_fuse 64 = .ok (.sipush 1000, 3) := by decide +kernel
theorem d_Mo_fuse_67 : decode b_Mo_fuse 67 = .ok (.bipush 10, 2) := by decide +kernel
theorem d_Mo_fuse_69 : decode b_Mo_fuse 69 = .ok (.iload 4, 2) := by decide +kernel
theorem d_Mo_fuse_71 : decode b_Mo_fuse 71 = .ok (.iadd, 1) := by decide +kernel
theorem d_Mo_fuse_72 : decode b_Mo_fuse 72 = .ok (.idiv, 1) := by decide +kernel
theorem d_Mo_fuse_73 : decode b_Mo_fuse 73 = .ok (.goto 4, 3) := by decide +kernel
theorem d_Mo_fuse_76 : decode b_Mo_fuse 76 = .ok (.iconst 0, 1) := by decide +kernel
theorem d_Mo_fuse_77 : decode b_Mo_fuse 77 = .ok (.iastore, 1) := by decide +kernel
theorem d_Mo_fuse_78 : decode b_Mo_fuse 78 = .ok (.iinc 3 1, 3) := by decide +kernel
theorem d_Mo_fuse_81 : decode b_Mo_fuse 81 = .ok (.goto (-51), 3) := by decide +kernel
theorem d_Mo_fuse_84 : decode b_Mo_fuse 84 = .ok (.aload_n 0, 1) := by decide +kernel
theorem d_Mo_fuse_85 : decode b_Mo_fuse 85 = .ok (.bipush 10, 2) := by decide +kernel
theorem d_Mo_fuse_87 : decode b_Mo_fuse 87 = .ok (.invokevirtual 150, 3) := by decide +kernel
theorem d_Mo_fuse_90 : decode b_Mo_fuse 90 = .ok (.iconst 0, 1) := by decide +kernel
theorem d_Mo_fuse_91 : decode b_Mo_fuse 91 = .ok (.istore_n 3, 1) := by decide +kernel
theorem d_Mo_fuse_92 : decode b_Mo_fuse 92 = .ok (.iload_n 3, 1) := by decide +kernel
theorem d_Mo_fuse_93 : decode b_Mo_fuse 93 = .ok (.bipush 30, 2) := by decide +kernel
theorem d_Mo_fuse_95 : decode b_Mo_fuse 95 = .ok (.if_icmp .ge 21, 3) := by decide +kernel
theorem d_Mo_fuse_98 : decode b_Mo_fuse 98 = .ok (.aload_n 0, 1) := by decide +kernel
theorem d_Mo_fuse_99 : decode b_Mo_fuse 99 = .ok (.getfield 72, 3) := by decide +kernel
theorem d_Mo_fuse_102 : decode b_Mo_fuse 102 = .ok (.iload_n 3, 1) := by decide +kernel
theorem d_Mo_fuse_103 : decode b_Mo_fuse 103 = .ok (.aload_n 0, 1) := by decide +kernel
theorem d_Mo_fuse_104 : decode b_Mo_fuse 104 = .ok (.getfield 63, 3) := by decide +kernel
theorem d_Mo_fuse_107 : decode b_Mo_fuse 107 = .ok (.iload_n 3, 1) := by decide +kernel
theorem d_Mo_fuse_108 : decode b_Mo_fuse 108 = .ok (.iaload, 1) := by decide +kernel
theorem d_Mo_fuse_109 : decode b_Mo_fuse 109 = .ok (.iastore, 1) := by decide +kernel
theorem d_Mo_fuse_110 : decode b_Mo_fuse 110 = .ok (.iinc 3 1, 3) := by decide +kernel
theorem d_Mo_fuse_113 : decode b_Mo_fuse 113 = .ok (.goto (-21), 3) := by decide +kernel
theorem d_Mo_fuse_116 : decode b_Mo_fuse 116 = .ok (.iconst 0, 1) := by decide +kernel
theorem d_Mo_fuse_117 : decode b_Mo_fuse 117 = .ok (.istore_n 3, 1) := by decide +kernel
theorem d_Mo_fuse_118 : decode b_Mo_fuse 118 = .ok (.iload_n 3, 1) := by decide +kernel
theorem d_Mo_fuse_119 : decode b_Mo_fuse 119 = .ok (.aload_n 0, 1) := by decide +kernel
theorem d_Mo_fuse_120 : decode b_Mo_fuse 120 = .ok (.getfield 83, 3) := by decide +kernel
theorem d_Mo_fuse_123 : decode b_Mo_fuse 123 = .ok (.if_icmp .ge 37, 3) := by decide +kernel
theorem d_Mo_fuse_126 : decode b_Mo_fuse 126 = .ok (.iload_n 3, 1) := by decide +kernel
theorem d_Mo_fuse_127 : decode b_Mo_fuse 127 = .ok (.bipush 10, 2) := by decide +kernel
theorem d_Mo_fuse_129 : decode b_Mo_fuse 129 = .ok (.if_icmp .ge 31, 3) := by decide +kernel
theorem d_Mo_fuse_132 : decode b_Mo_fuse 132 = .ok (.aload_n 0, 1) := by decide +kernel
theorem d_Mo_fuse_133 : decode b_Mo_fuse 133 = .ok (.getfield 72, 3) := by decide +kernel
theorem d_Mo_fuse_136 : decode b_Mo_fuse 136 = .ok (.aload_n 0, 1) := by decide +kernel
theorem d_Mo_fuse_137 : decode b_Mo_fuse 137 = .ok (.getfield 57, 3) := by decide +kernel
theorem d_Mo_fuse_140 : decode b_Mo_fuse 140 = .ok (.iload_n 3, 1) := by decide +kernel
theorem d_Mo_fuse_141 : decode b_Mo_fuse 141 = .ok (.iaload, 1) := by decide +kernel
theorem d_Mo_fuse_142 : decode b_Mo_fuse 142 = .ok (.dup2, 1) := by decide +kernel
theorem d_Mo_fuse_143 : decode b_Mo_fuse 143 = .ok (.iaload, 1) := by decide +kernel
theorem d_Mo_fuse_144 : decode b_Mo_fuse 144 = .ok (.sipush 1000, 3) := by decide +kernel
theorem d_Mo_fuse_147 : decode b_Mo_fuse 147 = .ok (.bipush 10, 2) := by decide +kernel
theorem d_Mo_fuse_149 : decode b_Mo_fuse 149 = .ok (.iload_n 3, 1) := by decide +kernel
theorem d_Mo_fuse_150 : decode b_Mo_fuse 150 = .ok (.iadd, 1) := by decide +kernel
theorem d_Mo_fuse_151 : decode b_Mo_fuse 151 = .ok (.idiv, 1) := by decide +kernel
theorem d_Mo_fuse_152 : decode b_Mo_fuse 152 = .ok (.iadd, 1) := by decide +kernel
theorem d_Mo_fuse_153 : decode b_Mo_fuse 153 = .ok (.iastore, 1) := by decide +kernel
theorem d_Mo_fuse_154 : decode b_Mo_fuse 154 = .ok (.iinc 3 1, 3) := by decide +kernel
theorem d_Mo_fuse_157 : decode b_Mo_fuse 157 = .ok (.goto (-39), 3) := by decide +kernel
theorem d_Mo_fuse_160 : decode b_Mo_fuse 160 = .ok (.aload_n 0, 1) := by decide +kernel
theorem d_Mo_fuse_161 : decode b_Mo_fuse 161 = .ok (.iload_n 1, 1) := by decide +kernel
theorem d_Mo_fuse_162 : decode b_Mo_fuse 162 = .ok (.invokevirtual 168, 3) := by decide +kernel
theorem d_Mo_fuse_165 : decode b_Mo_fuse 165 = .ok (.ireturn, 1) := by decide +kernel
theorem d_Mo_found_0 : decode b_Mo_found 0 = .ok (.iload_n 2, 1) := by decide +kernel
theorem d_Mo_found_1 : decode b_Mo_found 1 = .ok (.iconst 0, 1) := by decide +kernel
theorem d_Mo_found_2 : decode b_Mo_found 2 = .ok (.iconst 2, 1) := by decide +kernel
theorem d_Mo_found_3 : decode b_Mo_found 3 = .ok (.invokestatic 136, 3) := by decide +kernel
theorem d_Mo_found_6 : decode b_Mo_found 6 = .ok (.ifCond .ne 5, 3) := by decide +kernel
theorem d_Mo_found_9 : decode b_Mo_found 9 = .ok (.iconst (-1), 1) := by decide +kernel
theorem d_Mo_found_10 : decode b_Mo_found 10 = .ok (.ireturn, 1) := by decide +kernel
theorem d_Mo_found_11 : decode b_Mo_found 11 = .ok (.iload_n 1, 1) := by decide +kernel
theorem d_Mo_found_12 : decode b_Mo_found 12 = .ok (.iconst 0, 1) := by decide +kernel
theorem d_Mo_found_13 : decode b_Mo_found 13 = .ok (.aload_n 0, 1) := by decide +kernel
theorem d_Mo_found_14 : decode b_Mo_found 14 = .ok (.getfield 153, 3) := by decide +kernel
theorem d_Mo_found_17 : decode b_Mo_found 17 = .ok (.iconst 1, 1) := by decide +kernel
theorem d_Mo_found_18 : decode b_Mo_found 18 = .ok (.isub, 1) := by decide +kernel
theorem d_Mo_found_19 : decode b_Mo_found 19 = .ok (.invokestatic 136, 3) := by decide +kernel
theorem d_Mo_found_22 : decode b_Mo_found 22 = .ok (.ifCond .ne 6, 3) := by decide +kernel
theorem d_Mo_found_25 : decode b_Mo_found 25 = .ok (.bipush (-2), 2) := by decide +kernel
theorem d_Mo_found_27 : decode b_Mo_found 27 = .ok (.ireturn, 1) := by decide +kernel
theorem d_Mo_found_28 : decode b_Mo_found 28 = .ok (.iload_n 2, 1) := by decide +kernel
theorem d_Mo_found_29 : decode b_Mo_found 29 = .ok (.ifCond .ne 12, 3) := by decide +kernel
theorem d_Mo_found_32 : decode b_Mo_found 32 = .ok (.aload_n 0, 1) := by decide +kernel
theorem d_Mo_found_33 : decode b_Mo_found 33 = .ok (.getfield 66, 3) := by decide +kernel
theorem d_Mo_found_36 : decode b_Mo_found 36 = .ok (.iload_n 1, 1) := by decide +kernel
theorem d_Mo_found_37 : decode b_Mo_found 37 = .ok (.iaload, 1) := by decide +kernel
theorem d_Mo_found_38 : decode b_Mo_found 38 = .ok (.goto 36, 3) := by decide +kernel
theorem d_Mo_found_41 : decode b_Mo_found 41 = .ok (.iload_n 2, 1) := by decide +kernel
theorem d_Mo_found_42 : decode b_Mo_found 42 = .ok (.iconst 1, 1) := by decide +kernel
theorem d_Mo_found_43 : decode b_Mo_found 43 = .ok (.if_icmp .ne 12, 3) := by decide +kernel
theorem d_Mo_found_46 : decode b_Mo_found 46 = .ok (.aload_n 0, 1) := by decide +kernel
theorem d_Mo_found_47 : decode b_Mo_found 47 = .ok (.getfield 69, 3) := by decide +kernel
theorem d_Mo_found_50 : decode b_Mo_found 50 = .ok (.iload_n 1, 1) := by decide +kernel
theorem d_Mo_found_51 : decode b_Mo_found 51 = .ok (.iaload, 1) := by decide +kernel
theorem d_Mo_found_52 : decode b_Mo_found 52 = .ok (.goto 22, 3) := by decide +kernel
theorem d_Mo_found_55 : decode b_Mo_found 55 = .ok (.aload_n 0, 1) := by decide +kernel
theorem d_Mo_found_56 : decode b_Mo_found 56 = .ok (.getfield 13, 3) := by decide +kernel
theorem d_Mo_found_59 : decode b_Mo_found 59 = .ok (.aload_n 0, 1) := by decide +kernel
theorem d_Mo_found_60 : decode b_Mo_found 60 = .ok (.getfield 66, 3) := by decide +kernel
theorem d_Mo_found_63 : decode b_Mo_found 63 = .ok (.iload_n 1, 1) := by decide +kernel
theorem d_Mo_found_64 : decode b_Mo_found 64 = .ok (.iaload, 1) := by decide +kernel
theorem d_Mo_found_65 : decode b_Mo_found 65 = .ok (.baload, 1) := by decide +kernel
theorem d_Mo_found_66 : decode b_Mo_found 66 = .ok (.ifCond .eq 7, 3) := by decide +kernel
theorem d_Mo_found_69 : decode b_Mo_found 69 = .ok (.iconst 1, 1) := by decide +kernel
theorem d_Mo_found_70 : decode b_Mo_found 70 = .ok (.goto 4, 3) := by decide +kernel
theorem d_Mo_found_73 : decode b_Mo_found 73 = .ok (.iconst 0, 1) := by decide +kernel
theorem d_Mo_found_74 : decode b_Mo_found 74 = .ok (.ireturn, 1) := by decide +kernel
theorem d_Mo_node_0 : decode b_Mo_node 0 = .ok (.iload_n 2, 1) := by decide +kernel
theorem d_Mo_node_1 : decode b_Mo_node 1 = .ok (.iconst 0, 1) := by decide +kernel
theorem d_Mo_node_2 : decode b_Mo_node 2 = .ok (.bipush 7, 2) := by decide +kernel
theorem d_Mo_node_4 : decode b_Mo_node 4 = .ok (.invokestatic 136, 3) := by decide +kernel
theorem d_Mo_node_7 : decode b_Mo_node 7 = .ok (.ifCond .ne 16, 3) := by decide +kernel
theorem d_Mo_node_10 : decode b_Mo_node 10 = .ok (.iload_n 2, 1) := by decide +kernel
theorem d_Mo_node_11 : decode b_Mo_node 11 = .ok (.bipush 10, 2) := by decide +kernel
theorem d_Mo_node_13 : decode b_Mo_node 13 = .ok (.bipush 13, 2) := by decide +kernel
theorem d_Mo_node_15 : decode b_Mo_node 15 = .ok (.invokestatic 136, 3) := by decide +kernel
theorem d_Mo_node_18 : decode b_Mo_node 18 = .ok (.ifCond .ne 5, 3) := by decide +kernel
theorem d_Mo_node_21 : decode b_Mo_node 21 = .ok (.iconst (-1), 1) := by decide +kernel
theorem d_Mo_node_22 : decode b_Mo_node 22 = .ok (.ireturn, 1) := by decide +kernel
theorem d_Mo_node_23 : decode b_Mo_node 23 = .ok (.iload_n 1, 1) := by decide +kernel
theorem d_Mo_node_24 : decode b_Mo_node 24 = .ok (.iconst 0, 1) := by decide +kernel
theorem d_Mo_node_25 : decode b_Mo_node 25 = .ok (.bipush 29, 2) := by decide +kernel
theorem d_Mo_node_27 : decode b_Mo_node 27 = .ok (.invokestatic 136, 3) := by decide +kernel
theorem d_Mo_node_30 : decode b_Mo_node 30 = .ok (.ifCond .eq 12, 3) := by decide +kernel
theorem d_Mo_node_33 : decode b_Mo_node 33 = .ok (.aload_n 0, 1) := by decide +kernel
theorem d_Mo_node_34 : decode b_Mo_node 34 = .ok (.getfield 7, 3) := by decide +kernel
theorem d_Mo_node_37 : decode b_Mo_node 37 = .ok (.iload_n 1, 1) := by decide +kernel
theorem d_Mo_node_38 : decode b_Mo_node 38 = .ok (.baload, 1) := by decide +kernel
theorem d_Mo_node_39 : decode b_Mo_node 39 = .ok (.ifCond .ne 6, 3) := by decide +kernel
theorem d_Mo_node_42 : decode b_Mo_node 42 = .ok (.bipush (-2), 2) := by decide +kernel
theorem d_Mo_node_44 : decode b_Mo_node 44 = .ok (.ireturn, 1) := by decide +kernel
theorem d_Mo_node_45 : decode b_Mo_node 45 = .ok (.iload_n 2, 1) := by decide +kernel
theorem d_Mo_node_46 : decode b_Mo_node 46 = .ok (.bipush 10, 2) := by decide +kernel
theorem d_Mo_node_48 : decode b_Mo_node 48 = .ok (.if_icmp .lt 35, 3) := by decide +kernel
theorem d_Mo_node_51 : decode b_Mo_node 51 = .ok (.iload_n 2, 1) := by decide +kernel
theorem d_Mo_node_52 : decode b_Mo_node 52 = .ok (.bipush 10, 2) := by decide +kernel
theorem d_Mo_node_54 : decode b_Mo_node 54 = .ok (.isub, 1) := by decide +kernel
theorem d_Mo_node_55 : decode b_Mo_node 55 = .ok (.aload_n 0, 1) := by decide +kernel
theorem d_Mo_node_56 : decode b_Mo_node 56 = .ok (.getfield 23, 3) := by decide +kernel
theorem d_Mo_node_59 : decode b_Mo_node 59 = .ok (.iload_n 1, 1) := by decide +kernel
theorem d_Mo_node_60 : decode b_Mo_node 60 = .ok (.iaload, 1) := by decide +kernel
theorem d_Mo_node_61 : decode b_Mo_node 61 = .ok (.if_icmp .gt 19, 3) := by decide +kernel
theorem d_Mo_node_64 : decode b_Mo_node 64 = .ok (.aload_n 0, 1) := by decide +kernel
theorem d_Mo_node_65 : decode b_Mo_node 65 = .ok (.getfield 32, 3) := by decide +kernel
theorem d_Mo_node_68 : decode b_Mo_node 68 = .ok (.iconst 4, 1) := by decide +kernel
theorem d_Mo_node_69 : decode b_Mo_node 69 = .ok (.iload_n 1, 1) := by decide +kernel
theorem d_Mo_node_70 : decode b_Mo_node 70 = .ok (.imul, 1) := by decide +kernel
theorem d_Mo_node_71 : decode b_Mo_node 71 = .ok (.iload_n 2, 1) := by decide +kernel
theorem d_Mo_node_72 : decode b_Mo_node 72 = .ok (.iadd, 1) := by decide +kernel
theorem d_Mo_node_73 : decode b_Mo_node 73 = .ok (.bipush 10, 2) := by decide +kernel
theorem d_Mo_node_75 : decode b_Mo_node 75 = .ok (.isub, 1) := by decide +kernel
theorem d_Mo_node_76 : decode b_Mo_node 76 = .ok (.iaload, 1) := by decide +kernel
theorem d_Mo_node_77 : decode b_Mo_node 77 = .ok (.goto 5, 3) := by decide +kernel
theorem d_Mo_node_80 : decode b_Mo_node 80 = .ok (.bipush (-2), 2) := by decide +kernel
theorem d_Mo_node_82 : decode b_Mo_node 82 = .ok (.ireturn, 1) := by decide +kernel
theorem d_Mo_node_83 : decode b_Mo_node 83 = .ok (.iload_n 2, 1) := by decide +kernel
theorem d_Mo_node_84 : decode b_Mo_node 84 = .ok (.ifCond .ne 12, 3) := by decide +kernel
theorem d_Mo_node_87 : decode b_Mo_node 87 = .ok (.aload_n 0, 1) := by decide +kernel
theorem d_Mo_node_88 : decode b_Mo_node 88 = .ok (.getfield 23, 3) := by decide +kernel
theorem d_Mo_node_91 : decode b_Mo_node 91 = .ok (.iload_n 1, 1) := by decide +kernel
theorem d_Mo_node_92 : decode b_Mo_node 92 = .ok (.iaload, 1) := by decide +kernel
theorem d_Mo_node_93 : decode b_Mo_node 93 = .ok (.goto 66, 3) := by decide +kernel
theorem d_Mo_node_96 : decode b_Mo_node 96 = .ok (.iload_n 2, 1) := by decide +kernel
theorem d_Mo_node_97 : decode b_Mo_node 97 = .ok (.iconst 1, 1) := by decide +kernel
theorem d_Mo_node_98 : decode b_Mo_node 98 = .ok (.if_icmp .ne 12, 3) := by decide +kernel
theorem d_Mo_node_101 : decode b_Mo_node 101 = .ok (.aload_n 0, 1) := by decide +kernel
theorem d_Mo_node_102 : decode b_Mo_node 102 = .ok (.getfield 26, 3) := by decide +kernel
theorem d_Mo_node_105 : decode b_Mo_node 105 = .ok (.iload_n 1, 1) := by decide +kernel
theorem d_Mo_node_106 : decode b_Mo_node 106 = .ok (.iaload, 1) := by decide +kernel
theorem d_Mo_node_107 : decode b_Mo_node 107 = .ok (.goto 52, 3) := by decide +kernel
theorem d_Mo_node_110 : decode b_Mo_node 110 = .ok (.iload_n 2, 1) := by decide +kernel
theorem d_Mo_node_111 : decode b_Mo_node 111 = .ok (.iconst 2, 1) := by decide +kernel
theorem d_Mo_node_112 : decode b_Mo_node 112 = .ok (.if_icmp .ne 20, 3) := by decide +kernel
theorem d_Mo_node_115 : decode b_Mo_node 115 = .ok (.aload_n 0, 1) := by decide +kernel
theorem d_Mo_node_116 : decode b_Mo_node 116 = .ok (.getfield 13, 3) := by decide +kernel
theorem d_Mo_node_119 : decode b_Mo_node 119 = .ok (.iload_n 1, 1) := by decide +kernel
theorem d_Mo_node_120 : decode b_Mo_node 120 = .ok (.baload, 1) := by decide +kernel
theorem d_Mo_node_121 : decode b_Mo_node 121 = .ok (.ifCond .eq 7, 3) := by decide +kernel
theorem d_Mo_node_124 : decode b_Mo_node 124 = .ok (.iconst 1, 1) := by decide +kernel
theorem d_Mo_node_125 : decode b_Mo_node 125 = .ok (.goto 34, 3) := by decide +kernel
theorem d_Mo_node_128 : decode b_Mo_node 128 = .ok (.iconst 0, 1) := by decide +kernel
theorem d_Mo_node_129 : decode b_Mo_node 129 = .ok (.goto 30, 3) := by decide +kernel
theorem d_Mo_node_132 : decode b_Mo_node 132 = .ok (.iload_n 2, 1) := by decide +kernel
theorem d_Mo_node_133 : decode b_Mo_node 133 = .ok (.bipush 7, 2) := by decide +kernel
theorem d_Mo_node_135 : decode b_Mo_node 135 = .ok (.if_icmp .ne 12, 3) := by decide +kernel
theorem d_Mo_node_138 : decode b_Mo_node 138 = .ok (.aload_n 0, 1) := by decide +kernel
theorem d_Mo_node_139 : decode b_Mo_node 139 = .ok (.getfield 20, 3) := by decide +kernel
theorem d_Mo_node_142 : decode b_Mo_node 142 = .ok (.iload_n 1, 1) := by decide +kernel
theorem d_Mo_node_143 : decode b_Mo_node 143 = .ok (.iaload, 1) := by decide +kernel
theorem d_Mo_node_144 : decode b_Mo_node 144 = .ok (.goto 15, 3) := by decide +kernel
theorem d_Mo_node_147 : decode b_Mo_node 147 = .ok (.aload_n 0, 1) := by decide +kernel
theorem d_Mo_node_148 : decode b_Mo_node 148 = .ok (.getfield 16, 3) := by decide +kernel
theorem d_Mo_node_151 : decode b_Mo_node 151 = .ok (.iconst 4, 1) := by decide +kernel
theorem d_Mo_node_152 : decode b_Mo_node 152 = .ok (.iload_n 1, 1) := by decide +kernel
theorem d_Mo_node_153 : decode b_Mo_node 153 = .ok (.imul, 1) := by decide +kernel
theorem d_Mo_node_154 : decode b_Mo_node 154 = .ok (.iload_n 2, 1) := by decide +kernel
theorem d_Mo_node_155 : decode b_Mo_node 155 = .ok (.iadd, 1) := by decide +kernel
theorem d_Mo_node_156 : decode b_Mo_node 156 = .ok (.iconst 3, 1) := by decide +kernel
theorem d_Mo_node_157 : decode b_Mo_node 157 = .ok (.isub, 1) := by decide +kernel
theorem d_Mo_node_158 : decode b_Mo_node 158 = .ok (.iaload, 1) := by decide +kernel
theorem d_Mo_node_159 : decode b_Mo_node 159 = .ok (.ireturn, 1) := by decide +kernel
theorem d_Mo_neighbour_0 : decode b_Mo_neighbour 0 = .ok (.iload_n 1, 1) := by decide +kernel
theorem d_Mo_neighbour_1 : decode b_Mo_neighbour 1 = .ok (.iconst 0, 1) := by decide +kernel
theorem d_Mo_neighbour_2 : decode b_Mo_neighbour 2 = .ok (.bipush 29, 2) := by decide +kernel
theorem d_Mo_neighbour_4 : decode b_Mo_neighbour 4 = .ok (.invokestatic 136, 3) := by decide +kernel
theorem d_Mo_neighbour_7 : decode b_Mo_neighbour 7 = .ok (.ifCond .eq 51, 3) := by decide +kernel
theorem d_Mo_neighbour_10 : decode b_Mo_neighbour 10 = .ok (.aload_n 0, 1) := by decide +kernel
theorem d_Mo_neighbour_11 : decode b_Mo_neighbour 11 = .ok (.getfield 7, 3) := by decide +kernel
theorem d_Mo_neighbour_14 : decode b_Mo_neighbour 14 = .ok (.iload_n 1, 1) := by decide +kernel
theorem d_Mo_neighbour_15 : decode b_Mo_neighbour 15 = .ok (.baload, 1) := by decide +kernel
theorem d_Mo_neighbour_16 : decode b_Mo_neighbour 16 = .ok (.ifCond .eq 42, 3) := by decide +kernel
theorem d_Mo_neighbour_19 : decode b_Mo_neighbour 19 = .ok (.iload_n 2, 1) := by decide +kernel
theorem d_Mo_neighbour_20 : decode b_Mo_neighbour 20 = .ok (.iconst 0, 1) := by decide +kernel
theorem d_Mo_neighbour_21 : decode b_Mo_neighbour 21 = .ok (.iconst 3, 1) := by decide +kernel
theorem d_Mo_neighbour_22 : decode b_Mo_neighbour 22 = .ok (.invokestatic 136, 3) := by decide +kernel
theorem d_Mo_neighbour_25 : decode b_Mo_neighbour 25 = .ok (.ifCond .eq 33, 3) := by decide +kernel
theorem d_Mo_neighbour_28 : decode b_Mo_neighbour 28 = .ok (.iload_n 2, 1) := by decide +kernel
theorem d_Mo_neighbour_29 : decode b_Mo_neighbour 29 = .ok (.aload_n 0, 1) := by decide +kernel
theorem d_Mo_neighbour_30 : decode b_Mo_neighbour 30 = .ok (.getfield 23, 3) := by decide +kernel
theorem d_Mo_neighbour_33 : decode b_Mo_neighbour 33 = .ok (.iload_n 1, 1) := by decide +kernel
theorem d_Mo_neighbour_34 : decode b_Mo_neighbour 34 = .ok (.iaload, 1) := by decide +kernel
theorem d_Mo_neighbour_35 : decode b_Mo_neighbour 35 = .ok (.if_icmp .gt 23, 3) := by decide +kernel
theorem d_Mo_neighbour_38 : decode b_Mo_neighbour 38 = .ok (.iload_n 3, 1) := by decide +kernel
theorem d_Mo_neighbour_39 : decode b_Mo_neighbour 39 = .ok (.iconst 0, 1) := by decide +kernel
theorem d_Mo_neighbour_40 : decode b_Mo_neighbour 40 = .ok (.aload_n 0, 1) := by decide +kernel
theorem d_Mo_neighbour_41 : decode b_Mo_neighbour 41 = .ok (.getfield 32, 3) := by decide +kernel
theorem d_Mo_neighbour_44 : decode b_Mo_neighbour 44 = .ok (.iconst 4, 1) := by decide +kernel
theorem d_Mo_neighbour_45 : decode b_Mo_neighbour 45 = .ok (.iload_n 1, 1) := by decide +kernel
theorem d_Mo_neighbour_46 : decode b_Mo_neighbour 46 = .ok (.imul, 1) := by decide +kernel
theorem d_Mo_neighbour_47 : decode b_Mo_neighbour 47 = .ok (.iload_n 2, 1) := by decide +kernel
theorem d_Mo_neighbour_48 : decode b_Mo_neighbour 48 = .ok (.iadd, 1) := by decide +kernel
theorem d_Mo_neighbour_49 : decode b_Mo_neighbour 49 = .ok (.iaload, 1) := by decide +kernel
theorem d_Mo_neighbour_50 : decode b_Mo_neighbour 50 = .ok (.iconst 1, 1) := by decide +kernel
theorem d_Mo_neighbour_51 : decode b_Mo_neighbour 51 = .ok (.isub, 1) := by decide +kernel
theorem d_Mo_neighbour_52 : decode b_Mo_neighbour 52 = .ok (.invokestatic 136, 3) := by decide +kernel
theorem d_Mo_neighbour_55 : decode b_Mo_neighbour 55 = .ok (.ifCond .ne 6, 3) := by decide +kernel
theorem d_Mo_neighbour_58 : decode b_Mo_neighbour 58 = .ok (.bipush (-2), 2) := by decide +kernel
theorem d_Mo_neighbour_60 : decode b_Mo_neighbour 60 = .ok (.ireturn, 1) := by decide +kernel
theorem d_Mo_neighbour_61 : decode b_Mo_neighbour 61 = .ok (.aload_n 0, 1) := by decide +kernel
theorem d_Mo_neighbour_62 : decode b_Mo_neighbour 62 = .ok (.getfield 29, 3) := by decide +kernel
theorem d_Mo_neighbour_65 : decode b_Mo_neighbour 65 = .ok (.bipush 7, 2) := by decide +kernel
theorem d_Mo_neighbour_67 : decode b_Mo_neighbour 67 = .ok (.iconst 4, 1) := by decide +kernel
theorem d_Mo_neighbour_68 : decode b_Mo_neighbour 68 = .ok (.iload_n 1, 1) := by decide +kernel
theorem d_Mo_neighbour_69 : decode b_Mo_neighbour 69 = .ok (.imul, 1) := by decide +kernel
theorem d_Mo_neighbour_70 : decode b_Mo_neighbour 70 = .ok (.iload_n 2, 1) := by decide +kernel
theorem d_Mo_neighbour_71 : decode b_Mo_neighbour 71 = .ok (.iadd, 1) := by decide +kernel
theorem d_Mo_neighbour_72 : decode b_Mo_neighbour 72 = .ok (.imul, 1) := by decide +kernel
theorem d_Mo_neighbour_73 : decode b_Mo_neighbour 73 = .ok (.iload_n 3, 1) := by decide +kernel
theorem d_Mo_neighbour_74 : decode b_Mo_neighbour 74 = .ok (.iadd, 1) := by decide +kernel
theorem d_Mo_neighbour_75 : decode b_Mo_neighbour 75 = .ok (.iaload, 1) := by decide +kernel
theorem d_Mo_neighbour_76 : decode b_Mo_neighbour 76 = .ok (.ireturn, 1) := by decide +kernel
theorem d_Mo_count_0 : decode b_Mo_count 0 = .ok (.iload_n 1, 1) := by decide +kernel
theorem d_Mo_count_1 : decode b_Mo_count 1 = .ok (.tableswitch 142 0 9 #[55, 63, 71, 88, 110, 116, 122, 127, 132, 137], 55) := by decide +kernel
theorem d_Mo_count_56 : decode b_Mo_count 56 = .ok (.aload_n 0, 1) := by decide +kernel
theorem d_Mo_count_57 : decode b_Mo_count 57 = .ok (.getfield 7, 3) := by decide +kernel
theorem d_Mo_count_60 : decode b_Mo_count 60 = .ok (.invokestatic 86, 3) := by decide +kernel
theorem d_Mo_count_63 : decode b_Mo_count 63 = .ok (.ireturn, 1) := by decide +kernel
theorem d_Mo_count_64 : decode b_Mo_count 64 = .ok (.aload_n 0, 1) := by decide +kernel
theorem d_Mo_count_65 : decode b_Mo_count 65 = .ok (.getfield 13, 3) := by decide +kernel
theorem d_Mo_count_68 : decode b_Mo_count 68 = .ok (.invokestatic 86, 3) := by decide +kernel
theorem d_Mo_count_71 : decode b_Mo_count 71 = .ok (.ireturn, 1) := by decide +kernel
theorem d_Mo_count_72 : decode b_Mo_count 72 = .ok (.aload_n 0, 1) := by decide +kernel
theorem d_Mo_count_73 : decode b_Mo_count 73 = .ok (.getfield 35, 3) := by decide +kernel
theorem d_Mo_count_76 : decode b_Mo_count 76 = .ok (.ifCond .ge 8, 3) := by decide +kernel
theorem d_Mo_count_79 : decode b_Mo_count 79 = .ok (.bipush (-2), 2) := by decide +kernel
theorem d_Mo_count_81 : decode b_Mo_count 81 = .ok (.goto 7, 3) := by decide +kernel
theorem d_Mo_count_84 : decode b_Mo_count 84 = .ok (.aload_n 0, 1) := by decide +kernel
theorem d_Mo_count_85 : decode b_Mo_count 85 = .ok (.getfield 35, 3) := by decide +kernel
theorem d_Mo_count_88 : decode b_Mo_count 88 = .ok (.ireturn, 1) := by decide +kernel
theorem d_Mo_count_89 : decode b_Mo_count 89 = .ok (.aload_n 0, 1) := by decide +kernel
theorem d_Mo_count_90 : decode b_Mo_count 90 = .ok (.getfield 35, 3) := by decide +kernel
theorem d_Mo_count_93 : decode b_Mo_count 93 = .ok (.ifCond .ge 8, 3) := by decide +kernel
theorem d_Mo_count_96 : decode b_Mo_count 96 = .ok (.bipush (-2), 2) := by decide +kernel
theorem d_Mo_count_98 : decode b_Mo_count 98 = .ok (.goto 12, 3) := by decide +kernel
theorem d_Mo_count_101 : decode b_Mo_count 101 = .ok (.aload_n 0, 1) := by decide +kernel
theorem d_Mo_count_102 : decode b_Mo_count 102 = .ok (.getfield 23, 3) := by decide +kernel
theorem d_Mo_count_105 : decode b_Mo_count 105 = .ok (.aload_n 0, 1) := by decide +kernel
theorem d_Mo_count_106 : decode b_Mo_count 106 = .ok (.getfield 35, 3) := by decide +kernel
theorem d_Mo_count_109 : decode b_Mo_count 109 = .ok (.iaload, 1) := by decide +kernel
theorem d_Mo_count_110 : decode b_Mo_count 110 = .ok (.ireturn, 1) := by decide +kernel
theorem d_Mo_count_111 : decode b_Mo_count 111 = .ok (.aload_n 0, 1) := by decide +kernel
theorem d_Mo_count_112 : decode b_Mo_count 112 = .ok (.getfield 147, 3) := by decide +kernel
theorem d_Mo_count_115 : decode b_Mo_count 115 = .ok (.l2i, 1) := by decide +kernel
theorem d_Mo_count_116 : decode b_Mo_count 116 = .ok (.ireturn, 1) := by decide +kernel
theorem d_Mo_count_117 : decode b_Mo_count 117 = .ok (.aload_n 0, 1) := by decide +kernel
theorem d_Mo_count_118 : decode b_Mo_count 118 = .ok (.getfield 120, 3) := by decide +kernel
theorem d_Mo_count_121 : decode b_Mo_count 121 = .ok (.l2i, 1) := by decide +kernel
theorem d_Mo_count_122 : decode b_Mo_count 122 = .ok (.ireturn, 1) := by decide +kernel
theorem d_Mo_count_123 : decode b_Mo_count 123 = .ok (.aload_n 0, 1) := by decide +kernel
theorem d_Mo_count_124 : decode b_Mo_count 124 = .ok (.getfield 153, 3) := by decide +kernel
theorem d_Mo_count_127 : decode b_Mo_count 127 = .ok (.ireturn, 1) := by decide +kernel
theorem d_Mo_count_128 : decode b_Mo_count 128 = .ok (.aload_n 0, 1) := by decide +kernel
theorem d_Mo_count_129 : decode b_Mo_count 129 = .ok (.invokevirtual 174, 3) := by decide +kernel
theorem d_Mo_count_132 : decode b_Mo_count 132 = .ok (.ireturn, 1) := by decide +kernel
theorem d_Mo_count_133 : decode b_Mo_count 133 = .ok (.aload_n 0, 1) := by decide +kernel
theorem d_Mo_count_134 : decode b_Mo_count 134 = .ok (.invokevirtual 178, 3) := by decide +kernel
theorem d_Mo_count_137 : decode b_Mo_count 137 = .ok (.ireturn, 1) := by decide +kernel
theorem d_Mo_count_138 : decode b_Mo_count 138 = .ok (.aload_n 0, 1) := by decide +kernel
theorem d_Mo_count_139 : decode b_Mo_count 139 = .ok (.invokevirtual 181, 3) := by decide +kernel
theorem d_Mo_count_142 : decode b_Mo_count 142 = .ok (.ireturn, 1) := by decide +kernel
theorem d_Mo_count_143 : decode b_Mo_count 143 = .ok (.iconst (-1), 1) := by decide +kernel
theorem d_Mo_count_144 : decode b_Mo_count 144 = .ok (.ireturn, 1) := by decide +kernel
theorem d_Mo_right_0 : decode b_Mo_right 0 = .ok (.aload_n 0, 1) := by decide +kernel
theorem d_Mo_right_1 : decode b_Mo_right 1 = .ok (.invokevirtual 144, 3) := by decide +kernel
theorem d_Mo_right_4 : decode b_Mo_right 4 = .ok (.iconst 0, 1) := by decide +kernel
theorem d_Mo_right_5 : decode b_Mo_right 5 = .ok (.istore_n 1, 1) := by decide +kernel
theorem d_Mo_right_6 : decode b_Mo_right 6 = .ok (.iconst 0, 1) := by decide +kernel
theorem d_Mo_right_7 : decode b_Mo_right 7 = .ok (.istore_n 2, 1) := by decide +kernel
theorem d_Mo_right_8 : decode b_Mo_right 8 = .ok (.iload_n 2, 1) := by decide +kernel
theorem d_Mo_right_9 : decode b_Mo_right 9 = .ok (.aload_n 0, 1) := by decide +kernel
theorem d_Mo_right_10 : decode b_Mo_right 10 = .ok (.getfield 153, 3) := by decide +kernel
theorem d_Mo_right_13 : decode b_Mo_right 13 = .ok (.if_icmp .ge 80, 3) := by decide +kernel
theorem d_Mo_right_16 : decode b_Mo_right 16 = .ok (.iconst 0, 1) := by decide +kernel
theorem d_Mo_right_17 : decode b_Mo_right 17 = .ok (.istore_n 3, 1) := by decide +kernel
theorem d_Mo_right_18 : decode b_Mo_right 18 = .ok (.iconst 0, 1) := by decide +kernel
theorem d_Mo_right_19 : decode b_Mo_right 19 = .ok (.istore 4, 2) := by decide +kernel
theorem d_Mo_right_21 : decode b_Mo_right 21 = .ok (.iload 4, 2) := by decide +kernel
theorem d_Mo_right_23 : decode b_Mo_right 23 = .ok (.bipush 30, 2) := by decide +kernel
theorem d_Mo_right_25 : decode b_Mo_right 25 = .ok (.if_icmp .ge 37, 3) := by decide +kernel
theorem d_Mo_right_28 : decode b_Mo_right 28 = .ok (.aload_n 0, 1) := by decide +kernel
theorem d_Mo_right_29 : decode b_Mo_right 29 = .ok (.getfield 13, 3) := by decide +kernel
theorem d_Mo_right_32 : decode b_Mo_right 32 = .ok (.iload 4, 2) := by decide +kernel
theorem d_Mo_right_34 : decode b_Mo_right 34 = .ok (.baload, 1) := by decide +kernel
theorem d_Mo_right_35 : decode b_Mo_right 35 = .ok (.ifCond .eq 21, 3) := by decide +kernel
theorem d_Mo_right_38 : decode b_Mo_right 38 = .ok (.aload_n 0, 1) := by decide +kernel
theorem d_Mo_right_39 : decode b_Mo_right 39 = .ok (.iload 4, 2) := by decide +kernel
theorem d_Mo_right_41 : decode b_Mo_right 41 = .ok (.aload_n 0, 1) := by decide +kernel
theorem d_Mo_right_42 : decode b_Mo_right 42 = .ok (.getfield 66, 3) := by decide +kernel
theorem d_Mo_right_45 : decode b_Mo_right 45 = .ok (.iload_n 2, 1) := by decide +kernel
theorem d_Mo_right_46 : decode b_Mo_right 46 = .ok (.iaload, 1) := by decide +kernel
theorem d_Mo_right_47 : decode b_Mo_right 47 = .ok (.invokevirtual 79, 3) := by decide +kernel
theorem d_Mo_right_50 : decode b_Mo_right 50 = .ok (.ifCond .eq 6, 3) := by decide +kernel
theorem d_Mo_right_53 : decode b_Mo_right 53 = .ok (.iinc 3 1, 3) := by decide +kernel
theorem d_Mo_right_56 : decode b_Mo_right 56 = .ok (.iinc 4 1, 3) := by decide +kernel
theorem d_Mo_right_59 : decode b_Mo_right 59 = .ok (.goto (-38), 3) := by decide +kernel
theorem d_Mo_right_62 : decode b_Mo_right 62 = .ok (.aload_n 0, 1) := by decide +kernel
theorem d_Mo_right_63 : decode b_Mo_right 63 = .ok (.getfield 13, 3) := by decide +kernel
theorem d_Mo_right_66 : decode b_Mo_right 66 = .ok (.aload_n 0, 1) := by decide +kernel
theorem d_Mo_right_67 : decode b_Mo_right 67 = .ok (.getfield 66, 3) := by decide +kernel
theorem d_Mo_right_70 : decode b_Mo_right 70 = .ok (.iload_n 2, 1) := by decide +kernel
theorem d_Mo_right_71 : decode b_Mo_right 71 = .ok (.iaload, 1) := by decide +kernel
theorem d_Mo_right_72 : decode b_Mo_right 72 = .ok (.baload, 1) := by decide +kernel
theorem d_Mo_right_73 : decode b_Mo_right 73 = .ok (.ifCond .eq 14, 3) := by decide +kernel
theorem d_Mo_right_76 : decode b_Mo_right 76 = .ok (.iload_n 3, 1) := by decide +kernel
theorem d_Mo_right_77 : decode b_Mo_right 77 = .ok (.aload_n 0, 1) := by decide +kernel
theorem d_Mo_right_78 : decode b_Mo_right 78 = .ok (.getfield 153, 3) := by decide +kernel
theorem d_Mo_right_81 : decode b_Mo_right 81 = .ok (.if_icmp .ge 6, 3) := by decide +kernel
theorem d_Mo_right_84 : decode b_Mo_right 84 = .ok (.iinc 1 1, 3) := by decide +kernel
theorem d_Mo_right_87 : decode b_Mo_right 87 = .ok (.iinc 2 1, 3) := by decide +kernel
theorem d_Mo_right_90 : decode b_Mo_right 90 = .ok (.goto (-82), 3) := by decide +kernel
theorem d_Mo_right_93 : decode b_Mo_right 93 = .ok (.iload_n 1, 1) := by decide +kernel
theorem d_Mo_right_94 : decode b_Mo_right 94 = .ok (.ireturn, 1) := by decide +kernel
theorem d_Mo_oneSided_0 : decode b_Mo_oneSided 0 = .ok (.iconst 0, 1) := by decide +kernel
theorem d_Mo_oneSided_1 : decode b_Mo_oneSided 1 = .ok (.istore_n 1, 1) := by decide +kernel
theorem d_Mo_oneSided_2 : decode b_Mo_oneSided 2 = .ok (.iconst 0, 1) := by decide +kernel
theorem d_Mo_oneSided_3 : decode b_Mo_oneSided 3 = .ok (.istore_n 2, 1) := by decide +kernel
theorem d_Mo_oneSided_4 : decode b_Mo_oneSided 4 = .ok (.iload_n 2, 1) := by decide +kernel
theorem d_Mo_oneSided_5 : decode b_Mo_oneSided 5 = .ok (.bipush 30, 2) := by decide +kernel
theorem d_Mo_oneSided_7 : decode b_Mo_oneSided 7 = .ok (.if_icmp .ge 62, 3) := by decide +kernel
theorem d_Mo_oneSided_10 : decode b_Mo_oneSided 10 = .ok (.iconst 0, 1) := by decide +kernel
theorem d_Mo_oneSided_11 : decode b_Mo_oneSided 11 = .ok (.istore_n 3, 1) := by decide +kernel
theorem d_Mo_oneSided_12 : decode b_Mo_oneSided 12 = .ok (.iload_n 3, 1) := by decide +kernel
theorem d_Mo_oneSided_13 : decode b_Mo_oneSided 13 = .ok (.bipush 30, 2) := by decide +kernel
theorem d_Mo_oneSided_15 : decode b_Mo_oneSided 15 = .ok (.if_icmp .ge 48, 3) := by decide +kernel
theorem d_Mo_oneSided_18 : decode b_Mo_oneSided 18 = .ok (.aload_n 0, 1) := by decide +kernel
theorem d_Mo_oneSided_19 : decode b_Mo_oneSided 19 = .ok (.getfield 7, 3) := by decide +kernel
theorem d_Mo_oneSided_22 : decode b_Mo_oneSided 22 = .ok (.iload_n 2, 1) := by decide +kernel
theorem d_Mo_oneSided_23 : decode b_Mo_oneSided 23 = .ok (.baload, 1) := by decide +kernel
theorem d_Mo_oneSided_24 : decode b_Mo_oneSided 24 = .ok (.ifCond .eq 33, 3) := by decide +kernel
theorem d_Mo_oneSided_27 : decode b_Mo_oneSided 27 = .ok (.aload_n 0, 1) := by decide +kernel
theorem d_Mo_oneSided_28 : decode b_Mo_oneSided 28 = .ok (.getfield 7, 3) := by decide +kernel
theorem d_Mo_oneSided_31 : decode b_Mo_oneSided 31 = .ok (.iload_n 3, 1) := by decide +kernel
theorem d_Mo_oneSided_32 : decode b_Mo_oneSided 32 = .ok (.baload, 1) := by decide +kernel
theorem d_Mo_oneSided_33 : decode b_Mo_oneSided 33 = .ok (.ifCond .eq 24, 3) := by decide +kernel
theorem d_Mo_oneSided_36 : decode b_Mo_oneSided 36 = .ok (.aload_n 0, 1) := by decide +kernel
theorem d_Mo_oneSided_37 : decode b_Mo_oneSided 37 = .ok (.iload_n 3, 1) := by decide +kernel
theorem d_Mo_oneSided_38 : decode b_Mo_oneSided 38 = .ok (.iload_n 2, 1) := by decide +kernel
theorem d_Mo_oneSided_39 : decode b_Mo_oneSided 39 = .ok (.invokevirtual 171, 3) := by decide +kernel
theorem d_Mo_oneSided_42 : decode b_Mo_oneSided 42 = .ok (.ifCond .eq 15, 3) := by decide +kernel
theorem d_Mo_oneSided_45 : decode b_Mo_oneSided 45 = .ok (.aload_n 0, 1) := by decide +kernel
theorem d_Mo_oneSided_46 : decode b_Mo_oneSided 46 = .ok (.iload_n 2, 1) := by decide +kernel
theorem d_Mo_oneSided_47 : decode b_Mo_oneSided 47 = .ok (.iload_n 3, 1) := by decide +kernel
theorem d_Mo_oneSided_48 : decode b_Mo_oneSided 48 = .ok (.invokevirtual 171, 3) := by decide +kernel
theorem d_Mo_oneSided_51 : decode b_Mo_oneSided 51 = .ok (.ifCond .ne 6, 3) := by decide +kernel
theorem d_Mo_oneSided_54 : decode b_Mo_oneSided 54 = .ok (.iinc 1 1, 3) := by decide +kernel
theorem d_Mo_oneSided_57 : decode b_Mo_oneSided 57 = .ok (.iinc 3 1, 3) := by decide +kernel
theorem d_Mo_oneSided_60 : decode b_Mo_oneSided 60 = .ok (.goto (-48), 3) := by decide +kernel
theorem d_Mo_oneSided_63 : decode b_Mo_oneSided 63 = .ok (.iinc 2 1, 3) := by decide +kernel
theorem d_Mo_oneSided_66 : decode b_Mo_oneSided 66 = .ok (.goto (-62), 3) := by decide +kernel
theorem d_Mo_oneSided_69 : decode b_Mo_oneSided 69 = .ok (.iload_n 1, 1) := by decide +kernel
theorem d_Mo_oneSided_70 : decode b_Mo_oneSided 70 = .ok (.ireturn, 1) := by decide +kernel
theorem d_Mo_isNeighbour_0 : decode b_Mo_isNeighbour 0 = .ok (.bipush 28, 2) := by decide +kernel
theorem d_Mo_isNeighbour_2 : decode b_Mo_isNeighbour 2 = .ok (.iload_n 2, 1) := by decide +kernel
theorem d_Mo_isNeighbour_3 : decode b_Mo_isNeighbour 3 = .ok (.imul, 1) := by decide +kernel
theorem d_Mo_isNeighbour_4 : decode b_Mo_isNeighbour 4 = .ok (.istore_n 3, 1) := by decide +kernel
theorem d_Mo_isNeighbour_5 : decode b_Mo_isNeighbour 5 = .ok (.iload_n 3, 1) := by decide +kernel
theorem d_Mo_isNeighbour_6 : decode b_Mo_isNeighbour 6 = .ok (.bipush 28, 2) := by decide +kernel
theorem d_Mo_isNeighbour_8 : decode b_Mo_isNeighbour 8 = .ok (.iload_n 2, 1) := by decide +kernel
theorem d_Mo_isNeighbour_9 : decode b_Mo_isNeighbour 9 = .ok (.imul, 1) := by decide +kernel
theorem d_Mo_isNeighbour_10 : decode b_Mo_isNeighbour 10 = .ok (.aload_n 0, 1) := by decide +kernel
theorem d_Mo_isNeighbour_11 : decode b_Mo_isNeighbour 11 = .ok (.getfield 32, 3) := by decide +kernel
theorem d_Mo_isNeighbour_14 : decode b_Mo_isNeighbour 14 = .ok (.iconst 4, 1) := by decide +kernel
theorem d_Mo_isNeighbour_15 : decode b_Mo_isNeighbour 15 = .ok (.iload_n 2, 1) := by decide +kernel
theorem d_Mo_isNeighbour_16 : decode b_Mo_isNeighbour 16 = .ok (.imul, 1) := by decide +kernel
theorem d_Mo_isNeighbour_17 : decode b_Mo_isNeighbour 17 = .ok (.iaload, 1) := by decide +kernel
theorem d_Mo_isNeighbour_18 : decode b_Mo_isNeighbour 18 = .ok (.iadd, 1) := by decide +kernel
theorem d_Mo_isNeighbour_19 : decode b_Mo_isNeighbour 19 = .ok (.if_icmp .ge 21, 3) := by decide +kernel
theorem d_Mo_isNeighbour_22 : decode b_Mo_isNeighbour 22 = .ok (.aload_n 0, 1) := by decide +kernel
theorem d_Mo_isNeighbour_23 : decode b_Mo_isNeighbour 23 = .ok (.getfield 29, 3) := by decide +kernel
theorem d_Mo_isNeighbour_26 : decode b_Mo_isNeighbour 26 = .ok (.iload_n 3, 1) := by decide +kernel
theorem d_Mo_isNeighbour_27 : decode b_Mo_isNeighbour 27 = .ok (.iaload, 1) := by decide +kernel
theorem d_Mo_isNeighbour_28 : decode b_Mo_isNeighbour 28 = .ok (.iload_n 1, 1) := by decide +kernel
theorem d_Mo_isNeighbour_29 : decode b_Mo_isNeighbour 29 = .ok (.if_icmp .ne 5, 3) := by decide +kernel
theorem d_Mo_isNeighbour_32 : decode b_Mo_isNeighbour 32 = .ok (.iconst 1, 1) := by decide +kernel
theorem d_Mo_isNeighbour_33 : decode b_Mo_isNeighbour 33 = .ok (.ireturn, 1) := by decide +kernel
theorem d_Mo_isNeighbour_34 : decode b_Mo_isNeighbour 34 = .ok (.iinc 3 1, 3) := by decide +kernel
theorem d_Mo_isNeighbour_37 : decode b_Mo_isNeighbour 37 = .ok (.goto (-32), 3) := by decide +kernel
theorem d_Mo_isNeighbour_40 : decode b_Mo_isNeighbour 40 = .ok (.iconst 0, 1) := by decide +kernel
theorem d_Mo_isNeighbour_41 : decode b_Mo_isNeighbour 41 = .ok (.ireturn, 1) := by decide +kernel
theorem d_Mo_reached_0 : decode b_Mo_reached 0 = .ok (.iconst 0, 1) := by decide +kernel
theorem d_Mo_reached_1 : decode b_Mo_reached 1 = .ok (.istore_n 1, 1) := by decide +kernel
theorem d_Mo_reached_2 : decode b_Mo_reached 2 = .ok (.iload_n 1, 1) := by decide +kernel
theorem d_Mo_reached_3 : decode b_Mo_reached 3 = .ok (.bipush 30, 2) := by decide +kernel
theorem d_Mo_reached_5 : decode b_Mo_reached 5 = .ok (.if_icmp .ge 28, 3) := by decide +kernel
theorem d_Mo_reached_8 : decode b_Mo_reached 8 = .ok (.aload_n 0, 1) := by decide +kernel
theorem d_Mo_reached_9 : decode b_Mo_reached 9 = .ok (.getfield 45, 3) := by decide +kernel
theorem d_Mo_reached_12 : decode b_Mo_reached 12 = .ok (.iload_n 1, 1) := by decide +kernel
theorem d_Mo_reached_13 : decode b_Mo_reached 13 = .ok (.iload_n 1, 1) := by decide +kernel
theorem d_Mo_reached_14 : decode b_Mo_reached 14 = .ok (.aload_n 0, 1) := by decide +kernel
theorem d_Mo_reached_15 : decode b_Mo_reached 15 = .ok (.getfield 35, 3) := by decide +kernel
theorem d_Mo_reached_18 : decode b_Mo_reached 18 = .ok (.if_icmp .ne 7, 3) := by decide +kernel
theorem d_Mo_reached_21 : decode b_Mo_reached 21 = .ok (.iconst 1, 1) := by decide +kernel
theorem d_Mo_reached_22 : decode b_Mo_reached 22 = .ok (.goto 4, 3) := by decide +kernel
theorem d_Mo_reached_25 : decode b_Mo_reached 25 = .ok (.iconst 0, 1) := by decide +kernel
theorem d_Mo_reached_26 : decode b_Mo_reached 26 = .ok (.bastore, 1) := by decide +kernel
theorem d_Mo_reached_27 : decode b_Mo_reached 27 = .ok (.iinc 1 1, 3) := by decide +kernel
theorem d_Mo_reached_30 : decode b_Mo_reached 30 = .ok (.goto (-28), 3) := by decide +kernel
theorem d_Mo_reached_33 : decode b_Mo_reached 33 = .ok (.iconst 0, 1) := by decide +kernel
theorem d_Mo_reached_34 : decode b_Mo_reached 34 = .ok (.istore_n 1, 1) := by decide +kernel
theorem d_Mo_reached_35 : decode b_Mo_reached 35 = .ok (.iload_n 1, 1) := by decide +kernel
theorem d_Mo_reached_36 : decode b_Mo_reached 36 = .ok (.bipush 30, 2) := by decide +kernel
theorem d_Mo_reached_38 : decode b_Mo_reached 38 = .ok (.if_icmp .ge 62, 3) := by decide +kernel
theorem d_Mo_reached_41 : decode b_Mo_reached 41 = .ok (.iconst 0, 1) := by decide +kernel
theorem d_Mo_reached_42 : decode b_Mo_reached 42 = .ok (.istore_n 2, 1) := by decide +kernel
theorem d_Mo_reached_43 : decode b_Mo_reached 43 = .ok (.iload_n 2, 1) := by decide +kernel
theorem d_Mo_reached_44 : decode b_Mo_reached 44 = .ok (.bipush 30, 2) := by decide +kernel
theorem d_Mo_reached_46 : decode b_Mo_reached 46 = .ok (.if_icmp .ge 48, 3) := by decide +kernel
theorem d_Mo_reached_49 : decode b_Mo_reached 49 = .ok (.iconst 0, 1) := by decide +kernel
theorem d_Mo_reached_50 : decode b_Mo_reached 50 = .ok (.istore_n 3, 1) := by decide +kernel
theorem d_Mo_reached_51 : decode b_Mo_reached 51 = .ok (.iload_n 3, 1) := by decide +kernel
theorem d_Mo_reached_52 : decode b_Mo_reached 52 = .ok (.bipush 30, 2) := by decide +kernel
theorem d_Mo_reached_54 : decode b_Mo_reached 54 = .ok (.if_icmp .ge 34, 3) := by decide +kernel
theorem d_Mo_reached_57 : decode b_Mo_reached 57 = .ok (.aload_n 0, 1) := by decide +kernel
theorem d_Mo_reached_58 : decode b_Mo_reached 58 = .ok (.getfield 45, 3) := by decide +kernel
theorem d_Mo_reached_61 : decode b_Mo_reached 61 = .ok (.iload_n 2, 1) := by decide +kernel
theorem d_Mo_reached_62 : decode b_Mo_reached 62 = .ok (.baload, 1) := by decide +kernel
theorem d_Mo_reached_63 : decode b_Mo_reached 63 = .ok (.ifCond .eq 19, 3) := by decide +kernel
theorem d_Mo_reached_66 : decode b_Mo_reached 66 = .ok (.aload_n 0, 1) := by decide +kernel
theorem d_Mo_reached_67 : decode b_Mo_reached 67 = .ok (.iload_n 3, 1) := by decide +kernel
theorem d_Mo_reached_68 : decode b_Mo_reached 68 = .ok (.iload_n 2, 1) := by decide +kernel
theorem d_Mo_reached_69 : decode b_Mo_reached 69 = .ok (.invokevirtual 171, 3) := by decide +kernel
theorem d_Mo_reached_72 : decode b_Mo_reached 72 = .ok (.ifCond .eq 10, 3) := by decide +kernel
theorem d_Mo_reached_75 : decode b_Mo_reached 75 = .ok (.aload_n 0, 1) := by decide +kernel
theorem d_Mo_reached_76 : decode b_Mo_reached 76 = .ok (.getfield 45, 3) := by decide +kernel
theorem d_Mo_reached_79 : decode b_Mo_reached 79 = .ok (.iload_n 3, 1) := by decide +kernel
theorem d_Mo_reached_80 : decode b_Mo_reached 80 = .ok (.iconst 1, 1) := by decide +kernel
theorem d_Mo_reached_81 : decode b_Mo_reached 81 = .ok (.bastore, 1) := by decide +kernel
theorem d_Mo_reached_82 : decode b_Mo_reached 82 = .ok (.iinc 3 1, 3) := by decide +kernel
theorem d_Mo_reached_85 : decode b_Mo_reached 85 = .ok (.goto (-34), 3) := by decide +kernel
theorem d_Mo_reached_88 : decode b_Mo_reached 88 = .ok (.iinc 2 1, 3) := by decide +kernel
theorem d_Mo_reached_91 : decode b_Mo_reached 91 = .ok (.goto (-48), 3) := by decide +kernel
theorem d_Mo_reached_94 : decode b_Mo_reached 94 = .ok (.iinc 1 1, 3) := by decide +kernel
theorem d_Mo_reached_97 : decode b_Mo_reached 97 = .ok (.goto (-62), 3) := by decide +kernel
theorem d_Mo_reached_100 : decode b_Mo_reached 100 = .ok (.aload_n 0, 1) := by decide +kernel
theorem d_Mo_reached_101 : decode b_Mo_reached 101 = .ok (.getfield 45, 3) := by decide +kernel
theorem d_Mo_reached_104 : decode b_Mo_reached 104 = .ok (.invokestatic 86, 3) := by decide +kernel
theorem d_Mo_reached_107 : decode b_Mo_reached 107 = .ok (.ireturn, 1) := by decide +kernel
end
section
theorem d_La_law_0 : decode code 0 = .ok (.new 7, 3) := by decide +kernel
theorem d_La_law_3 : decode code 3 = .ok (.dup, 1) := by decide +kernel
theorem d_La_law_4 : decode code 4 = .ok (.invokespecial 9, 3) := by decide +kernel
theorem d_La_law_7 : decode code 7 = .ok (.astore_n 1, 1) := by decide +kernel
theorem d_La_law_8 : decode code 8 = .ok (.new 10, 3) := by decide +kernel
theorem d_La_law_11 : decode code 11 = .ok (.dup, 1) := by decide +kernel
theorem d_La_law_12 : decode code 12 = .ok (.invokespecial 12, 3) := by decide +kernel
theorem d_La_law_15 : decode code 15 = .ok (.astore_n 2, 1) := by decide +kernel
theorem d_La_law_16 : decode code 16 = .ok (.iconst 0, 1) := by decide +kernel
theorem d_La_law_17 : decode code 17 = .ok (.istore_n 3, 1) := by decide +kernel
theorem d_La_law_18 : decode code 18 = .ok (.iload_n 3, 1) := by decide +kernel
theorem d_La_law_19 : decode code 19 = .ok (.aload_n 0, 1) := by decide +kernel
theorem d_La_law_20 : decode code 20 = .ok (.arraylength, 1) := by decide +kernel
theorem d_La_law_21 : decode code 21 = .ok (.bipush 6, 2) := by decide +kernel
theorem d_La_law_23 : decode code 23 = .ok (.isub, 1) := by decide +kernel
theorem d_La_law_24 : decode code 24 = .ok (.if_icmp .gt 484, 3) := by decide +kernel
theorem d_La_law_27 : decode code 27 = .ok (.aload_n 0, 1) := by decide +kernel
theorem d_La_law_28 : decode code 28 = .ok (.iload_n 3, 1) := by decide +kernel
theorem d_La_law_29 : decode code 29 = .ok (.iaload, 1) := by decide +kernel
theorem d_La_law_30 : decode code 30 = .ok (.bipush 15, 2) := by decide +kernel
theorem d_La_law_32 : decode code 32 = .ok (.iand, 1) := by decide +kernel
theorem d_La_law_33 : decode code 33 = .ok (.tableswitch 469 0 11 #[63, 126, 149, 162, 215, 248, 271, 304, 337, 370, 403, 446], 63) := by decide +kernel
theorem d_La_law_96 : decode code 96 = .ok (.aload_n 1, 1) := by decide +kernel
theorem d_La_law_97 : decode code 97 = .ok (.aload_n 0, 1) := by decide +kernel
theorem d_La_law_98 : decode code 98 = .ok (.iload_n 3, 1) := by decide +kernel
theorem d_La_law_99 : decode code 99 = .ok (.iconst 1, 1) := by decide +kernel
theorem d_La_law_100 : decode code 100 = .ok (.iadd, 1) := by decide +kernel
theorem d_La_law_101 : decode code 101 = .ok (.iaload, 1) := by decide +kernel
theorem d_La_law_102 : decode code 102 = .ok (.aload_n 0, 1) := by decide +kernel
theorem d_La_law_103 : decode code 103 = .ok (.iload_n 3, 1) := by decide +kernel
theorem d_La_law_104 : decode code 104 = .ok (.iconst 2, 1) := by decide +kernel
theorem d_La_law_105 : decode code 105 = .ok (.iadd, 1) := by decide +kernel
theorem d_La_law_106 : decode code 106 = .ok (.iaload, 1) := by decide +kernel
theorem d_La_law_107 : decode code 107 = .ok (.aload_n 0, 1) := by decide +kernel
theorem d_La_law_108 : decode code 108 = .ok (.iload_n 3, 1) := by decide +kernel
theorem d_La_law_109 : decode code 109 = .ok (.iconst 3, 1) := by decide +kernel
theorem d_La_law_110 : decode code 110 = .ok (.iadd, 1) := by decide +kernel
theorem d_La_law_111 : decode code 111 = .ok (.iaload, 1) := by decide +kernel
theorem d_La_law_112 : decode code 112 = .ok (.aload_n 0, 1) := by decide +kernel
theorem d_La_law_113 : decode code 113 = .ok (.iload_n 3, 1) := by decide +kernel
theorem d_La_law_114 : decode code 114 = .ok (.iconst 4, 1) := by decide +kernel
theorem d_La_law_115 : decode code 115 = .ok (.iadd, 1) := by decide +kernel
theorem d_La_law_116 : decode code 116 = .ok (.iaload, 1) := by decide +kernel
theorem d_La_law_117 : decode code 117 = .ok (.aload_n 0, 1) := by decide +kernel
theorem d_La_law_118 : decode code 118 = .ok (.iload_n 3, 1) := by decide +kernel
theorem d_La_law_119 : decode code 119 = .ok (.iconst 5, 1) := by decide +kernel
theorem d_La_law_120 : decode code 120 = .ok (.iadd, 1) := by decide +kernel
theorem d_La_law_121 : decode code 121 = .ok (.iaload, 1) := by decide +kernel
theorem d_La_law_122 : decode code 122 = .ok (.invokevirtual 13, 3) := by decide +kernel
theorem d_La_law_125 : decode code 125 = .ok (.aload_n 2, 1) := by decide +kernel
theorem d_La_law_126 : decode code 126 = .ok (.aload_n 0, 1) := by decide +kernel
theorem d_La_law_127 : decode code 127 = .ok (.iload_n 3, 1) := by decide +kernel
theorem d_La_law_128 : decode code 128 = .ok (.iconst 1, 1) := by decide +kernel
theorem d_La_law_129 : decode code 129 = .ok (.iadd, 1) := by decide +kernel
theorem d_La_law_130 : decode code 130 = .ok (.iaload, 1) := by decide +kernel
theorem d_La_law_131 : decode code 131 = .ok (.aload_n 0, 1) := by decide +kernel
theorem d_La_law_132 : decode code 132 = .ok (.iload_n 3, 1) := by decide +kernel
theorem d_La_law_133 : decode code 133 = .ok (.iconst 2, 1) := by decide +kernel
theorem d_La_law_134 : decode code 134 = .ok (.iadd, 1) := by decide +kernel
theorem d_La_law_135 : decode code 135 = .ok (.iaload, 1) := by decide +kernel
theorem d_La_law_136 : decode code 136 = .ok (.aload_n 0, 1) := by decide +kernel
theorem d_La_law_137 : decode code 137 = .ok (.iload_n 3, 1) := by decide +kernel
theorem d_La_law_138 : decode code 138 = .ok (.iconst 3, 1) := by decide +kernel
theorem d_La_law_139 : decode code 139 = .ok (.iadd, 1) := by decide +kernel
theorem d_La_law_140 : decode code 140 = .ok (.iaload, 1) := by decide +kernel
theorem d_La_law_141 : decode code 141 = .ok (.aload_n 0, 1) := by decide +kernel
theorem d_La_law_142 : decode code 142 = .ok (.iload_n 3, 1) := by decide +kernel
theorem d_La_law_143 : decode code 143 = .ok (.iconst 4, 1) := by decide +kernel
theorem d_La_law_144 : decode code 144 = .ok (.iadd, 1) := by decide +kernel
theorem d_La_law_145 : decode code 145 = .ok (.iaload, 1) := by decide +kernel
theorem d_La_law_146 : decode code 146 = .ok (.aload_n 0, 1) := by decide +kernel
theorem d_La_law_147 : decode code 147 = .ok (.iload_n 3, 1) := by decide +kernel
theorem d_La_law_148 : decode code 148 = .ok (.iconst 5, 1) := by decide +kernel
theorem d_La_law_149 : decode code 149 = .ok (.iadd, 1) := by decide +kernel
theorem d_La_law_150 : decode code 150 = .ok (.iaload, 1) := by decide +kernel
theorem d_La_law_151 : decode code 151 = .ok (.invokevirtual 17, 3) := by decide +kernel
theorem d_La_law_154 : decode code 154 = .ok (.if_icmp .eq 348, 3) := by decide +kernel
theorem d_La_law_157 : decode code 157 = .ok (.iconst 0, 1) := by decide +kernel
theorem d_La_law_158 : decode code 158 = .ok (.ireturn, 1) := by decide +kernel
theorem d_La_law_159 : decode code 159 = .ok (.aload_n 1, 1) := by decide +kernel
theorem d_La_law_160 : decode code 160 = .ok (.aload_n 0, 1) := by decide +kernel
theorem d_La_law_161 : decode code 161 = .ok (.iload_n 3, 1) := by decide +kernel
theorem d_La_law_162 : decode code 162 = .ok (.iconst 1, 1) := by decide +kernel
theorem d_La_law_163 : decode code 163 = .ok (.iadd, 1) := by decide +kernel
theorem d_La_law_164 : decode code 164 = .ok (.iaload, 1) := by decide +kernel
theorem d_La_law_165 : decode code 165 = .ok (.invokevirtual 18, 3) := by decide +kernel
theorem d_La_law_168 : decode code 168 = .ok (.aload_n 2, 1) := by decide +kernel
theorem d_La_law_169 : decode code 169 = .ok (.aload_n 0, 1) := by decide +kernel
theorem d_La_law_170 : decode code 170 = .ok (.iload_n 3, 1) := by decide +kernel
theorem d_La_law_171 : decode code 171 = .ok (.iconst 1, 1) := by decide +kernel
theorem d_La_law_172 : decode code 172 = .ok (.iadd, 1) := by decide +kernel
theorem d_La_law_173 : decode code 173 = .ok (.iaload, 1) := by decide +kernel
theorem d_La_law_174 : decode code 174 = .ok (.invokevirtual 22, 3) := by decide +kernel
theorem d_La_law_177 : decode code 177 = .ok (.if_icmp .eq 325, 3) := by decide +kernel
theorem d_La_law_180 : decode code 180 = .ok (.iconst 0, 1) := by decide +kernel
theorem d_La_law_181 : decode code 181 = .ok (.ireturn, 1) := by decide +kernel
theorem d_La_law_182 : decode code 182 = .ok (.aload_n 1, 1) := by decide +kernel
theorem d_La_law_183 : decode code 183 = .ok (.invokevirtual 23, 3) := by decide +kernel
theorem d_La_law_186 : decode code 186 = .ok (.aload_n 2, 1) := by decide +kernel
theorem d_La_law_187 : decode code 187 = .ok (.invokevirtual 27, 3) := by decide +kernel
theorem d_La_law_190 : decode code 190 = .ok (.if_icmp .eq 312, 3) := by decide +kernel
theorem d_La_law_193 : decode code 193 = .ok (.iconst 0, 1) := by decide +kernel
theorem d_La_law_194 : decode code 194 = .ok (.ireturn, 1) := by decide +kernel
theorem d_La_law_195 : decode code 195 = .ok (.aload_n 1, 1) := by decide +kernel
theorem d_La_law_196 : decode code 196 = .ok (.aload_n 0, 1) := by decide +kernel
theorem d_La_law_197 : decode code 197 = .ok (.iload_n 3, 1) := by decide +kernel
theorem d_La_law_198 : decode code 198 = .ok (.iconst 1, 1) := by decide +kernel
theorem d_La_law_199 : decode code 199 = .ok (.iadd, 1) := by decide +kernel
theorem d_La_law_200 : decode code 200 = .ok (.iaload, 1) := by decide +kernel
theorem d_La_law_201 : decode code 201 = .ok (.aload_n 0, 1) := by decide +kernel
theorem d_La_law_202 : decode code 202 = .ok (.iload_n 3, 1) := by decide +kernel
theorem d_La_law_203 : decode code 203 = .ok (.iconst 2, 1) := by decide +kernel
theorem d_La_law_204 : decode code 204 = .ok (.iadd, 1) := by decide +kernel
theorem d_La_law_205 : decode code 205 = .ok (.iaload, 1) := by decide +kernel
theorem d_La_law_206 : decode code 206 = .ok (.aload_n 0, 1) := by decide +kernel
theorem d_La_law_207 : decode code 207 = .ok (.iload_n 3, 1) := by decide +kernel
theorem d_La_law_208 : decode code 208 = .ok (.iconst 3, 1) := by decide +kernel
theorem d_La_law_209 : decode code 209 = .ok (.iadd, 1) := by decide +kernel
theorem d_La_law_210 : decode code 210 = .ok (.iaload, 1) := by decide +kernel
theorem d_La_law_211 : decode code 211 = .ok (.aload_n 0, 1) := by decide +kernel
theorem d_La_law_212 : decode code 212 = .ok (.iload_n 3, 1) := by decide +kernel
theorem d_La_law_213 : decode code 213 = .ok (.iconst 4, 1) := by decide +kernel
theorem d_La_law_214 : decode code 214 = .ok (.iadd, 1) := by decide +kernel
theorem d_La_law_215 : decode code 215 = .ok (.iaload, 1) := by decide +kernel
theorem d_La_law_216 : decode code 216 = .ok (.invokevirtual 28, 3) := by decide +kernel
theorem d_La_law_219 : decode code 219 = .ok (.aload_n 2, 1) := by decide +kernel
theorem d_La_law_220 : decode code 220 = .ok (.aload_n 0, 1) := by decide +kernel
theorem d_La_law_221 : decode code 221 = .ok (.iload_n 3, 1) := by decide +kernel
theorem d_La_law_222 : decode code 222 = .ok (.iconst 1, 1) := by decide +kernel
theorem d_La_law_223 : decode code 223 = .ok (.iadd, 1) := by decide +kernel
theorem d_La_law_224 : decode code 224 = .ok (.iaload, 1) := by decide +kernel
theorem d_La_law_225 : decode code 225 = .ok (.aload_n 0, 1) := by decide +kernel
theorem d_La_law_226 : decode code 226 = .ok (.iload_n 3, 1) := by decide +kernel
theorem d_La_law_227 : decode code 227 = .ok (.iconst 2, 1) := by decide +kernel
theorem d_La_law_228 : decode code 228 = .ok (.iadd, 1) := by decide +kernel
theorem d_La_law_229 : decode code 229 = .ok (.iaload, 1) := by decide +kernel
theorem d_La_law_230 : decode code 230 = .ok (.aload_n 0, 1) := by decide +kernel
theorem d_La_law_231 : decode code 231 = .ok (.iload_n 3, 1) := by decide +kernel
theorem d_La_law_232 : decode code 232 = .ok (.iconst 3, 1) := by decide +kernel
theorem d_La_law_233 : decode code 233 = .ok (.iadd, 1) := by decide +kernel
theorem d_La_law_234 : decode code 234 = .ok (.iaload, 1) := by decide +kernel
theorem d_La_law_235 : decode code 235 = .ok (.aload_n 0, 1) := by decide +kernel
theorem d_La_law_236 : decode code 236 = .ok (.iload_n 3, 1) := by decide +kernel
theorem d_La_law_237 : decode code 237 = .ok (.iconst 4, 1) := by decide +kernel
theorem d_La_law_238 : decode code 238 = .ok (.iadd, 1) := by decide +kernel
theorem d_La_law_239 : decode code 239 = .ok (.iaload, 1) := by decide +kernel
theorem d_La_law_240 : decode code 240 = .ok (.invokevirtual 32, 3) := by decide +kernel
theorem d_La_law_243 : decode code 243 = .ok (.if_icmp .eq 259, 3) := by decide +kernel
theorem d_La_law_246 : decode code 246 = .ok (.iconst 0, 1) := by decide +kernel
theorem d_La_law_247 : decode code 247 = .ok (.ireturn, 1) := by decide +kernel
theorem d_La_law_248 : decode code 248 = .ok (.aload_n 1, 1) := by decide +kernel
theorem d_La_law_249 : decode code 249 = .ok (.aload_n 0, 1) := by decide +kernel
theorem d_La_law_250 : decode code 250 = .ok (.iload_n 3, 1) := by decide +kernel
theorem d_La_law_251 : decode code 251 = .ok (.iconst 1, 1) := by decide +kernel
theorem d_La_law_252 : decode code 252 = .ok (.iadd, 1) := by decide +kernel
theorem d_La_law_253 : decode code 253 = .ok (.iaload, 1) := by decide +kernel
theorem d_La_law_254 : decode code 254 = .ok (.aload_n 0, 1) := by decide +kernel
theorem d_La_law_255 : decode code 255 = .ok (.iload_n 3, 1) := by decide +kernel
theorem d_La_law_256 : decode code 256 = .ok (.iconst 2, 1) := by decide +kernel
theorem d_La_law_257 : decode code 257 = .ok (.iadd, 1) := by decide +kernel
theorem d_La_law_258 : decode code 258 = .ok (.iaload, 1) := by decide +kernel
theorem d_La_law_259 : decode code 259 = .ok (.invokevirtual 33, 3) := by decide +kernel
theorem d_La_law_262 : decode code 262 = .ok (.aload_n 2, 1) := by decide +kernel
theorem d_La_law_263 : decode code 263 = .ok (.aload_n 0, 1) := by decide +kernel
theorem d_La_law_264 : decode code 264 = .ok (.iload_n 3, 1) := by decide +kernel
theorem d_La_law_265 : decode code 265 = .ok (.iconst 1, 1) := by decide +kernel
theorem d_La_law_266 : decode code 266 = .ok (.iadd, 1) := by decide +kernel
theorem d_La_law_267 : decode code 267 = .ok (.iaload, 1) := by decide +kernel
theorem d_La_law_268 : decode code 268 = .ok (.aload_n 0, 1) := by decide +kernel
theorem d_La_law_269 : decode code 269 = .ok (.iload_n 3, 1) := by decide +kernel
theorem d_La_law_270 : decode code 270 = .ok (.iconst 2, 1) := by decide +kernel
theorem d_La_law_271 : decode code 271 = .ok (.iadd, 1) := by decide +kernel
theorem d_La_law_272 : decode code 272 = .ok (.iaload, 1) := by decide +kernel
theorem d_La_law_273 : decode code 273 = .ok (.invokevirtual 37, 3) := by decide +kernel
theorem d_La_law_276 : decode code 276 = .ok (.if_icmp .eq 226, 3) := by decide +kernel
theorem d_La_law_279 : decode code 279 = .ok (.iconst 0, 1) := by decide +kernel
theorem d_La_law_280 : decode code 280 = .ok (.ireturn, 1) := by decide +kernel
theorem d_La_law_281 : decode code 281 = .ok (.aload_n 1, 1) := by decide +kernel
theorem d_La_law_282 : decode code 282 = .ok (.aload_n 0, 1) := by decide +kernel
theorem d_La_law_283 : decode code 283 = .ok (.iload_n 3, 1) := by decide +kernel
theorem d_La_law_284 : decode code 284 = .ok (.iconst 1, 1) := by decide +kernel
theorem d_La_law_285 : decode code 285 = .ok (.iadd, 1) := by decide +kernel
theorem d_La_law_286 : decode code 286 = .ok (.iaload, 1) := by decide +kernel
theorem d_La_law_287 : decode code 287 = .ok (.invokevirtual 38, 3) := by decide +kernel
theorem d_La_law_290 : decode code 290 = .ok (.aload_n 2, 1) := by decide +kernel
theorem d_La_law_291 : decode code 291 = .ok (.aload_n 0, 1) := by decide +kernel
theorem d_La_law_292 : decode code 292 = .ok (.iload_n 3, 1) := by decide +kernel
theorem d_La_law_293 : decode code 293 = .ok (.iconst 1, 1) := by decide +kernel
theorem d_La_law_294 : decode code 294 = .ok (.iadd, 1) := by decide +kernel
theorem d_La_law_295 : decode code 295 = .ok (.iaload, 1) := by decide +kernel
theorem d_La_law_296 : decode code 296 = .ok (.invokevirtual 42, 3) := by decide +kernel
theorem d_La_law_299 : decode code 299 = .ok (.if_icmp .eq 203, 3) := by decide +kernel
theorem d_La_law_302 : decode code 302 = .ok (.iconst 0, 1) := by decide +kernel
theorem d_La_law_303 : decode code 303 = .ok (.ireturn, 1) := by decide +kernel
theorem d_La_law_304 : decode code 304 = .ok (.aload_n 1, 1) := by decide +kernel
theorem d_La_law_305 : decode code 305 = .ok (.aload_n 0, 1) := by decide +kernel
theorem d_La_law_306 : decode code 306 = .ok (.iload_n 3, 1) := by decide +kernel
theorem d_La_law_307 : decode code 307 = .ok (.iconst 1, 1) := by decide +kernel
theorem d_La_law_308 : decode code 308 = .ok (.iadd, 1) := by decide +kernel
theorem d_La_law_309 : decode code 309 = .ok (.iaload, 1) := by decide +kernel
theorem d_La_law_310 : decode code 310 = .ok (.aload_n 0, 1) := by decide +kernel
theorem d_La_law_311 : decode code 311 = .ok (.iload_n 3, 1) := by decide +kernel
theorem d_La_law_312 : decode code 312 = .ok (.iconst 2, 1) := by decide +kernel
theorem d_La_law_313 : decode code 313 = .ok (.iadd, 1) := by decide +kernel
theorem d_La_law_314 : decode code 314 = .ok (.iaload, 1) := by decide +kernel
theorem d_La_law_315 : decode code 315 = .ok (.invokevirtual 43, 3) := by decide +kernel
theorem d_La_law_318 : decode code 318 = .ok (.aload_n 2, 1) := by decide +kernel
theorem d_La_law_319 : decode code 319 = .ok (.aload_n 0, 1) := by decide +kernel
theorem d_La_law_320 : decode code 320 = .ok (.iload_n 3, 1) := by decide +kernel
theorem d_La_law_321 : decode code 321 = .ok (.iconst 1, 1) := by decide +kernel
theorem d_La_law_322 : decode code 322 = .ok (.iadd, 1) := by decide +kernel
theorem d_La_law_323 : decode code 323 = .ok (.iaload, 1) := by decide +kernel
theorem d_La_law_324 : decode code 324 = .ok (.aload_n 0, 1) := by decide +kernel
theorem d_La_law_325 : decode code 325 = .ok (.iload_n 3, 1) := by decide +kernel
theorem d_La_law_326 : decode code 326 = .ok (.iconst 2, 1) := by decide +kernel
theorem d_La_law_327 : decode code 327 = .ok (.iadd, 1) := by decide +kernel
theorem d_La_law_328 : decode code 328 = .ok (.iaload, 1) := by decide +kernel
theorem d_La_law_329 : decode code 329 = .ok (.invokevirtual 46, 3) := by decide +kernel
theorem d_La_law_332 : decode code 332 = .ok (.if_icmp .eq 170, 3) := by decide +kernel
theorem d_La_law_335 : decode code 335 = .ok (.iconst 0, 1) := by decide +kernel
theorem d_La_law_336 : decode code 336 = .ok (.ireturn, 1) := by decide +kernel
theorem d_La_law_337 : decode code 337 = .ok (.aload_n 1, 1) := by decide +kernel
theorem d_La_law_338 : decode code 338 = .ok (.aload_n 0, 1) := by decide +kernel
theorem d_La_law_339 : decode code 339 = .ok (.iload_n 3, 1) := by decide +kernel
theorem d_La_law_340 : decode code 340 = .ok (.iconst 1, 1) := by decide +kernel
theorem d_La_law_341 : decode code 341 = .ok (.iadd, 1) := by decide +kernel
theorem d_La_law_342 : decode code 342 = .ok (.iaload, 1) := by decide +kernel
theorem d_La_law_343 : decode code 343 = .ok (.aload_n 0, 1) := by decide +kernel
theorem d_La_law_344 : decode code 344 = .ok (.iload_n 3, 1) := by decide +kernel
theorem d_La_law_345 : decode code 345 = .ok (.iconst 2, 1) := by decide +kernel
theorem d_La_law_346 : decode code 346 = .ok (.iadd, 1) := by decide +kernel
theorem d_La_law_347 : decode code 347 = .ok (.iaload, 1) := by decide +kernel
theorem d_La_law_348 : decode code 348 = .ok (.invokevirtual 47, 3) := by decide +kernel
theorem d_La_law_351 : decode code 351 = .ok (.aload_n 2, 1) := by decide +kernel
theorem d_La_law_352 : decode code 352 = .ok (.aload_n 0, 1) := by decide +kernel
theorem d_La_law_353 : decode code 353 = .ok (.iload_n 3, 1) := by decide +kernel
theorem d_La_law_354 : decode code 354 = .ok (.iconst 1, 1) := by decide +kernel
theorem d_La_law_355 : decode code 355 = .ok (.iadd, 1) := by decide +kernel
theorem d_La_law_356 : decode code 356 = .ok (.iaload, 1) := by decide +kernel
theorem d_La_law_357 : decode code 357 = .ok (.aload_n 0, 1) := by decide +kernel
theorem d_La_law_358 : decode code 358 = .ok (.iload_n 3, 1) := by decide +kernel
theorem d_La_law_359 : decode code 359 = .ok (.iconst 2, 1) := by decide +kernel
theorem d_La_law_360 : decode code 360 = .ok (.iadd, 1) := by decide +kernel
theorem d_La_law_361 : decode code 361 = .ok (.iaload, 1) := by decide +kernel
theorem d_La_law_362 : decode code 362 = .ok (.invokevirtual 50, 3) := by decide +kernel
theorem d_La_law_365 : decode code 365 = .ok (.if_icmp .eq 137, 3) := by decide +kernel
theorem d_La_law_368 : decode code 368 = .ok (.iconst 0, 1) := by decide +kernel
theorem d_La_law_369 : decode code 369 = .ok (.ireturn, 1) := by decide +kernel
theorem d_La_law_370 : decode code 370 = .ok (.aload_n 1, 1) := by decide +kernel
theorem d_La_law_371 : decode code 371 = .ok (.aload_n 0, 1) := by decide +kernel
theorem d_La_law_372 : decode code 372 = .ok (.iload_n 3, 1) := by decide +kernel
theorem d_La_law_373 : decode code 373 = .ok (.iconst 1, 1) := by decide +kernel
theorem d_La_law_374 : decode code 374 = .ok (.iadd, 1) := by decide +kernel
theorem d_La_law_375 : decode code 375 = .ok (.iaload, 1) := by decide +kernel
theorem d_La_law_376 : decode code 376 = .ok (.aload_n 0, 1) := by decide +kernel
theorem d_La_law_377 : decode code 377 = .ok (.iload_n 3, 1) := by decide +kernel
theorem d_La_law_378 : decode code 378 = .ok (.iconst 2, 1) := by decide +kernel
theorem d_La_law_379 : decode code 379 = .ok (.iadd, 1) := by decide +kernel
theorem d_La_law_380 : decode code 380 = .ok (.iaload, 1) := by decide +kernel
theorem d_La_law_381 : decode code 381 = .ok (.invokevirtual 51, 3) := by decide +kernel
theorem d_La_law_384 : decode code 384 = .ok (.aload_n 2, 1) := by decide +kernel
theorem d_La_law_385 : decode code 385 = .ok (.aload_n 0, 1) := by decide +kernel
theorem d_La_law_386 : decode code 386 = .ok (.iload_n 3, 1) := by decide +kernel
theorem d_La_law_387 : decode code 387 = .ok (.iconst 1, 1) := by decide +kernel
theorem d_La_law_388 : decode code 388 = .ok (.iadd, 1) := by decide +kernel
theorem d_La_law_389 : decode code 389 = .ok (.iaload, 1) := by decide +kernel
theorem d_La_law_390 : decode code 390 = .ok (.aload_n 0, 1) := by decide +kernel
theorem d_La_law_391 : decode code 391 = .ok (.iload_n 3, 1) := by decide +kernel
theorem d_La_law_392 : decode code 392 = .ok (.iconst 2, 1) := by decide +kernel
theorem d_La_law_393 : decode code 393 = .ok (.iadd, 1) := by decide +kernel
theorem d_La_law_394 : decode code 394 = .ok (.iaload, 1) := by decide +kernel
theorem d_La_law_395 : decode code 395 = .ok (.invokevirtual 54, 3) := by decide +kernel
theorem d_La_law_398 : decode code 398 = .ok (.if_icmp .eq 104, 3) := by decide +kernel
theorem d_La_law_401 : decode code 401 = .ok (.iconst 0, 1) := by decide +kernel
theorem d_La_law_402 : decode code 402 = .ok (.ireturn, 1) := by decide +kernel
theorem d_La_law_403 : decode code 403 = .ok (.aload_n 1, 1) := by decide +kernel
theorem d_La_law_404 : decode code 404 = .ok (.aload_n 0, 1) := by decide +kernel
theorem d_La_law_405 : decode code 405 = .ok (.iload_n 3, 1) := by decide +kernel
theorem d_La_law_406 : decode code 406 = .ok (.iconst 1, 1) := by decide +kernel
theorem d_La_law_407 : decode code 407 = .ok (.iadd, 1) := by decide +kernel
theorem d_La_law_408 : decode code 408 = .ok (.iaload, 1) := by decide +kernel
theorem d_La_law_409 : decode code 409 = .ok (.aload_n 0, 1) := by decide +kernel
theorem d_La_law_410 : decode code 410 = .ok (.iload_n 3, 1) := by decide +kernel
theorem d_La_law_411 : decode code 411 = .ok (.iconst 2, 1) := by decide +kernel
theorem d_La_law_412 : decode code 412 = .ok (.iadd, 1) := by decide +kernel
theorem d_La_law_413 : decode code 413 = .ok (.iaload, 1) := by decide +kernel
theorem d_La_law_414 : decode code 414 = .ok (.invokevirtual 55, 3) := by decide +kernel
theorem d_La_law_417 : decode code 417 = .ok (.aload_n 2, 1) := by decide +kernel
theorem d_La_law_418 : decode code 418 = .ok (.aload_n 0, 1) := by decide +kernel
theorem d_La_law_419 : decode code 419 = .ok (.iload_n 3, 1) := by decide +kernel
theorem d_La_law_420 : decode code 420 = .ok (.iconst 1, 1) := by decide +kernel
theorem d_La_law_421 : decode code 421 = .ok (.iadd, 1) := by decide +kernel
theorem d_La_law_422 : decode code 422 = .ok (.iaload, 1) := by decide +kernel
theorem d_La_law_423 : decode code 423 = .ok (.aload_n 0, 1) := by decide +kernel
theorem d_La_law_424 : decode code 424 = .ok (.iload_n 3, 1) := by decide +kernel
theorem d_La_law_425 : decode code 425 = .ok (.iconst 2, 1) := by decide +kernel
theorem d_La_law_426 : decode code 426 = .ok (.iadd, 1) := by decide +kernel
theorem d_La_law_427 : decode code 427 = .ok (.iaload, 1) := by decide +kernel
theorem d_La_law_428 : decode code 428 = .ok (.invokevirtual 58, 3) := by decide +kernel
theorem d_La_law_431 : decode code 431 = .ok (.if_icmp .eq 71, 3) := by decide +kernel
theorem d_La_law_434 : decode code 434 = .ok (.iconst 0, 1) := by decide +kernel
theorem d_La_law_435 : decode code 435 = .ok (.ireturn, 1) := by decide +kernel
theorem d_La_law_436 : decode code 436 = .ok (.aload_n 1, 1) := by decide +kernel
theorem d_La_law_437 : decode code 437 = .ok (.aload_n 0, 1) := by decide +kernel
theorem d_La_law_438 : decode code 438 = .ok (.iload_n 3, 1) := by decide +kernel
theorem d_La_law_439 : decode code 439 = .ok (.iconst 1, 1) := by decide +kernel
theorem d_La_law_440 : decode code 440 = .ok (.iadd, 1) := by decide +kernel
theorem d_La_law_441 : decode code 441 = .ok (.iaload, 1) := by decide +kernel
theorem d_La_law_442 : decode code 442 = .ok (.aload_n 0, 1) := by decide +kernel
theorem d_La_law_443 : decode code 443 = .ok (.iload_n 3, 1) := by decide +kernel
theorem d_La_law_444 : decode code 444 = .ok (.iconst 2, 1) := by decide +kernel
theorem d_La_law_445 : decode code 445 = .ok (.iadd, 1) := by decide +kernel
theorem d_La_law_446 : decode code 446 = .ok (.iaload, 1) := by decide +kernel
theorem d_La_law_447 : decode code 447 = .ok (.aload_n 0, 1) := by decide +kernel
theorem d_La_law_448 : decode code 448 = .ok (.iload_n 3, 1) := by decide +kernel
theorem d_La_law_449 : decode code 449 = .ok (.iconst 3, 1) := by decide +kernel
theorem d_La_law_450 : decode code 450 = .ok (.iadd, 1) := by decide +kernel
theorem d_La_law_451 : decode code 451 = .ok (.iaload, 1) := by decide +kernel
theorem d_La_law_452 : decode code 452 = .ok (.invokevirtual 59, 3) := by decide +kernel
theorem d_La_law_455 : decode code 455 = .ok (.aload_n 2, 1) := by decide +kernel
theorem d_La_law_456 : decode code 456 = .ok (.aload_n 0, 1) := by decide +kernel
theorem d_La_law_457 : decode code 457 = .ok (.iload_n 3, 1) := by decide +kernel
theorem d_La_law_458 : decode code 458 = .ok (.iconst 1, 1) := by decide +kernel
theorem d_La_law_459 : decode code 459 = .ok (.iadd, 1) := by decide +kernel
theorem d_La_law_460 : decode code 460 = .ok (.iaload, 1) := by decide +kernel
theorem d_La_law_461 : decode code 461 = .ok (.aload_n 0, 1) := by decide +kernel
theorem d_La_law_462 : decode code 462 = .ok (.iload_n 3, 1) := by decide +kernel
theorem d_La_law_463 : decode code 463 = .ok (.iconst 2, 1) := by decide +kernel
theorem d_La_law_464 : decode code 464 = .ok (.iadd, 1) := by decide +kernel
theorem d_La_law_465 : decode code 465 = .ok (.iaload, 1) := by decide +kernel
theorem d_La_law_466 : decode code 466 = .ok (.aload_n 0, 1) := by decide +kernel
theorem d_La_law_467 : decode code 467 = .ok (.iload_n 3, 1) := by decide +kernel
theorem d_La_law_468 : decode code 468 = .ok (.iconst 3, 1) := by decide +kernel
theorem d_La_law_469 : decode code 469 = .ok (.iadd, 1) := by decide +kernel
theorem d_La_law_470 : decode code 470 = .ok (.iaload, 1) := by decide +kernel
theorem d_La_law_471 : decode code 471 = .ok (.invokevirtual 63, 3) := by decide +kernel
theorem d_La_law_474 : decode code 474 = .ok (.if_icmp .eq 28, 3) := by decide +kernel
theorem d_La_law_477 : decode code 477 = .ok (.iconst 0, 1) := by decide +kernel
theorem d_La_law_478 : decode code 478 = .ok (.ireturn, 1) := by decide +kernel
theorem d_La_law_479 : decode code 479 = .ok (.aload_n 1, 1) := by decide +kernel
theorem d_La_law_480 : decode code 480 = .ok (.aload_n 0, 1) := by decide +kernel
theorem d_La_law_481 : decode code 481 = .ok (.iload_n 3, 1) := by decide +kernel
theorem d_La_law_482 : decode code 482 = .ok (.iconst 1, 1) := by decide +kernel
theorem d_La_law_483 : decode code 483 = .ok (.iadd, 1) := by decide +kernel
theorem d_La_law_484 : decode code 484 = .ok (.iaload, 1) := by decide +kernel
theorem d_La_law_485 : decode code 485 = .ok (.invokevirtual 64, 3) := by decide +kernel
theorem d_La_law_488 : decode code 488 = .ok (.aload_n 2, 1) := by decide +kernel
theorem d_La_law_489 : decode code 489 = .ok (.aload_n 0, 1) := by decide +kernel
theorem d_La_law_490 : decode code 490 = .ok (.iload_n 3, 1) := by decide +kernel
theorem d_La_law_491 : decode code 491 = .ok (.iconst 1, 1) := by decide +kernel
theorem d_La_law_492 : decode code 492 = .ok (.iadd, 1) := by decide +kernel
theorem d_La_law_493 : decode code 493 = .ok (.iaload, 1) := by decide +kernel
theorem d_La_law_494 : decode code 494 = .ok (.invokevirtual 67, 3) := by decide +kernel
theorem d_La_law_497 : decode code 497 = .ok (.if_icmp .eq 5, 3) := by decide +kernel
theorem d_La_law_500 : decode code 500 = .ok (.iconst 0, 1) := by decide +kernel
theorem d_La_law_501 : decode code 501 = .ok (.ireturn, 1) := by decide +kernel
theorem d_La_law_502 : decode code 502 = .ok (.iinc 3 6, 3) := by decide +kernel
theorem d_La_law_505 : decode code 505 = .ok (.goto (-487), 3) := by decide +kernel
theorem d_La_law_508 : decode code 508 = .ok (.iconst 1, 1) := by decide +kernel
theorem d_La_law_509 : decode code 509 = .ok (.ireturn, 1) := by decide +kernel
end
section
def f_Nd_isWithin (N : Nat) (a0 : Int32) (a1 : Int32) (a2 : Int32) : Option (Int32) := (if a0 < a1 then (some 0) else (if a2 < a0 then (some 0) else (some 1)))
def f_Nd_isCoordinate (N : Nat) (a0 : Int32) : Option (Int32) := ((f_Nd_isWithin N a0 0 99).bind fun p1 => (g_bl p1 (some p1)))
def f_Nd_isVector (N : Nat) (a0 : Int32) (a1 : Int32) (a2 : Int32) (a3 : Int32) : Option (Int32) := ((f_Nd_isCoordinate N a0).bind fun p1 => (if p1 = 0 then (some 0) else ((f_Nd_isCoordinate N a1).bind fun p3 => (if p3 = 0 then (some 0) else ((f_Nd_isCoordinate N a2).bind fun p5 => (if p5 = 0 then (some 0) else ((f_Nd_isCoordinate N a3).bind fun p7 => (if p7 = 0 then (some 0) else (some 1)))))))))
def f_Nd_writeVector (N : Nat) (x0_0 : (Nat → Int32)) (a1 : Int32) (a2 : Int32) (a3 : Int32) (a4 : Int32) : Option ((Nat → Int32)) := (g_at 0 4 (g_at 1 4 (g_at 2 4 (g_at 3 4 (some (upd (upd (upd (upd x0_0 (0 : Int32).toNatClampNeg a1) (1 : Int32).toNatClampNeg a2) (2 : Int32).toNatClampNeg a3) (3 : Int32).toNatClampNeg a4))))))
def f_Nd_distance_4 (N : Nat) (x0_0 : (Nat → Int32)) (x1_0 : (Nat → Int32)) : Nat → Int32 → Int32 → Option (Int32)
  | 0, _, _ => none
  | n + 1, v2, v3 => (if 4 ≤ v3 then (some v2) else (g_at v3 4 (g_at v3 4 (f_Nd_distance_4 N x0_0 x1_0 n (v2 + (((x0_0 v3.toNatClampNeg) - (x1_0 v3.toNatClampNeg)) * ((x0_0 v3.toNatClampNeg) - (x1_0 v3.toNatClampNeg)))) (v3 + 1)))))
def f_Nd_distance (N : Nat) (x0_0 : (Nat → Int32)) (x1_0 : (Nat → Int32)) : Option (Int32) := (f_Nd_distance_4 N x0_0 x1_0 N 0 0)
def f_Nd_isIn (N : Nat) (a0 : Int32) (a1 : Int32) : Option (Int32) := (if ((a0 >>> (a1 &&& 31)) &&& 1) = 0 then (some 0) else (some 1))
def f_In_bitCount (N : Nat) (a0 : Int32) : Option (Int32) := (some ((((((((a0 - (((a0.toUInt32 >>> ((1 : Int32).toUInt32 &&& Int32.toUInt32 31)).toInt32) &&& 1431655765)) &&& 858993459) + ((((a0 - (((a0.toUInt32 >>> ((1 : Int32).toUInt32 &&& Int32.toUInt32 31)).toInt32) &&& 1431655765)).toUInt32 >>> ((2 : Int32).toUInt32 &&& Int32.toUInt32 31)).toInt32) &&& 858993459)) + (((((a0 - (((a0.toUInt32 >>> ((1 : Int32).toUInt32 &&& Int32.toUInt32 31)).toInt32) &&& 1431655765)) &&& 858993459) + ((((a0 - (((a0.toUInt32 >>> ((1 : Int32).toUInt32 &&& Int32.toUInt32 31)).toInt32) &&& 1431655765)).toUInt32 >>> ((2 : Int32).toUInt32 &&& Int32.toUInt32 31)).toInt32) &&& 858993459)).toUInt32 >>> ((4 : Int32).toUInt32 &&& Int32.toUInt32 31)).toInt32)) &&& 252645135) + (((((((a0 - (((a0.toUInt32 >>> ((1 : Int32).toUInt32 &&& Int32.toUInt32 31)).toInt32) &&& 1431655765)) &&& 858993459) + ((((a0 - (((a0.toUInt32 >>> ((1 : Int32).toUInt32 &&& Int32.toUInt32 31)).toInt32) &&& 1431655765)).toUInt32 >>> ((2 : Int32).toUInt32 &&& Int32.toUInt32 31)).toInt32) &&& 858993459)) + (((((a0 - (((a0.toUInt32 >>> ((1 : Int32).toUInt32 &&& Int32.toUInt32 31)).toInt32) &&& 1431655765)) &&& 858993459) + ((((a0 - (((a0.toUInt32 >>> ((1 : Int32).toUInt32 &&& Int32.toUInt32 31)).toInt32) &&& 1431655765)).toUInt32 >>> ((2 : Int32).toUInt32 &&& Int32.toUInt32 31)).toInt32) &&& 858993459)).toUInt32 >>> ((4 : Int32).toUInt32 &&& Int32.toUInt32 31)).toInt32)) &&& 252645135).toUInt32 >>> ((8 : Int32).toUInt32 &&& Int32.toUInt32 31)).toInt32)) + ((((((((a0 - (((a0.toUInt32 >>> ((1 : Int32).toUInt32 &&& Int32.toUInt32 31)).toInt32) &&& 1431655765)) &&& 858993459) + ((((a0 - (((a0.toUInt32 >>> ((1 : Int32).toUInt32 &&& Int32.toUInt32 31)).toInt32) &&& 1431655765)).toUInt32 >>> ((2 : Int32).toUInt32 &&& Int32.toUInt32 31)).toInt32) &&& 858993459)) + (((((a0 - (((a0.toUInt32 >>> ((1 : Int32).toUInt32 &&& Int32.toUInt32 31)).toInt32) &&& 1431655765)) &&& 858993459) + ((((a0 - (((a0.toUInt32 >>> ((1 : Int32).toUInt32 &&& Int32.toUInt32 31)).toInt32) &&& 1431655765)).toUInt32 >>> ((2 : Int32).toUInt32 &&& Int32.toUInt32 31)).toInt32) &&& 858993459)).toUInt32 >>> ((4 : Int32).toUInt32 &&& Int32.toUInt32 31)).toInt32)) &&& 252645135) + (((((((a0 - (((a0.toUInt32 >>> ((1 : Int32).toUInt32 &&& Int32.toUInt32 31)).toInt32) &&& 1431655765)) &&& 858993459) + ((((a0 - (((a0.toUInt32 >>> ((1 : Int32).toUInt32 &&& Int32.toUInt32 31)).toInt32) &&& 1431655765)).toUInt32 >>> ((2 : Int32).toUInt32 &&& Int32.toUInt32 31)).toInt32) &&& 858993459)) + (((((a0 - (((a0.toUInt32 >>> ((1 : Int32).toUInt32 &&& Int32.toUInt32 31)).toInt32) &&& 1431655765)) &&& 858993459) + ((((a0 - (((a0.toUInt32 >>> ((1 : Int32).toUInt32 &&& Int32.toUInt32 31)).toInt32) &&& 1431655765)).toUInt32 >>> ((2 : Int32).toUInt32 &&& Int32.toUInt32 31)).toInt32) &&& 858993459)).toUInt32 >>> ((4 : Int32).toUInt32 &&& Int32.toUInt32 31)).toInt32)) &&& 252645135).toUInt32 >>> ((8 : Int32).toUInt32 &&& Int32.toUInt32 31)).toInt32)).toUInt32 >>> ((16 : Int32).toUInt32 &&& Int32.toUInt32 31)).toInt32)) &&& 63))
def f_Nd_isDocumentNumber (N : Nat) (a0 : Int32) : Option (Int32) := ((f_Nd_isWithin N a0 0 29).bind fun p1 => (g_bl p1 (some p1)))
end
section
def f_Rk_start (N : Nat) (a1 : Int32) (a2 : Int32) : Option (Int32 × Int32 × Int32) := (if a2 = 1 then (some (0, if 30 < a1 then 30 else a1, 1)) else (some (0, if 30 < a1 then 30 else a1, 0)))
def f_Rk_isFull (N : Nat) (x0_2 : Int32) (x0_3 : Int32) : Option (Int32) := (if x0_2 < x0_3 then (some 0) else (some 1))
def f_Rk_precedes (N : Nat) (x0_4 : Int32) (a1 : Int32) (a2 : Int32) (a3 : Int32) (a4 : Int32) : Option (Int32) := (if a2 = a4 then (if a3 ≤ a1 then (some 0) else (some 1)) else (if a2 ≤ a4 then (if x0_4 = 0 then (some 1) else (some 0)) else (if x0_4 = 1 then (some 1) else (some 0))))
def f_Rk_add_62 (N : Nat) (x0_4 : Int32) (a1 : Int32) (a2 : Int32) : Nat → (Nat → Int32) → (Nat → Int32) → Int32 → Int32 → Option (Int32 × (Nat → Int32) × (Nat → Int32) × Int32)
  | 0, _, _, _, _ => none
  | n + 1, vak0_1, vak0_2, vfk0_0_2, v3 => (if v3 ≤ 0 then (g_at v3 30 (g_at v3 30 (some (1, upd vak0_1 v3.toNatClampNeg a1, upd vak0_2 v3.toNatClampNeg a2, vfk0_0_2 + 1)))) else (g_at (v3 - 1) 30 (g_at (v3 - 1) 30 ((f_Rk_precedes N x0_4 a1 a2 (vak0_1 (v3 - 1).toNatClampNeg) (vak0_2 (v3 - 1).toNatClampNeg)).bind fun p17 => (if p17 = 0 then (g_at v3 30 (g_at v3 30 (some (1, upd vak0_1 v3.toNatClampNeg a1, upd vak0_2 v3.toNatClampNeg a2, vfk0_0_2 + 1)))) else (g_at (v3 - 1) 30 (g_at v3 30 (g_at (v3 - 1) 30 (g_at v3 30 (f_Rk_add_62 N x0_4 a1 a2 n (upd vak0_1 v3.toNatClampNeg (vak0_1 (v3 - 1).toNatClampNeg)) (upd vak0_2 v3.toNatClampNeg (vak0_2 (v3 - 1).toNatClampNeg)) vfk0_0_2 (v3 + (-1))))))))))))
def f_Rk_add (N : Nat) (x0_0 : (Nat → Int32)) (x0_1 : (Nat → Int32)) (x0_2 : Int32) (x0_3 : Int32) (x0_4 : Int32) (a1 : Int32) (a2 : Int32) : Option (Int32 × (Nat → Int32) × (Nat → Int32) × Int32) := ((f_Rk_isFull N x0_2 x0_3).bind fun p1 => (if p1 = 0 then (f_Rk_add_62 N x0_4 a1 a2 N x0_0 x0_1 x0_2 x0_2) else (if x0_2 = 0 then (some (0, x0_0, x0_1, x0_2)) else (g_at (x0_2 - 1) 30 (g_at (x0_2 - 1) 30 ((f_Rk_precedes N x0_4 a1 a2 (x0_0 (x0_2 - 1).toNatClampNeg) (x0_1 (x0_2 - 1).toNatClampNeg)).bind fun p6 => (if p6 = 0 then (some (0, x0_0, x0_1, x0_2)) else (f_Rk_add_62 N x0_4 a1 a2 N x0_0 x0_1 (x0_2 - 1) (x0_2 - 1)))))))))
def f_Rk_size (N : Nat) (x0_2 : Int32) : Option (Int32) := (some x0_2)
def f_Rk_numberAt (N : Nat) (x0_0 : (Nat → Int32)) (a1 : Int32) : Option (Int32) := (g_at a1 30 (some (x0_0 a1.toNatClampNeg)))
def f_Rk_changeRoom (N : Nat) (x0_2 : Int32) (a1 : Int32) : Option (Int32 × Int32) := (some (if (if 30 < a1 then 30 else a1) < x0_2 then if 30 < a1 then 30 else a1 else x0_2, if 30 < a1 then 30 else a1))
def f_Rk_valueAt (N : Nat) (x0_1 : (Nat → Int32)) (a1 : Int32) : Option (Int32) := (g_at a1 30 (some (x0_1 a1.toNatClampNeg)))
def f_Rk_dropFirst_2 (N : Nat) (x0_2 : Int32) : Nat → (Nat → Int32) → (Nat → Int32) → Int32 → Option ((Nat → Int32) × (Nat → Int32) × Int32)
  | 0, _, _, _ => none
  | n + 1, vak0_1, vak0_2, v1 => (if x0_2 ≤ v1 then (some (vak0_1, vak0_2, if 0 < (x0_2 - 1) then x0_2 - 1 else 0)) else (g_at v1 30 (g_at (v1 - 1) 30 (g_at v1 30 (g_at (v1 - 1) 30 (f_Rk_dropFirst_2 N x0_2 n (upd vak0_1 (v1 - 1).toNatClampNeg (vak0_1 v1.toNatClampNeg)) (upd vak0_2 (v1 - 1).toNatClampNeg (vak0_2 v1.toNatClampNeg)) (v1 + 1)))))))
def f_Rk_dropFirst (N : Nat) (x0_0 : (Nat → Int32)) (x0_1 : (Nat → Int32)) (x0_2 : Int32) : Option ((Nat → Int32) × (Nat → Int32) × Int32) := (f_Rk_dropFirst_2 N x0_2 N x0_0 x0_1 1)
def f_Rk_lastPrecedes (N : Nat) (x0_0 : (Nat → Int32)) (x0_1 : (Nat → Int32)) (x0_2 : Int32) (x0_4 : Int32) (a1 : Int32) (a2 : Int32) : Option (Int32) := (if x0_2 ≤ 0 then (some 0) else (g_at (x0_2 - 1) 30 (g_at (x0_2 - 1) 30 ((f_Rk_precedes N x0_4 (x0_0 (x0_2 - 1).toNatClampNeg) (x0_1 (x0_2 - 1).toNatClampNeg) a1 a2).bind fun p4 => (if p4 = 0 then (some 0) else (some 1))))))
def f_Rk_holds_2 (N : Nat) (x0_0 : (Nat → Int32)) (x0_2 : Int32) (a1 : Int32) : Nat → Int32 → Option (Int32)
  | 0, _ => none
  | n + 1, v2 => (if x0_2 ≤ v2 then (some 0) else (g_at v2 30 (if (x0_0 v2.toNatClampNeg) = a1 then (some 1) else (f_Rk_holds_2 N x0_0 x0_2 a1 n (v2 + 1)))))
def f_Rk_holds (N : Nat) (x0_0 : (Nat → Int32)) (x0_2 : Int32) (a1 : Int32) : Option (Int32) := (f_Rk_holds_2 N x0_0 x0_2 a1 N 0)
end
section
def f_Do_store (N : Nat) (x0_0 : (Nat → Nat → Int32)) (x0_1 : (Nat → Int32)) (x0_3 : Int32) (a1 : Int32) (a2 : Int32) (a3 : Int32) (a4 : Int32) (a5 : Int32) (a6 : Int32) : Option ((Nat → Nat → Int32) × (Nat → Int32) × Int32) := (g_at a1 30 ((f_Nd_writeVector N (x0_0 a1.toNatClampNeg) a2 a3 a4 a5).bind fun p2 => (g_at a1 30 (some (va_up x0_0 a1.toNatClampNeg p2, upd x0_1 a1.toNatClampNeg a6, x0_3 ||| (1 <<< (a1 &&& 31)))))))
def f_Do_vector (N : Nat) (a1 : Int32) : Option (Unit) := (g_at a1 30 (some ()))
def f_Do_measure_2 (N : Nat) (x0_0 : (Nat → Nat → Int32)) (x1_0 : (Nat → Int32)) : Nat → (Nat → Int32) → Int32 → Option ((Nat → Int32))
  | 0, _, _ => none
  | n + 1, vak2_0, v3 => (if 30 ≤ v3 then (some vak2_0) else (g_at v3 30 ((f_Nd_distance N x1_0 (x0_0 v3.toNatClampNeg)).bind fun p3 => (g_at v3 30 (f_Do_measure_2 N x0_0 x1_0 n (upd vak2_0 v3.toNatClampNeg p3) (v3 + 1))))))
def f_Do_measure (N : Nat) (x0_0 : (Nat → Nat → Int32)) (x1_0 : (Nat → Int32)) (x2_0 : (Nat → Int32)) : Option ((Nat → Int32)) := (f_Do_measure_2 N x0_0 x1_0 N x2_0 0)
def f_Do_isLive (N : Nat) (x0_3 : Int32) (a1 : Int32) : Option (Int32) := ((f_Nd_isDocumentNumber N a1).bind fun p1 => (if p1 = 0 then (some 0) else ((f_Nd_isIn N x0_3 a1).bind fun p3 => (if p3 = 0 then (some 0) else (some 1)))))
def f_Do_retire (N : Nat) (x0_3 : Int32) (a1 : Int32) : Option (Int32 × Int32) := ((f_Do_isLive N x0_3 a1).bind fun p1 => (if p1 = 0 then (some (0, x0_3)) else (some (1, x0_3 &&& ((1 <<< (a1 &&& 31)) ^^^ (-1))))))
def f_Do_liveCount (N : Nat) (x0_3 : Int32) : Option (Int32) := ((f_In_bitCount N x0_3).bind fun p1 => (some p1))
def f_Do_rankByDistance_2 (N : Nat) (x0_0 : (Nat → Nat → Int32)) (x0_3 : Int32) (x1_0 : (Nat → Int32)) : Nat → T_Rk → Int32 → Option ((Nat → Int32) × (Nat → Int32) × Int32 × Int32 × Int32)
  | 0, _, _ => none
  | n + 1, vbk2_0, v3 => (if 30 ≤ v3 then (some (vbk2_0.1, vbk2_0.2.1, vbk2_0.2.2.1, vbk2_0.2.2.2.1, vbk2_0.2.2.2.2)) else ((f_Do_isLive N x0_3 v3).bind fun p2 => (if p2 = 0 then (f_Do_rankByDistance_2 N x0_0 x0_3 x1_0 n vbk2_0 (v3 + 1)) else (g_at v3 30 ((f_Nd_distance N x1_0 (x0_0 v3.toNatClampNeg)).bind fun p5 => ((f_Rk_add N vbk2_0.1 vbk2_0.2.1 vbk2_0.2.2.1 vbk2_0.2.2.2.1 vbk2_0.2.2.2.2 v3 p5).bind fun p6 => (f_Do_rankByDistance_2 N x0_0 x0_3 x1_0 n (p6.2.1, p6.2.2.1, p6.2.2.2, vbk2_0.2.2.2.1, vbk2_0.2.2.2.2) (v3 + 1))))))))
def f_Do_rankByDistance (N : Nat) (x0_0 : (Nat → Nat → Int32)) (x0_3 : Int32) (x1_0 : (Nat → Int32)) (x2_0 : (Nat → Int32)) (x2_1 : (Nat → Int32)) (x2_2 : Int32) (x2_3 : Int32) (x2_4 : Int32) : Option ((Nat → Int32) × (Nat → Int32) × Int32 × Int32 × Int32) := (f_Do_rankByDistance_2 N x0_0 x0_3 x1_0 N (x2_0, x2_1, x2_2, x2_3, x2_4) 0)
def f_Do_countOfWord (N : Nat) (x0_1 : (Nat → Int32)) (a1 : Int32) (a2 : Int32) : Option (Int32) := (g_at a1 30 (some (((x0_1 a1.toNatClampNeg) >>> ((3 * a2) &&& 31)) &&& 7)))
def f_Do_liveWith_4 (N : Nat) (x0_1 : (Nat → Int32)) (x0_3 : Int32) (a1 : Int32) : Nat → Int32 → Int32 → Option (Int32)
  | 0, _, _ => none
  | n + 1, v2, v3 => (if 30 ≤ v3 then (some v2) else ((f_Do_isLive N x0_3 v3).bind fun p2 => (if p2 = 0 then (f_Do_liveWith_4 N x0_1 x0_3 a1 n v2 (v3 + 1)) else ((f_Do_countOfWord N x0_1 v3 a1).bind fun p4 => (if p4 ≤ 0 then (f_Do_liveWith_4 N x0_1 x0_3 a1 n v2 (v3 + 1)) else (f_Do_liveWith_4 N x0_1 x0_3 a1 n (v2 + 1) (v3 + 1)))))))
def f_Do_liveWith (N : Nat) (x0_1 : (Nat → Int32)) (x0_3 : Int32) (a1 : Int32) : Option (Int32) := (f_Do_liveWith_4 N x0_1 x0_3 a1 N 0 0)
def f_Do_weighWords_2 (N : Nat) (x0_1 : (Nat → Int32)) (x0_3 : Int32) : Nat → (Nat → Int32) → Int32 → Option ((Nat → Int32))
  | 0, _, _ => none
  | n + 1, vak0_33, v1 => (if 8 ≤ v1 then (some vak0_33) else ((f_Do_liveWith N x0_1 x0_3 v1).bind fun p2 => (if p2 ≤ 0 then (g_at v1 8 (f_Do_weighWords_2 N x0_1 x0_3 n (upd vak0_33 v1.toNatClampNeg 0) (v1 + 1))) else ((f_Do_liveCount N x0_3).bind fun p6 => (g_dv p2 (g_at v1 8 (f_Do_weighWords_2 N x0_1 x0_3 n (upd vak0_33 v1.toNatClampNeg (1 + (p6 / p2))) (v1 + 1))))))))
def f_Do_weighWords (N : Nat) (x0_1 : (Nat → Int32)) (x0_2 : (Nat → Int32)) (x0_3 : Int32) : Option ((Nat → Int32)) := (f_Do_weighWords_2 N x0_1 x0_3 N x0_2 0)
def f_Do_score_5 (N : Nat) (x0_1 : (Nat → Int32)) (x0_2 : (Nat → Int32)) (a1 : Int32) (a2 : Int32) : Nat → Int32 → Int32 → Option (Int32)
  | 0, _, _ => none
  | n + 1, v3, v4 => (if 8 ≤ v4 then (some v3) else ((f_Nd_isIn N a2 v4).bind fun p2 => (if p2 = 0 then (f_Do_score_5 N x0_1 x0_2 a1 a2 n v3 (v4 + 1)) else ((f_Do_countOfWord N x0_1 a1 v4).bind fun p4 => (g_dv (p4 + 1) (g_at v4 8 (f_Do_score_5 N x0_1 x0_2 a1 a2 n (v3 + (((100 * p4) / (p4 + 1)) * (x0_2 v4.toNatClampNeg))) (v4 + 1))))))))
def f_Do_score (N : Nat) (x0_1 : (Nat → Int32)) (x0_2 : (Nat → Int32)) (a1 : Int32) (a2 : Int32) : Option (Int32) := (f_Do_score_5 N x0_1 x0_2 a1 a2 N 0 0)
def f_Do_rankByScore_6 (N : Nat) (x0_1 : (Nat → Int32)) (x0_3 : Int32) (a1 : Int32) (p1 : (Nat → Int32)) : Nat → T_Rk → Int32 → Option ((Nat → Int32) × (Nat → Int32) × (Nat → Int32) × Int32 × Int32 × Int32)
  | 0, _, _ => none
  | n + 1, vbk1_0, v3 => (if 30 ≤ v3 then (some (p1, vbk1_0.1, vbk1_0.2.1, vbk1_0.2.2.1, vbk1_0.2.2.2.1, vbk1_0.2.2.2.2)) else ((f_Do_isLive N x0_3 v3).bind fun p4 => (if p4 = 0 then (f_Do_rankByScore_6 N x0_1 x0_3 a1 p1 n vbk1_0 (v3 + 1)) else ((f_Do_score N x0_1 p1 v3 a1).bind fun p7 => (if p7 ≤ 0 then (f_Do_rankByScore_6 N x0_1 x0_3 a1 p1 n vbk1_0 (v3 + 1)) else ((f_Rk_add N vbk1_0.1 vbk1_0.2.1 vbk1_0.2.2.1 vbk1_0.2.2.2.1 vbk1_0.2.2.2.2 v3 p7).bind fun p9 => (f_Do_rankByScore_6 N x0_1 x0_3 a1 p1 n (p9.2.1, p9.2.2.1, p9.2.2.2, vbk1_0.2.2.2.1, vbk1_0.2.2.2.2) (v3 + 1))))))))
def f_Do_rankByScore (N : Nat) (x0_1 : (Nat → Int32)) (x0_2 : (Nat → Int32)) (x0_3 : Int32) (x1_0 : (Nat → Int32)) (x1_1 : (Nat → Int32)) (x1_2 : Int32) (x1_3 : Int32) (x1_4 : Int32) (a1 : Int32) : Option ((Nat → Int32) × (Nat → Int32) × (Nat → Int32) × Int32 × Int32 × Int32) := ((f_Do_weighWords N x0_1 x0_2 x0_3).bind fun p1 => (f_Do_rankByScore_6 N x0_1 x0_3 a1 p1 N (x1_0, x1_1, x1_2, x1_3, x1_4) 0))
def f_Do_counts (N : Nat) (x0_1 : (Nat → Int32)) (a1 : Int32) : Option (Int32) := (g_at a1 30 (some (x0_1 a1.toNatClampNeg)))
def f_Do_coordinate (N : Nat) (x0_0 : (Nat → Nat → Int32)) (a1 : Int32) (a2 : Int32) : Option (Int32) := (g_at a1 30 (g_at a2 4 (some ((x0_0 a1.toNatClampNeg) a2.toNatClampNeg))))
end
section
def f_Ch_isNearestToVector_3 (N : Nat) (x0_0 : (Nat → Int32)) (x0_1 : Int32) (x1_0 : (Nat → Nat → Int32)) (a2 : Int32) (a3 : Int32) : Nat → Int32 → Option (Int32)
  | 0, _ => none
  | n + 1, v4 => (if x0_1 ≤ v4 then (some 1) else ((f_Do_vector N a2).bind fun p2 => (g_at v4 30 ((f_Do_vector N (x0_0 v4.toNatClampNeg)).bind fun p5 => ((f_Nd_distance N (x1_0 a2.toNatClampNeg) (x1_0 (x0_0 v4.toNatClampNeg).toNatClampNeg)).bind fun p7 => (if a3 < p7 then (f_Ch_isNearestToVector_3 N x0_0 x0_1 x1_0 a2 a3 n (v4 + 1)) else (some 0)))))))
def f_Ch_isNearestToVector (N : Nat) (x0_0 : (Nat → Int32)) (x0_1 : Int32) (x1_0 : (Nat → Nat → Int32)) (a2 : Int32) (a3 : Int32) : Option (Int32) := (f_Ch_isNearestToVector_3 N x0_0 x0_1 x1_0 a2 a3 N 0)
def f_Ch_take (N : Nat) (x0_0 : (Nat → Int32)) (x0_1 : Int32) (x0_2 : Int32) (a1 : Int32) : Option ((Nat → Int32) × Int32 × Int32) := (g_at x0_1 30 (some (upd x0_0 x0_1.toNatClampNeg a1, x0_1 + 1, x0_2 ||| (1 <<< (a1 &&& 31)))))
def f_Ch_choose_69 (N : Nat) (x2_0 : (Nat → Int32)) (x2_2 : Int32) (a3 : Int32) : Nat → (Nat → Int32) → Int32 → Int32 → Int32 → Option ((Nat → Int32) × Int32 × Int32)
  | 0, _, _, _, _ => none
  | n + 1, vak0_1, vfk0_0_1, vfk0_0_2, v4 => ((f_Rk_size N x2_2).bind fun p12 => (if p12 ≤ v4 then (some (vak0_1, vfk0_0_1, vfk0_0_2)) else (if a3 ≤ vfk0_0_1 then (some (vak0_1, vfk0_0_1, vfk0_0_2)) else ((f_Rk_numberAt N x2_0 v4).bind fun p15 => ((f_Nd_isIn N vfk0_0_2 p15).bind fun p16 => (if p16 = 0 then ((f_Ch_take N vak0_1 vfk0_0_1 vfk0_0_2 p15).bind fun p18 => (f_Ch_choose_69 N x2_0 x2_2 a3 n p18.1 p18.2.1 p18.2.2 (v4 + 1))) else (f_Ch_choose_69 N x2_0 x2_2 a3 n vak0_1 vfk0_0_1 vfk0_0_2 (v4 + 1))))))))
def f_Ch_choose_13 (N : Nat) (x1_0 : (Nat → Nat → Int32)) (x2_0 : (Nat → Int32)) (x2_1 : (Nat → Int32)) (x2_2 : Int32) (a3 : Int32) : Nat → (Nat → Int32) → Int32 → Int32 → Int32 → Option ((Nat → Int32) × Int32 × Int32)
  | 0, _, _, _, _ => none
  | n + 1, vak0_1, vfk0_0_1, vfk0_0_2, v4 => ((f_Rk_size N x2_2).bind fun p3 => (if p3 ≤ v4 then (f_Ch_choose_69 N x2_0 x2_2 a3 N vak0_1 vfk0_0_1 vfk0_0_2 0) else (if a3 ≤ vfk0_0_1 then (f_Ch_choose_69 N x2_0 x2_2 a3 N vak0_1 vfk0_0_1 vfk0_0_2 0) else ((f_Rk_numberAt N x2_0 v4).bind fun p6 => ((f_Rk_valueAt N x2_1 v4).bind fun p7 => ((f_Ch_isNearestToVector N vak0_1 vfk0_0_1 x1_0 p6 p7).bind fun p8 => (if p8 = 0 then (f_Ch_choose_13 N x1_0 x2_0 x2_1 x2_2 a3 n vak0_1 vfk0_0_1 vfk0_0_2 (v4 + 1)) else ((f_Ch_take N vak0_1 vfk0_0_1 vfk0_0_2 p6).bind fun p10 => (f_Ch_choose_13 N x1_0 x2_0 x2_1 x2_2 a3 n p10.1 p10.2.1 p10.2.2 (v4 + 1))))))))))
def f_Ch_choose (N : Nat) (x0_0 : (Nat → Int32)) (x1_0 : (Nat → Nat → Int32)) (x2_0 : (Nat → Int32)) (x2_1 : (Nat → Int32)) (x2_2 : Int32) (a3 : Int32) : Option ((Nat → Int32) × Int32 × Int32) := (f_Ch_choose_13 N x1_0 x2_0 x2_1 x2_2 a3 N x0_0 0 0 0)
def f_Ch_size (N : Nat) (x0_1 : Int32) : Option (Int32) := (some x0_1)
def f_Ch_chosen (N : Nat) (x0_0 : (Nat → Int32)) (a1 : Int32) : Option (Int32) := (g_at a1 30 (some (x0_0 a1.toNatClampNeg)))
end
section
def f_Li_freeNumber_2 (N : Nat) (x0_0 : (Nat → Int32)) : Nat → Int32 → Option (Int32)
  | 0, _ => none
  | n + 1, v1 => (if 30 ≤ v1 then (some (-2)) else (g_at v1 30 (if (x0_0 v1.toNatClampNeg) = 0 then (some v1) else (f_Li_freeNumber_2 N x0_0 n (v1 + 1)))))
def f_Li_freeNumber (N : Nat) (x0_0 : (Nat → Int32)) : Option (Int32) := (f_Li_freeNumber_2 N x0_0 N 0)
def f_Li_levelOf_4 (N : Nat) : Nat → Int32 → Int32 → Option (Int32)
  | 0, _, _ => none
  | n + 1, v1, v2 => (if 3 ≤ v1 then (some v1) else (if (v2 - v2 / 3 * 3) = 0 then (f_Li_levelOf_4 N n (v1 + 1) (v2 / 3)) else (some v1)))
def f_Li_levelOf (N : Nat) (a0 : Int32) : Option (Int32) := (f_Li_levelOf_4 N N 0 a0)
def f_Li_addNode_35 (N : Nat) (x0_0 : (Nat → Int32)) (x0_1 : (Nat → Int32)) (x0_5 : Int32) (a1 : Int32) (p4 : Int32) : Nat → (Nat → Int32) → Int32 → Option ((Nat → Int32) × (Nat → Int32) × (Nat → Int32) × Int32)
  | 0, _, _ => none
  | n + 1, vak0_3, v2 => (if 4 ≤ v2 then (some (upd x0_0 a1.toNatClampNeg (x0_5 + 1), upd x0_1 a1.toNatClampNeg p4, vak0_3, x0_5 + 1)) else (g_at ((a1 * 4) + v2) 120 (f_Li_addNode_35 N x0_0 x0_1 x0_5 a1 p4 n (upd vak0_3 ((a1 * 4) + v2).toNatClampNeg 0) (v2 + 1))))
def f_Li_addNode (N : Nat) (x0_0 : (Nat → Int32)) (x0_1 : (Nat → Int32)) (x0_2 : (Nat → Int32)) (x0_5 : Int32) (a1 : Int32) : Option ((Nat → Int32) × (Nat → Int32) × (Nat → Int32) × Int32) := (g_at a1 30 ((f_Li_levelOf N (x0_5 + 1)).bind fun p4 => (g_at a1 30 (f_Li_addNode_35 N x0_0 x0_1 x0_5 a1 p4 N x0_2 0))))
def f_Li_level (N : Nat) (x0_1 : (Nat → Int32)) (a1 : Int32) : Option (Int32) := (g_at a1 30 (some (x0_1 a1.toNatClampNeg)))
def f_Li_degree (N : Nat) (x0_2 : (Nat → Int32)) (a1 : Int32) (a2 : Int32) : Option (Int32) := (g_at ((a1 * 4) + a2) 120 (some (x0_2 ((a1 * 4) + a2).toNatClampNeg)))
def f_Li_linked (N : Nat) (x0_3 : (Nat → Int32)) (a1 : Int32) (a2 : Int32) (a3 : Int32) : Option (Int32) := (g_at ((((a1 * 4) + a2) * 7) + a3) 840 (some (x0_3 ((((a1 * 4) + a2) * 7) + a3).toNatClampNeg)))
def f_Li_append (N : Nat) (x0_2 : (Nat → Int32)) (x0_3 : (Nat → Int32)) (a1 : Int32) (a2 : Int32) (a3 : Int32) : Option ((Nat → Int32) × (Nat → Int32)) := (g_at ((a1 * 4) + a2) 120 (if 7 ≤ (x0_2 ((a1 * 4) + a2).toNatClampNeg) then (some (x0_2, x0_3)) else (g_at ((a1 * 4) + a2) 120 (g_at ((((a1 * 4) + a2) * 7) + (x0_2 ((a1 * 4) + a2).toNatClampNeg)) 840 (g_at ((a1 * 4) + a2) 120 (g_at ((a1 * 4) + a2) 120 (some (upd x0_2 ((a1 * 4) + a2).toNatClampNeg ((x0_2 ((a1 * 4) + a2).toNatClampNeg) + 1), upd x0_3 ((((a1 * 4) + a2) * 7) + (x0_2 ((a1 * 4) + a2).toNatClampNeg)).toNatClampNeg a3))))))))
def f_Li_replace_14 (N : Nat) (x1_0 : (Nat → Int32)) (x1_1 : Int32) (a1 : Int32) (a2 : Int32) : Nat → (Nat → Int32) → (Nat → Int32) → Int32 → Option ((Nat → Int32) × (Nat → Int32))
  | 0, _, _, _ => none
  | n + 1, vak0_3, vak0_4, v4 => ((f_Ch_size N x1_1).bind fun p3 => (if p3 ≤ v4 then (some (vak0_3, vak0_4)) else ((f_Ch_chosen N x1_0 v4).bind fun p5 => ((f_Li_append N vak0_3 vak0_4 a1 a2 p5).bind fun p6 => (f_Li_replace_14 N x1_0 x1_1 a1 a2 n p6.1 p6.2 (v4 + 1))))))
def f_Li_replace (N : Nat) (x0_2 : (Nat → Int32)) (x0_3 : (Nat → Int32)) (x1_0 : (Nat → Int32)) (x1_1 : Int32) (a1 : Int32) (a2 : Int32) : Option ((Nat → Int32) × (Nat → Int32)) := (g_at ((a1 * 4) + a2) 120 (f_Li_replace_14 N x1_0 x1_1 a1 a2 N (upd x0_2 ((a1 * 4) + a2).toNatClampNeg 0) x0_3 0))
def f_Li_most (N : Nat) (a1 : Int32) : Option (Int32) := (if a1 = 0 then (some 6) else (some 3))
def f_Li_size (N : Nat) (x0_5 : Int32) : Option (Int32) := (some x0_5)
def f_Li_clear_2 (N : Nat) : Nat → (Nat → Int32) → Int32 → Option ((Nat → Int32) × Int32)
  | 0, _, _ => none
  | n + 1, vak0_1, v1 => (if 30 ≤ v1 then (some (vak0_1, 0)) else (g_at v1 30 (f_Li_clear_2 N n (upd vak0_1 v1.toNatClampNeg 0) (v1 + 1))))
def f_Li_clear (N : Nat) (x0_0 : (Nat → Int32)) : Option ((Nat → Int32) × Int32) := (f_Li_clear_2 N N x0_0 0)
def f_Li_isNode (N : Nat) (x0_0 : (Nat → Int32)) (a1 : Int32) : Option (Int32) := ((f_Nd_isDocumentNumber N a1).bind fun p1 => (if p1 = 0 then (some 0) else (g_at a1 30 (if (x0_0 a1.toNatClampNeg) ≤ 0 then (some 0) else (some 1)))))
def f_Li_isInLayer (N : Nat) (x0_0 : (Nat → Int32)) (x0_1 : (Nat → Int32)) (a1 : Int32) (a2 : Int32) : Option (Int32) := ((f_Li_isNode N x0_0 a1).bind fun p1 => (if p1 = 0 then (some 0) else (g_at a1 30 ((f_Nd_isWithin N a2 0 (x0_1 a1.toNatClampNeg)).bind fun p4 => (if p4 = 0 then (some 0) else (some 1))))))
def f_Li_order (N : Nat) (x0_0 : (Nat → Int32)) (a1 : Int32) : Option (Int32) := (g_at a1 30 (some (x0_0 a1.toNatClampNeg)))
def f_Li_isLinked_2 (N : Nat) (x0_2 : (Nat → Int32)) (x0_3 : (Nat → Int32)) (a1 : Int32) (a2 : Int32) : Nat → Int32 → Option (Int32)
  | 0, _ => none
  | n + 1, v3 => ((f_Li_degree N x0_2 a1 0).bind fun p1 => (if p1 ≤ v3 then (some 0) else ((f_Li_linked N x0_3 a1 0 v3).bind fun p3 => (if p3 = a2 then (some 1) else (f_Li_isLinked_2 N x0_2 x0_3 a1 a2 n (v3 + 1))))))
def f_Li_isLinked (N : Nat) (x0_2 : (Nat → Int32)) (x0_3 : (Nat → Int32)) (a1 : Int32) (a2 : Int32) : Option (Int32) := (f_Li_isLinked_2 N x0_2 x0_3 a1 a2 N 0)
def f_Li_unreturned_4 (N : Nat) (x0_2 : (Nat → Int32)) (x0_3 : (Nat → Int32)) (a1 : Int32) : Nat → Int32 → Int32 → Option (Int32)
  | 0, _, _ => none
  | n + 1, v2, v3 => ((f_Li_degree N x0_2 a1 0).bind fun p1 => (if p1 ≤ v3 then (some v2) else ((f_Li_linked N x0_3 a1 0 v3).bind fun p3 => ((f_Li_isLinked N x0_2 x0_3 p3 a1).bind fun p4 => (if p4 = 0 then (f_Li_unreturned_4 N x0_2 x0_3 a1 n (v2 + 1) (v3 + 1)) else (f_Li_unreturned_4 N x0_2 x0_3 a1 n v2 (v3 + 1)))))))
def f_Li_unreturned (N : Nat) (x0_2 : (Nat → Int32)) (x0_3 : (Nat → Int32)) (a1 : Int32) : Option (Int32) := (f_Li_unreturned_4 N x0_2 x0_3 a1 N 0 0)
def f_Li_oneSidedPairs_4 (N : Nat) (x0_0 : (Nat → Int32)) (x0_2 : (Nat → Int32)) (x0_3 : (Nat → Int32)) : Nat → Int32 → Int32 → Option (Int32)
  | 0, _, _ => none
  | n + 1, v1, v2 => (if 30 ≤ v2 then (some v1) else ((f_Li_isNode N x0_0 v2).bind fun p2 => (if p2 = 0 then (f_Li_oneSidedPairs_4 N x0_0 x0_2 x0_3 n v1 (v2 + 1)) else ((f_Li_unreturned N x0_2 x0_3 v2).bind fun p4 => (f_Li_oneSidedPairs_4 N x0_0 x0_2 x0_3 n (v1 + p4) (v2 + 1))))))
def f_Li_oneSidedPairs (N : Nat) (x0_0 : (Nat → Int32)) (x0_2 : (Nat → Int32)) (x0_3 : (Nat → Int32)) : Option (Int32) := (f_Li_oneSidedPairs_4 N x0_0 x0_2 x0_3 N 0 0)
def f_Li_reachedFrom_42 (N : Nat) (x0_2 : (Nat → Int32)) (x0_3 : (Nat → Int32)) (v4 : Int32) (kk : (Nat → Int32) → Int32 → Int32 → Int32 → Option (Int32 × (Nat → Int32))) : Nat → (Nat → Int32) → Int32 → Int32 → Int32 → Option (Int32 × (Nat → Int32))
  | 0, _, _, _, _ => none
  | n + 1, vak0_5, v2, v3, v5 => (g_at v4 30 ((f_Li_degree N x0_2 (vak0_5 v4.toNatClampNeg) 0).bind fun p10 => (if p10 ≤ v5 then (kk vak0_5 v2 v3 v5) else (g_at v4 30 ((f_Li_linked N x0_3 (vak0_5 v4.toNatClampNeg) 0 v5).bind fun p13 => ((f_Nd_isIn N v2 p13).bind fun p14 => (if p14 = 0 then (g_at v3 30 (f_Li_reachedFrom_42 N x0_2 x0_3 v4 kk n (upd vak0_5 v3.toNatClampNeg p13) (v2 ||| (1 <<< (p13 &&& 31))) (v3 + 1) (v5 + 1))) else (f_Li_reachedFrom_42 N x0_2 x0_3 v4 kk n vak0_5 v2 v3 (v5 + 1)))))))))
def f_Li_reachedFrom_26 (N : Nat) (x0_2 : (Nat → Int32)) (x0_3 : (Nat → Int32)) : Nat → (Nat → Int32) → Int32 → Int32 → Int32 → Option (Int32 × (Nat → Int32))
  | 0, _, _, _, _ => none
  | n + 1, vak0_5, v2, v3, v4 => (if 30 ≤ v4 then (some (v3, vak0_5)) else (if v3 ≤ v4 then (some (v3, vak0_5)) else (f_Li_reachedFrom_42 N x0_2 x0_3 v4 (fun vak0_5_7 v2_7 v3_7 v5_7 => (f_Li_reachedFrom_26 N x0_2 x0_3 n vak0_5_7 v2_7 v3_7 (v4 + 1))) N vak0_5 v2 v3 0)))
def f_Li_reachedFrom (N : Nat) (x0_0 : (Nat → Int32)) (x0_2 : (Nat → Int32)) (x0_3 : (Nat → Int32)) (x0_4 : (Nat → Int32)) (a1 : Int32) : Option (Int32 × (Nat → Int32)) := ((f_Li_isNode N x0_0 a1).bind fun p1 => (if p1 = 0 then (some (0, x0_4)) else (g_at 0 30 (f_Li_reachedFrom_26 N x0_2 x0_3 N (upd x0_4 (0 : Int32).toNatClampNeg a1) (1 <<< (a1 &&& 31)) 1 0))))
end
section
def f_Wa_standAt (N : Nat) (x0_0 : T_Rk) (x0_2 : (Nat → Int32)) (x1_0 : (Nat → Nat → Int32)) (x2_0 : (Nat → Int32)) (a3 : Int32) : Option (T_Rk × (Nat → Int32)) := ((f_Do_measure N x1_0 x2_0 x0_2).bind fun p1 => ((f_Rk_start N 1 0).bind fun p3 => (g_at a3 30 ((f_Rk_add N x0_0.1 x0_0.2.1 p3.1 p3.2.1 p3.2.2 a3 (p1 a3.toNatClampNeg)).bind fun p6 => (some ((p6.2.1, p6.2.2.1, p6.2.2.2, p3.2.1, p3.2.2), p1))))))
def f_Wa_begin_63 (N : Nat) (x0_0 : T_Rk) (vfk0_0_3 : Int32) (p4 : Int32 × Int32) : Nat → T_Rk → Int32 → Option (T_Rk × T_Rk × Int32)
  | 0, _, _ => none
  | n + 1, vbk0_4, v2 => ((f_Rk_size N p4.1).bind fun p10 => (if p10 ≤ v2 then (some ((x0_0.1, x0_0.2.1, p4.1, p4.2, x0_0.2.2.2.2), vbk0_4, vfk0_0_3)) else ((f_Rk_numberAt N x0_0.1 v2).bind fun p12 => ((f_Rk_valueAt N x0_0.2.1 v2).bind fun p13 => ((f_Rk_add N vbk0_4.1 vbk0_4.2.1 vbk0_4.2.2.1 vbk0_4.2.2.2.1 vbk0_4.2.2.2.2 p12 p13).bind fun p14 => (f_Wa_begin_63 N x0_0 vfk0_0_3 p4 n (p14.2.1, p14.2.2.1, p14.2.2.2, vbk0_4.2.2.2.1, vbk0_4.2.2.2.2) (v2 + 1)))))))
def f_Wa_begin_7 (N : Nat) (x0_0 : T_Rk) (x0_1 : T_Rk) (a1 : Int32) : Nat → Int32 → Int32 → Option (T_Rk × T_Rk × Int32)
  | 0, _, _ => none
  | n + 1, vfk0_0_3, v2 => ((f_Rk_size N x0_0.2.2.1).bind fun p2 => (if p2 ≤ v2 then ((f_Rk_changeRoom N x0_0.2.2.1 a1).bind fun p4 => ((f_Rk_start N 30 0).bind fun p6 => (f_Wa_begin_63 N x0_0 vfk0_0_3 p4 N (x0_1.1, x0_1.2.1, p6.1, p6.2.1, p6.2.2) 0))) else ((f_Rk_numberAt N x0_0.1 v2).bind fun p8 => (f_Wa_begin_7 N x0_0 x0_1 a1 n (vfk0_0_3 ||| (1 <<< (p8 &&& 31))) (v2 + 1)))))
def f_Wa_begin (N : Nat) (x0_0 : T_Rk) (x0_1 : T_Rk) (a1 : Int32) : Option (T_Rk × T_Rk × Int32) := (f_Wa_begin_7 N x0_0 x0_1 a1 N 0 0)
def f_Wa_lookAround_3 (N : Nat) (x0_2 : (Nat → Int32)) (x1_2 : (Nat → Int32)) (x1_3 : (Nat → Int32)) (a2 : Int32) (a3 : Int32) : Nat → T_Rk → T_Rk → Int32 → Int32 → Option (T_Rk × T_Rk × Int32)
  | 0, _, _, _, _ => none
  | n + 1, vbk0_1, vbk0_4, vfk0_0_3, v4 => ((f_Li_degree N x1_2 a3 a2).bind fun p1 => (if p1 ≤ v4 then (some (vbk0_1, vbk0_4, vfk0_0_3)) else ((f_Li_linked N x1_3 a3 a2 v4).bind fun p3 => ((f_Nd_isIn N vfk0_0_3 p3).bind fun p4 => (if p4 = 0 then (g_at p3 30 ((f_Rk_add N vbk0_1.1 vbk0_1.2.1 vbk0_1.2.2.1 vbk0_1.2.2.2.1 vbk0_1.2.2.2.2 p3 (x0_2 p3.toNatClampNeg)).bind fun p8 => (if p8.1 = 0 then (f_Wa_lookAround_3 N x0_2 x1_2 x1_3 a2 a3 n (p8.2.1, p8.2.2.1, p8.2.2.2, vbk0_1.2.2.2.1, vbk0_1.2.2.2.2) vbk0_4 (vfk0_0_3 ||| (1 <<< (p3 &&& 31))) (v4 + 1)) else (g_at p3 30 ((f_Rk_add N vbk0_4.1 vbk0_4.2.1 vbk0_4.2.2.1 vbk0_4.2.2.2.1 vbk0_4.2.2.2.2 p3 (x0_2 p3.toNatClampNeg)).bind fun p12 => (f_Wa_lookAround_3 N x0_2 x1_2 x1_3 a2 a3 n (p8.2.1, p8.2.2.1, p8.2.2.2, vbk0_1.2.2.2.1, vbk0_1.2.2.2.2) (p12.2.1, p12.2.2.1, p12.2.2.2, vbk0_4.2.2.2.1, vbk0_4.2.2.2.2) (vfk0_0_3 ||| (1 <<< (p3 &&& 31))) (v4 + 1))))))) else (f_Wa_lookAround_3 N x0_2 x1_2 x1_3 a2 a3 n vbk0_1 vbk0_4 vfk0_0_3 (v4 + 1)))))))
def f_Wa_lookAround (N : Nat) (x0_0 : T_Rk) (x0_1 : T_Rk) (x0_2 : (Nat → Int32)) (x0_3 : Int32) (x1_2 : (Nat → Int32)) (x1_3 : (Nat → Int32)) (a2 : Int32) (a3 : Int32) : Option (T_Rk × T_Rk × Int32) := (f_Wa_lookAround_3 N x0_2 x1_2 x1_3 a2 a3 N x0_0 x0_1 x0_3 0)
def f_Wa_walk_8 (N : Nat) (x0_2 : (Nat → Int32)) (x1_2 : (Nat → Int32)) (x1_3 : (Nat → Int32)) (a2 : Int32) : Nat → T_Rk → T_Rk → Int32 → Int32 → Option (Int32 × T_Rk × T_Rk × Int32)
  | 0, _, _, _, _ => none
  | n + 1, vbk0_1, vbk0_4, vfk0_0_3, v4 => (if 30 ≤ v4 then ((f_In_bitCount N vfk0_0_3).bind fun p4 => (some (p4, vbk0_1, vbk0_4, vfk0_0_3))) else ((f_Rk_size N vbk0_4.2.2.1).bind fun p5 => (if p5 ≤ 0 then ((f_In_bitCount N vfk0_0_3).bind fun p7 => (some (p7, vbk0_1, vbk0_4, vfk0_0_3))) else ((f_Rk_numberAt N vbk0_4.1 0).bind fun p8 => ((f_Rk_dropFirst N vbk0_4.1 vbk0_4.2.1 vbk0_4.2.2.1).bind fun p9 => ((f_Rk_isFull N vbk0_1.2.2.1 vbk0_1.2.2.2.1).bind fun p11 => (if p11 = 0 then ((f_Wa_lookAround N vbk0_1 (p9.1, p9.2.1, p9.2.2, vbk0_4.2.2.2.1, vbk0_4.2.2.2.2) x0_2 vfk0_0_3 x1_2 x1_3 a2 p8).bind fun p13 => (f_Wa_walk_8 N x0_2 x1_2 x1_3 a2 n p13.1 p13.2.1 p13.2.2 (v4 + 1))) else (g_at p8 30 ((f_Rk_lastPrecedes N vbk0_1.1 vbk0_1.2.1 vbk0_1.2.2.1 vbk0_1.2.2.2.2 p8 (x0_2 p8.toNatClampNeg)).bind fun p16 => (if p16 = 0 then ((f_Wa_lookAround N vbk0_1 (p9.1, p9.2.1, p9.2.2, vbk0_4.2.2.2.1, vbk0_4.2.2.2.2) x0_2 vfk0_0_3 x1_2 x1_3 a2 p8).bind fun p18 => (f_Wa_walk_8 N x0_2 x1_2 x1_3 a2 n p18.1 p18.2.1 p18.2.2 (v4 + 1))) else ((f_In_bitCount N vfk0_0_3).bind fun p20 => (some (p20, vbk0_1, (p9.1, p9.2.1, p9.2.2, vbk0_4.2.2.2.1, vbk0_4.2.2.2.2), vfk0_0_3)))))))))))))
def f_Wa_walk (N : Nat) (x0_0 : T_Rk) (x0_1 : T_Rk) (x0_2 : (Nat → Int32)) (x1_2 : (Nat → Int32)) (x1_3 : (Nat → Int32)) (a2 : Int32) (a3 : Int32) : Option (Int32 × T_Rk × T_Rk × Int32) := ((f_Wa_begin N x0_0 x0_1 a3).bind fun p1 => (f_Wa_walk_8 N x0_2 x1_2 x1_3 a2 N p1.1 p1.2.1 p1.2.2 0))
def f_Wa_held (N : Nat) : Option (Unit) := (some ())
def f_Wa_standNowhere (N : Nat) (x0_0 : T_Rk) : Option (T_Rk) := ((f_Rk_start N 0 0).bind fun p1 => (some (x0_0.1, x0_0.2.1, p1.1, p1.2.1, p1.2.2)))
end
section
def f_Gr_top (N : Nat) (x0_0 : T_Li) (x0_4 : Int32) : Option (Int32) := (if x0_4 = (-2) then (some (-2)) else ((f_Li_level N x0_0.2.1 x0_4).bind fun p2 => (some p2)))
def f_Gr_shorten_13 (N : Nat) (x0_0 : T_Li) (x0_2 : T_Ch) (x1_0 : (Nat → Nat → Int32)) (a2 : Int32) (a3 : Int32) : Nat → T_Rk → Int32 → Option (T_Li × T_Ch × T_Rk)
  | 0, _, _ => none
  | n + 1, vbk0_17, v4 => ((f_Li_degree N x0_0.2.2.1 a2 a3).bind fun p3 => (if p3 ≤ v4 then ((f_Li_most N a3).bind fun p5 => ((f_Ch_choose N x0_2.1 x1_0 vbk0_17.1 vbk0_17.2.1 vbk0_17.2.2.1 p5).bind fun p6 => ((f_Li_replace N x0_0.2.2.1 x0_0.2.2.2.1 p6.1 p6.2.1 a2 a3).bind fun p8 => (some ((x0_0.1, x0_0.2.1, p8.1, p8.2, x0_0.2.2.2.2.1, x0_0.2.2.2.2.2), (p6.1, p6.2.1, p6.2.2), vbk0_17))))) else ((f_Li_linked N x0_0.2.2.2.1 a2 a3 v4).bind fun p10 => ((f_Do_vector N a2).bind fun p11 => ((f_Do_vector N p10).bind fun p13 => ((f_Nd_distance N (x1_0 a2.toNatClampNeg) (x1_0 p10.toNatClampNeg)).bind fun p15 => ((f_Rk_add N vbk0_17.1 vbk0_17.2.1 vbk0_17.2.2.1 vbk0_17.2.2.2.1 vbk0_17.2.2.2.2 p10 p15).bind fun p16 => (f_Gr_shorten_13 N x0_0 x0_2 x1_0 a2 a3 n (p16.2.1, p16.2.2.1, p16.2.2.2, vbk0_17.2.2.2.1, vbk0_17.2.2.2.2) (v4 + 1)))))))))
def f_Gr_shorten (N : Nat) (x0_0 : T_Li) (x0_2 : T_Ch) (x0_3 : T_Rk) (x1_0 : (Nat → Nat → Int32)) (a2 : Int32) (a3 : Int32) : Option (T_Li × T_Ch × T_Rk) := ((f_Rk_start N 30 0).bind fun p1 => (f_Gr_shorten_13 N x0_0 x0_2 x1_0 a2 a3 N (x0_3.1, x0_3.2.1, p1.1, p1.2.1, p1.2.2) 0))
def f_Gr_link_32 (N : Nat) (x1_0 : (Nat → Nat → Int32)) (a2 : Int32) (a3 : Int32) : Nat → T_Li → T_Ch → T_Rk → Int32 → Option (T_Li × T_Ch × T_Rk)
  | 0, _, _, _, _ => none
  | n + 1, vbk0_1, vbk0_15, vbk0_17, v4 => ((f_Li_degree N vbk0_1.2.2.1 a2 a3).bind fun p6 => (if p6 ≤ v4 then (some (vbk0_1, vbk0_15, vbk0_17)) else ((f_Li_linked N vbk0_1.2.2.2.1 a2 a3 v4).bind fun p8 => ((f_Li_append N vbk0_1.2.2.1 vbk0_1.2.2.2.1 p8 a3 a2).bind fun p9 => ((f_Li_degree N p9.1 p8 a3).bind fun p11 => ((f_Li_most N a3).bind fun p12 => (if p11 ≤ p12 then (f_Gr_link_32 N x1_0 a2 a3 n (vbk0_1.1, vbk0_1.2.1, p9.1, p9.2, vbk0_1.2.2.2.2.1, vbk0_1.2.2.2.2.2) vbk0_15 vbk0_17 (v4 + 1)) else ((f_Gr_shorten N (vbk0_1.1, vbk0_1.2.1, p9.1, p9.2, vbk0_1.2.2.2.2.1, vbk0_1.2.2.2.2.2) vbk0_15 vbk0_17 x1_0 p8 a3).bind fun p14 => (f_Gr_link_32 N x1_0 a2 a3 n p14.1 p14.2.1 p14.2.2 (v4 + 1))))))))))
def f_Gr_link (N : Nat) (x0_0 : T_Li) (x0_1 : T_Wa) (x0_2 : T_Ch) (x0_3 : T_Rk) (x1_0 : (Nat → Nat → Int32)) (a2 : Int32) (a3 : Int32) : Option (T_Li × T_Ch × T_Rk) := ((f_Wa_held N).bind fun p1 => ((f_Ch_choose N x0_2.1 x1_0 x0_1.1.1 x0_1.1.2.1 x0_1.1.2.2.1 3).bind fun p2 => ((f_Li_replace N x0_0.2.2.1 x0_0.2.2.2.1 p2.1 p2.2.1 a2 a3).bind fun p4 => (f_Gr_link_32 N x1_0 a2 a3 N (x0_0.1, x0_0.2.1, p4.1, p4.2, x0_0.2.2.2.2.1, x0_0.2.2.2.2.2) (p2.1, p2.2.1, p2.2.2) x0_3 0))))
def f_Gr_enter_55 (N : Nat) (x0_4 : Int32) (x1_0 : (Nat → Nat → Int32)) (a2 : Int32) (p4 : Int32) : Nat → T_Li → T_Ch → T_Rk → T_Wa → Int32 → Int32 → Option (T_Li × T_Wa × T_Ch × T_Rk × Int32 × Int32)
  | 0, _, _, _, _, _, _ => none
  | n + 1, vbk0_1, vbk0_15, vbk0_17, vbk0_7, vfk0_0_6, v4 => (if v4 < 0 then ((f_Gr_top N vbk0_1 x0_4).bind fun p12 => (if p4 ≤ p12 then (some (vbk0_1, vbk0_7, vbk0_15, vbk0_17, x0_4, vfk0_0_6)) else (some (vbk0_1, vbk0_7, vbk0_15, vbk0_17, a2, vfk0_0_6)))) else (if v4 ≤ p4 then ((f_Wa_walk N vbk0_7.1 vbk0_7.2.1 vbk0_7.2.2.1 vbk0_1.2.2.1 vbk0_1.2.2.2.1 v4 5).bind fun p17 => ((f_Gr_link N vbk0_1 (p17.2.1, p17.2.2.1, vbk0_7.2.2.1, p17.2.2.2) vbk0_15 vbk0_17 x1_0 a2 v4).bind fun p21 => (f_Gr_enter_55 N x0_4 x1_0 a2 p4 n p21.1 p21.2.1 p21.2.2 (p17.2.1, p17.2.2.1, vbk0_7.2.2.1, p17.2.2.2) (vfk0_0_6 + p17.1) (v4 + (-1))))) else ((f_Wa_walk N vbk0_7.1 vbk0_7.2.1 vbk0_7.2.2.1 vbk0_1.2.2.1 vbk0_1.2.2.2.1 v4 1).bind fun p24 => (f_Gr_enter_55 N x0_4 x1_0 a2 p4 n vbk0_1 vbk0_15 vbk0_17 (p24.2.1, p24.2.2.1, vbk0_7.2.2.1, p24.2.2.2) (vfk0_0_6 + p24.1) (v4 + (-1))))))
def f_Gr_enter (N : Nat) (x0_0 : T_Li) (x0_1 : T_Wa) (x0_2 : T_Ch) (x0_3 : T_Rk) (x0_4 : Int32) (x0_6 : Int32) (x1_0 : (Nat → Nat → Int32)) (a2 : Int32) : Option (T_Li × T_Wa × T_Ch × T_Rk × Int32 × Int32) := ((f_Li_addNode N x0_0.1 x0_0.2.1 x0_0.2.2.1 x0_0.2.2.2.2.2 a2).bind fun p1 => (if x0_4 = (-2) then (some ((p1.1, p1.2.1, p1.2.2.1, x0_0.2.2.2.1, x0_0.2.2.2.2.1, p1.2.2.2), x0_1, x0_2, x0_3, a2, x0_6)) else ((f_Li_level N p1.2.1 a2).bind fun p4 => ((f_Do_vector N a2).bind fun p5 => ((f_Wa_standAt N x0_1.1 x0_1.2.2.1 x1_0 (x1_0 a2.toNatClampNeg) x0_4).bind fun p7 => ((f_Gr_top N (p1.1, p1.2.1, p1.2.2.1, x0_0.2.2.2.1, x0_0.2.2.2.2.1, p1.2.2.2) x0_4).bind fun p9 => (f_Gr_enter_55 N x0_4 x1_0 a2 p4 N (p1.1, p1.2.1, p1.2.2.1, x0_0.2.2.2.1, x0_0.2.2.2.2.1, p1.2.2.2) x0_2 x0_3 (p7.1, x0_1.2.1, p7.2, x0_1.2.2.2) x0_6 p9)))))))
def f_Gr_clear (N : Nat) (x0_0 : T_Li) : Option (T_Li × Int32) := ((f_Li_clear N x0_0.1).bind fun p1 => (some ((p1.1, x0_0.2.1, x0_0.2.2.1, x0_0.2.2.2.1, x0_0.2.2.2.2.1, p1.2), (-2))))
def f_Gr_search_38 (N : Nat) (x0_0 : T_Li) (a3 : Int32) : Nat → T_Wa → Int32 → Int32 → Option (T_Wa × Int32)
  | 0, _, _, _ => none
  | n + 1, vbk0_7, vfk0_0_5, v4 => (if v4 < 0 then ((f_Wa_held N).bind fun p9 => (some (vbk0_7, vfk0_0_5))) else (if v4 ≤ 0 then ((f_Wa_walk N vbk0_7.1 vbk0_7.2.1 vbk0_7.2.2.1 x0_0.2.2.1 x0_0.2.2.2.1 v4 a3).bind fun p11 => (f_Gr_search_38 N x0_0 a3 n (p11.2.1, p11.2.2.1, vbk0_7.2.2.1, p11.2.2.2) (vfk0_0_5 + p11.1) (v4 + (-1)))) else ((f_Wa_walk N vbk0_7.1 vbk0_7.2.1 vbk0_7.2.2.1 x0_0.2.2.1 x0_0.2.2.2.1 v4 1).bind fun p14 => (f_Gr_search_38 N x0_0 a3 n (p14.2.1, p14.2.2.1, vbk0_7.2.2.1, p14.2.2.2) (vfk0_0_5 + p14.1) (v4 + (-1))))))
def f_Gr_search (N : Nat) (x0_0 : T_Li) (x0_1 : T_Wa) (x0_4 : Int32) (x0_5 : Int32) (x1_0 : (Nat → Nat → Int32)) (x2_0 : (Nat → Int32)) (a3 : Int32) : Option (T_Wa × Int32) := (if x0_4 = (-2) then ((f_Wa_standNowhere N x0_1.1).bind fun p5 => ((f_Wa_held N).bind fun p7 => (some ((p5, x0_1.2.1, x0_1.2.2.1, x0_1.2.2.2), x0_5)))) else ((f_Wa_standAt N x0_1.1 x0_1.2.2.1 x1_0 x2_0 x0_4).bind fun p2 => ((f_Gr_top N x0_0 x0_4).bind fun p4 => (f_Gr_search_38 N x0_0 a3 N (p2.1, x0_1.2.1, p2.2, x0_1.2.2.2) x0_5 p4))))
def f_Gr_entry (N : Nat) (x0_4 : Int32) : Option (Int32) := (some x0_4)
def f_Gr_seenInSearches (N : Nat) (x0_5 : Int32) : Option (Int32) := (some x0_5)
def f_Gr_seenInEntering (N : Nat) (x0_6 : Int32) : Option (Int32) := (some x0_6)
end
section
def f_Nd_put (N : Nat) (x0_0 : T_Do) (x0_1 : T_Gr) (a1 : Int32) (a2 : Int32) (a3 : Int32) (a4 : Int32) (a5 : Int32) : Option (Int32 × T_Do × T_Gr) := ((f_Nd_isVector N a1 a2 a3 a4).bind fun p1 => (if p1 = 0 then (some ((-1), x0_0, x0_1)) else ((f_Nd_isWithin N a5 0 16777215).bind fun p3 => (if p3 = 0 then (some ((-1), x0_0, x0_1)) else ((f_Li_freeNumber N x0_1.1.1).bind fun p5 => (if p5 = (-2) then (some ((-3), x0_0, x0_1)) else ((f_Do_store N x0_0.1 x0_0.2.1 x0_0.2.2.2 p5 a1 a2 a3 a4 a5).bind fun p7 => ((f_Gr_enter N x0_1.1 x0_1.2.1 x0_1.2.2.1 x0_1.2.2.2.1 x0_1.2.2.2.2.1 x0_1.2.2.2.2.2.2 p7.1 p5).bind fun p9 => (some (p5, (p7.1, p7.2.1, x0_0.2.2.1, p7.2.2), (p9.1, p9.2.1, p9.2.2.1, p9.2.2.2.1, p9.2.2.2.2.1, x0_1.2.2.2.2.2.1, p9.2.2.2.2.2)))))))))))
def f_Nd_remove (N : Nat) (x0_0 : T_Do) (a1 : Int32) : Option (Int32 × T_Do) := ((f_Do_retire N x0_0.2.2.2 a1).bind fun p1 => (g_bl p1.1 (some (p1.1, (x0_0.1, x0_0.2.1, x0_0.2.2.1, p1.2)))))
def f_Nd_renew_28 (N : Nat) (x0_0 : T_Do) (p1 : Int32) (p2 : Int32) : Nat → T_Gr → Int32 → Option (Int32 × T_Gr)
  | 0, _, _ => none
  | n + 1, vbk0_35, v2 => (if 30 ≤ v2 then (some (p1 - p2, vbk0_35)) else ((f_Do_isLive N x0_0.2.2.2 v2).bind fun p6 => (if p6 = 0 then (f_Nd_renew_28 N x0_0 p1 p2 n vbk0_35 (v2 + 1)) else ((f_Gr_enter N vbk0_35.1 vbk0_35.2.1 vbk0_35.2.2.1 vbk0_35.2.2.2.1 vbk0_35.2.2.2.2.1 vbk0_35.2.2.2.2.2.2 x0_0.1 v2).bind fun p8 => (f_Nd_renew_28 N x0_0 p1 p2 n (p8.1, p8.2.1, p8.2.2.1, p8.2.2.2.1, p8.2.2.2.2.1, vbk0_35.2.2.2.2.2.1, p8.2.2.2.2.2) (v2 + 1))))))
def f_Nd_renew (N : Nat) (x0_0 : T_Do) (x0_1 : T_Gr) : Option (Int32 × T_Gr) := ((f_Li_size N x0_1.1.2.2.2.2.2).bind fun p1 => ((f_Do_liveCount N x0_0.2.2.2).bind fun p2 => ((f_Gr_clear N x0_1.1).bind fun p3 => (f_Nd_renew_28 N x0_0 p1 p2 N (p3.1, x0_1.2.1, x0_1.2.2.1, x0_1.2.2.2.1, p3.2, x0_1.2.2.2.2.2.1, x0_1.2.2.2.2.2.2) 0))))
def f_Nd_ask (N : Nat) (x0_4 : (Nat → Int32)) (a1 : Int32) (a2 : Int32) (a3 : Int32) (a4 : Int32) : Option (Int32 × (Nat → Int32)) := ((f_Nd_isVector N a1 a2 a3 a4).bind fun p1 => (if p1 = 0 then (some (0, x0_4)) else ((f_Nd_writeVector N x0_4 a1 a2 a3 a4).bind fun p3 => (some (1, p3)))))
def f_Nd_searchInto_results_20 (N : Nat) (x0_0 : T_Do) (x0_1 : T_Gr) (p1 : T_Wa × Int32) : Nat → T_Rk → Int32 → Option (T_Gr × T_Rk)
  | 0, _, _ => none
  | n + 1, vbk0_55, v4 => ((f_Rk_size N p1.1.1.2.2.1).bind fun p3 => (if p3 ≤ v4 then (some ((x0_1.1, p1.1, x0_1.2.2.1, x0_1.2.2.2.1, x0_1.2.2.2.2.1, p1.2, x0_1.2.2.2.2.2.2), vbk0_55)) else ((f_Rk_numberAt N p1.1.1.1 v4).bind fun p5 => ((f_Do_isLive N x0_0.2.2.2 p5).bind fun p6 => (if p6 = 0 then (f_Nd_searchInto_results_20 N x0_0 x0_1 p1 n vbk0_55 (v4 + 1)) else ((f_Rk_valueAt N p1.1.1.2.1 v4).bind fun p8 => ((f_Rk_add N vbk0_55.1 vbk0_55.2.1 vbk0_55.2.2.1 vbk0_55.2.2.2.1 vbk0_55.2.2.2.2 p5 p8).bind fun p9 => (f_Nd_searchInto_results_20 N x0_0 x0_1 p1 n (p9.2.1, p9.2.2.1, p9.2.2.2, vbk0_55.2.2.2.1, vbk0_55.2.2.2.2) (v4 + 1)))))))))
def f_Nd_searchInto_results (N : Nat) (x0_0 : T_Do) (x0_1 : T_Gr) (x0_2 : T_Rk) (x0_4 : (Nat → Int32)) (a2 : Int32) : Option (T_Gr × T_Rk) := ((f_Gr_search N x0_1.1 x0_1.2.1 x0_1.2.2.2.2.1 x0_1.2.2.2.2.2.1 x0_0.1 x0_4 a2).bind fun p1 => (f_Nd_searchInto_results_20 N x0_0 x0_1 p1 N x0_2 0))
def f_Nd_searchInto_scratch_20 (N : Nat) (x0_0 : T_Do) (x0_1 : T_Gr) (p1 : T_Wa × Int32) : Nat → T_Rk → Int32 → Option (T_Gr × T_Rk)
  | 0, _, _ => none
  | n + 1, vbk0_58, v4 => ((f_Rk_size N p1.1.1.2.2.1).bind fun p3 => (if p3 ≤ v4 then (some ((x0_1.1, p1.1, x0_1.2.2.1, x0_1.2.2.2.1, x0_1.2.2.2.2.1, p1.2, x0_1.2.2.2.2.2.2), vbk0_58)) else ((f_Rk_numberAt N p1.1.1.1 v4).bind fun p5 => ((f_Do_isLive N x0_0.2.2.2 p5).bind fun p6 => (if p6 = 0 then (f_Nd_searchInto_scratch_20 N x0_0 x0_1 p1 n vbk0_58 (v4 + 1)) else ((f_Rk_valueAt N p1.1.1.2.1 v4).bind fun p8 => ((f_Rk_add N vbk0_58.1 vbk0_58.2.1 vbk0_58.2.2.1 vbk0_58.2.2.2.1 vbk0_58.2.2.2.2 p5 p8).bind fun p9 => (f_Nd_searchInto_scratch_20 N x0_0 x0_1 p1 n (p9.2.1, p9.2.2.1, p9.2.2.2, vbk0_58.2.2.2.1, vbk0_58.2.2.2.2) (v4 + 1)))))))))
def f_Nd_searchInto_scratch (N : Nat) (x0_0 : T_Do) (x0_1 : T_Gr) (x0_3 : T_Rk) (x0_4 : (Nat → Int32)) (a2 : Int32) : Option (T_Gr × T_Rk) := ((f_Gr_search N x0_1.1 x0_1.2.1 x0_1.2.2.2.2.1 x0_1.2.2.2.2.2.1 x0_0.1 x0_4 a2).bind fun p1 => (f_Nd_searchInto_scratch_20 N x0_0 x0_1 p1 N x0_3 0))
def f_Nd_near (N : Nat) (x0_0 : T_Do) (x0_1 : T_Gr) (x0_2 : T_Rk) (x0_4 : (Nat → Int32)) (a1 : Int32) (a2 : Int32) : Option (Int32 × T_Gr × T_Rk) := ((f_Nd_isWithin N a1 1 10).bind fun p1 => (if p1 = 0 then (some ((-1), x0_1, x0_2)) else ((f_Nd_isWithin N a2 1 10).bind fun p3 => (if p3 = 0 then (some ((-1), x0_1, x0_2)) else ((f_Rk_start N a1 0).bind fun p5 => ((f_Nd_searchInto_results N x0_0 x0_1 (x0_2.1, x0_2.2.1, p5.1, p5.2.1, p5.2.2) x0_4 (if a1 < a2 then a2 else a1)).bind fun p7 => ((f_Rk_size N p7.2.2.2.1).bind fun p9 => (some (p9, p7.1, p7.2)))))))))
def f_Nd_exact (N : Nat) (x0_0 : T_Do) (x0_2 : T_Rk) (x0_4 : (Nat → Int32)) (a1 : Int32) : Option (Int32 × T_Rk) := ((f_Nd_isWithin N a1 1 10).bind fun p1 => (if p1 = 0 then (some ((-1), x0_2)) else ((f_Rk_start N a1 0).bind fun p3 => ((f_Do_rankByDistance N x0_0.1 x0_0.2.2.2 x0_4 x0_2.1 x0_2.2.1 p3.1 p3.2.1 p3.2.2).bind fun p5 => ((f_Rk_size N p5.2.2.1).bind fun p7 => (some (p7, (p5.1, p5.2.1, p5.2.2.1, p5.2.2.2.1, p5.2.2.2.2))))))))
def f_Nd_match (N : Nat) (x0_0 : T_Do) (x0_2 : T_Rk) (a1 : Int32) (a2 : Int32) : Option (Int32 × T_Do × T_Rk) := ((f_Nd_isWithin N a1 1 10).bind fun p1 => (if p1 = 0 then (some ((-1), x0_0, x0_2)) else ((f_Nd_isWithin N a2 0 255).bind fun p3 => (if p3 = 0 then (some ((-1), x0_0, x0_2)) else ((f_Rk_start N a1 1).bind fun p5 => ((f_Do_rankByScore N x0_0.2.1 x0_0.2.2.1 x0_0.2.2.2 x0_2.1 x0_2.2.1 p5.1 p5.2.1 p5.2.2 a2).bind fun p7 => ((f_Rk_size N p7.2.2.2.1).bind fun p9 => (some (p9, (x0_0.1, x0_0.2.1, p7.1, x0_0.2.2.2), (p7.2.1, p7.2.2.1, p7.2.2.2.1, p7.2.2.2.2.1, p7.2.2.2.2.2))))))))))
def f_Nd_clearPoints_2 (N : Nat) : Nat → (Nat → Int32) → Int32 → Option ((Nat → Int32))
  | 0, _, _ => none
  | n + 1, vak0_62, v1 => (if 30 ≤ v1 then (some vak0_62) else (g_at v1 30 (f_Nd_clearPoints_2 N n (upd vak0_62 v1.toNatClampNeg 0) (v1 + 1))))
def f_Nd_clearPoints (N : Nat) (x0_5 : (Nat → Int32)) : Option ((Nat → Int32)) := (f_Nd_clearPoints_2 N N x0_5 0)
def f_Nd_addPoints_scratch_2 (N : Nat) (x0_3 : T_Rk) : Nat → (Nat → Int32) → Int32 → Option ((Nat → Int32))
  | 0, _, _ => none
  | n + 1, vak0_62, v2 => ((f_Rk_size N x0_3.2.2.1).bind fun p1 => (if p1 ≤ v2 then (some vak0_62) else ((f_Rk_numberAt N x0_3.1 v2).bind fun p3 => (g_at p3 30 (g_dv (10 + v2) (g_at p3 30 (f_Nd_addPoints_scratch_2 N x0_3 n (upd vak0_62 p3.toNatClampNeg ((vak0_62 p3.toNatClampNeg) + (1000 / (10 + v2)))) (v2 + 1))))))))
def f_Nd_addPoints_scratch (N : Nat) (x0_3 : T_Rk) (x0_5 : (Nat → Int32)) : Option ((Nat → Int32)) := (f_Nd_addPoints_scratch_2 N x0_3 N x0_5 0)
def f_Nd_rankByPoints_results_2 (N : Nat) (x0_5 : (Nat → Int32)) : Nat → T_Rk → Int32 → Option (T_Rk)
  | 0, _, _ => none
  | n + 1, vbk0_55, v2 => (if 30 ≤ v2 then (some vbk0_55) else (g_at v2 30 (if (x0_5 v2.toNatClampNeg) ≤ 0 then (f_Nd_rankByPoints_results_2 N x0_5 n vbk0_55 (v2 + 1)) else (g_at v2 30 ((f_Rk_add N vbk0_55.1 vbk0_55.2.1 vbk0_55.2.2.1 vbk0_55.2.2.2.1 vbk0_55.2.2.2.2 v2 (x0_5 v2.toNatClampNeg)).bind fun p5 => (f_Nd_rankByPoints_results_2 N x0_5 n (p5.2.1, p5.2.2.1, p5.2.2.2, vbk0_55.2.2.2.1, vbk0_55.2.2.2.2) (v2 + 1)))))))
def f_Nd_rankByPoints_results (N : Nat) (x0_2 : T_Rk) (x0_5 : (Nat → Int32)) : Option (T_Rk) := (f_Nd_rankByPoints_results_2 N x0_5 N x0_2 0)
def f_Nd_fuse (N : Nat) (x0_0 : T_Do) (x0_1 : T_Gr) (x0_2 : T_Rk) (x0_3 : T_Rk) (x0_4 : (Nat → Int32)) (x0_5 : (Nat → Int32)) (a1 : Int32) (a2 : Int32) : Option (Int32 × T_Do × T_Gr × T_Rk × T_Rk × (Nat → Int32)) := ((f_Nd_isWithin N a1 1 10).bind fun p1 => (if p1 = 0 then (some ((-1), x0_0, x0_1, x0_2, x0_3, x0_5)) else ((f_Nd_isWithin N a2 0 255).bind fun p3 => (if p3 = 0 then (some ((-1), x0_0, x0_1, x0_2, x0_3, x0_5)) else ((f_Nd_clearPoints N x0_5).bind fun p5 => ((f_Rk_start N 10 1).bind fun p7 => ((f_Do_rankByScore N x0_0.2.1 x0_0.2.2.1 x0_0.2.2.2 x0_3.1 x0_3.2.1 p7.1 p7.2.1 p7.2.2 a2).bind fun p9 => ((f_Nd_addPoints_scratch N (p9.2.1, p9.2.2.1, p9.2.2.2.1, p9.2.2.2.2.1, p9.2.2.2.2.2) p5).bind fun p11 => ((f_Rk_start N 10 0).bind fun p13 => ((f_Nd_searchInto_scratch N (x0_0.1, x0_0.2.1, p9.1, x0_0.2.2.2) x0_1 (p9.2.1, p9.2.2.1, p13.1, p13.2.1, p13.2.2) x0_4 10).bind fun p15 => ((f_Nd_addPoints_scratch N p15.2 p11).bind fun p17 => ((f_Rk_start N a1 1).bind fun p19 => ((f_Nd_rankByPoints_results N (x0_2.1, x0_2.2.1, p19.1, p19.2.1, p19.2.2) p17).bind fun p21 => ((f_Rk_size N p21.2.2.1).bind fun p23 => (some (p23, (x0_0.1, x0_0.2.1, p9.1, x0_0.2.2.2), p15.1, p21, p15.2, p17))))))))))))))))
def f_Nd_found (N : Nat) (x0_0 : T_Do) (x0_2 : T_Rk) (a1 : Int32) (a2 : Int32) : Option (Int32) := ((f_Nd_isWithin N a2 0 2).bind fun p1 => (if p1 = 0 then (some (-1)) else ((f_Rk_size N x0_2.2.2.1).bind fun p3 => ((f_Nd_isWithin N a1 0 (p3 - 1)).bind fun p4 => (if p4 = 0 then (some (-2)) else ((f_Rk_numberAt N x0_2.1 a1).bind fun p6 => (if a2 = 0 then (some p6) else (if a2 = 1 then ((f_Rk_valueAt N x0_2.2.1 a1).bind fun p9 => (some p9)) else ((f_Do_isLive N x0_0.2.2.2 p6).bind fun p10 => (if p10 = 0 then (some 0) else (some 1)))))))))))
def f_Nd_node (N : Nat) (x0_0 : T_Do) (x0_1 : T_Gr) (a1 : Int32) (a2 : Int32) : Option (Int32) := ((f_Nd_isWithin N a2 0 7).bind fun p1 => (if p1 = 0 then ((f_Nd_isWithin N a2 10 13).bind fun p27 => (if p27 = 0 then (some (-1)) else ((f_Li_isNode N x0_1.1.1 a1).bind fun p29 => (if p29 = 0 then (some (-2)) else (if a2 < 10 then (if a2 = 0 then ((f_Li_level N x0_1.1.2.1 a1).bind fun p33 => (some p33)) else (if a2 = 1 then ((f_Li_order N x0_1.1.1 a1).bind fun p35 => (some p35)) else (if a2 = 2 then ((f_Do_isLive N x0_0.2.2.2 a1).bind fun p37 => (if p37 = 0 then (some 0) else (some 1))) else (if a2 = 3 then ((f_Do_coordinate N x0_0.1 a1 (a2 - 3)).bind fun p40 => (some p40)) else (if a2 = 4 then ((f_Do_coordinate N x0_0.1 a1 (a2 - 3)).bind fun p42 => (some p42)) else (if a2 = 5 then ((f_Do_coordinate N x0_0.1 a1 (a2 - 3)).bind fun p44 => (some p44)) else (if a2 = 6 then ((f_Do_coordinate N x0_0.1 a1 (a2 - 3)).bind fun p46 => (some p46)) else (if a2 = 7 then ((f_Do_counts N x0_0.2.1 a1).bind fun p48 => (some p48)) else ((f_Do_coordinate N x0_0.1 a1 (a2 - 3)).bind fun p49 => (some p49)))))))))) else ((f_Li_isInLayer N x0_1.1.1 x0_1.1.2.1 a1 (a2 - 10)).bind fun p50 => (if p50 = 0 then (some (-2)) else ((f_Li_degree N x0_1.1.2.2.1 a1 (a2 - 10)).bind fun p52 => (some p52))))))))) else ((f_Li_isNode N x0_1.1.1 a1).bind fun p3 => (if p3 = 0 then (some (-2)) else (if a2 < 10 then (if a2 = 0 then ((f_Li_level N x0_1.1.2.1 a1).bind fun p7 => (some p7)) else (if a2 = 1 then ((f_Li_order N x0_1.1.1 a1).bind fun p9 => (some p9)) else (if a2 = 2 then ((f_Do_isLive N x0_0.2.2.2 a1).bind fun p11 => (if p11 = 0 then (some 0) else (some 1))) else (if a2 = 3 then ((f_Do_coordinate N x0_0.1 a1 (a2 - 3)).bind fun p14 => (some p14)) else (if a2 = 4 then ((f_Do_coordinate N x0_0.1 a1 (a2 - 3)).bind fun p16 => (some p16)) else (if a2 = 5 then ((f_Do_coordinate N x0_0.1 a1 (a2 - 3)).bind fun p18 => (some p18)) else (if a2 = 6 then ((f_Do_coordinate N x0_0.1 a1 (a2 - 3)).bind fun p20 => (some p20)) else (if a2 = 7 then ((f_Do_counts N x0_0.2.1 a1).bind fun p22 => (some p22)) else ((f_Do_coordinate N x0_0.1 a1 (a2 - 3)).bind fun p23 => (some p23)))))))))) else ((f_Li_isInLayer N x0_1.1.1 x0_1.1.2.1 a1 (a2 - 10)).bind fun p24 => (if p24 = 0 then (some (-2)) else ((f_Li_degree N x0_1.1.2.2.1 a1 (a2 - 10)).bind fun p26 => (some p26)))))))))
def f_Nd_neighbour (N : Nat) (x0_1 : T_Gr) (a1 : Int32) (a2 : Int32) (a3 : Int32) : Option (Int32) := ((f_Li_isInLayer N x0_1.1.1 x0_1.1.2.1 a1 a2).bind fun p1 => (if p1 = 0 then (some (-2)) else ((f_Li_degree N x0_1.1.2.2.1 a1 a2).bind fun p3 => ((f_Nd_isWithin N a3 0 (p3 - 1)).bind fun p4 => (if p4 = 0 then (some (-2)) else ((f_Li_linked N x0_1.1.2.2.2.1 a1 a2 a3).bind fun p6 => (some p6)))))))
def f_Nd_foundAmongNearest_34 (N : Nat) (x0_2 : T_Rk) (p4 : (Nat → Int32) × (Nat → Int32) × Int32 × Int32 × Int32) : Nat → Int32 → Int32 → Option (Int32 × T_Rk)
  | 0, _, _ => none
  | n + 1, v1, v2 => ((f_Rk_size N x0_2.2.2.1).bind fun p6 => (if p6 ≤ v2 then (some (v1, (p4.1, p4.2.1, p4.2.2.1, p4.2.2.2.1, p4.2.2.2.2))) else ((f_Rk_numberAt N x0_2.1 v2).bind fun p8 => ((f_Rk_holds N p4.1 p4.2.2.1 p8).bind fun p9 => (if p9 = 0 then (f_Nd_foundAmongNearest_34 N x0_2 p4 n v1 (v2 + 1)) else (f_Nd_foundAmongNearest_34 N x0_2 p4 n (v1 + 1) (v2 + 1)))))))
def f_Nd_foundAmongNearest (N : Nat) (x0_0 : T_Do) (x0_2 : T_Rk) (x0_3 : T_Rk) (x0_4 : (Nat → Int32)) : Option (Int32 × T_Rk) := ((f_Rk_size N x0_2.2.2.1).bind fun p1 => ((f_Rk_start N p1 0).bind fun p2 => ((f_Do_rankByDistance N x0_0.1 x0_0.2.2.2 x0_4 x0_3.1 x0_3.2.1 p2.1 p2.2.1 p2.2.2).bind fun p4 => (f_Nd_foundAmongNearest_34 N x0_2 p4 N 0 0))))
def f_Nd_count (N : Nat) (x0_0 : T_Do) (x0_1 : T_Gr) (x0_2 : T_Rk) (x0_3 : T_Rk) (x0_4 : (Nat → Int32)) (a1 : Int32) : Option (Int32 × T_Gr × T_Rk) := (if a1 = 0 then ((f_Li_size N x0_1.1.2.2.2.2.2).bind fun p2 => (some (p2, x0_1, x0_3))) else (if a1 = 1 then ((f_Do_liveCount N x0_0.2.2.2).bind fun p4 => (some (p4, x0_1, x0_3))) else (if a1 = 2 then ((f_Gr_entry N x0_1.2.2.2.2.1).bind fun p6 => (some (p6, x0_1, x0_3))) else (if a1 = 3 then ((f_Gr_top N x0_1.1 x0_1.2.2.2.2.1).bind fun p8 => (some (p8, x0_1, x0_3))) else (if a1 = 4 then ((f_Gr_seenInSearches N x0_1.2.2.2.2.2.1).bind fun p10 => (some (p10, x0_1, x0_3))) else (if a1 = 5 then ((f_Gr_seenInEntering N x0_1.2.2.2.2.2.2).bind fun p12 => (some (p12, x0_1, x0_3))) else (if a1 = 6 then ((f_Rk_size N x0_2.2.2.1).bind fun p14 => (some (p14, x0_1, x0_3))) else (if a1 = 7 then ((f_Nd_foundAmongNearest N x0_0 x0_2 x0_3 x0_4).bind fun p16 => (some (p16.1, x0_1, p16.2))) else (if a1 = 8 then ((f_Li_oneSidedPairs N x0_1.1.1 x0_1.1.2.2.1 x0_1.1.2.2.2.1).bind fun p19 => (some (p19, x0_1, x0_3))) else (if a1 = 9 then ((f_Gr_entry N x0_1.2.2.2.2.1).bind fun p21 => ((f_Li_reachedFrom N x0_1.1.1 x0_1.1.2.2.1 x0_1.1.2.2.2.1 x0_1.1.2.2.2.2.1 p21).bind fun p22 => (some (p22.1, ((x0_1.1.1, x0_1.1.2.1, x0_1.1.2.2.1, x0_1.1.2.2.2.1, p22.2, x0_1.1.2.2.2.2.2), x0_1.2.1, x0_1.2.2.1, x0_1.2.2.2.1, x0_1.2.2.2.2.1, x0_1.2.2.2.2.2.1, x0_1.2.2.2.2.2.2), x0_3)))) else (some ((-1), x0_1, x0_3))))))))))))
end
section
def f_Mo_in (N : Nat) (a0 : Int32) (a1 : Int32) (a2 : Int32) : Option (Int32) := (if a0 < a1 then (some 0) else (if a2 < a0 then (some 0) else (some 1)))
def f_Mo_aimAt_2 (N : Nat) (x0_2 : (Nat → Int32)) (a1 : Int32) : Nat → (Nat → Int32) → Int32 → Option ((Nat → Int32))
  | 0, _, _ => none
  | n + 1, vak0_9, v2 => (if 4 ≤ v2 then (some vak0_9) else (g_at ((4 * a1) + v2) 120 (g_at v2 4 (f_Mo_aimAt_2 N x0_2 a1 n (upd vak0_9 v2.toNatClampNeg (x0_2 ((4 * a1) + v2).toNatClampNeg)) (v2 + 1)))))
def f_Mo_aimAt (N : Nat) (x0_2 : (Nat → Int32)) (x0_10 : (Nat → Int32)) (a1 : Int32) : Option ((Nat → Int32)) := (f_Mo_aimAt_2 N x0_2 a1 N x0_10 0)
def f_Mo_size_4 (N : Nat) (x0_0 : (Nat → Int32)) : Nat → Int32 → Int32 → Option (Int32)
  | 0, _, _ => none
  | n + 1, v1, v2 => (if 30 ≤ v2 then (some v1) else (g_at v2 30 (if (x0_0 v2.toNatClampNeg) = 0 then (f_Mo_size_4 N x0_0 n v1 (v2 + 1)) else (f_Mo_size_4 N x0_0 n (v1 + 1) (v2 + 1)))))
def f_Mo_size (N : Nat) (x0_0 : (Nat → Int32)) : Option (Int32) := (f_Mo_size_4 N x0_0 N 0 0)
def f_Mo_far_4 (N : Nat) (x0_2 : (Nat → Int32)) (x0_10 : (Nat → Int32)) (a1 : Int32) : Nat → Int32 → Int32 → Option (Int32)
  | 0, _, _ => none
  | n + 1, v2, v3 => (if 4 ≤ v3 then (some v2) else (g_at ((4 * a1) + v3) 120 (g_at v3 4 (g_at ((4 * a1) + v3) 120 (g_at v3 4 (f_Mo_far_4 N x0_2 x0_10 a1 n (v2 + (((x0_2 ((4 * a1) + v3).toNatClampNeg) - (x0_10 v3.toNatClampNeg)) * ((x0_2 ((4 * a1) + v3).toNatClampNeg) - (x0_10 v3.toNatClampNeg)))) (v3 + 1)))))))
def f_Mo_far (N : Nat) (x0_2 : (Nat → Int32)) (x0_10 : (Nat → Int32)) (a1 : Int32) : Option (Int32) := (f_Mo_far_4 N x0_2 x0_10 a1 N 0 0)
def f_Mo_isNearer (N : Nat) (x0_2 : (Nat → Int32)) (x0_10 : (Nat → Int32)) (a1 : Int32) (a2 : Int32) : Option (Int32) := ((f_Mo_far N x0_2 x0_10 a1).bind fun p1 => ((f_Mo_far N x0_2 x0_10 a2).bind fun p2 => (if p1 < p2 then (some 1) else ((f_Mo_far N x0_2 x0_10 a1).bind fun p4 => ((f_Mo_far N x0_2 x0_10 a2).bind fun p5 => (if p4 = p5 then (if a2 ≤ a1 then (some 0) else (some 1)) else (some 0)))))))
def f_Mo_farthest_held_4 (N : Nat) (x0_2 : (Nat → Int32)) (x0_10 : (Nat → Int32)) (x0_13 : (Nat → Int32)) : Nat → Int32 → Int32 → Option (Int32)
  | 0, _, _ => none
  | n + 1, v2, v3 => (if 30 ≤ v3 then (some v2) else (g_at v3 30 (if (x0_13 v3.toNatClampNeg) = 0 then (f_Mo_farthest_held_4 N x0_2 x0_10 x0_13 n v2 (v3 + 1)) else (if v2 < 0 then (f_Mo_farthest_held_4 N x0_2 x0_10 x0_13 n v3 (v3 + 1)) else ((f_Mo_isNearer N x0_2 x0_10 v2 v3).bind fun p5 => (if p5 = 0 then (f_Mo_farthest_held_4 N x0_2 x0_10 x0_13 n v2 (v3 + 1)) else (f_Mo_farthest_held_4 N x0_2 x0_10 x0_13 n v3 (v3 + 1))))))))
def f_Mo_farthest_held (N : Nat) (x0_2 : (Nat → Int32)) (x0_10 : (Nat → Int32)) (x0_13 : (Nat → Int32)) : Option (Int32) := (f_Mo_farthest_held_4 N x0_2 x0_10 x0_13 N (-1) 0)
def f_Mo_nearest_open_4 (N : Nat) (x0_2 : (Nat → Int32)) (x0_10 : (Nat → Int32)) (x0_14 : (Nat → Int32)) : Nat → Int32 → Int32 → Option (Int32)
  | 0, _, _ => none
  | n + 1, v2, v3 => (if 30 ≤ v3 then (some v2) else (g_at v3 30 (if (x0_14 v3.toNatClampNeg) = 0 then (f_Mo_nearest_open_4 N x0_2 x0_10 x0_14 n v2 (v3 + 1)) else (if v2 < 0 then (f_Mo_nearest_open_4 N x0_2 x0_10 x0_14 n v3 (v3 + 1)) else ((f_Mo_isNearer N x0_2 x0_10 v3 v2).bind fun p5 => (if p5 = 0 then (f_Mo_nearest_open_4 N x0_2 x0_10 x0_14 n v2 (v3 + 1)) else (f_Mo_nearest_open_4 N x0_2 x0_10 x0_14 n v3 (v3 + 1))))))))
def f_Mo_nearest_open (N : Nat) (x0_2 : (Nat → Int32)) (x0_10 : (Nat → Int32)) (x0_14 : (Nat → Int32)) : Option (Int32) := (f_Mo_nearest_open_4 N x0_2 x0_10 x0_14 N (-1) 0)
def f_Mo_nearest_held_4 (N : Nat) (x0_2 : (Nat → Int32)) (x0_10 : (Nat → Int32)) (x0_13 : (Nat → Int32)) : Nat → Int32 → Int32 → Option (Int32)
  | 0, _, _ => none
  | n + 1, v2, v3 => (if 30 ≤ v3 then (some v2) else (g_at v3 30 (if (x0_13 v3.toNatClampNeg) = 0 then (f_Mo_nearest_held_4 N x0_2 x0_10 x0_13 n v2 (v3 + 1)) else (if v2 < 0 then (f_Mo_nearest_held_4 N x0_2 x0_10 x0_13 n v3 (v3 + 1)) else ((f_Mo_isNearer N x0_2 x0_10 v3 v2).bind fun p5 => (if p5 = 0 then (f_Mo_nearest_held_4 N x0_2 x0_10 x0_13 n v2 (v3 + 1)) else (f_Mo_nearest_held_4 N x0_2 x0_10 x0_13 n v3 (v3 + 1))))))))
def f_Mo_nearest_held (N : Nat) (x0_2 : (Nat → Int32)) (x0_10 : (Nat → Int32)) (x0_13 : (Nat → Int32)) : Option (Int32) := (f_Mo_nearest_held_4 N x0_2 x0_10 x0_13 N (-1) 0)
def f_Mo_look (N : Nat) (x0_2 : (Nat → Int32)) (x0_10 : (Nat → Int32)) (x0_12 : (Nat → Int32)) (x0_13 : (Nat → Int32)) (x0_14 : (Nat → Int32)) (a1 : Int32) (a2 : Int32) : Option ((Nat → Int32) × (Nat → Int32) × (Nat → Int32)) := (g_at a1 30 (if (x0_12 a1.toNatClampNeg) = 0 then (g_at a1 30 ((f_Mo_size N x0_13).bind fun p5 => (if p5 = a2 then ((f_Mo_farthest_held N x0_2 x0_10 x0_13).bind fun p16 => ((f_Mo_isNearer N x0_2 x0_10 a1 p16).bind fun p17 => (if p17 = 0 then (some (upd x0_12 a1.toNatClampNeg (vp_nar .boolean 1), x0_13, x0_14)) else (g_at a1 30 (g_at a1 30 ((f_Mo_size N (upd x0_13 a1.toNatClampNeg (vp_nar .boolean 1))).bind fun p23 => (if p23 ≤ a2 then (some (upd x0_12 a1.toNatClampNeg (vp_nar .boolean 1), upd x0_13 a1.toNatClampNeg (vp_nar .boolean 1), upd x0_14 a1.toNatClampNeg (vp_nar .boolean 1))) else ((f_Mo_farthest_held N x0_2 x0_10 (upd x0_13 a1.toNatClampNeg (vp_nar .boolean 1))).bind fun p25 => (g_at p25 30 (some (upd x0_12 a1.toNatClampNeg (vp_nar .boolean 1), upd (upd x0_13 a1.toNatClampNeg (vp_nar .boolean 1)) p25.toNatClampNeg (vp_nar .boolean 0), upd x0_14 a1.toNatClampNeg (vp_nar .boolean 1)))))))))))) else (g_at a1 30 (g_at a1 30 ((f_Mo_size N (upd x0_13 a1.toNatClampNeg (vp_nar .boolean 1))).bind fun p11 => (if p11 ≤ a2 then (some (upd x0_12 a1.toNatClampNeg (vp_nar .boolean 1), upd x0_13 a1.toNatClampNeg (vp_nar .boolean 1), upd x0_14 a1.toNatClampNeg (vp_nar .boolean 1))) else ((f_Mo_farthest_held N x0_2 x0_10 (upd x0_13 a1.toNatClampNeg (vp_nar .boolean 1))).bind fun p13 => (g_at p13 30 (some (upd x0_12 a1.toNatClampNeg (vp_nar .boolean 1), upd (upd x0_13 a1.toNatClampNeg (vp_nar .boolean 1)) p13.toNatClampNeg (vp_nar .boolean 0), upd x0_14 a1.toNatClampNeg (vp_nar .boolean 1)))))))))))) else (some (x0_12, x0_13, x0_14))))
def f_Mo_walk_251 (N : Nat) (x0_2 : (Nat → Int32)) (x0_10 : (Nat → Int32)) (vak0_11 : (Nat → Int32)) : Nat → (Nat → Int32) → (Nat → Int32) → (Nat → Int32) → Int32 → Int32 → Option (Int32 × (Nat → Int32) × (Nat → Int32) × (Nat → Int32) × (Nat → Int32) × Int32)
  | 0, _, _, _, _, _ => none
  | n + 1, vak0_12, vak0_13, vak0_15, v4, v5 => (if v4 ≤ v5 then ((f_Mo_size N vak0_11).bind fun p43 => (some (p43, vak0_11, vak0_12, vak0_13, vak0_15, v4))) else ((f_Mo_nearest_held N x0_2 x0_10 vak0_12).bind fun p44 => (g_at v5 30 (g_at p44 30 (f_Mo_walk_251 N x0_2 x0_10 vak0_11 n (upd vak0_12 p44.toNatClampNeg (vp_nar .boolean 0)) vak0_13 (upd vak0_15 v5.toNatClampNeg p44) v4 (v5 + 1))))))
def f_Mo_walk_186 (N : Nat) (x0_2 : (Nat → Int32)) (x0_6 : (Nat → Int32)) (x0_7 : (Nat → Int32)) (x0_10 : (Nat → Int32)) (a1 : Int32) (a2 : Int32) (v3 : Int32) (kk : (Nat → Int32) → (Nat → Int32) → (Nat → Int32) → Int32 → Option (Int32 × (Nat → Int32) × (Nat → Int32) × (Nat → Int32) × (Nat → Int32) × Int32)) : Nat → (Nat → Int32) → (Nat → Int32) → (Nat → Int32) → Int32 → Option (Int32 × (Nat → Int32) × (Nat → Int32) × (Nat → Int32) × (Nat → Int32) × Int32)
  | 0, _, _, _, _ => none
  | n + 1, vak0_11, vak0_12, vak0_13, v5 => (g_at ((4 * v3) + a1) 120 (if ((7 * ((4 * v3) + a1)) + (x0_7 ((4 * v3) + a1).toNatClampNeg)) ≤ v5 then (kk vak0_11 vak0_12 vak0_13 v5) else (g_at v5 840 ((f_Mo_look N x0_2 x0_10 vak0_11 vak0_12 vak0_13 (x0_6 v5.toNatClampNeg) a2).bind fun p52 => (f_Mo_walk_186 N x0_2 x0_6 x0_7 x0_10 a1 a2 v3 kk n p52.1 p52.2.1 p52.2.2 (v5 + 1))))))
def f_Mo_walk_131 (N : Nat) (x0_2 : (Nat → Int32)) (x0_6 : (Nat → Int32)) (x0_7 : (Nat → Int32)) (x0_10 : (Nat → Int32)) (x0_16 : (Nat → Int32)) (a1 : Int32) (a2 : Int32) : Nat → (Nat → Int32) → (Nat → Int32) → (Nat → Int32) → Int32 → Option (Int32 × (Nat → Int32) × (Nat → Int32) × (Nat → Int32) × (Nat → Int32) × Int32)
  | 0, _, _, _, _ => none
  | n + 1, vak0_11, vak0_12, vak0_13, v3 => (if v3 < 0 then ((f_Mo_size N vak0_12).bind fun p25 => (f_Mo_walk_251 N x0_2 x0_10 vak0_11 N vak0_12 vak0_13 x0_16 p25 0)) else (g_at v3 30 ((f_Mo_size N vak0_12).bind fun p28 => (if p28 = a2 then ((f_Mo_farthest_held N x0_2 x0_10 vak0_12).bind fun p33 => ((f_Mo_isNearer N x0_2 x0_10 p33 v3).bind fun p34 => (if p34 = 0 then (f_Mo_walk_186 N x0_2 x0_6 x0_7 x0_10 a1 a2 v3 (fun vak0_11_36 vak0_12_36 vak0_13_36 v5_36 => ((f_Mo_nearest_open N x0_2 x0_10 vak0_13_36).bind fun p38 => (f_Mo_walk_131 N x0_2 x0_6 x0_7 x0_10 x0_16 a1 a2 n vak0_11_36 vak0_12_36 vak0_13_36 p38))) N vak0_11 vak0_12 (upd vak0_13 v3.toNatClampNeg (vp_nar .boolean 0)) (7 * ((4 * v3) + a1))) else ((f_Mo_size N vak0_12).bind fun p40 => (f_Mo_walk_251 N x0_2 x0_10 vak0_11 N vak0_12 (upd vak0_13 v3.toNatClampNeg (vp_nar .boolean 0)) x0_16 p40 0))))) else (f_Mo_walk_186 N x0_2 x0_6 x0_7 x0_10 a1 a2 v3 (fun vak0_11_30 vak0_12_30 vak0_13_30 v5_30 => ((f_Mo_nearest_open N x0_2 x0_10 vak0_13_30).bind fun p32 => (f_Mo_walk_131 N x0_2 x0_6 x0_7 x0_10 x0_16 a1 a2 n vak0_11_30 vak0_12_30 vak0_13_30 p32))) N vak0_11 vak0_12 (upd vak0_13 v3.toNatClampNeg (vp_nar .boolean 0)) (7 * ((4 * v3) + a1)))))))
def f_Mo_walk_98 (N : Nat) (x0_2 : (Nat → Int32)) (x0_6 : (Nat → Int32)) (x0_7 : (Nat → Int32)) (x0_10 : (Nat → Int32)) (x0_16 : (Nat → Int32)) (a1 : Int32) (a2 : Int32) (vak0_11 : (Nat → Int32)) (vak0_12 : (Nat → Int32)) : Nat → (Nat → Int32) → Int32 → Option (Int32 × (Nat → Int32) × (Nat → Int32) × (Nat → Int32) × (Nat → Int32) × Int32)
  | 0, _, _ => none
  | n + 1, vak0_13, v3 => (if 30 ≤ v3 then ((f_Mo_nearest_open N x0_2 x0_10 vak0_13).bind fun p19 => (f_Mo_walk_131 N x0_2 x0_6 x0_7 x0_10 x0_16 a1 a2 N vak0_11 vak0_12 vak0_13 p19)) else (g_at v3 30 (g_at v3 30 (f_Mo_walk_98 N x0_2 x0_6 x0_7 x0_10 x0_16 a1 a2 vak0_11 vak0_12 n (upd vak0_13 v3.toNatClampNeg (vp_nar .boolean (vak0_12 v3.toNatClampNeg))) (v3 + 1)))))
def f_Mo_walk_68 (N : Nat) (x0_2 : (Nat → Int32)) (x0_6 : (Nat → Int32)) (x0_7 : (Nat → Int32)) (x0_10 : (Nat → Int32)) (x0_14 : (Nat → Int32)) (x0_16 : (Nat → Int32)) (a1 : Int32) (a2 : Int32) (vak0_11 : (Nat → Int32)) : Nat → (Nat → Int32) → Option (Int32 × (Nat → Int32) × (Nat → Int32) × (Nat → Int32) × (Nat → Int32) × Int32)
  | 0, _ => none
  | n + 1, vak0_12 => ((f_Mo_size N vak0_12).bind fun p13 => (if p13 ≤ a2 then (f_Mo_walk_98 N x0_2 x0_6 x0_7 x0_10 x0_16 a1 a2 vak0_11 vak0_12 N x0_14 0) else ((f_Mo_farthest_held N x0_2 x0_10 vak0_12).bind fun p15 => (g_at p15 30 (f_Mo_walk_68 N x0_2 x0_6 x0_7 x0_10 x0_14 x0_16 a1 a2 vak0_11 n (upd vak0_12 p15.toNatClampNeg (vp_nar .boolean 0)))))))
def f_Mo_walk_30 (N : Nat) (x0_2 : (Nat → Int32)) (x0_6 : (Nat → Int32)) (x0_7 : (Nat → Int32)) (x0_10 : (Nat → Int32)) (x0_14 : (Nat → Int32)) (x0_16 : (Nat → Int32)) (x0_19 : Int32) (a1 : Int32) (a2 : Int32) : Nat → (Nat → Int32) → (Nat → Int32) → Int32 → Option (Int32 × (Nat → Int32) × (Nat → Int32) × (Nat → Int32) × (Nat → Int32) × Int32)
  | 0, _, _, _ => none
  | n + 1, vak0_11, vak0_12, v3 => (if x0_19 ≤ v3 then (f_Mo_walk_68 N x0_2 x0_6 x0_7 x0_10 x0_14 x0_16 a1 a2 vak0_11 N vak0_12) else (g_at v3 30 (g_at (x0_16 v3.toNatClampNeg) 30 (g_at v3 30 (g_at (x0_16 v3.toNatClampNeg) 30 (f_Mo_walk_30 N x0_2 x0_6 x0_7 x0_10 x0_14 x0_16 x0_19 a1 a2 n (upd vak0_11 (x0_16 v3.toNatClampNeg).toNatClampNeg (vp_nar .boolean 1)) (upd vak0_12 (x0_16 v3.toNatClampNeg).toNatClampNeg (vp_nar .boolean 1)) (v3 + 1)))))))
def f_Mo_walk_2 (N : Nat) (x0_2 : (Nat → Int32)) (x0_6 : (Nat → Int32)) (x0_7 : (Nat → Int32)) (x0_10 : (Nat → Int32)) (x0_14 : (Nat → Int32)) (x0_16 : (Nat → Int32)) (x0_19 : Int32) (a1 : Int32) (a2 : Int32) : Nat → (Nat → Int32) → (Nat → Int32) → Int32 → Option (Int32 × (Nat → Int32) × (Nat → Int32) × (Nat → Int32) × (Nat → Int32) × Int32)
  | 0, _, _, _ => none
  | n + 1, vak0_11, vak0_12, v3 => (if 30 ≤ v3 then (f_Mo_walk_30 N x0_2 x0_6 x0_7 x0_10 x0_14 x0_16 x0_19 a1 a2 N vak0_11 vak0_12 0) else (g_at v3 30 (g_at v3 30 (f_Mo_walk_2 N x0_2 x0_6 x0_7 x0_10 x0_14 x0_16 x0_19 a1 a2 n (upd vak0_11 v3.toNatClampNeg (vp_nar .boolean 0)) (upd vak0_12 v3.toNatClampNeg (vp_nar .boolean 0)) (v3 + 1)))))
def f_Mo_walk (N : Nat) (x0_2 : (Nat → Int32)) (x0_6 : (Nat → Int32)) (x0_7 : (Nat → Int32)) (x0_10 : (Nat → Int32)) (x0_12 : (Nat → Int32)) (x0_13 : (Nat → Int32)) (x0_14 : (Nat → Int32)) (x0_16 : (Nat → Int32)) (x0_19 : Int32) (a1 : Int32) (a2 : Int32) : Option (Int32 × (Nat → Int32) × (Nat → Int32) × (Nat → Int32) × (Nat → Int32) × Int32) := (f_Mo_walk_2 N x0_2 x0_6 x0_7 x0_10 x0_14 x0_16 x0_19 a1 a2 N x0_12 x0_13 0)
def f_Mo_between_5 (N : Nat) (x0_2 : (Nat → Int32)) (a1 : Int32) (a2 : Int32) : Nat → Int32 → Int32 → Option (Int32)
  | 0, _, _ => none
  | n + 1, v3, v4 => (if 4 ≤ v4 then (some v3) else (g_at ((4 * a1) + v4) 120 (g_at ((4 * a2) + v4) 120 (g_at ((4 * a1) + v4) 120 (g_at ((4 * a2) + v4) 120 (f_Mo_between_5 N x0_2 a1 a2 n (v3 + (((x0_2 ((4 * a1) + v4).toNatClampNeg) - (x0_2 ((4 * a2) + v4).toNatClampNeg)) * ((x0_2 ((4 * a1) + v4).toNatClampNeg) - (x0_2 ((4 * a2) + v4).toNatClampNeg)))) (v4 + 1)))))))
def f_Mo_between (N : Nat) (x0_2 : (Nat → Int32)) (a1 : Int32) (a2 : Int32) : Option (Int32) := (f_Mo_between_5 N x0_2 a1 a2 N 0 0)
def f_Mo_pick (N : Nat) (x0_15 : (Nat → Int32)) (x0_17 : (Nat → Int32)) (x0_20 : Int32) (a1 : Int32) : Option ((Nat → Int32) × (Nat → Int32) × Int32) := (g_at x0_20 8 (g_at a1 30 (some (upd x0_15 a1.toNatClampNeg (vp_nar .boolean 1), upd x0_17 x0_20.toNatClampNeg a1, x0_20 + 1))))
def f_Mo_choose_214 (N : Nat) (x0_2 : (Nat → Int32)) (x0_10 : (Nat → Int32)) (a1 : Int32) : Nat → (Nat → Int32) → (Nat → Int32) → (Nat → Int32) → Int32 → Int32 → Option ((Nat → Int32) × (Nat → Int32) × (Nat → Int32) × Int32)
  | 0, _, _, _, _, _ => none
  | n + 1, vak0_13, vak0_14, vak0_16, vfk0_0_20, v2 => (if v2 < 0 then (some (vak0_13, vak0_14, vak0_16, vfk0_0_20)) else (if a1 ≤ vfk0_0_20 then (some (vak0_13, vak0_14, vak0_16, vfk0_0_20)) else (g_at v2 30 ((f_Mo_pick N vak0_14 vak0_16 vfk0_0_20 v2).bind fun p45 => ((f_Mo_nearest_open N x0_2 x0_10 (upd vak0_13 v2.toNatClampNeg (vp_nar .boolean 0))).bind fun p47 => (f_Mo_choose_214 N x0_2 x0_10 a1 n (upd vak0_13 v2.toNatClampNeg (vp_nar .boolean 0)) p45.1 p45.2.1 p45.2.2 p47))))))
def f_Mo_choose_161 (N : Nat) (x0_2 : (Nat → Int32)) (x0_10 : (Nat → Int32)) (x0_18 : (Nat → Int32)) (x0_21 : Int32) (a1 : Int32) (vak0_14 : (Nat → Int32)) (vak0_16 : (Nat → Int32)) (vfk0_0_20 : Int32) : Nat → (Nat → Int32) → Int32 → Option ((Nat → Int32) × (Nat → Int32) × (Nat → Int32) × Int32)
  | 0, _, _ => none
  | n + 1, vak0_13, v2 => (if x0_21 ≤ v2 then ((f_Mo_nearest_open N x0_2 x0_10 vak0_13).bind fun p27 => (f_Mo_choose_214 N x0_2 x0_10 a1 N vak0_13 vak0_14 vak0_16 vfk0_0_20 p27)) else (g_at v2 30 (g_at v2 30 (g_at (x0_18 v2.toNatClampNeg) 30 (if (vak0_14 (x0_18 v2.toNatClampNeg).toNatClampNeg) = 0 then (g_at (x0_18 v2.toNatClampNeg) 30 (f_Mo_choose_161 N x0_2 x0_10 x0_18 x0_21 a1 vak0_14 vak0_16 vfk0_0_20 n (upd vak0_13 (x0_18 v2.toNatClampNeg).toNatClampNeg (vp_nar .boolean 1)) (v2 + 1))) else (g_at (x0_18 v2.toNatClampNeg) 30 (f_Mo_choose_161 N x0_2 x0_10 x0_18 x0_21 a1 vak0_14 vak0_16 vfk0_0_20 n (upd vak0_13 (x0_18 v2.toNatClampNeg).toNatClampNeg (vp_nar .boolean 0)) (v2 + 1))))))))
def f_Mo_choose_105 (N : Nat) (x0_2 : (Nat → Int32)) (x0_10 : (Nat → Int32)) (vak0_16 : (Nat → Int32)) (vfk0_0_20 : Int32) (p12 : Int32) (kk : Int32 → Int32 → Option ((Nat → Int32) × (Nat → Int32) × (Nat → Int32) × Int32)) : Nat → Int32 → Int32 → Option ((Nat → Int32) × (Nat → Int32) × (Nat → Int32) × Int32)
  | 0, _, _ => none
  | n + 1, v4, v5 => (if vfk0_0_20 ≤ v5 then (kk v4 v5) else ((f_Mo_far N x0_2 x0_10 p12).bind fun p37 => (g_at v5 8 ((f_Mo_between N x0_2 p12 (vak0_16 v5.toNatClampNeg)).bind fun p39 => (if p37 < p39 then (f_Mo_choose_105 N x0_2 x0_10 vak0_16 vfk0_0_20 p12 kk n v4 (v5 + 1)) else (f_Mo_choose_105 N x0_2 x0_10 vak0_16 vfk0_0_20 p12 kk n 0 (v5 + 1)))))))
def f_Mo_choose_63 (N : Nat) (x0_2 : (Nat → Int32)) (x0_10 : (Nat → Int32)) (x0_18 : (Nat → Int32)) (x0_21 : Int32) (a1 : Int32) : Nat → (Nat → Int32) → (Nat → Int32) → (Nat → Int32) → Int32 → Int32 → Option ((Nat → Int32) × (Nat → Int32) × (Nat → Int32) × Int32)
  | 0, _, _, _, _, _ => none
  | n + 1, vak0_13, vak0_14, vak0_16, vfk0_0_20, v2 => (if x0_21 ≤ v2 then (f_Mo_choose_161 N x0_2 x0_10 x0_18 x0_21 a1 vak0_14 vak0_16 vfk0_0_20 N vak0_13 0) else ((f_Mo_nearest_open N x0_2 x0_10 vak0_13).bind fun p12 => (g_at p12 30 (if a1 ≤ vfk0_0_20 then (f_Mo_choose_105 N x0_2 x0_10 vak0_16 vfk0_0_20 p12 (fun v4_16 v5_16 => (if v4_16 = 0 then (f_Mo_choose_63 N x0_2 x0_10 x0_18 x0_21 a1 n (upd vak0_13 p12.toNatClampNeg (vp_nar .boolean 0)) vak0_14 vak0_16 vfk0_0_20 (v2 + 1)) else ((f_Mo_pick N vak0_14 vak0_16 vfk0_0_20 p12).bind fun p19 => (f_Mo_choose_63 N x0_2 x0_10 x0_18 x0_21 a1 n (upd vak0_13 p12.toNatClampNeg (vp_nar .boolean 0)) p19.1 p19.2.1 p19.2.2 (v2 + 1))))) N 0 0) else (f_Mo_choose_105 N x0_2 x0_10 vak0_16 vfk0_0_20 p12 (fun v4_21 v5_21 => (if v4_21 = 0 then (f_Mo_choose_63 N x0_2 x0_10 x0_18 x0_21 a1 n (upd vak0_13 p12.toNatClampNeg (vp_nar .boolean 0)) vak0_14 vak0_16 vfk0_0_20 (v2 + 1)) else ((f_Mo_pick N vak0_14 vak0_16 vfk0_0_20 p12).bind fun p24 => (f_Mo_choose_63 N x0_2 x0_10 x0_18 x0_21 a1 n (upd vak0_13 p12.toNatClampNeg (vp_nar .boolean 0)) p24.1 p24.2.1 p24.2.2 (v2 + 1))))) N 1 0)))))
def f_Mo_choose_30 (N : Nat) (x0_2 : (Nat → Int32)) (x0_10 : (Nat → Int32)) (x0_17 : (Nat → Int32)) (x0_18 : (Nat → Int32)) (x0_21 : Int32) (a1 : Int32) (vak0_14 : (Nat → Int32)) : Nat → (Nat → Int32) → Int32 → Option ((Nat → Int32) × (Nat → Int32) × (Nat → Int32) × Int32)
  | 0, _, _ => none
  | n + 1, vak0_13, v2 => (if x0_21 ≤ v2 then (f_Mo_choose_63 N x0_2 x0_10 x0_18 x0_21 a1 N vak0_13 vak0_14 x0_17 0 0) else (g_at v2 30 (g_at (x0_18 v2.toNatClampNeg) 30 (f_Mo_choose_30 N x0_2 x0_10 x0_17 x0_18 x0_21 a1 vak0_14 n (upd vak0_13 (x0_18 v2.toNatClampNeg).toNatClampNeg (vp_nar .boolean 1)) (v2 + 1)))))
def f_Mo_choose_2 (N : Nat) (x0_2 : (Nat → Int32)) (x0_10 : (Nat → Int32)) (x0_17 : (Nat → Int32)) (x0_18 : (Nat → Int32)) (x0_21 : Int32) (a1 : Int32) : Nat → (Nat → Int32) → (Nat → Int32) → Int32 → Option ((Nat → Int32) × (Nat → Int32) × (Nat → Int32) × Int32)
  | 0, _, _, _ => none
  | n + 1, vak0_13, vak0_14, v2 => (if 30 ≤ v2 then (f_Mo_choose_30 N x0_2 x0_10 x0_17 x0_18 x0_21 a1 vak0_14 N vak0_13 0) else (g_at v2 30 (g_at v2 30 (f_Mo_choose_2 N x0_2 x0_10 x0_17 x0_18 x0_21 a1 n (upd vak0_13 v2.toNatClampNeg (vp_nar .boolean 0)) (upd vak0_14 v2.toNatClampNeg (vp_nar .boolean 0)) (v2 + 1)))))
def f_Mo_choose (N : Nat) (x0_2 : (Nat → Int32)) (x0_10 : (Nat → Int32)) (x0_14 : (Nat → Int32)) (x0_15 : (Nat → Int32)) (x0_17 : (Nat → Int32)) (x0_18 : (Nat → Int32)) (x0_21 : Int32) (a1 : Int32) : Option ((Nat → Int32) × (Nat → Int32) × (Nat → Int32) × Int32) := (f_Mo_choose_2 N x0_2 x0_10 x0_17 x0_18 x0_21 a1 N x0_14 x0_15 0)
def f_Mo_take_2 (N : Nat) (x0_7 : (Nat → Int32)) (x0_17 : (Nat → Int32)) (x0_20 : Int32) (a1 : Int32) : Nat → (Nat → Int32) → Int32 → Option ((Nat → Int32) × (Nat → Int32))
  | 0, _, _ => none
  | n + 1, vak0_7, v2 => (if x0_20 ≤ v2 then (g_at a1 120 (some (vak0_7, upd x0_7 a1.toNatClampNeg x0_20))) else (g_at v2 8 (g_at ((7 * a1) + v2) 840 (f_Mo_take_2 N x0_7 x0_17 x0_20 a1 n (upd vak0_7 ((7 * a1) + v2).toNatClampNeg (x0_17 v2.toNatClampNeg)) (v2 + 1)))))
def f_Mo_take (N : Nat) (x0_6 : (Nat → Int32)) (x0_7 : (Nat → Int32)) (x0_17 : (Nat → Int32)) (x0_20 : Int32) (a1 : Int32) : Option ((Nat → Int32) × (Nat → Int32)) := (f_Mo_take_2 N x0_7 x0_17 x0_20 a1 N x0_6 0)
def f_Mo_tie_169 (N : Nat) (a1 : Int32) (a2 : Int32) (vak0_7 : (Nat → Int32)) (vak0_8 : (Nat → Int32)) (v4 : Int32) (kk : (Nat → Int32) → Int32 → Option ((Nat → Int32) × (Nat → Int32) × (Nat → Int32) × (Nat → Int32) × (Nat → Int32) × (Nat → Int32) × (Nat → Int32) × Int32 × Int32)) : Nat → (Nat → Int32) → Int32 → Option ((Nat → Int32) × (Nat → Int32) × (Nat → Int32) × (Nat → Int32) × (Nat → Int32) × (Nat → Int32) × (Nat → Int32) × Int32 × Int32)
  | 0, _, _ => none
  | n + 1, vak0_17, v7 => (if ((upd vak0_8 ((4 * (vak0_7 ((7 * ((4 * a1) + a2)) + v4).toNatClampNeg)) + a2).toNatClampNeg ((vak0_8 ((4 * (vak0_7 ((7 * ((4 * a1) + a2)) + v4).toNatClampNeg)) + a2).toNatClampNeg) + 1)) ((4 * (vak0_7 ((7 * ((4 * a1) + a2)) + v4).toNatClampNeg)) + a2).toNatClampNeg) ≤ v7 then (kk vak0_17 v7) else (g_at ((7 * ((4 * (vak0_7 ((7 * ((4 * a1) + a2)) + v4).toNatClampNeg)) + a2)) + v7) 840 (g_at v7 30 (f_Mo_tie_169 N a1 a2 vak0_7 vak0_8 v4 kk n (upd vak0_17 v7.toNatClampNeg ((upd vak0_7 ((7 * ((4 * (vak0_7 ((7 * ((4 * a1) + a2)) + v4).toNatClampNeg)) + a2)) + (vak0_8 ((4 * (vak0_7 ((7 * ((4 * a1) + a2)) + v4).toNatClampNeg)) + a2).toNatClampNeg)).toNatClampNeg a1) ((7 * ((4 * (vak0_7 ((7 * ((4 * a1) + a2)) + v4).toNatClampNeg)) + a2)) + v7).toNatClampNeg)) (v7 + 1)))))
def f_Mo_tie_64 (N : Nat) (x0_2 : (Nat → Int32)) (a1 : Int32) (a2 : Int32) : Nat → (Nat → Int32) → (Nat → Int32) → (Nat → Int32) → (Nat → Int32) → (Nat → Int32) → (Nat → Int32) → (Nat → Int32) → Int32 → Int32 → Int32 → Int32 → Option ((Nat → Int32) × (Nat → Int32) × (Nat → Int32) × (Nat → Int32) × (Nat → Int32) × (Nat → Int32) × (Nat → Int32) × Int32 × Int32)
  | 0, _, _, _, _, _, _, _, _, _, _, _ => none
  | n + 1, vak0_13, vak0_14, vak0_16, vak0_17, vak0_7, vak0_8, vak0_9, vfk0_0_20, vfk0_0_21, v3, v4 => (g_at ((4 * a1) + a2) 120 (if (vak0_8 ((4 * a1) + a2).toNatClampNeg) ≤ v4 then (some (vak0_7, vak0_8, vak0_9, vak0_13, vak0_14, vak0_16, vak0_17, vfk0_0_20, vfk0_0_21)) else (g_at ((7 * ((4 * a1) + a2)) + v4) 840 (g_at ((4 * (vak0_7 ((7 * ((4 * a1) + a2)) + v4).toNatClampNeg)) + a2) 120 (g_at ((7 * ((4 * (vak0_7 ((7 * ((4 * a1) + a2)) + v4).toNatClampNeg)) + a2)) + (vak0_8 ((4 * (vak0_7 ((7 * ((4 * a1) + a2)) + v4).toNatClampNeg)) + a2).toNatClampNeg)) 840 (g_at ((4 * (vak0_7 ((7 * ((4 * a1) + a2)) + v4).toNatClampNeg)) + a2) 120 (g_at ((4 * (vak0_7 ((7 * ((4 * a1) + a2)) + v4).toNatClampNeg)) + a2) 120 (g_at ((4 * (vak0_7 ((7 * ((4 * a1) + a2)) + v4).toNatClampNeg)) + a2) 120 (if v3 < ((upd vak0_8 ((4 * (vak0_7 ((7 * ((4 * a1) + a2)) + v4).toNatClampNeg)) + a2).toNatClampNeg ((vak0_8 ((4 * (vak0_7 ((7 * ((4 * a1) + a2)) + v4).toNatClampNeg)) + a2).toNatClampNeg) + 1)) ((4 * (vak0_7 ((7 * ((4 * a1) + a2)) + v4).toNatClampNeg)) + a2).toNatClampNeg) then ((f_Mo_aimAt N x0_2 vak0_9 (vak0_7 ((7 * ((4 * a1) + a2)) + v4).toNatClampNeg)).bind fun p22 => (g_at ((4 * (vak0_7 ((7 * ((4 * a1) + a2)) + v4).toNatClampNeg)) + a2) 120 (f_Mo_tie_169 N a1 a2 vak0_7 vak0_8 v4 (fun vak0_17_26 v7_26 => ((f_Mo_choose N x0_2 p22 vak0_13 vak0_14 vak0_16 vak0_17_26 ((upd vak0_8 ((4 * (vak0_7 ((7 * ((4 * a1) + a2)) + v4).toNatClampNeg)) + a2).toNatClampNeg ((vak0_8 ((4 * (vak0_7 ((7 * ((4 * a1) + a2)) + v4).toNatClampNeg)) + a2).toNatClampNeg) + 1)) ((4 * (vak0_7 ((7 * ((4 * a1) + a2)) + v4).toNatClampNeg)) + a2).toNatClampNeg) v3).bind fun p28 => ((f_Mo_take N (upd vak0_7 ((7 * ((4 * (vak0_7 ((7 * ((4 * a1) + a2)) + v4).toNatClampNeg)) + a2)) + (vak0_8 ((4 * (vak0_7 ((7 * ((4 * a1) + a2)) + v4).toNatClampNeg)) + a2).toNatClampNeg)).toNatClampNeg a1) (upd vak0_8 ((4 * (vak0_7 ((7 * ((4 * a1) + a2)) + v4).toNatClampNeg)) + a2).toNatClampNeg ((vak0_8 ((4 * (vak0_7 ((7 * ((4 * a1) + a2)) + v4).toNatClampNeg)) + a2).toNatClampNeg) + 1)) p28.2.2.1 p28.2.2.2 ((4 * (vak0_7 ((7 * ((4 * a1) + a2)) + v4).toNatClampNeg)) + a2)).bind fun p30 => (f_Mo_tie_64 N x0_2 a1 a2 n p28.1 p28.2.1 p28.2.2.1 vak0_17_26 p30.1 p30.2 p22 p28.2.2.2 ((upd vak0_8 ((4 * (vak0_7 ((7 * ((4 * a1) + a2)) + v4).toNatClampNeg)) + a2).toNatClampNeg ((vak0_8 ((4 * (vak0_7 ((7 * ((4 * a1) + a2)) + v4).toNatClampNeg)) + a2).toNatClampNeg) + 1)) ((4 * (vak0_7 ((7 * ((4 * a1) + a2)) + v4).toNatClampNeg)) + a2).toNatClampNeg) v3 (v4 + 1))))) N vak0_17 0))) else (f_Mo_tie_64 N x0_2 a1 a2 n vak0_13 vak0_14 vak0_16 vak0_17 (upd vak0_7 ((7 * ((4 * (vak0_7 ((7 * ((4 * a1) + a2)) + v4).toNatClampNeg)) + a2)) + (vak0_8 ((4 * (vak0_7 ((7 * ((4 * a1) + a2)) + v4).toNatClampNeg)) + a2).toNatClampNeg)).toNatClampNeg a1) (upd vak0_8 ((4 * (vak0_7 ((7 * ((4 * a1) + a2)) + v4).toNatClampNeg)) + a2).toNatClampNeg ((vak0_8 ((4 * (vak0_7 ((7 * ((4 * a1) + a2)) + v4).toNatClampNeg)) + a2).toNatClampNeg) + 1)) vak0_9 vfk0_0_20 vfk0_0_21 v3 (v4 + 1)))))))))))
def f_Mo_tie_10 (N : Nat) (x0_2 : (Nat → Int32)) (x0_6 : (Nat → Int32)) (x0_7 : (Nat → Int32)) (x0_10 : (Nat → Int32)) (x0_14 : (Nat → Int32)) (x0_15 : (Nat → Int32)) (x0_16 : (Nat → Int32)) (x0_17 : (Nat → Int32)) (x0_19 : Int32) (a1 : Int32) (a2 : Int32) : Nat → (Nat → Int32) → Int32 → Option ((Nat → Int32) × (Nat → Int32) × (Nat → Int32) × (Nat → Int32) × (Nat → Int32) × (Nat → Int32) × (Nat → Int32) × Int32 × Int32)
  | 0, _, _ => none
  | n + 1, vak0_17, v3 => (if x0_19 ≤ v3 then ((f_Mo_choose N x0_2 x0_10 x0_14 x0_15 x0_17 vak0_17 x0_19 3).bind fun p3 => ((f_Mo_take N x0_6 x0_7 p3.2.2.1 p3.2.2.2 ((4 * a1) + a2)).bind fun p5 => (if a2 = 0 then (f_Mo_tie_64 N x0_2 a1 a2 N p3.1 p3.2.1 p3.2.2.1 vak0_17 p5.1 p5.2 x0_10 p3.2.2.2 x0_19 6 0) else (f_Mo_tie_64 N x0_2 a1 a2 N p3.1 p3.2.1 p3.2.2.1 vak0_17 p5.1 p5.2 x0_10 p3.2.2.2 x0_19 3 0)))) else (g_at v3 30 (g_at v3 30 (f_Mo_tie_10 N x0_2 x0_6 x0_7 x0_10 x0_14 x0_15 x0_16 x0_17 x0_19 a1 a2 n (upd vak0_17 v3.toNatClampNeg (x0_16 v3.toNatClampNeg)) (v3 + 1)))))
def f_Mo_tie (N : Nat) (x0_2 : (Nat → Int32)) (x0_6 : (Nat → Int32)) (x0_7 : (Nat → Int32)) (x0_10 : (Nat → Int32)) (x0_14 : (Nat → Int32)) (x0_15 : (Nat → Int32)) (x0_16 : (Nat → Int32)) (x0_17 : (Nat → Int32)) (x0_18 : (Nat → Int32)) (x0_19 : Int32) (a1 : Int32) (a2 : Int32) : Option ((Nat → Int32) × (Nat → Int32) × (Nat → Int32) × (Nat → Int32) × (Nat → Int32) × (Nat → Int32) × (Nat → Int32) × Int32 × Int32) := (f_Mo_tie_10 N x0_2 x0_6 x0_7 x0_10 x0_14 x0_15 x0_16 x0_17 x0_19 a1 a2 N x0_18 0)
def f_Mo_enter_160 (N : Nat) (x0_0 : (Nat → Int32)) (x0_1 : (Nat → Int32)) (x0_2 : (Nat → Int32)) (x0_4 : (Nat → Int32)) (x0_5 : (Nat → Int32)) (x0_8 : Int32) (x0_9 : Int32) (a1 : Int32) (v2 : Int32) : Nat → (Nat → Int32) → (Nat → Int32) → (Nat → Int32) → (Nat → Int32) → (Nat → Int32) → (Nat → Int32) → (Nat → Int32) → (Nat → Int32) → (Nat → Int32) → (Nat → Int32) → Int32 → Int32 → Int32 → Int64 → Int32 → Option ((Nat → Int32) × (Nat → Int32) × (Nat → Int32) × (Nat → Int32) × (Nat → Int32) × (Nat → Int32) × Int32 × Int32 × (Nat → Int32) × (Nat → Int32) × (Nat → Int32) × (Nat → Int32) × (Nat → Int32) × (Nat → Int32) × (Nat → Int32) × (Nat → Int32) × Int32 × Int32 × Int32 × Int64)
  | 0, _, _, _, _, _, _, _, _, _, _, _, _, _, _, _ => none
  | n + 1, vak0_11, vak0_12, vak0_13, vak0_14, vak0_15, vak0_16, vak0_17, vak0_7, vak0_8, vak0_9, vfk0_0_19, vfk0_0_20, vfk0_0_21, vfk0_0_27, v4 => (if v4 < 0 then (g_at a1 30 (g_at a1 30 (if x0_8 < 0 then (some (upd x0_0 a1.toNatClampNeg (vp_nar .boolean 1), upd x0_1 a1.toNatClampNeg (vp_nar .boolean 1), upd x0_4 a1.toNatClampNeg v2, upd x0_5 a1.toNatClampNeg (x0_9 + 1), vak0_7, vak0_8, a1, x0_9 + 1, vak0_9, vak0_11, vak0_12, vak0_13, vak0_14, vak0_15, vak0_16, vak0_17, vfk0_0_19, vfk0_0_20, vfk0_0_21, vfk0_0_27)) else (g_at x0_8 30 (if v2 ≤ ((upd x0_4 a1.toNatClampNeg v2) x0_8.toNatClampNeg) then (some (upd x0_0 a1.toNatClampNeg (vp_nar .boolean 1), upd x0_1 a1.toNatClampNeg (vp_nar .boolean 1), upd x0_4 a1.toNatClampNeg v2, upd x0_5 a1.toNatClampNeg (x0_9 + 1), vak0_7, vak0_8, x0_8, x0_9 + 1, vak0_9, vak0_11, vak0_12, vak0_13, vak0_14, vak0_15, vak0_16, vak0_17, vfk0_0_19, vfk0_0_20, vfk0_0_21, vfk0_0_27)) else (some (upd x0_0 a1.toNatClampNeg (vp_nar .boolean 1), upd x0_1 a1.toNatClampNeg (vp_nar .boolean 1), upd x0_4 a1.toNatClampNeg v2, upd x0_5 a1.toNatClampNeg (x0_9 + 1), vak0_7, vak0_8, a1, x0_9 + 1, vak0_9, vak0_11, vak0_12, vak0_13, vak0_14, vak0_15, vak0_16, vak0_17, vfk0_0_19, vfk0_0_20, vfk0_0_21, vfk0_0_27))))))) else ((f_Mo_walk N x0_2 vak0_7 vak0_8 vak0_9 vak0_11 vak0_12 vak0_13 vak0_15 vfk0_0_19 v4 5).bind fun p46 => ((f_Mo_tie N x0_2 vak0_7 vak0_8 vak0_9 p46.2.2.2.1 vak0_14 p46.2.2.2.2.1 vak0_16 vak0_17 p46.2.2.2.2.2 a1 v4).bind fun p49 => ((f_Mo_aimAt N x0_2 p49.2.2.1 a1).bind fun p51 => (f_Mo_enter_160 N x0_0 x0_1 x0_2 x0_4 x0_5 x0_8 x0_9 a1 v2 n p46.2.1 p46.2.2.1 p49.2.2.2.1 p49.2.2.2.2.1 p46.2.2.2.2.1 p49.2.2.2.2.2.1 p49.2.2.2.2.2.2.1 p49.1 p49.2.1 p51 p46.2.2.2.2.2 p49.2.2.2.2.2.2.2.1 p49.2.2.2.2.2.2.2.2 (vfk0_0_27 + p46.1.toInt64) (v4 + (-1)))))))
def f_Mo_enter_119 (N : Nat) (x0_0 : (Nat → Int32)) (x0_1 : (Nat → Int32)) (x0_2 : (Nat → Int32)) (x0_4 : (Nat → Int32)) (x0_5 : (Nat → Int32)) (x0_6 : (Nat → Int32)) (x0_8 : Int32) (x0_9 : Int32) (x0_15 : (Nat → Int32)) (x0_17 : (Nat → Int32)) (x0_18 : (Nat → Int32)) (x0_20 : Int32) (x0_21 : Int32) (a1 : Int32) (v2 : Int32) (vak0_8 : (Nat → Int32)) (p23 : (Nat → Int32)) : Nat → (Nat → Int32) → (Nat → Int32) → (Nat → Int32) → (Nat → Int32) → Int32 → Int64 → Int32 → Option ((Nat → Int32) × (Nat → Int32) × (Nat → Int32) × (Nat → Int32) × (Nat → Int32) × (Nat → Int32) × Int32 × Int32 × (Nat → Int32) × (Nat → Int32) × (Nat → Int32) × (Nat → Int32) × (Nat → Int32) × (Nat → Int32) × (Nat → Int32) × (Nat → Int32) × Int32 × Int32 × Int32 × Int64)
  | 0, _, _, _, _, _, _, _ => none
  | n + 1, vak0_11, vak0_12, vak0_13, vak0_15, vfk0_0_19, vfk0_0_27, v4 => (if v4 ≤ v2 then (if ((upd x0_4 a1.toNatClampNeg v2) x0_8.toNatClampNeg) ≤ v2 then (f_Mo_enter_160 N x0_0 x0_1 x0_2 x0_4 x0_5 x0_8 x0_9 a1 v2 N vak0_11 vak0_12 vak0_13 x0_15 vak0_15 x0_17 x0_18 x0_6 vak0_8 p23 vfk0_0_19 x0_20 x0_21 vfk0_0_27 ((upd x0_4 a1.toNatClampNeg v2) x0_8.toNatClampNeg)) else (f_Mo_enter_160 N x0_0 x0_1 x0_2 x0_4 x0_5 x0_8 x0_9 a1 v2 N vak0_11 vak0_12 vak0_13 x0_15 vak0_15 x0_17 x0_18 x0_6 vak0_8 p23 vfk0_0_19 x0_20 x0_21 vfk0_0_27 v2)) else ((f_Mo_walk N x0_2 x0_6 vak0_8 p23 vak0_11 vak0_12 vak0_13 vak0_15 vfk0_0_19 v4 1).bind fun p33 => (f_Mo_enter_119 N x0_0 x0_1 x0_2 x0_4 x0_5 x0_6 x0_8 x0_9 x0_15 x0_17 x0_18 x0_20 x0_21 a1 v2 vak0_8 p23 n p33.2.1 p33.2.2.1 p33.2.2.2.1 p33.2.2.2.2.1 p33.2.2.2.2.2 (vfk0_0_27 + p33.1.toInt64) (v4 + (-1)))))
def f_Mo_enter_57 (N : Nat) (x0_0 : (Nat → Int32)) (x0_1 : (Nat → Int32)) (x0_2 : (Nat → Int32)) (x0_4 : (Nat → Int32)) (x0_5 : (Nat → Int32)) (x0_6 : (Nat → Int32)) (x0_8 : Int32) (x0_9 : Int32) (x0_10 : (Nat → Int32)) (x0_12 : (Nat → Int32)) (x0_13 : (Nat → Int32)) (x0_14 : (Nat → Int32)) (x0_15 : (Nat → Int32)) (x0_16 : (Nat → Int32)) (x0_17 : (Nat → Int32)) (x0_18 : (Nat → Int32)) (x0_19 : Int32) (x0_20 : Int32) (x0_21 : Int32) (x0_27 : Int64) (a1 : Int32) (v2 : Int32) : Nat → (Nat → Int32) → Int32 → Option ((Nat → Int32) × (Nat → Int32) × (Nat → Int32) × (Nat → Int32) × (Nat → Int32) × (Nat → Int32) × Int32 × Int32 × (Nat → Int32) × (Nat → Int32) × (Nat → Int32) × (Nat → Int32) × (Nat → Int32) × (Nat → Int32) × (Nat → Int32) × (Nat → Int32) × Int32 × Int32 × Int32 × Int64)
  | 0, _, _ => none
  | n + 1, vak0_8, v3 => (if 4 ≤ v3 then (if x0_8 < 0 then (g_at a1 30 (g_at a1 30 (if x0_8 < 0 then (some (upd x0_0 a1.toNatClampNeg (vp_nar .boolean 1), upd x0_1 a1.toNatClampNeg (vp_nar .boolean 1), upd x0_4 a1.toNatClampNeg v2, upd x0_5 a1.toNatClampNeg (x0_9 + 1), x0_6, vak0_8, a1, x0_9 + 1, x0_10, x0_12, x0_13, x0_14, x0_15, x0_16, x0_17, x0_18, x0_19, x0_20, x0_21, x0_27)) else (g_at x0_8 30 (if v2 ≤ ((upd x0_4 a1.toNatClampNeg v2) x0_8.toNatClampNeg) then (some (upd x0_0 a1.toNatClampNeg (vp_nar .boolean 1), upd x0_1 a1.toNatClampNeg (vp_nar .boolean 1), upd x0_4 a1.toNatClampNeg v2, upd x0_5 a1.toNatClampNeg (x0_9 + 1), x0_6, vak0_8, x0_8, x0_9 + 1, x0_10, x0_12, x0_13, x0_14, x0_15, x0_16, x0_17, x0_18, x0_19, x0_20, x0_21, x0_27)) else (some (upd x0_0 a1.toNatClampNeg (vp_nar .boolean 1), upd x0_1 a1.toNatClampNeg (vp_nar .boolean 1), upd x0_4 a1.toNatClampNeg v2, upd x0_5 a1.toNatClampNeg (x0_9 + 1), x0_6, vak0_8, a1, x0_9 + 1, x0_10, x0_12, x0_13, x0_14, x0_15, x0_16, x0_17, x0_18, x0_19, x0_20, x0_21, x0_27))))))) else ((f_Mo_aimAt N x0_2 x0_10 a1).bind fun p23 => (g_at 0 30 (g_at x0_8 30 (f_Mo_enter_119 N x0_0 x0_1 x0_2 x0_4 x0_5 x0_6 x0_8 x0_9 x0_15 x0_17 x0_18 x0_20 x0_21 a1 v2 vak0_8 p23 N x0_12 x0_13 x0_14 (upd x0_16 (0 : Int32).toNatClampNeg x0_8) 1 x0_27 ((upd x0_4 a1.toNatClampNeg v2) x0_8.toNatClampNeg)))))) else (g_at ((4 * a1) + v3) 120 (f_Mo_enter_57 N x0_0 x0_1 x0_2 x0_4 x0_5 x0_6 x0_8 x0_9 x0_10 x0_12 x0_13 x0_14 x0_15 x0_16 x0_17 x0_18 x0_19 x0_20 x0_21 x0_27 a1 v2 n (upd vak0_8 ((4 * a1) + v3).toNatClampNeg 0) (v3 + 1))))
def f_Mo_enter_27 (N : Nat) (x0_0 : (Nat → Int32)) (x0_1 : (Nat → Int32)) (x0_2 : (Nat → Int32)) (x0_4 : (Nat → Int32)) (x0_5 : (Nat → Int32)) (x0_6 : (Nat → Int32)) (x0_7 : (Nat → Int32)) (x0_8 : Int32) (x0_9 : Int32) (x0_10 : (Nat → Int32)) (x0_12 : (Nat → Int32)) (x0_13 : (Nat → Int32)) (x0_14 : (Nat → Int32)) (x0_15 : (Nat → Int32)) (x0_16 : (Nat → Int32)) (x0_17 : (Nat → Int32)) (x0_18 : (Nat → Int32)) (x0_19 : Int32) (x0_20 : Int32) (x0_21 : Int32) (x0_27 : Int64) (a1 : Int32) : Nat → Int32 → Int32 → Option ((Nat → Int32) × (Nat → Int32) × (Nat → Int32) × (Nat → Int32) × (Nat → Int32) × (Nat → Int32) × Int32 × Int32 × (Nat → Int32) × (Nat → Int32) × (Nat → Int32) × (Nat → Int32) × (Nat → Int32) × (Nat → Int32) × (Nat → Int32) × (Nat → Int32) × Int32 × Int32 × Int32 × Int64)
  | 0, _, _ => none
  | n + 1, v2, v3 => (if (v3 - v3 / 3 * 3) = 0 then (if 3 ≤ v2 then (g_at a1 30 (f_Mo_enter_57 N x0_0 x0_1 x0_2 x0_4 x0_5 x0_6 x0_8 x0_9 x0_10 x0_12 x0_13 x0_14 x0_15 x0_16 x0_17 x0_18 x0_19 x0_20 x0_21 x0_27 a1 v2 N x0_7 0)) else (f_Mo_enter_27 N x0_0 x0_1 x0_2 x0_4 x0_5 x0_6 x0_7 x0_8 x0_9 x0_10 x0_12 x0_13 x0_14 x0_15 x0_16 x0_17 x0_18 x0_19 x0_20 x0_21 x0_27 a1 n (v2 + 1) (v3 / 3))) else (g_at a1 30 (f_Mo_enter_57 N x0_0 x0_1 x0_2 x0_4 x0_5 x0_6 x0_8 x0_9 x0_10 x0_12 x0_13 x0_14 x0_15 x0_16 x0_17 x0_18 x0_19 x0_20 x0_21 x0_27 a1 v2 N x0_7 0)))
def f_Mo_enter (N : Nat) (x0_0 : (Nat → Int32)) (x0_1 : (Nat → Int32)) (x0_2 : (Nat → Int32)) (x0_4 : (Nat → Int32)) (x0_5 : (Nat → Int32)) (x0_6 : (Nat → Int32)) (x0_7 : (Nat → Int32)) (x0_8 : Int32) (x0_9 : Int32) (x0_10 : (Nat → Int32)) (x0_12 : (Nat → Int32)) (x0_13 : (Nat → Int32)) (x0_14 : (Nat → Int32)) (x0_15 : (Nat → Int32)) (x0_16 : (Nat → Int32)) (x0_17 : (Nat → Int32)) (x0_18 : (Nat → Int32)) (x0_19 : Int32) (x0_20 : Int32) (x0_21 : Int32) (x0_27 : Int64) (a1 : Int32) : Option ((Nat → Int32) × (Nat → Int32) × (Nat → Int32) × (Nat → Int32) × (Nat → Int32) × (Nat → Int32) × Int32 × Int32 × (Nat → Int32) × (Nat → Int32) × (Nat → Int32) × (Nat → Int32) × (Nat → Int32) × (Nat → Int32) × (Nat → Int32) × (Nat → Int32) × Int32 × Int32 × Int32 × Int64) := (g_at a1 30 (f_Mo_enter_27 N x0_0 x0_1 x0_2 x0_4 x0_5 x0_6 x0_7 x0_8 x0_9 x0_10 x0_12 x0_13 x0_14 x0_15 x0_16 x0_17 x0_18 x0_19 x0_20 x0_21 x0_27 a1 N 0 (x0_9 + 1)))
def f_Mo_put_57 (N : Nat) (x0_0 : (Nat → Int32)) (x0_1 : (Nat → Int32)) (x0_2 : (Nat → Int32)) (x0_3 : (Nat → Int32)) (x0_4 : (Nat → Int32)) (x0_5 : (Nat → Int32)) (x0_6 : (Nat → Int32)) (x0_7 : (Nat → Int32)) (x0_8 : Int32) (x0_9 : Int32) (x0_10 : (Nat → Int32)) (x0_12 : (Nat → Int32)) (x0_13 : (Nat → Int32)) (x0_14 : (Nat → Int32)) (x0_15 : (Nat → Int32)) (x0_16 : (Nat → Int32)) (x0_17 : (Nat → Int32)) (x0_18 : (Nat → Int32)) (x0_19 : Int32) (x0_20 : Int32) (x0_21 : Int32) (x0_27 : Int64) (a1 : Int32) (a2 : Int32) (a3 : Int32) (a4 : Int32) (a5 : Int32) : Nat → Int32 → Option (Int32 × (Nat → Int32) × (Nat → Int32) × (Nat → Int32) × (Nat → Int32) × (Nat → Int32) × (Nat → Int32) × (Nat → Int32) × (Nat → Int32) × Int32 × Int32 × (Nat → Int32) × (Nat → Int32) × (Nat → Int32) × (Nat → Int32) × (Nat → Int32) × (Nat → Int32) × (Nat → Int32) × (Nat → Int32) × Int32 × Int32 × Int32 × Int64)
  | 0, _ => none
  | n + 1, v6 => (if 30 ≤ v6 then (if v6 = 30 then (some ((-3), x0_0, x0_1, x0_2, x0_3, x0_4, x0_5, x0_6, x0_7, x0_8, x0_9, x0_10, x0_12, x0_13, x0_14, x0_15, x0_16, x0_17, x0_18, x0_19, x0_20, x0_21, x0_27)) else (g_at (4 * v6) 120 (g_at ((4 * v6) + 1) 120 (g_at ((4 * v6) + 2) 120 (g_at ((4 * v6) + 3) 120 (g_at v6 30 ((f_Mo_enter N x0_0 x0_1 (upd (upd (upd (upd x0_2 (4 * v6).toNatClampNeg a1) ((4 * v6) + 1).toNatClampNeg a2) ((4 * v6) + 2).toNatClampNeg a3) ((4 * v6) + 3).toNatClampNeg a4) x0_4 x0_5 x0_6 x0_7 x0_8 x0_9 x0_10 x0_12 x0_13 x0_14 x0_15 x0_16 x0_17 x0_18 x0_19 x0_20 x0_21 x0_27 v6).bind fun p23 => (some (v6, p23.1, p23.2.1, upd (upd (upd (upd x0_2 (4 * v6).toNatClampNeg a1) ((4 * v6) + 1).toNatClampNeg a2) ((4 * v6) + 2).toNatClampNeg a3) ((4 * v6) + 3).toNatClampNeg a4, upd x0_3 v6.toNatClampNeg a5, p23.2.2.1, p23.2.2.2.1, p23.2.2.2.2.1, p23.2.2.2.2.2.1, p23.2.2.2.2.2.2.1, p23.2.2.2.2.2.2.2.1, p23.2.2.2.2.2.2.2.2.1, p23.2.2.2.2.2.2.2.2.2.1, p23.2.2.2.2.2.2.2.2.2.2.1, p23.2.2.2.2.2.2.2.2.2.2.2.1, p23.2.2.2.2.2.2.2.2.2.2.2.2.1, p23.2.2.2.2.2.2.2.2.2.2.2.2.2.1, p23.2.2.2.2.2.2.2.2.2.2.2.2.2.2.1, p23.2.2.2.2.2.2.2.2.2.2.2.2.2.2.2.1, p23.2.2.2.2.2.2.2.2.2.2.2.2.2.2.2.2.1, p23.2.2.2.2.2.2.2.2.2.2.2.2.2.2.2.2.2.1, p23.2.2.2.2.2.2.2.2.2.2.2.2.2.2.2.2.2.2.1, p23.2.2.2.2.2.2.2.2.2.2.2.2.2.2.2.2.2.2.2))))))))) else (g_at v6 30 (if (x0_0 v6.toNatClampNeg) = 0 then (if v6 = 30 then (some ((-3), x0_0, x0_1, x0_2, x0_3, x0_4, x0_5, x0_6, x0_7, x0_8, x0_9, x0_10, x0_12, x0_13, x0_14, x0_15, x0_16, x0_17, x0_18, x0_19, x0_20, x0_21, x0_27)) else (g_at (4 * v6) 120 (g_at ((4 * v6) + 1) 120 (g_at ((4 * v6) + 2) 120 (g_at ((4 * v6) + 3) 120 (g_at v6 30 ((f_Mo_enter N x0_0 x0_1 (upd (upd (upd (upd x0_2 (4 * v6).toNatClampNeg a1) ((4 * v6) + 1).toNatClampNeg a2) ((4 * v6) + 2).toNatClampNeg a3) ((4 * v6) + 3).toNatClampNeg a4) x0_4 x0_5 x0_6 x0_7 x0_8 x0_9 x0_10 x0_12 x0_13 x0_14 x0_15 x0_16 x0_17 x0_18 x0_19 x0_20 x0_21 x0_27 v6).bind fun p38 => (some (v6, p38.1, p38.2.1, upd (upd (upd (upd x0_2 (4 * v6).toNatClampNeg a1) ((4 * v6) + 1).toNatClampNeg a2) ((4 * v6) + 2).toNatClampNeg a3) ((4 * v6) + 3).toNatClampNeg a4, upd x0_3 v6.toNatClampNeg a5, p38.2.2.1, p38.2.2.2.1, p38.2.2.2.2.1, p38.2.2.2.2.2.1, p38.2.2.2.2.2.2.1, p38.2.2.2.2.2.2.2.1, p38.2.2.2.2.2.2.2.2.1, p38.2.2.2.2.2.2.2.2.2.1, p38.2.2.2.2.2.2.2.2.2.2.1, p38.2.2.2.2.2.2.2.2.2.2.2.1, p38.2.2.2.2.2.2.2.2.2.2.2.2.1, p38.2.2.2.2.2.2.2.2.2.2.2.2.2.1, p38.2.2.2.2.2.2.2.2.2.2.2.2.2.2.1, p38.2.2.2.2.2.2.2.2.2.2.2.2.2.2.2.1, p38.2.2.2.2.2.2.2.2.2.2.2.2.2.2.2.2.1, p38.2.2.2.2.2.2.2.2.2.2.2.2.2.2.2.2.2.1, p38.2.2.2.2.2.2.2.2.2.2.2.2.2.2.2.2.2.2.1, p38.2.2.2.2.2.2.2.2.2.2.2.2.2.2.2.2.2.2.2))))))))) else (f_Mo_put_57 N x0_0 x0_1 x0_2 x0_3 x0_4 x0_5 x0_6 x0_7 x0_8 x0_9 x0_10 x0_12 x0_13 x0_14 x0_15 x0_16 x0_17 x0_18 x0_19 x0_20 x0_21 x0_27 a1 a2 a3 a4 a5 n (v6 + 1)))))
def f_Mo_put (N : Nat) (x0_0 : (Nat → Int32)) (x0_1 : (Nat → Int32)) (x0_2 : (Nat → Int32)) (x0_3 : (Nat → Int32)) (x0_4 : (Nat → Int32)) (x0_5 : (Nat → Int32)) (x0_6 : (Nat → Int32)) (x0_7 : (Nat → Int32)) (x0_8 : Int32) (x0_9 : Int32) (x0_10 : (Nat → Int32)) (x0_12 : (Nat → Int32)) (x0_13 : (Nat → Int32)) (x0_14 : (Nat → Int32)) (x0_15 : (Nat → Int32)) (x0_16 : (Nat → Int32)) (x0_17 : (Nat → Int32)) (x0_18 : (Nat → Int32)) (x0_19 : Int32) (x0_20 : Int32) (x0_21 : Int32) (x0_27 : Int64) (a1 : Int32) (a2 : Int32) (a3 : Int32) (a4 : Int32) (a5 : Int32) : Option (Int32 × (Nat → Int32) × (Nat → Int32) × (Nat → Int32) × (Nat → Int32) × (Nat → Int32) × (Nat → Int32) × (Nat → Int32) × (Nat → Int32) × Int32 × Int32 × (Nat → Int32) × (Nat → Int32) × (Nat → Int32) × (Nat → Int32) × (Nat → Int32) × (Nat → Int32) × (Nat → Int32) × (Nat → Int32) × Int32 × Int32 × Int32 × Int64) := ((f_Mo_in N a1 0 99).bind fun p1 => (if p1 = 0 then (some ((-1), x0_0, x0_1, x0_2, x0_3, x0_4, x0_5, x0_6, x0_7, x0_8, x0_9, x0_10, x0_12, x0_13, x0_14, x0_15, x0_16, x0_17, x0_18, x0_19, x0_20, x0_21, x0_27)) else ((f_Mo_in N a2 0 99).bind fun p3 => (if p3 = 0 then (some ((-1), x0_0, x0_1, x0_2, x0_3, x0_4, x0_5, x0_6, x0_7, x0_8, x0_9, x0_10, x0_12, x0_13, x0_14, x0_15, x0_16, x0_17, x0_18, x0_19, x0_20, x0_21, x0_27)) else ((f_Mo_in N a3 0 99).bind fun p5 => (if p5 = 0 then (some ((-1), x0_0, x0_1, x0_2, x0_3, x0_4, x0_5, x0_6, x0_7, x0_8, x0_9, x0_10, x0_12, x0_13, x0_14, x0_15, x0_16, x0_17, x0_18, x0_19, x0_20, x0_21, x0_27)) else ((f_Mo_in N a4 0 99).bind fun p7 => (if p7 = 0 then (some ((-1), x0_0, x0_1, x0_2, x0_3, x0_4, x0_5, x0_6, x0_7, x0_8, x0_9, x0_10, x0_12, x0_13, x0_14, x0_15, x0_16, x0_17, x0_18, x0_19, x0_20, x0_21, x0_27)) else ((f_Mo_in N a5 0 16777215).bind fun p9 => (if p9 = 0 then (some ((-1), x0_0, x0_1, x0_2, x0_3, x0_4, x0_5, x0_6, x0_7, x0_8, x0_9, x0_10, x0_12, x0_13, x0_14, x0_15, x0_16, x0_17, x0_18, x0_19, x0_20, x0_21, x0_27)) else (f_Mo_put_57 N x0_0 x0_1 x0_2 x0_3 x0_4 x0_5 x0_6 x0_7 x0_8 x0_9 x0_10 x0_12 x0_13 x0_14 x0_15 x0_16 x0_17 x0_18 x0_19 x0_20 x0_21 x0_27 a1 a2 a3 a4 a5 N 0)))))))))))
def f_Mo_remove (N : Nat) (x0_1 : (Nat → Int32)) (a1 : Int32) : Option (Int32 × (Nat → Int32)) := ((f_Mo_in N a1 0 29).bind fun p1 => (if p1 = 0 then (some (0, x0_1)) else (g_at a1 30 (if (x0_1 a1.toNatClampNeg) = 0 then (some (0, x0_1)) else (g_at a1 30 (some (1, upd x0_1 a1.toNatClampNeg (vp_nar .boolean 0))))))))
def f_Mo_renew_49 (N : Nat) (x0_2 : (Nat → Int32)) (p1 : Int32) (p2 : Int32) : Nat → (Nat → Int32) → (Nat → Int32) → (Nat → Int32) → (Nat → Int32) → (Nat → Int32) → (Nat → Int32) → (Nat → Int32) → (Nat → Int32) → (Nat → Int32) → (Nat → Int32) → (Nat → Int32) → (Nat → Int32) → (Nat → Int32) → (Nat → Int32) → Int32 → Int32 → Int32 → Int32 → Int32 → Int64 → Int32 → Option (Int32 × (Nat → Int32) × (Nat → Int32) × (Nat → Int32) × (Nat → Int32) × (Nat → Int32) × (Nat → Int32) × Int32 × Int32 × (Nat → Int32) × (Nat → Int32) × (Nat → Int32) × (Nat → Int32) × (Nat → Int32) × (Nat → Int32) × (Nat → Int32) × (Nat → Int32) × Int32 × Int32 × Int32 × Int64)
  | 0, _, _, _, _, _, _, _, _, _, _, _, _, _, _, _, _, _, _, _, _, _ => none
  | n + 1, vak0_1, vak0_11, vak0_12, vak0_13, vak0_14, vak0_15, vak0_16, vak0_17, vak0_2, vak0_5, vak0_6, vak0_7, vak0_8, vak0_9, vfk0_0_19, vfk0_0_20, vfk0_0_21, vfk0_0_8, vfk0_0_9, vfk0_0_27, v2 => (if 30 ≤ v2 then (some (p1 - p2, vak0_1, vak0_2, vak0_5, vak0_6, vak0_7, vak0_8, vfk0_0_8, vfk0_0_9, vak0_9, vak0_11, vak0_12, vak0_13, vak0_14, vak0_15, vak0_16, vak0_17, vfk0_0_19, vfk0_0_20, vfk0_0_21, vfk0_0_27)) else (g_at v2 30 (if (vak0_2 v2.toNatClampNeg) = 0 then (f_Mo_renew_49 N x0_2 p1 p2 n vak0_1 vak0_11 vak0_12 vak0_13 vak0_14 vak0_15 vak0_16 vak0_17 vak0_2 vak0_5 vak0_6 vak0_7 vak0_8 vak0_9 vfk0_0_19 vfk0_0_20 vfk0_0_21 vfk0_0_8 vfk0_0_9 vfk0_0_27 (v2 + 1)) else ((f_Mo_enter N vak0_1 vak0_2 x0_2 vak0_5 vak0_6 vak0_7 vak0_8 vfk0_0_8 vfk0_0_9 vak0_9 vak0_11 vak0_12 vak0_13 vak0_14 vak0_15 vak0_16 vak0_17 vfk0_0_19 vfk0_0_20 vfk0_0_21 vfk0_0_27 v2).bind fun p11 => (f_Mo_renew_49 N x0_2 p1 p2 n p11.1 p11.2.2.2.2.2.2.2.2.2.1 p11.2.2.2.2.2.2.2.2.2.2.1 p11.2.2.2.2.2.2.2.2.2.2.2.1 p11.2.2.2.2.2.2.2.2.2.2.2.2.1 p11.2.2.2.2.2.2.2.2.2.2.2.2.2.1 p11.2.2.2.2.2.2.2.2.2.2.2.2.2.2.1 p11.2.2.2.2.2.2.2.2.2.2.2.2.2.2.2.1 p11.2.1 p11.2.2.1 p11.2.2.2.1 p11.2.2.2.2.1 p11.2.2.2.2.2.1 p11.2.2.2.2.2.2.2.2.1 p11.2.2.2.2.2.2.2.2.2.2.2.2.2.2.2.2.1 p11.2.2.2.2.2.2.2.2.2.2.2.2.2.2.2.2.2.1 p11.2.2.2.2.2.2.2.2.2.2.2.2.2.2.2.2.2.2.1 p11.2.2.2.2.2.2.1 p11.2.2.2.2.2.2.2.1 p11.2.2.2.2.2.2.2.2.2.2.2.2.2.2.2.2.2.2.2 (v2 + 1))))))
def f_Mo_renew_28 (N : Nat) (x0_1 : (Nat → Int32)) (x0_2 : (Nat → Int32)) (x0_4 : (Nat → Int32)) (x0_5 : (Nat → Int32)) (x0_6 : (Nat → Int32)) (x0_7 : (Nat → Int32)) (x0_10 : (Nat → Int32)) (x0_12 : (Nat → Int32)) (x0_13 : (Nat → Int32)) (x0_14 : (Nat → Int32)) (x0_15 : (Nat → Int32)) (x0_16 : (Nat → Int32)) (x0_17 : (Nat → Int32)) (x0_18 : (Nat → Int32)) (x0_19 : Int32) (x0_20 : Int32) (x0_21 : Int32) (x0_27 : Int64) (p1 : Int32) (p2 : Int32) : Nat → (Nat → Int32) → Int32 → Option (Int32 × (Nat → Int32) × (Nat → Int32) × (Nat → Int32) × (Nat → Int32) × (Nat → Int32) × (Nat → Int32) × Int32 × Int32 × (Nat → Int32) × (Nat → Int32) × (Nat → Int32) × (Nat → Int32) × (Nat → Int32) × (Nat → Int32) × (Nat → Int32) × (Nat → Int32) × Int32 × Int32 × Int32 × Int64)
  | 0, _, _ => none
  | n + 1, vak0_1, v2 => (if 30 ≤ v2 then (f_Mo_renew_49 N x0_2 p1 p2 N vak0_1 x0_12 x0_13 x0_14 x0_15 x0_16 x0_17 x0_18 x0_1 x0_4 x0_5 x0_6 x0_7 x0_10 x0_19 x0_20 x0_21 (-1) 0 x0_27 0) else (g_at v2 30 (f_Mo_renew_28 N x0_1 x0_2 x0_4 x0_5 x0_6 x0_7 x0_10 x0_12 x0_13 x0_14 x0_15 x0_16 x0_17 x0_18 x0_19 x0_20 x0_21 x0_27 p1 p2 n (upd vak0_1 v2.toNatClampNeg (vp_nar .boolean 0)) (v2 + 1))))
def f_Mo_renew (N : Nat) (x0_0 : (Nat → Int32)) (x0_1 : (Nat → Int32)) (x0_2 : (Nat → Int32)) (x0_4 : (Nat → Int32)) (x0_5 : (Nat → Int32)) (x0_6 : (Nat → Int32)) (x0_7 : (Nat → Int32)) (x0_10 : (Nat → Int32)) (x0_12 : (Nat → Int32)) (x0_13 : (Nat → Int32)) (x0_14 : (Nat → Int32)) (x0_15 : (Nat → Int32)) (x0_16 : (Nat → Int32)) (x0_17 : (Nat → Int32)) (x0_18 : (Nat → Int32)) (x0_19 : Int32) (x0_20 : Int32) (x0_21 : Int32) (x0_27 : Int64) : Option (Int32 × (Nat → Int32) × (Nat → Int32) × (Nat → Int32) × (Nat → Int32) × (Nat → Int32) × (Nat → Int32) × Int32 × Int32 × (Nat → Int32) × (Nat → Int32) × (Nat → Int32) × (Nat → Int32) × (Nat → Int32) × (Nat → Int32) × (Nat → Int32) × (Nat → Int32) × Int32 × Int32 × Int32 × Int64) := ((f_Mo_size N x0_0).bind fun p1 => ((f_Mo_size N x0_1).bind fun p2 => (f_Mo_renew_28 N x0_1 x0_2 x0_4 x0_5 x0_6 x0_7 x0_10 x0_12 x0_13 x0_14 x0_15 x0_16 x0_17 x0_18 x0_19 x0_20 x0_21 x0_27 p1 p2 N x0_0 0)))
def f_Mo_ask (N : Nat) (x0_11 : (Nat → Int32)) (a1 : Int32) (a2 : Int32) (a3 : Int32) (a4 : Int32) : Option (Int32 × (Nat → Int32)) := ((f_Mo_in N a1 0 99).bind fun p1 => (if p1 = 0 then (some (0, x0_11)) else ((f_Mo_in N a2 0 99).bind fun p3 => (if p3 = 0 then (some (0, x0_11)) else ((f_Mo_in N a3 0 99).bind fun p5 => (if p5 = 0 then (some (0, x0_11)) else ((f_Mo_in N a4 0 99).bind fun p7 => (if p7 = 0 then (some (0, x0_11)) else (g_at 0 4 (g_at 1 4 (g_at 2 4 (g_at 3 4 (some (1, upd (upd (upd (upd x0_11 (0 : Int32).toNatClampNeg a1) (1 : Int32).toNatClampNeg a2) (2 : Int32).toNatClampNeg a3) (3 : Int32).toNatClampNeg a4))))))))))))))
def f_Mo_aimAsked_2 (N : Nat) (x0_11 : (Nat → Int32)) : Nat → (Nat → Int32) → Int32 → Option ((Nat → Int32))
  | 0, _, _ => none
  | n + 1, vak0_9, v1 => (if 4 ≤ v1 then (some vak0_9) else (g_at v1 4 (g_at v1 4 (f_Mo_aimAsked_2 N x0_11 n (upd vak0_9 v1.toNatClampNeg (x0_11 v1.toNatClampNeg)) (v1 + 1)))))
def f_Mo_aimAsked (N : Nat) (x0_10 : (Nat → Int32)) (x0_11 : (Nat → Int32)) : Option ((Nat → Int32)) := (f_Mo_aimAsked_2 N x0_11 N x0_10 0)
def f_Mo_search_96 (N : Nat) (x0_1 : (Nat → Int32)) (p1 : (Nat → Int32)) (vfk0_0_26 : Int64) (p10 : Int32 × (Nat → Int32) × (Nat → Int32) × (Nat → Int32) × (Nat → Int32) × Int32) : Nat → (Nat → Int32) → Int32 → Int32 → Option ((Nat → Int32) × (Nat → Int32) × (Nat → Int32) × (Nat → Int32) × (Nat → Int32) × Int32 × Int64)
  | 0, _, _, _ => none
  | n + 1, vak0_15, vfk0_0_19, v3 => (if p10.2.2.2.2.2 ≤ v3 then (some (p1, p10.2.1, p10.2.2.1, p10.2.2.2.1, vak0_15, vfk0_0_19, vfk0_0_26 + p10.1.toInt64)) else (g_at v3 30 (g_at (vak0_15 v3.toNatClampNeg) 30 (if (x0_1 (vak0_15 v3.toNatClampNeg).toNatClampNeg) = 0 then (f_Mo_search_96 N x0_1 p1 vfk0_0_26 p10 n vak0_15 vfk0_0_19 (v3 + 1)) else (g_at v3 30 (g_at vfk0_0_19 30 (f_Mo_search_96 N x0_1 p1 vfk0_0_26 p10 n (upd vak0_15 vfk0_0_19.toNatClampNeg (vak0_15 v3.toNatClampNeg)) (vfk0_0_19 + 1) (v3 + 1))))))))
def f_Mo_search_42 (N : Nat) (x0_1 : (Nat → Int32)) (x0_2 : (Nat → Int32)) (x0_6 : (Nat → Int32)) (x0_7 : (Nat → Int32)) (a1 : Int32) (p1 : (Nat → Int32)) : Nat → (Nat → Int32) → (Nat → Int32) → (Nat → Int32) → (Nat → Int32) → Int32 → Int64 → Int32 → Option ((Nat → Int32) × (Nat → Int32) × (Nat → Int32) × (Nat → Int32) × (Nat → Int32) × Int32 × Int64)
  | 0, _, _, _, _, _, _, _ => none
  | n + 1, vak0_11, vak0_12, vak0_13, vak0_15, vfk0_0_19, vfk0_0_26, v2 => (if v2 ≤ 0 then ((f_Mo_walk N x0_2 x0_6 x0_7 p1 vak0_11 vak0_12 vak0_13 vak0_15 vfk0_0_19 0 a1).bind fun p10 => (f_Mo_search_96 N x0_1 p1 vfk0_0_26 p10 N p10.2.2.2.2.1 0 0)) else ((f_Mo_walk N x0_2 x0_6 x0_7 p1 vak0_11 vak0_12 vak0_13 vak0_15 vfk0_0_19 v2 1).bind fun p14 => (f_Mo_search_42 N x0_1 x0_2 x0_6 x0_7 a1 p1 n p14.2.1 p14.2.2.1 p14.2.2.2.1 p14.2.2.2.2.1 p14.2.2.2.2.2 (vfk0_0_26 + p14.1.toInt64) (v2 + (-1)))))
def f_Mo_search (N : Nat) (x0_1 : (Nat → Int32)) (x0_2 : (Nat → Int32)) (x0_4 : (Nat → Int32)) (x0_6 : (Nat → Int32)) (x0_7 : (Nat → Int32)) (x0_8 : Int32) (x0_10 : (Nat → Int32)) (x0_11 : (Nat → Int32)) (x0_12 : (Nat → Int32)) (x0_13 : (Nat → Int32)) (x0_14 : (Nat → Int32)) (x0_16 : (Nat → Int32)) (x0_26 : Int64) (a1 : Int32) : Option ((Nat → Int32) × (Nat → Int32) × (Nat → Int32) × (Nat → Int32) × (Nat → Int32) × Int32 × Int64) := ((f_Mo_aimAsked N x0_10 x0_11).bind fun p1 => (if 0 ≤ x0_8 then (g_at 0 30 (g_at x0_8 30 (f_Mo_search_42 N x0_1 x0_2 x0_6 x0_7 a1 p1 N x0_12 x0_13 x0_14 (upd x0_16 (0 : Int32).toNatClampNeg x0_8) 1 x0_26 (x0_4 x0_8.toNatClampNeg)))) else (some (p1, x0_12, x0_13, x0_14, x0_16, 0, x0_26))))
def f_Mo_near_58 (N : Nat) (x0_2 : (Nat → Int32)) : Nat → (Nat → Int32) → (Nat → Int32) → (Nat → Int32) → (Nat → Int32) → (Nat → Int32) → (Nat → Int32) → (Nat → Int32) → Int32 → Int32 → Int64 → Int32 → Option (Int32 × (Nat → Int32) × (Nat → Int32) × (Nat → Int32) × (Nat → Int32) × (Nat → Int32) × Int32 × (Nat → Int32) × (Nat → Int32) × Int32 × Int64)
  | 0, _, _, _, _, _, _, _, _, _, _, _ => none
  | n + 1, vak0_11, vak0_12, vak0_13, vak0_15, vak0_18, vak0_19, vak0_9, vfk0_0_19, vfk0_0_25, vfk0_0_26, v3 => (if vfk0_0_25 ≤ v3 then (some (vfk0_0_25, vak0_9, vak0_11, vak0_12, vak0_13, vak0_15, vfk0_0_19, vak0_18, vak0_19, vfk0_0_25, vfk0_0_26)) else (g_at v3 30 (g_at v3 30 (g_at v3 30 ((f_Mo_far N x0_2 vak0_9 (vak0_15 v3.toNatClampNeg)).bind fun p21 => (g_at v3 30 (f_Mo_near_58 N x0_2 n vak0_11 vak0_12 vak0_13 vak0_15 (upd vak0_18 v3.toNatClampNeg (vak0_15 v3.toNatClampNeg)) (upd vak0_19 v3.toNatClampNeg p21) vak0_9 vfk0_0_19 vfk0_0_25 vfk0_0_26 (v3 + 1))))))))
def f_Mo_near (N : Nat) (x0_1 : (Nat → Int32)) (x0_2 : (Nat → Int32)) (x0_4 : (Nat → Int32)) (x0_6 : (Nat → Int32)) (x0_7 : (Nat → Int32)) (x0_8 : Int32) (x0_10 : (Nat → Int32)) (x0_11 : (Nat → Int32)) (x0_12 : (Nat → Int32)) (x0_13 : (Nat → Int32)) (x0_14 : (Nat → Int32)) (x0_16 : (Nat → Int32)) (x0_19 : Int32) (x0_22 : (Nat → Int32)) (x0_23 : (Nat → Int32)) (x0_25 : Int32) (x0_26 : Int64) (a1 : Int32) (a2 : Int32) : Option (Int32 × (Nat → Int32) × (Nat → Int32) × (Nat → Int32) × (Nat → Int32) × (Nat → Int32) × Int32 × (Nat → Int32) × (Nat → Int32) × Int32 × Int64) := ((f_Mo_in N a1 1 10).bind fun p1 => (if p1 = 0 then (some ((-1), x0_10, x0_12, x0_13, x0_14, x0_16, x0_19, x0_22, x0_23, x0_25, x0_26)) else ((f_Mo_in N a2 1 10).bind fun p3 => (if p3 = 0 then (some ((-1), x0_10, x0_12, x0_13, x0_14, x0_16, x0_19, x0_22, x0_23, x0_25, x0_26)) else (if a1 ≤ a2 then ((f_Mo_search N x0_1 x0_2 x0_4 x0_6 x0_7 x0_8 x0_10 x0_11 x0_12 x0_13 x0_14 x0_16 x0_26 a2).bind fun p6 => (if a1 ≤ p6.2.2.2.2.2.1 then (f_Mo_near_58 N x0_2 N p6.2.1 p6.2.2.1 p6.2.2.2.1 p6.2.2.2.2.1 x0_22 x0_23 p6.1 p6.2.2.2.2.2.1 a1 p6.2.2.2.2.2.2 0) else (f_Mo_near_58 N x0_2 N p6.2.1 p6.2.2.1 p6.2.2.2.1 p6.2.2.2.2.1 x0_22 x0_23 p6.1 p6.2.2.2.2.2.1 p6.2.2.2.2.2.1 p6.2.2.2.2.2.2 0))) else ((f_Mo_search N x0_1 x0_2 x0_4 x0_6 x0_7 x0_8 x0_10 x0_11 x0_12 x0_13 x0_14 x0_16 x0_26 a1).bind fun p11 => (if a1 ≤ p11.2.2.2.2.2.1 then (f_Mo_near_58 N x0_2 N p11.2.1 p11.2.2.1 p11.2.2.2.1 p11.2.2.2.2.1 x0_22 x0_23 p11.1 p11.2.2.2.2.2.1 a1 p11.2.2.2.2.2.2 0) else (f_Mo_near_58 N x0_2 N p11.2.1 p11.2.2.1 p11.2.2.2.1 p11.2.2.2.2.1 x0_22 x0_23 p11.1 p11.2.2.2.2.2.1 p11.2.2.2.2.2.1 p11.2.2.2.2.2.2 0))))))))
def f_Mo_exact_56 (N : Nat) (x0_2 : (Nat → Int32)) (a1 : Int32) (p3 : (Nat → Int32)) : Nat → (Nat → Int32) → (Nat → Int32) → (Nat → Int32) → Int32 → Int32 → Option (Int32 × (Nat → Int32) × (Nat → Int32) × (Nat → Int32) × (Nat → Int32) × Int32)
  | 0, _, _, _, _, _ => none
  | n + 1, vak0_12, vak0_18, vak0_19, vfk0_0_25, v2 => (if v2 < 0 then (some (vfk0_0_25, p3, vak0_12, vak0_18, vak0_19, vfk0_0_25)) else (if a1 ≤ vfk0_0_25 then (some (vfk0_0_25, p3, vak0_12, vak0_18, vak0_19, vfk0_0_25)) else (g_at v2 30 (g_at vfk0_0_25 30 ((f_Mo_far N x0_2 p3 v2).bind fun p17 => (g_at vfk0_0_25 30 ((f_Mo_nearest_held N x0_2 p3 (upd vak0_12 v2.toNatClampNeg (vp_nar .boolean 0))).bind fun p21 => (f_Mo_exact_56 N x0_2 a1 p3 n (upd vak0_12 v2.toNatClampNeg (vp_nar .boolean 0)) (upd vak0_18 vfk0_0_25.toNatClampNeg v2) (upd vak0_19 vfk0_0_25.toNatClampNeg p17) (vfk0_0_25 + 1) p21))))))))
def f_Mo_exact_18 (N : Nat) (x0_1 : (Nat → Int32)) (x0_2 : (Nat → Int32)) (x0_22 : (Nat → Int32)) (x0_23 : (Nat → Int32)) (a1 : Int32) (p3 : (Nat → Int32)) : Nat → (Nat → Int32) → Int32 → Option (Int32 × (Nat → Int32) × (Nat → Int32) × (Nat → Int32) × (Nat → Int32) × Int32)
  | 0, _, _ => none
  | n + 1, vak0_12, v2 => (if 30 ≤ v2 then ((f_Mo_nearest_held N x0_2 p3 vak0_12).bind fun p7 => (f_Mo_exact_56 N x0_2 a1 p3 N vak0_12 x0_22 x0_23 0 p7)) else (g_at v2 30 (g_at v2 30 (f_Mo_exact_18 N x0_1 x0_2 x0_22 x0_23 a1 p3 n (upd vak0_12 v2.toNatClampNeg (vp_nar .boolean (x0_1 v2.toNatClampNeg))) (v2 + 1)))))
def f_Mo_exact (N : Nat) (x0_1 : (Nat → Int32)) (x0_2 : (Nat → Int32)) (x0_10 : (Nat → Int32)) (x0_11 : (Nat → Int32)) (x0_13 : (Nat → Int32)) (x0_22 : (Nat → Int32)) (x0_23 : (Nat → Int32)) (x0_25 : Int32) (a1 : Int32) : Option (Int32 × (Nat → Int32) × (Nat → Int32) × (Nat → Int32) × (Nat → Int32) × Int32) := ((f_Mo_in N a1 1 10).bind fun p1 => (if p1 = 0 then (some ((-1), x0_10, x0_13, x0_22, x0_23, x0_25)) else ((f_Mo_aimAsked N x0_10 x0_11).bind fun p3 => (f_Mo_exact_18 N x0_1 x0_2 x0_22 x0_23 a1 p3 N x0_13 0))))
def f_Mo_countOf (N : Nat) (x0_3 : (Nat → Int32)) (a1 : Int32) (a2 : Int32) : Option (Int32) := (g_at a1 30 (some (((x0_3 a1.toNatClampNeg) >>> ((3 * a2) &&& 31)) &&& 7)))
def f_Mo_scoreOf_53 (N : Nat) (x0_1 : (Nat → Int32)) (x0_3 : (Nat → Int32)) (v5 : Int32) (kk : Int32 → Int32 → Option (Int32)) : Nat → Int32 → Int32 → Option (Int32)
  | 0, _, _ => none
  | n + 1, v7, v8 => (if 30 ≤ v8 then (kk v7 v8) else (g_at v8 30 (if (x0_1 v8.toNatClampNeg) = 0 then (f_Mo_scoreOf_53 N x0_1 x0_3 v5 kk n v7 (v8 + 1)) else ((f_Mo_countOf N x0_3 v8 v5).bind fun p13 => (if p13 ≤ 0 then (f_Mo_scoreOf_53 N x0_1 x0_3 v5 kk n v7 (v8 + 1)) else (f_Mo_scoreOf_53 N x0_1 x0_3 v5 kk n (v7 + 1) (v8 + 1)))))))
def f_Mo_scoreOf_14 (N : Nat) (x0_1 : (Nat → Int32)) (x0_3 : (Nat → Int32)) (a1 : Int32) (a2 : Int32) (p1 : Int32) : Nat → Int32 → Int32 → Option (Int32)
  | 0, _, _ => none
  | n + 1, v3, v5 => (if 8 ≤ v5 then (some v3) else ((f_Mo_countOf N x0_3 a1 v5).bind fun p3 => (if ((a2 >>> (v5 &&& 31)) &&& 1) = 0 then (f_Mo_scoreOf_14 N x0_1 x0_3 a1 a2 p1 n v3 (v5 + 1)) else (if p3 = 0 then (f_Mo_scoreOf_14 N x0_1 x0_3 a1 a2 p1 n v3 (v5 + 1)) else (f_Mo_scoreOf_53 N x0_1 x0_3 v5 (fun v7_6 v8_6 => (g_dv (p3 + 1) (g_dv v7_6 (f_Mo_scoreOf_14 N x0_1 x0_3 a1 a2 p1 n (v3 + (((100 * p3) / (p3 + 1)) * (1 + (p1 / v7_6)))) (v5 + 1))))) N 0 0)))))
def f_Mo_scoreOf (N : Nat) (x0_1 : (Nat → Int32)) (x0_3 : (Nat → Int32)) (a1 : Int32) (a2 : Int32) : Option (Int32) := ((f_Mo_size N x0_1).bind fun p1 => (f_Mo_scoreOf_14 N x0_1 x0_3 a1 a2 p1 N 0 0))
def f_Mo_score_2 (N : Nat) (x0_1 : (Nat → Int32)) (x0_3 : (Nat → Int32)) (a1 : Int32) : Nat → (Nat → Int32) → Int32 → Option ((Nat → Int32))
  | 0, _, _ => none
  | n + 1, vak0_20, v2 => (if 30 ≤ v2 then (some vak0_20) else (g_at v2 30 (if (x0_1 v2.toNatClampNeg) = 0 then (g_at v2 30 (f_Mo_score_2 N x0_1 x0_3 a1 n (upd vak0_20 v2.toNatClampNeg 0) (v2 + 1))) else ((f_Mo_scoreOf N x0_1 x0_3 v2 a1).bind fun p6 => (g_at v2 30 (f_Mo_score_2 N x0_1 x0_3 a1 n (upd vak0_20 v2.toNatClampNeg p6) (v2 + 1)))))))
def f_Mo_score (N : Nat) (x0_1 : (Nat → Int32)) (x0_3 : (Nat → Int32)) (x0_24 : (Nat → Int32)) (a1 : Int32) : Option ((Nat → Int32)) := (f_Mo_score_2 N x0_1 x0_3 a1 N x0_24 0)
def f_Mo_placeOf_4 (N : Nat) (x0_24 : (Nat → Int32)) (a1 : Int32) : Nat → Int32 → Int32 → Option (Int32)
  | 0, _, _ => none
  | n + 1, v2, v3 => (if 30 ≤ v3 then (some v2) else (g_at v3 30 (g_at a1 30 (if (x0_24 a1.toNatClampNeg) < (x0_24 v3.toNatClampNeg) then (f_Mo_placeOf_4 N x0_24 a1 n (v2 + 1) (v3 + 1)) else (g_at v3 30 (g_at a1 30 (if (x0_24 v3.toNatClampNeg) = (x0_24 a1.toNatClampNeg) then (if a1 ≤ v3 then (f_Mo_placeOf_4 N x0_24 a1 n v2 (v3 + 1)) else (f_Mo_placeOf_4 N x0_24 a1 n (v2 + 1) (v3 + 1))) else (f_Mo_placeOf_4 N x0_24 a1 n v2 (v3 + 1)))))))))
def f_Mo_placeOf (N : Nat) (x0_24 : (Nat → Int32)) (a1 : Int32) : Option (Int32) := (f_Mo_placeOf_4 N x0_24 a1 N 0 0)
def f_Mo_best_7 (N : Nat) (x0_24 : (Nat → Int32)) (a1 : Int32) : Nat → (Nat → Int32) → (Nat → Int32) → Int32 → Int32 → Option (Int32 × (Nat → Int32) × (Nat → Int32) × Int32)
  | 0, _, _, _, _ => none
  | n + 1, vak0_18, vak0_19, vfk0_0_25, v2 => (if 30 ≤ v2 then (some (vfk0_0_25, vak0_18, vak0_19, vfk0_0_25)) else ((f_Mo_placeOf N x0_24 v2).bind fun p3 => (g_at v2 30 (if (x0_24 v2.toNatClampNeg) = 0 then (f_Mo_best_7 N x0_24 a1 n vak0_18 vak0_19 vfk0_0_25 (v2 + 1)) else (if p3 < a1 then (g_at p3 30 (g_at v2 30 (g_at p3 30 (f_Mo_best_7 N x0_24 a1 n (upd vak0_18 p3.toNatClampNeg v2) (upd vak0_19 p3.toNatClampNeg (x0_24 v2.toNatClampNeg)) (vfk0_0_25 + 1) (v2 + 1))))) else (f_Mo_best_7 N x0_24 a1 n vak0_18 vak0_19 vfk0_0_25 (v2 + 1)))))))
def f_Mo_best (N : Nat) (x0_22 : (Nat → Int32)) (x0_23 : (Nat → Int32)) (x0_24 : (Nat → Int32)) (a1 : Int32) : Option (Int32 × (Nat → Int32) × (Nat → Int32) × Int32) := (f_Mo_best_7 N x0_24 a1 N x0_22 x0_23 0 0)
def f_Mo_match (N : Nat) (x0_1 : (Nat → Int32)) (x0_3 : (Nat → Int32)) (x0_22 : (Nat → Int32)) (x0_23 : (Nat → Int32)) (x0_24 : (Nat → Int32)) (x0_25 : Int32) (a1 : Int32) (a2 : Int32) : Option (Int32 × (Nat → Int32) × (Nat → Int32) × (Nat → Int32) × Int32) := ((f_Mo_in N a1 1 10).bind fun p1 => (if p1 = 0 then (some ((-1), x0_22, x0_23, x0_24, x0_25)) else ((f_Mo_in N a2 0 255).bind fun p3 => (if p3 = 0 then (some ((-1), x0_22, x0_23, x0_24, x0_25)) else ((f_Mo_score N x0_1 x0_3 x0_24 a2).bind fun p5 => ((f_Mo_best N x0_22 x0_23 p5 a1).bind fun p7 => (some (p7.1, p7.2.1, p7.2.2.1, p5, p7.2.2.2))))))))
def f_Mo_fuse_118 (N : Nat) (x0_22 : (Nat → Int32)) (x0_23 : (Nat → Int32)) (a1 : Int32) (vak0_17 : (Nat → Int32)) (p8 : (Nat → Int32) × (Nat → Int32) × (Nat → Int32) × (Nat → Int32) × (Nat → Int32) × Int32 × Int64) : Nat → (Nat → Int32) → Int32 → Option (Int32 × (Nat → Int32) × (Nat → Int32) × (Nat → Int32) × (Nat → Int32) × (Nat → Int32) × (Nat → Int32) × Int32 × (Nat → Int32) × (Nat → Int32) × (Nat → Int32) × Int32 × Int64)
  | 0, _, _ => none
  | n + 1, vak0_20, v3 => (if p8.2.2.2.2.2.1 ≤ v3 then ((f_Mo_best N x0_22 x0_23 vak0_20 a1).bind fun p26 => (some (p26.1, p8.1, p8.2.1, p8.2.2.1, p8.2.2.2.1, p8.2.2.2.2.1, vak0_17, p8.2.2.2.2.2.1, p26.2.1, p26.2.2.1, vak0_20, p26.2.2.2, p8.2.2.2.2.2.2))) else (if 10 ≤ v3 then ((f_Mo_best N x0_22 x0_23 vak0_20 a1).bind fun p29 => (some (p29.1, p8.1, p8.2.1, p8.2.2.1, p8.2.2.2.1, p8.2.2.2.2.1, vak0_17, p8.2.2.2.2.2.1, p29.2.1, p29.2.2.1, vak0_20, p29.2.2.2, p8.2.2.2.2.2.2))) else (g_at v3 30 (g_at (p8.2.2.2.2.1 v3.toNatClampNeg) 30 (g_dv (10 + v3) (g_at (p8.2.2.2.2.1 v3.toNatClampNeg) 30 (f_Mo_fuse_118 N x0_22 x0_23 a1 vak0_17 p8 n (upd vak0_20 (p8.2.2.2.2.1 v3.toNatClampNeg).toNatClampNeg ((vak0_20 (p8.2.2.2.2.1 v3.toNatClampNeg).toNatClampNeg) + (1000 / (10 + v3)))) (v3 + 1))))))))
def f_Mo_fuse_92 (N : Nat) (x0_22 : (Nat → Int32)) (x0_23 : (Nat → Int32)) (a1 : Int32) (vak0_17 : (Nat → Int32)) (p8 : (Nat → Int32) × (Nat → Int32) × (Nat → Int32) × (Nat → Int32) × (Nat → Int32) × Int32 × Int64) : Nat → (Nat → Int32) → Int32 → Option (Int32 × (Nat → Int32) × (Nat → Int32) × (Nat → Int32) × (Nat → Int32) × (Nat → Int32) × (Nat → Int32) × Int32 × (Nat → Int32) × (Nat → Int32) × (Nat → Int32) × Int32 × Int64)
  | 0, _, _ => none
  | n + 1, vak0_20, v3 => (if 30 ≤ v3 then (f_Mo_fuse_118 N x0_22 x0_23 a1 vak0_17 p8 N vak0_20 0) else (g_at v3 30 (g_at v3 30 (f_Mo_fuse_92 N x0_22 x0_23 a1 vak0_17 p8 n (upd vak0_20 v3.toNatClampNeg (vak0_17 v3.toNatClampNeg)) (v3 + 1)))))
def f_Mo_fuse_30 (N : Nat) (x0_1 : (Nat → Int32)) (x0_2 : (Nat → Int32)) (x0_4 : (Nat → Int32)) (x0_6 : (Nat → Int32)) (x0_7 : (Nat → Int32)) (x0_8 : Int32) (x0_10 : (Nat → Int32)) (x0_11 : (Nat → Int32)) (x0_12 : (Nat → Int32)) (x0_13 : (Nat → Int32)) (x0_14 : (Nat → Int32)) (x0_16 : (Nat → Int32)) (x0_22 : (Nat → Int32)) (x0_23 : (Nat → Int32)) (x0_26 : Int64) (a1 : Int32) (p5 : (Nat → Int32)) : Nat → (Nat → Int32) → Int32 → Option (Int32 × (Nat → Int32) × (Nat → Int32) × (Nat → Int32) × (Nat → Int32) × (Nat → Int32) × (Nat → Int32) × Int32 × (Nat → Int32) × (Nat → Int32) × (Nat → Int32) × Int32 × Int64)
  | 0, _, _ => none
  | n + 1, vak0_17, v3 => (if 30 ≤ v3 then ((f_Mo_search N x0_1 x0_2 x0_4 x0_6 x0_7 x0_8 x0_10 x0_11 x0_12 x0_13 x0_14 x0_16 x0_26 10).bind fun p8 => (f_Mo_fuse_92 N x0_22 x0_23 a1 vak0_17 p8 N p5 0)) else ((f_Mo_placeOf N p5 v3).bind fun p10 => (g_at v3 30 (if (p5 v3.toNatClampNeg) ≤ 0 then (g_at v3 30 (f_Mo_fuse_30 N x0_1 x0_2 x0_4 x0_6 x0_7 x0_8 x0_10 x0_11 x0_12 x0_13 x0_14 x0_16 x0_22 x0_23 x0_26 a1 p5 n (upd vak0_17 v3.toNatClampNeg 0) (v3 + 1))) else (if 10 ≤ p10 then (g_at v3 30 (f_Mo_fuse_30 N x0_1 x0_2 x0_4 x0_6 x0_7 x0_8 x0_10 x0_11 x0_12 x0_13 x0_14 x0_16 x0_22 x0_23 x0_26 a1 p5 n (upd vak0_17 v3.toNatClampNeg 0) (v3 + 1))) else (g_dv (10 + p10) (g_at v3 30 (f_Mo_fuse_30 N x0_1 x0_2 x0_4 x0_6 x0_7 x0_8 x0_10 x0_11 x0_12 x0_13 x0_14 x0_16 x0_22 x0_23 x0_26 a1 p5 n (upd vak0_17 v3.toNatClampNeg (1000 / (10 + p10))) (v3 + 1)))))))))
def f_Mo_fuse (N : Nat) (x0_1 : (Nat → Int32)) (x0_2 : (Nat → Int32)) (x0_3 : (Nat → Int32)) (x0_4 : (Nat → Int32)) (x0_6 : (Nat → Int32)) (x0_7 : (Nat → Int32)) (x0_8 : Int32) (x0_10 : (Nat → Int32)) (x0_11 : (Nat → Int32)) (x0_12 : (Nat → Int32)) (x0_13 : (Nat → Int32)) (x0_14 : (Nat → Int32)) (x0_16 : (Nat → Int32)) (x0_18 : (Nat → Int32)) (x0_19 : Int32) (x0_22 : (Nat → Int32)) (x0_23 : (Nat → Int32)) (x0_24 : (Nat → Int32)) (x0_25 : Int32) (x0_26 : Int64) (a1 : Int32) (a2 : Int32) : Option (Int32 × (Nat → Int32) × (Nat → Int32) × (Nat → Int32) × (Nat → Int32) × (Nat → Int32) × (Nat → Int32) × Int32 × (Nat → Int32) × (Nat → Int32) × (Nat → Int32) × Int32 × Int64) := ((f_Mo_in N a1 1 10).bind fun p1 => (if p1 = 0 then (some ((-1), x0_10, x0_12, x0_13, x0_14, x0_16, x0_18, x0_19, x0_22, x0_23, x0_24, x0_25, x0_26)) else ((f_Mo_in N a2 0 255).bind fun p3 => (if p3 = 0 then (some ((-1), x0_10, x0_12, x0_13, x0_14, x0_16, x0_18, x0_19, x0_22, x0_23, x0_24, x0_25, x0_26)) else ((f_Mo_score N x0_1 x0_3 x0_24 a2).bind fun p5 => (f_Mo_fuse_30 N x0_1 x0_2 x0_4 x0_6 x0_7 x0_8 x0_10 x0_11 x0_12 x0_13 x0_14 x0_16 x0_22 x0_23 x0_26 a1 p5 N x0_18 0))))))
def f_Mo_found (N : Nat) (x0_1 : (Nat → Int32)) (x0_22 : (Nat → Int32)) (x0_23 : (Nat → Int32)) (x0_25 : Int32) (a1 : Int32) (a2 : Int32) : Option (Int32) := ((f_Mo_in N a2 0 2).bind fun p1 => (if p1 = 0 then (some (-1)) else ((f_Mo_in N a1 0 (x0_25 - 1)).bind fun p3 => (if p3 = 0 then (some (-2)) else (if a2 = 0 then (g_at a1 30 (some (x0_22 a1.toNatClampNeg))) else (if a2 = 1 then (g_at a1 30 (some (x0_23 a1.toNatClampNeg))) else (g_at a1 30 (g_at (x0_22 a1.toNatClampNeg) 30 (if (x0_1 (x0_22 a1.toNatClampNeg).toNatClampNeg) = 0 then (some 0) else (some 1))))))))))
def f_Mo_node (N : Nat) (x0_0 : (Nat → Int32)) (x0_1 : (Nat → Int32)) (x0_2 : (Nat → Int32)) (x0_3 : (Nat → Int32)) (x0_4 : (Nat → Int32)) (x0_5 : (Nat → Int32)) (x0_7 : (Nat → Int32)) (a1 : Int32) (a2 : Int32) : Option (Int32) := ((f_Mo_in N a2 0 7).bind fun p1 => (if p1 = 0 then ((f_Mo_in N a2 10 13).bind fun p21 => (if p21 = 0 then (some (-1)) else ((f_Mo_in N a1 0 29).bind fun p23 => (if p23 = 0 then (some (-2)) else (g_at a1 30 (if (x0_0 a1.toNatClampNeg) = 0 then (some (-2)) else (if a2 < 10 then (if a2 = 0 then (g_at a1 30 (some (x0_4 a1.toNatClampNeg))) else (if a2 = 1 then (g_at a1 30 (some (x0_5 a1.toNatClampNeg))) else (if a2 = 2 then (g_at a1 30 (if (x0_1 a1.toNatClampNeg) = 0 then (some 0) else (some 1))) else (if a2 = 7 then (g_at a1 30 (some (x0_3 a1.toNatClampNeg))) else (g_at (((4 * a1) + a2) - 3) 120 (some (x0_2 (((4 * a1) + a2) - 3).toNatClampNeg))))))) else (g_at a1 30 (if (x0_4 a1.toNatClampNeg) < (a2 - 10) then (some (-2)) else (g_at (((4 * a1) + a2) - 10) 120 (some (x0_7 (((4 * a1) + a2) - 10).toNatClampNeg)))))))))))) else ((f_Mo_in N a1 0 29).bind fun p3 => (if p3 = 0 then (some (-2)) else (g_at a1 30 (if (x0_0 a1.toNatClampNeg) = 0 then (some (-2)) else (if a2 < 10 then (if a2 = 0 then (g_at a1 30 (some (x0_4 a1.toNatClampNeg))) else (if a2 = 1 then (g_at a1 30 (some (x0_5 a1.toNatClampNeg))) else (if a2 = 2 then (g_at a1 30 (if (x0_1 a1.toNatClampNeg) = 0 then (some 0) else (some 1))) else (if a2 = 7 then (g_at a1 30 (some (x0_3 a1.toNatClampNeg))) else (g_at (((4 * a1) + a2) - 3) 120 (some (x0_2 (((4 * a1) + a2) - 3).toNatClampNeg))))))) else (g_at a1 30 (if (x0_4 a1.toNatClampNeg) < (a2 - 10) then (some (-2)) else (g_at (((4 * a1) + a2) - 10) 120 (some (x0_7 (((4 * a1) + a2) - 10).toNatClampNeg))))))))))))
def f_Mo_neighbour (N : Nat) (x0_0 : (Nat → Int32)) (x0_4 : (Nat → Int32)) (x0_6 : (Nat → Int32)) (x0_7 : (Nat → Int32)) (a1 : Int32) (a2 : Int32) (a3 : Int32) : Option (Int32) := ((f_Mo_in N a1 0 29).bind fun p1 => (if p1 = 0 then (some (-2)) else (g_at a1 30 (if (x0_0 a1.toNatClampNeg) = 0 then (some (-2)) else ((f_Mo_in N a2 0 3).bind fun p5 => (if p5 = 0 then (some (-2)) else (g_at a1 30 (if (x0_4 a1.toNatClampNeg) < a2 then (some (-2)) else (g_at ((4 * a1) + a2) 120 ((f_Mo_in N a3 0 ((x0_7 ((4 * a1) + a2).toNatClampNeg) - 1)).bind fun p10 => (if p10 = 0 then (some (-2)) else (g_at ((7 * ((4 * a1) + a2)) + a3) 840 (some (x0_6 ((7 * ((4 * a1) + a2)) + a3).toNatClampNeg))))))))))))))
def f_Mo_right_21 (N : Nat) (x0_1 : (Nat → Int32)) (x0_2 : (Nat → Int32)) (x0_22 : (Nat → Int32)) (p1 : (Nat → Int32)) (v2 : Int32) (kk : Int32 → Int32 → Option (Int32 × (Nat → Int32))) : Nat → Int32 → Int32 → Option (Int32 × (Nat → Int32))
  | 0, _, _ => none
  | n + 1, v3, v4 => (if 30 ≤ v4 then (kk v3 v4) else (g_at v4 30 (if (x0_1 v4.toNatClampNeg) = 0 then (f_Mo_right_21 N x0_1 x0_2 x0_22 p1 v2 kk n v3 (v4 + 1)) else (g_at v2 30 ((f_Mo_isNearer N x0_2 p1 v4 (x0_22 v2.toNatClampNeg)).bind fun p14 => (if p14 = 0 then (f_Mo_right_21 N x0_1 x0_2 x0_22 p1 v2 kk n v3 (v4 + 1)) else (f_Mo_right_21 N x0_1 x0_2 x0_22 p1 v2 kk n (v3 + 1) (v4 + 1))))))))
def f_Mo_right_8 (N : Nat) (x0_1 : (Nat → Int32)) (x0_2 : (Nat → Int32)) (x0_22 : (Nat → Int32)) (x0_25 : Int32) (p1 : (Nat → Int32)) : Nat → Int32 → Int32 → Option (Int32 × (Nat → Int32))
  | 0, _, _ => none
  | n + 1, v1, v2 => (if x0_25 ≤ v2 then (some (v1, p1)) else (f_Mo_right_21 N x0_1 x0_2 x0_22 p1 v2 (fun v3_4 v4_4 => (g_at v2 30 (g_at (x0_22 v2.toNatClampNeg) 30 (if (x0_1 (x0_22 v2.toNatClampNeg).toNatClampNeg) = 0 then (f_Mo_right_8 N x0_1 x0_2 x0_22 x0_25 p1 n v1 (v2 + 1)) else (if x0_25 ≤ v3_4 then (f_Mo_right_8 N x0_1 x0_2 x0_22 x0_25 p1 n v1 (v2 + 1)) else (f_Mo_right_8 N x0_1 x0_2 x0_22 x0_25 p1 n (v1 + 1) (v2 + 1))))))) N 0 0))
def f_Mo_right (N : Nat) (x0_1 : (Nat → Int32)) (x0_2 : (Nat → Int32)) (x0_10 : (Nat → Int32)) (x0_11 : (Nat → Int32)) (x0_22 : (Nat → Int32)) (x0_25 : Int32) : Option (Int32 × (Nat → Int32)) := ((f_Mo_aimAsked N x0_10 x0_11).bind fun p1 => (f_Mo_right_8 N x0_1 x0_2 x0_22 x0_25 p1 N 0 0))
def f_Mo_isNeighbour_5 (N : Nat) (x0_6 : (Nat → Int32)) (x0_7 : (Nat → Int32)) (a1 : Int32) (a2 : Int32) : Nat → Int32 → Option (Int32)
  | 0, _ => none
  | n + 1, v3 => (g_at (4 * a2) 120 (if ((28 * a2) + (x0_7 (4 * a2).toNatClampNeg)) ≤ v3 then (some 0) else (g_at v3 840 (if (x0_6 v3.toNatClampNeg) = a1 then (some 1) else (f_Mo_isNeighbour_5 N x0_6 x0_7 a1 a2 n (v3 + 1))))))
def f_Mo_isNeighbour (N : Nat) (x0_6 : (Nat → Int32)) (x0_7 : (Nat → Int32)) (a1 : Int32) (a2 : Int32) : Option (Int32) := (f_Mo_isNeighbour_5 N x0_6 x0_7 a1 a2 N (28 * a2))
def f_Mo_oneSided_12 (N : Nat) (x0_0 : (Nat → Int32)) (x0_6 : (Nat → Int32)) (x0_7 : (Nat → Int32)) (v2 : Int32) (kk : Int32 → Int32 → Option (Int32)) : Nat → Int32 → Int32 → Option (Int32)
  | 0, _, _ => none
  | n + 1, v1, v3 => (if 30 ≤ v3 then (kk v1 v3) else (g_at v2 30 (if (x0_0 v2.toNatClampNeg) = 0 then (f_Mo_oneSided_12 N x0_0 x0_6 x0_7 v2 kk n v1 (v3 + 1)) else (g_at v3 30 (if (x0_0 v3.toNatClampNeg) = 0 then (f_Mo_oneSided_12 N x0_0 x0_6 x0_7 v2 kk n v1 (v3 + 1)) else ((f_Mo_isNeighbour N x0_6 x0_7 v3 v2).bind fun p9 => (if p9 = 0 then (f_Mo_oneSided_12 N x0_0 x0_6 x0_7 v2 kk n v1 (v3 + 1)) else ((f_Mo_isNeighbour N x0_6 x0_7 v2 v3).bind fun p11 => (if p11 = 0 then (f_Mo_oneSided_12 N x0_0 x0_6 x0_7 v2 kk n (v1 + 1) (v3 + 1)) else (f_Mo_oneSided_12 N x0_0 x0_6 x0_7 v2 kk n v1 (v3 + 1)))))))))))
def f_Mo_oneSided_4 (N : Nat) (x0_0 : (Nat → Int32)) (x0_6 : (Nat → Int32)) (x0_7 : (Nat → Int32)) : Nat → Int32 → Int32 → Option (Int32)
  | 0, _, _ => none
  | n + 1, v1, v2 => (if 30 ≤ v2 then (some v1) else (f_Mo_oneSided_12 N x0_0 x0_6 x0_7 v2 (fun v1_2 v3_2 => (f_Mo_oneSided_4 N x0_0 x0_6 x0_7 n v1_2 (v2 + 1))) N v1 0))
def f_Mo_oneSided (N : Nat) (x0_0 : (Nat → Int32)) (x0_6 : (Nat → Int32)) (x0_7 : (Nat → Int32)) : Option (Int32) := (f_Mo_oneSided_4 N x0_0 x0_6 x0_7 N 0 0)
def f_Mo_reached_51 (N : Nat) (x0_6 : (Nat → Int32)) (x0_7 : (Nat → Int32)) (v2 : Int32) (kk : (Nat → Int32) → Int32 → Option (Int32 × (Nat → Int32))) : Nat → (Nat → Int32) → Int32 → Option (Int32 × (Nat → Int32))
  | 0, _, _ => none
  | n + 1, vak0_11, v3 => (if 30 ≤ v3 then (kk vak0_11 v3) else (g_at v2 30 (if (vak0_11 v2.toNatClampNeg) = 0 then (f_Mo_reached_51 N x0_6 x0_7 v2 kk n vak0_11 (v3 + 1)) else ((f_Mo_isNeighbour N x0_6 x0_7 v3 v2).bind fun p17 => (if p17 = 0 then (f_Mo_reached_51 N x0_6 x0_7 v2 kk n vak0_11 (v3 + 1)) else (g_at v3 30 (f_Mo_reached_51 N x0_6 x0_7 v2 kk n (upd vak0_11 v3.toNatClampNeg (vp_nar .boolean 1)) (v3 + 1))))))))
def f_Mo_reached_43 (N : Nat) (x0_6 : (Nat → Int32)) (x0_7 : (Nat → Int32)) (kk : (Nat → Int32) → Int32 → Option (Int32 × (Nat → Int32))) : Nat → (Nat → Int32) → Int32 → Option (Int32 × (Nat → Int32))
  | 0, _, _ => none
  | n + 1, vak0_11, v2 => (if 30 ≤ v2 then (kk vak0_11 v2) else (f_Mo_reached_51 N x0_6 x0_7 v2 (fun vak0_11_12 v3_12 => (f_Mo_reached_43 N x0_6 x0_7 kk n vak0_11_12 (v2 + 1))) N vak0_11 0))
def f_Mo_reached_35 (N : Nat) (x0_6 : (Nat → Int32)) (x0_7 : (Nat → Int32)) : Nat → (Nat → Int32) → Int32 → Option (Int32 × (Nat → Int32))
  | 0, _, _ => none
  | n + 1, vak0_11, v1 => (if 30 ≤ v1 then ((f_Mo_size N vak0_11).bind fun p8 => (some (p8, vak0_11))) else (f_Mo_reached_43 N x0_6 x0_7 (fun vak0_11_9 v2_9 => (f_Mo_reached_35 N x0_6 x0_7 n vak0_11_9 (v1 + 1))) N vak0_11 0))
def f_Mo_reached_2 (N : Nat) (x0_6 : (Nat → Int32)) (x0_7 : (Nat → Int32)) (x0_8 : Int32) : Nat → (Nat → Int32) → Int32 → Option (Int32 × (Nat → Int32))
  | 0, _, _ => none
  | n + 1, vak0_11, v1 => (if 30 ≤ v1 then (f_Mo_reached_35 N x0_6 x0_7 N vak0_11 0) else (if v1 = x0_8 then (g_at v1 30 (f_Mo_reached_2 N x0_6 x0_7 x0_8 n (upd vak0_11 v1.toNatClampNeg (vp_nar .boolean 1)) (v1 + 1))) else (g_at v1 30 (f_Mo_reached_2 N x0_6 x0_7 x0_8 n (upd vak0_11 v1.toNatClampNeg (vp_nar .boolean 0)) (v1 + 1)))))
def f_Mo_reached (N : Nat) (x0_6 : (Nat → Int32)) (x0_7 : (Nat → Int32)) (x0_8 : Int32) (x0_12 : (Nat → Int32)) : Option (Int32 × (Nat → Int32)) := (f_Mo_reached_2 N x0_6 x0_7 x0_8 N x0_12 0)
def f_Mo_count (N : Nat) (x0_0 : (Nat → Int32)) (x0_1 : (Nat → Int32)) (x0_2 : (Nat → Int32)) (x0_4 : (Nat → Int32)) (x0_6 : (Nat → Int32)) (x0_7 : (Nat → Int32)) (x0_8 : Int32) (x0_10 : (Nat → Int32)) (x0_11 : (Nat → Int32)) (x0_12 : (Nat → Int32)) (x0_22 : (Nat → Int32)) (x0_25 : Int32) (x0_26 : Int64) (x0_27 : Int64) (a1 : Int32) : Option (Int32 × (Nat → Int32) × (Nat → Int32)) := (if a1 = 0 then ((f_Mo_size N x0_0).bind fun p2 => (some (p2, x0_10, x0_12))) else (if a1 = 1 then ((f_Mo_size N x0_1).bind fun p4 => (some (p4, x0_10, x0_12))) else (if a1 = 2 then (if 0 ≤ x0_8 then (some (x0_8, x0_10, x0_12)) else (some ((-2), x0_10, x0_12))) else (if a1 = 3 then (if 0 ≤ x0_8 then (g_at x0_8 30 (some (x0_4 x0_8.toNatClampNeg, x0_10, x0_12))) else (some ((-2), x0_10, x0_12))) else (if a1 = 4 then (some (x0_26.toInt32, x0_10, x0_12)) else (if a1 = 5 then (some (x0_27.toInt32, x0_10, x0_12)) else (if a1 = 6 then (some (x0_25, x0_10, x0_12)) else (if a1 = 7 then ((f_Mo_right N x0_1 x0_2 x0_10 x0_11 x0_22 x0_25).bind fun p14 => (some (p14.1, p14.2, x0_12))) else (if a1 = 8 then ((f_Mo_oneSided N x0_0 x0_6 x0_7).bind fun p17 => (some (p17, x0_10, x0_12))) else (if a1 = 9 then ((f_Mo_reached N x0_6 x0_7 x0_8 x0_12).bind fun p19 => (some (p19.1, x0_10, p19.2))) else (some ((-1), x0_10, x0_12))))))))))))
end
section
def f_La_law (N L : Nat) (xs : Nat → Int32) : Nat → T_Nd → T_Mo → Int32 → Option Int32
  | 0, _, _, _ => none
  | n + 1, x, y, v3 => (if ((Int32.ofNat L) - 6) < v3 then (some 1) else (g_at v3 L (if ((xs v3.toNatClampNeg) &&& 15) = 0 then (g_at (v3 + 1) L (g_at (v3 + 2) L (g_at (v3 + 3) L (g_at (v3 + 4) L (g_at (v3 + 5) L ((f_Nd_put N x.1 x.2.1 (xs (v3 + 1).toNatClampNeg) (xs (v3 + 2).toNatClampNeg) (xs (v3 + 3).toNatClampNeg) (xs (v3 + 4).toNatClampNeg) (xs (v3 + 5).toNatClampNeg)).bind fun p9 => (g_at (v3 + 1) L (g_at (v3 + 2) L (g_at (v3 + 3) L (g_at (v3 + 4) L (g_at (v3 + 5) L ((f_Mo_put N y.1 y.2.1 y.2.2.1 y.2.2.2.1 y.2.2.2.2.1 y.2.2.2.2.2.1 y.2.2.2.2.2.2.1 y.2.2.2.2.2.2.2.1 y.2.2.2.2.2.2.2.2.1 y.2.2.2.2.2.2.2.2.2.1 y.2.2.2.2.2.2.2.2.2.2.1 y.2.2.2.2.2.2.2.2.2.2.2.2.1 y.2.2.2.2.2.2.2.2.2.2.2.2.2.1 y.2.2.2.2.2.2.2.2.2.2.2.2.2.2.1 y.2.2.2.2.2.2.2.2.2.2.2.2.2.2.2.1 y.2.2.2.2.2.2.2.2.2.2.2.2.2.2.2.2.1 y.2.2.2.2.2.2.2.2.2.2.2.2.2.2.2.2.2.1 y.2.2.2.2.2.2.2.2.2.2.2.2.2.2.2.2.2.2.1 y.2.2.2.2.2.2.2.2.2.2.2.2.2.2.2.2.2.2.2.1 y.2.2.2.2.2.2.2.2.2.2.2.2.2.2.2.2.2.2.2.2.1 y.2.2.2.2.2.2.2.2.2.2.2.2.2.2.2.2.2.2.2.2.2.1 y.2.2.2.2.2.2.2.2.2.2.2.2.2.2.2.2.2.2.2.2.2.2.2.2.2.2.2 (xs (v3 + 1).toNatClampNeg) (xs (v3 + 2).toNatClampNeg) (xs (v3 + 3).toNatClampNeg) (xs (v3 + 4).toNatClampNeg) (xs (v3 + 5).toNatClampNeg)).bind fun p16 => (if p9.1 = p16.1 then (f_La_law N L xs n (p9.2.1, p9.2.2, x.2.2.1, x.2.2.2.1, x.2.2.2.2.1, x.2.2.2.2.2) (p16.2.1, p16.2.2.1, p16.2.2.2.1, p16.2.2.2.2.1, p16.2.2.2.2.2.1, p16.2.2.2.2.2.2.1, p16.2.2.2.2.2.2.2.1, p16.2.2.2.2.2.2.2.2.1, p16.2.2.2.2.2.2.2.2.2.1, p16.2.2.2.2.2.2.2.2.2.2.1, p16.2.2.2.2.2.2.2.2.2.2.2.1, y.2.2.2.2.2.2.2.2.2.2.2.1, p16.2.2.2.2.2.2.2.2.2.2.2.2.1, p16.2.2.2.2.2.2.2.2.2.2.2.2.2.1, p16.2.2.2.2.2.2.2.2.2.2.2.2.2.2.1, p16.2.2.2.2.2.2.2.2.2.2.2.2.2.2.2.1, p16.2.2.2.2.2.2.2.2.2.2.2.2.2.2.2.2.1, p16.2.2.2.2.2.2.2.2.2.2.2.2.2.2.2.2.2.1, p16.2.2.2.2.2.2.2.2.2.2.2.2.2.2.2.2.2.2.1, p16.2.2.2.2.2.2.2.2.2.2.2.2.2.2.2.2.2.2.2.1, p16.2.2.2.2.2.2.2.2.2.2.2.2.2.2.2.2.2.2.2.2.1, p16.2.2.2.2.2.2.2.2.2.2.2.2.2.2.2.2.2.2.2.2.2.1, y.2.2.2.2.2.2.2.2.2.2.2.2.2.2.2.2.2.2.2.2.2.2.1, y.2.2.2.2.2.2.2.2.2.2.2.2.2.2.2.2.2.2.2.2.2.2.2.1, y.2.2.2.2.2.2.2.2.2.2.2.2.2.2.2.2.2.2.2.2.2.2.2.2.1, y.2.2.2.2.2.2.2.2.2.2.2.2.2.2.2.2.2.2.2.2.2.2.2.2.2.1, y.2.2.2.2.2.2.2.2.2.2.2.2.2.2.2.2.2.2.2.2.2.2.2.2.2.2.1, p16.2.2.2.2.2.2.2.2.2.2.2.2.2.2.2.2.2.2.2.2.2.2) (v3 + 6)) else (some 0)))))))))))))) else (if ((xs v3.toNatClampNeg) &&& 15) = 1 then (g_at (v3 + 1) L ((f_Nd_remove N x.1 (xs (v3 + 1).toNatClampNeg)).bind fun p21 => (g_at (v3 + 1) L ((f_Mo_remove N y.2.1 (xs (v3 + 1).toNatClampNeg)).bind fun p24 => (if p21.1 = p24.1 then (f_La_law N L xs n (p21.2, x.2.1, x.2.2.1, x.2.2.2.1, x.2.2.2.2.1, x.2.2.2.2.2) (y.1, p24.2, y.2.2.1, y.2.2.2.1, y.2.2.2.2.1, y.2.2.2.2.2.1, y.2.2.2.2.2.2.1, y.2.2.2.2.2.2.2.1, y.2.2.2.2.2.2.2.2.1, y.2.2.2.2.2.2.2.2.2.1, y.2.2.2.2.2.2.2.2.2.2.1, y.2.2.2.2.2.2.2.2.2.2.2.1, y.2.2.2.2.2.2.2.2.2.2.2.2.1, y.2.2.2.2.2.2.2.2.2.2.2.2.2.1, y.2.2.2.2.2.2.2.2.2.2.2.2.2.2.1, y.2.2.2.2.2.2.2.2.2.2.2.2.2.2.2.1, y.2.2.2.2.2.2.2.2.2.2.2.2.2.2.2.2.1, y.2.2.2.2.2.2.2.2.2.2.2.2.2.2.2.2.2.1, y.2.2.2.2.2.2.2.2.2.2.2.2.2.2.2.2.2.2.1, y.2.2.2.2.2.2.2.2.2.2.2.2.2.2.2.2.2.2.2.1, y.2.2.2.2.2.2.2.2.2.2.2.2.2.2.2.2.2.2.2.2.1, y.2.2.2.2.2.2.2.2.2.2.2.2.2.2.2.2.2.2.2.2.2.1, y.2.2.2.2.2.2.2.2.2.2.2.2.2.2.2.2.2.2.2.2.2.2.1, y.2.2.2.2.2.2.2.2.2.2.2.2.2.2.2.2.2.2.2.2.2.2.2.1, y.2.2.2.2.2.2.2.2.2.2.2.2.2.2.2.2.2.2.2.2.2.2.2.2.1, y.2.2.2.2.2.2.2.2.2.2.2.2.2.2.2.2.2.2.2.2.2.2.2.2.2.1, y.2.2.2.2.2.2.2.2.2.2.2.2.2.2.2.2.2.2.2.2.2.2.2.2.2.2.1, y.2.2.2.2.2.2.2.2.2.2.2.2.2.2.2.2.2.2.2.2.2.2.2.2.2.2.2) (v3 + 6)) else (some 0)))))) else (if ((xs v3.toNatClampNeg) &&& 15) = 2 then ((f_Nd_renew N x.1 x.2.1).bind fun p28 => ((f_Mo_renew N y.1 y.2.1 y.2.2.1 y.2.2.2.2.1 y.2.2.2.2.2.1 y.2.2.2.2.2.2.1 y.2.2.2.2.2.2.2.1 y.2.2.2.2.2.2.2.2.2.2.1 y.2.2.2.2.2.2.2.2.2.2.2.2.1 y.2.2.2.2.2.2.2.2.2.2.2.2.2.1 y.2.2.2.2.2.2.2.2.2.2.2.2.2.2.1 y.2.2.2.2.2.2.2.2.2.2.2.2.2.2.2.1 y.2.2.2.2.2.2.2.2.2.2.2.2.2.2.2.2.1 y.2.2.2.2.2.2.2.2.2.2.2.2.2.2.2.2.2.1 y.2.2.2.2.2.2.2.2.2.2.2.2.2.2.2.2.2.2.1 y.2.2.2.2.2.2.2.2.2.2.2.2.2.2.2.2.2.2.2.1 y.2.2.2.2.2.2.2.2.2.2.2.2.2.2.2.2.2.2.2.2.1 y.2.2.2.2.2.2.2.2.2.2.2.2.2.2.2.2.2.2.2.2.2.1 y.2.2.2.2.2.2.2.2.2.2.2.2.2.2.2.2.2.2.2.2.2.2.2.2.2.2.2).bind fun p30 => (if p28.1 = p30.1 then (f_La_law N L xs n (x.1, p28.2, x.2.2.1, x.2.2.2.1, x.2.2.2.2.1, x.2.2.2.2.2) (p30.2.1, p30.2.2.1, y.2.2.1, y.2.2.2.1, p30.2.2.2.1, p30.2.2.2.2.1, p30.2.2.2.2.2.1, p30.2.2.2.2.2.2.1, p30.2.2.2.2.2.2.2.1, p30.2.2.2.2.2.2.2.2.1, p30.2.2.2.2.2.2.2.2.2.1, y.2.2.2.2.2.2.2.2.2.2.2.1, p30.2.2.2.2.2.2.2.2.2.2.1, p30.2.2.2.2.2.2.2.2.2.2.2.1, p30.2.2.2.2.2.2.2.2.2.2.2.2.1, p30.2.2.2.2.2.2.2.2.2.2.2.2.2.1, p30.2.2.2.2.2.2.2.2.2.2.2.2.2.2.1, p30.2.2.2.2.2.2.2.2.2.2.2.2.2.2.2.1, p30.2.2.2.2.2.2.2.2.2.2.2.2.2.2.2.2.1, p30.2.2.2.2.2.2.2.2.2.2.2.2.2.2.2.2.2.1, p30.2.2.2.2.2.2.2.2.2.2.2.2.2.2.2.2.2.2.1, p30.2.2.2.2.2.2.2.2.2.2.2.2.2.2.2.2.2.2.2.1, y.2.2.2.2.2.2.2.2.2.2.2.2.2.2.2.2.2.2.2.2.2.2.1, y.2.2.2.2.2.2.2.2.2.2.2.2.2.2.2.2.2.2.2.2.2.2.2.1, y.2.2.2.2.2.2.2.2.2.2.2.2.2.2.2.2.2.2.2.2.2.2.2.2.1, y.2.2.2.2.2.2.2.2.2.2.2.2.2.2.2.2.2.2.2.2.2.2.2.2.2.1, y.2.2.2.2.2.2.2.2.2.2.2.2.2.2.2.2.2.2.2.2.2.2.2.2.2.2.1, p30.2.2.2.2.2.2.2.2.2.2.2.2.2.2.2.2.2.2.2.2) (v3 + 6)) else (some 0)))) else (if ((xs v3.toNatClampNeg) &&& 15) = 3 then (g_at (v3 + 1) L (g_at (v3 + 2) L (g_at (v3 + 3) L (g_at (v3 + 4) L ((f_Nd_ask N x.2.2.2.2.1 (xs (v3 + 1).toNatClampNeg) (xs (v3 + 2).toNatClampNeg) (xs (v3 + 3).toNatClampNeg) (xs (v3 + 4).toNatClampNeg)).bind fun p38 => (g_at (v3 + 1) L (g_at (v3 + 2) L (g_at (v3 + 3) L (g_at (v3 + 4) L ((f_Mo_ask N y.2.2.2.2.2.2.2.2.2.2.2.1 (xs (v3 + 1).toNatClampNeg) (xs (v3 + 2).toNatClampNeg) (xs (v3 + 3).toNatClampNeg) (xs (v3 + 4).toNatClampNeg)).bind fun p44 => (if p38.1 = p44.1 then (f_La_law N L xs n (x.1, x.2.1, x.2.2.1, x.2.2.2.1, p38.2, x.2.2.2.2.2) (y.1, y.2.1, y.2.2.1, y.2.2.2.1, y.2.2.2.2.1, y.2.2.2.2.2.1, y.2.2.2.2.2.2.1, y.2.2.2.2.2.2.2.1, y.2.2.2.2.2.2.2.2.1, y.2.2.2.2.2.2.2.2.2.1, y.2.2.2.2.2.2.2.2.2.2.1, p44.2, y.2.2.2.2.2.2.2.2.2.2.2.2.1, y.2.2.2.2.2.2.2.2.2.2.2.2.2.1, y.2.2.2.2.2.2.2.2.2.2.2.2.2.2.1, y.2.2.2.2.2.2.2.2.2.2.2.2.2.2.2.1, y.2.2.2.2.2.2.2.2.2.2.2.2.2.2.2.2.1, y.2.2.2.2.2.2.2.2.2.2.2.2.2.2.2.2.2.1, y.2.2.2.2.2.2.2.2.2.2.2.2.2.2.2.2.2.2.1, y.2.2.2.2.2.2.2.2.2.2.2.2.2.2.2.2.2.2.2.1, y.2.2.2.2.2.2.2.2.2.2.2.2.2.2.2.2.2.2.2.2.1, y.2.2.2.2.2.2.2.2.2.2.2.2.2.2.2.2.2.2.2.2.2.1, y.2.2.2.2.2.2.2.2.2.2.2.2.2.2.2.2.2.2.2.2.2.2.1, y.2.2.2.2.2.2.2.2.2.2.2.2.2.2.2.2.2.2.2.2.2.2.2.1, y.2.2.2.2.2.2.2.2.2.2.2.2.2.2.2.2.2.2.2.2.2.2.2.2.1, y.2.2.2.2.2.2.2.2.2.2.2.2.2.2.2.2.2.2.2.2.2.2.2.2.2.1, y.2.2.2.2.2.2.2.2.2.2.2.2.2.2.2.2.2.2.2.2.2.2.2.2.2.2.1, y.2.2.2.2.2.2.2.2.2.2.2.2.2.2.2.2.2.2.2.2.2.2.2.2.2.2.2) (v3 + 6)) else (some 0)))))))))))) else (if ((xs v3.toNatClampNeg) &&& 15) = 4 then (g_at (v3 + 1) L (g_at (v3 + 2) L ((f_Nd_near N x.1 x.2.1 x.2.2.1 x.2.2.2.2.1 (xs (v3 + 1).toNatClampNeg) (xs (v3 + 2).toNatClampNeg)).bind fun p50 => (g_at (v3 + 1) L (g_at (v3 + 2) L ((f_Mo_near N y.2.1 y.2.2.1 y.2.2.2.2.1 y.2.2.2.2.2.2.1 y.2.2.2.2.2.2.2.1 y.2.2.2.2.2.2.2.2.1 y.2.2.2.2.2.2.2.2.2.2.1 y.2.2.2.2.2.2.2.2.2.2.2.1 y.2.2.2.2.2.2.2.2.2.2.2.2.1 y.2.2.2.2.2.2.2.2.2.2.2.2.2.1 y.2.2.2.2.2.2.2.2.2.2.2.2.2.2.1 y.2.2.2.2.2.2.2.2.2.2.2.2.2.2.2.2.1 y.2.2.2.2.2.2.2.2.2.2.2.2.2.2.2.2.2.2.2.1 y.2.2.2.2.2.2.2.2.2.2.2.2.2.2.2.2.2.2.2.2.2.2.1 y.2.2.2.2.2.2.2.2.2.2.2.2.2.2.2.2.2.2.2.2.2.2.2.1 y.2.2.2.2.2.2.2.2.2.2.2.2.2.2.2.2.2.2.2.2.2.2.2.2.2.1 y.2.2.2.2.2.2.2.2.2.2.2.2.2.2.2.2.2.2.2.2.2.2.2.2.2.2.1 (xs (v3 + 1).toNatClampNeg) (xs (v3 + 2).toNatClampNeg)).bind fun p54 => (if p50.1 = p54.1 then (f_La_law N L xs n (x.1, p50.2.1, p50.2.2, x.2.2.2.1, x.2.2.2.2.1, x.2.2.2.2.2) (y.1, y.2.1, y.2.2.1, y.2.2.2.1, y.2.2.2.2.1, y.2.2.2.2.2.1, y.2.2.2.2.2.2.1, y.2.2.2.2.2.2.2.1, y.2.2.2.2.2.2.2.2.1, y.2.2.2.2.2.2.2.2.2.1, p54.2.1, y.2.2.2.2.2.2.2.2.2.2.2.1, p54.2.2.1, p54.2.2.2.1, p54.2.2.2.2.1, y.2.2.2.2.2.2.2.2.2.2.2.2.2.2.2.1, p54.2.2.2.2.2.1, y.2.2.2.2.2.2.2.2.2.2.2.2.2.2.2.2.2.1, y.2.2.2.2.2.2.2.2.2.2.2.2.2.2.2.2.2.2.1, p54.2.2.2.2.2.2.1, y.2.2.2.2.2.2.2.2.2.2.2.2.2.2.2.2.2.2.2.2.1, y.2.2.2.2.2.2.2.2.2.2.2.2.2.2.2.2.2.2.2.2.2.1, p54.2.2.2.2.2.2.2.1, p54.2.2.2.2.2.2.2.2.1, y.2.2.2.2.2.2.2.2.2.2.2.2.2.2.2.2.2.2.2.2.2.2.2.2.1, p54.2.2.2.2.2.2.2.2.2.1, p54.2.2.2.2.2.2.2.2.2.2, y.2.2.2.2.2.2.2.2.2.2.2.2.2.2.2.2.2.2.2.2.2.2.2.2.2.2.2) (v3 + 6)) else (some 0)))))))) else (if ((xs v3.toNatClampNeg) &&& 15) = 5 then (g_at (v3 + 1) L ((f_Nd_exact N x.1 x.2.2.1 x.2.2.2.2.1 (xs (v3 + 1).toNatClampNeg)).bind fun p59 => (g_at (v3 + 1) L ((f_Mo_exact N y.2.1 y.2.2.1 y.2.2.2.2.2.2.2.2.2.2.1 y.2.2.2.2.2.2.2.2.2.2.2.1 y.2.2.2.2.2.2.2.2.2.2.2.2.2.1 y.2.2.2.2.2.2.2.2.2.2.2.2.2.2.2.2.2.2.2.2.2.2.1 y.2.2.2.2.2.2.2.2.2.2.2.2.2.2.2.2.2.2.2.2.2.2.2.1 y.2.2.2.2.2.2.2.2.2.2.2.2.2.2.2.2.2.2.2.2.2.2.2.2.2.1 (xs (v3 + 1).toNatClampNeg)).bind fun p62 => (if p59.1 = p62.1 then (f_La_law N L xs n (x.1, x.2.1, p59.2, x.2.2.2.1, x.2.2.2.2.1, x.2.2.2.2.2) (y.1, y.2.1, y.2.2.1, y.2.2.2.1, y.2.2.2.2.1, y.2.2.2.2.2.1, y.2.2.2.2.2.2.1, y.2.2.2.2.2.2.2.1, y.2.2.2.2.2.2.2.2.1, y.2.2.2.2.2.2.2.2.2.1, p62.2.1, y.2.2.2.2.2.2.2.2.2.2.2.1, y.2.2.2.2.2.2.2.2.2.2.2.2.1, p62.2.2.1, y.2.2.2.2.2.2.2.2.2.2.2.2.2.2.1, y.2.2.2.2.2.2.2.2.2.2.2.2.2.2.2.1, y.2.2.2.2.2.2.2.2.2.2.2.2.2.2.2.2.1, y.2.2.2.2.2.2.2.2.2.2.2.2.2.2.2.2.2.1, y.2.2.2.2.2.2.2.2.2.2.2.2.2.2.2.2.2.2.1, y.2.2.2.2.2.2.2.2.2.2.2.2.2.2.2.2.2.2.2.1, y.2.2.2.2.2.2.2.2.2.2.2.2.2.2.2.2.2.2.2.2.1, y.2.2.2.2.2.2.2.2.2.2.2.2.2.2.2.2.2.2.2.2.2.1, p62.2.2.2.1, p62.2.2.2.2.1, y.2.2.2.2.2.2.2.2.2.2.2.2.2.2.2.2.2.2.2.2.2.2.2.2.1, p62.2.2.2.2.2, y.2.2.2.2.2.2.2.2.2.2.2.2.2.2.2.2.2.2.2.2.2.2.2.2.2.2.1, y.2.2.2.2.2.2.2.2.2.2.2.2.2.2.2.2.2.2.2.2.2.2.2.2.2.2.2) (v3 + 6)) else (some 0)))))) else (if ((xs v3.toNatClampNeg) &&& 15) = 6 then (g_at (v3 + 1) L (g_at (v3 + 2) L ((f_Nd_match N x.1 x.2.2.1 (xs (v3 + 1).toNatClampNeg) (xs (v3 + 2).toNatClampNeg)).bind fun p68 => (g_at (v3 + 1) L (g_at (v3 + 2) L ((f_Mo_match N y.2.1 y.2.2.2.1 y.2.2.2.2.2.2.2.2.2.2.2.2.2.2.2.2.2.2.2.2.2.2.1 y.2.2.2.2.2.2.2.2.2.2.2.2.2.2.2.2.2.2.2.2.2.2.2.1 y.2.2.2.2.2.2.2.2.2.2.2.2.2.2.2.2.2.2.2.2.2.2.2.2.1 y.2.2.2.2.2.2.2.2.2.2.2.2.2.2.2.2.2.2.2.2.2.2.2.2.2.1 (xs (v3 + 1).toNatClampNeg) (xs (v3 + 2).toNatClampNeg)).bind fun p72 => (if p68.1 = p72.1 then (f_La_law N L xs n (p68.2.1, x.2.1, p68.2.2, x.2.2.2.1, x.2.2.2.2.1, x.2.2.2.2.2) (y.1, y.2.1, y.2.2.1, y.2.2.2.1, y.2.2.2.2.1, y.2.2.2.2.2.1, y.2.2.2.2.2.2.1, y.2.2.2.2.2.2.2.1, y.2.2.2.2.2.2.2.2.1, y.2.2.2.2.2.2.2.2.2.1, y.2.2.2.2.2.2.2.2.2.2.1, y.2.2.2.2.2.2.2.2.2.2.2.1, y.2.2.2.2.2.2.2.2.2.2.2.2.1, y.2.2.2.2.2.2.2.2.2.2.2.2.2.1, y.2.2.2.2.2.2.2.2.2.2.2.2.2.2.1, y.2.2.2.2.2.2.2.2.2.2.2.2.2.2.2.1, y.2.2.2.2.2.2.2.2.2.2.2.2.2.2.2.2.1, y.2.2.2.2.2.2.2.2.2.2.2.2.2.2.2.2.2.1, y.2.2.2.2.2.2.2.2.2.2.2.2.2.2.2.2.2.2.1, y.2.2.2.2.2.2.2.2.2.2.2.2.2.2.2.2.2.2.2.1, y.2.2.2.2.2.2.2.2.2.2.2.2.2.2.2.2.2.2.2.2.1, y.2.2.2.2.2.2.2.2.2.2.2.2.2.2.2.2.2.2.2.2.2.1, p72.2.1, p72.2.2.1, p72.2.2.2.1, p72.2.2.2.2, y.2.2.2.2.2.2.2.2.2.2.2.2.2.2.2.2.2.2.2.2.2.2.2.2.2.2.1, y.2.2.2.2.2.2.2.2.2.2.2.2.2.2.2.2.2.2.2.2.2.2.2.2.2.2.2) (v3 + 6)) else (some 0)))))))) else (if ((xs v3.toNatClampNeg) &&& 15) = 7 then (g_at (v3 + 1) L (g_at (v3 + 2) L ((f_Nd_fuse N x.1 x.2.1 x.2.2.1 x.2.2.2.1 x.2.2.2.2.1 x.2.2.2.2.2 (xs (v3 + 1).toNatClampNeg) (xs (v3 + 2).toNatClampNeg)).bind fun p78 => (g_at (v3 + 1) L (g_at (v3 + 2) L ((f_Mo_fuse N y.2.1 y.2.2.1 y.2.2.2.1 y.2.2.2.2.1 y.2.2.2.2.2.2.1 y.2.2.2.2.2.2.2.1 y.2.2.2.2.2.2.2.2.1 y.2.2.2.2.2.2.2.2.2.2.1 y.2.2.2.2.2.2.2.2.2.2.2.1 y.2.2.2.2.2.2.2.2.2.2.2.2.1 y.2.2.2.2.2.2.2.2.2.2.2.2.2.1 y.2.2.2.2.2.2.2.2.2.2.2.2.2.2.1 y.2.2.2.2.2.2.2.2.2.2.2.2.2.2.2.2.1 y.2.2.2.2.2.2.2.2.2.2.2.2.2.2.2.2.2.2.1 y.2.2.2.2.2.2.2.2.2.2.2.2.2.2.2.2.2.2.2.1 y.2.2.2.2.2.2.2.2.2.2.2.2.2.2.2.2.2.2.2.2.2.2.1 y.2.2.2.2.2.2.2.2.2.2.2.2.2.2.2.2.2.2.2.2.2.2.2.1 y.2.2.2.2.2.2.2.2.2.2.2.2.2.2.2.2.2.2.2.2.2.2.2.2.1 y.2.2.2.2.2.2.2.2.2.2.2.2.2.2.2.2.2.2.2.2.2.2.2.2.2.1 y.2.2.2.2.2.2.2.2.2.2.2.2.2.2.2.2.2.2.2.2.2.2.2.2.2.2.1 (xs (v3 + 1).toNatClampNeg) (xs (v3 + 2).toNatClampNeg)).bind fun p82 => (if p78.1 = p82.1 then (f_La_law N L xs n (p78.2.1, p78.2.2.1, p78.2.2.2.1, p78.2.2.2.2.1, x.2.2.2.2.1, p78.2.2.2.2.2) (y.1, y.2.1, y.2.2.1, y.2.2.2.1, y.2.2.2.2.1, y.2.2.2.2.2.1, y.2.2.2.2.2.2.1, y.2.2.2.2.2.2.2.1, y.2.2.2.2.2.2.2.2.1, y.2.2.2.2.2.2.2.2.2.1, p82.2.1, y.2.2.2.2.2.2.2.2.2.2.2.1, p82.2.2.1, p82.2.2.2.1, p82.2.2.2.2.1, y.2.2.2.2.2.2.2.2.2.2.2.2.2.2.2.1, p82.2.2.2.2.2.1, y.2.2.2.2.2.2.2.2.2.2.2.2.2.2.2.2.2.1, p82.2.2.2.2.2.2.1, p82.2.2.2.2.2.2.2.1, y.2.2.2.2.2.2.2.2.2.2.2.2.2.2.2.2.2.2.2.2.1, y.2.2.2.2.2.2.2.2.2.2.2.2.2.2.2.2.2.2.2.2.2.1, p82.2.2.2.2.2.2.2.2.1, p82.2.2.2.2.2.2.2.2.2.1, p82.2.2.2.2.2.2.2.2.2.2.1, p82.2.2.2.2.2.2.2.2.2.2.2.1, p82.2.2.2.2.2.2.2.2.2.2.2.2, y.2.2.2.2.2.2.2.2.2.2.2.2.2.2.2.2.2.2.2.2.2.2.2.2.2.2.2) (v3 + 6)) else (some 0)))))))) else (if ((xs v3.toNatClampNeg) &&& 15) = 8 then (g_at (v3 + 1) L (g_at (v3 + 2) L ((f_Nd_found N x.1 x.2.2.1 (xs (v3 + 1).toNatClampNeg) (xs (v3 + 2).toNatClampNeg)).bind fun p88 => (g_at (v3 + 1) L (g_at (v3 + 2) L ((f_Mo_found N y.2.1 y.2.2.2.2.2.2.2.2.2.2.2.2.2.2.2.2.2.2.2.2.2.2.1 y.2.2.2.2.2.2.2.2.2.2.2.2.2.2.2.2.2.2.2.2.2.2.2.1 y.2.2.2.2.2.2.2.2.2.2.2.2.2.2.2.2.2.2.2.2.2.2.2.2.2.1 (xs (v3 + 1).toNatClampNeg) (xs (v3 + 2).toNatClampNeg)).bind fun p91 => (if p88 = p91 then (f_La_law N L xs n x y (v3 + 6)) else (some 0)))))))) else (if ((xs v3.toNatClampNeg) &&& 15) = 9 then (g_at (v3 + 1) L (g_at (v3 + 2) L ((f_Nd_node N x.1 x.2.1 (xs (v3 + 1).toNatClampNeg) (xs (v3 + 2).toNatClampNeg)).bind fun p96 => (g_at (v3 + 1) L (g_at (v3 + 2) L ((f_Mo_node N y.1 y.2.1 y.2.2.1 y.2.2.2.1 y.2.2.2.2.1 y.2.2.2.2.2.1 y.2.2.2.2.2.2.2.1 (xs (v3 + 1).toNatClampNeg) (xs (v3 + 2).toNatClampNeg)).bind fun p99 => (if p96 = p99 then (f_La_law N L xs n x y (v3 + 6)) else (some 0)))))))) else (if ((xs v3.toNatClampNeg) &&& 15) = 10 then (g_at (v3 + 1) L (g_at (v3 + 2) L (g_at (v3 + 3) L ((f_Nd_neighbour N x.2.1 (xs (v3 + 1).toNatClampNeg) (xs (v3 + 2).toNatClampNeg) (xs (v3 + 3).toNatClampNeg)).bind fun p105 => (g_at (v3 + 1) L (g_at (v3 + 2) L (g_at (v3 + 3) L ((f_Mo_neighbour N y.1 y.2.2.2.2.1 y.2.2.2.2.2.2.1 y.2.2.2.2.2.2.2.1 (xs (v3 + 1).toNatClampNeg) (xs (v3 + 2).toNatClampNeg) (xs (v3 + 3).toNatClampNeg)).bind fun p109 => (if p105 = p109 then (f_La_law N L xs n x y (v3 + 6)) else (some 0)))))))))) else (if ((xs v3.toNatClampNeg) &&& 15) = 11 then (g_at (v3 + 1) L ((f_Nd_count N x.1 x.2.1 x.2.2.1 x.2.2.2.1 x.2.2.2.2.1 (xs (v3 + 1).toNatClampNeg)).bind fun p113 => (g_at (v3 + 1) L ((f_Mo_count N y.1 y.2.1 y.2.2.1 y.2.2.2.2.1 y.2.2.2.2.2.2.1 y.2.2.2.2.2.2.2.1 y.2.2.2.2.2.2.2.2.1 y.2.2.2.2.2.2.2.2.2.2.1 y.2.2.2.2.2.2.2.2.2.2.2.1 y.2.2.2.2.2.2.2.2.2.2.2.2.1 y.2.2.2.2.2.2.2.2.2.2.2.2.2.2.2.2.2.2.2.2.2.2.1 y.2.2.2.2.2.2.2.2.2.2.2.2.2.2.2.2.2.2.2.2.2.2.2.2.2.1 y.2.2.2.2.2.2.2.2.2.2.2.2.2.2.2.2.2.2.2.2.2.2.2.2.2.2.1 y.2.2.2.2.2.2.2.2.2.2.2.2.2.2.2.2.2.2.2.2.2.2.2.2.2.2.2 (xs (v3 + 1).toNatClampNeg)).bind fun p116 => (if p113.1 = p116.1 then (f_La_law N L xs n (x.1, p113.2.1, x.2.2.1, p113.2.2, x.2.2.2.2.1, x.2.2.2.2.2) (y.1, y.2.1, y.2.2.1, y.2.2.2.1, y.2.2.2.2.1, y.2.2.2.2.2.1, y.2.2.2.2.2.2.1, y.2.2.2.2.2.2.2.1, y.2.2.2.2.2.2.2.2.1, y.2.2.2.2.2.2.2.2.2.1, p116.2.1, y.2.2.2.2.2.2.2.2.2.2.2.1, p116.2.2, y.2.2.2.2.2.2.2.2.2.2.2.2.2.1, y.2.2.2.2.2.2.2.2.2.2.2.2.2.2.1, y.2.2.2.2.2.2.2.2.2.2.2.2.2.2.2.1, y.2.2.2.2.2.2.2.2.2.2.2.2.2.2.2.2.1, y.2.2.2.2.2.2.2.2.2.2.2.2.2.2.2.2.2.1, y.2.2.2.2.2.2.2.2.2.2.2.2.2.2.2.2.2.2.1, y.2.2.2.2.2.2.2.2.2.2.2.2.2.2.2.2.2.2.2.1, y.2.2.2.2.2.2.2.2.2.2.2.2.2.2.2.2.2.2.2.2.1, y.2.2.2.2.2.2.2.2.2.2.2.2.2.2.2.2.2.2.2.2.2.1, y.2.2.2.2.2.2.2.2.2.2.2.2.2.2.2.2.2.2.2.2.2.2.1, y.2.2.2.2.2.2.2.2.2.2.2.2.2.2.2.2.2.2.2.2.2.2.2.1, y.2.2.2.2.2.2.2.2.2.2.2.2.2.2.2.2.2.2.2.2.2.2.2.2.1, y.2.2.2.2.2.2.2.2.2.2.2.2.2.2.2.2.2.2.2.2.2.2.2.2.2.1, y.2.2.2.2.2.2.2.2.2.2.2.2.2.2.2.2.2.2.2.2.2.2.2.2.2.2.1, y.2.2.2.2.2.2.2.2.2.2.2.2.2.2.2.2.2.2.2.2.2.2.2.2.2.2.2) (v3 + 6)) else (some 0)))))) else (f_La_law N L xs n x y (v3 + 6))))))))))))))))
end
section
/-! PURE: numbers and small functions -/
theorem pb_at {α : Type} {i n : Nat} {k : Option α} (h : i < n) (hn : n < 2147483648) : g_at (nI i) n k = k := by
  unfold g_at
  rw [if_neg (nI_in h hn)]
theorem pb_in (N : Nat) (a lo hi : Int32) : f_Mo_in N a lo hi = some (if lo ≤ a ∧ a ≤ hi then 1 else 0) := by
  unfold f_Mo_in
  by_cases h1 : a < lo
  · rw [if_pos h1, if_neg (fun q => absurd q.1 (Int32.not_le.mpr h1))]
  · rw [if_neg h1]
    by_cases h2 : hi < a
    · rw [if_pos h2, if_neg (fun q => absurd q.2 (Int32.not_le.mpr h2))]
    · rw [if_neg h2, if_pos ⟨Int32.not_lt.mp h1, Int32.not_lt.mp h2⟩]
theorem pb_isWithin (N : Nat) (a lo hi : Int32) : f_Nd_isWithin N a lo hi = some (if lo ≤ a ∧ a ≤ hi then 1 else 0) := by
  unfold f_Nd_isWithin
  by_cases h1 : a < lo
  · rw [if_pos h1, if_neg (fun q => absurd q.1 (Int32.not_le.mpr h1))]
  · rw [if_neg h1]
    by_cases h2 : hi < a
    · rw [if_pos h2, if_neg (fun q => absurd q.2 (Int32.not_le.mpr h2))]
    · rw [if_neg h2, if_pos ⟨Int32.not_lt.mp h1, Int32.not_lt.mp h2⟩]
theorem pb_bl {α : Type} {c : Prop} [Decidable c] {k : Option α} : g_bl (if c then (1 : Int32) else 0) k = k := by
  unfold g_bl
  by_cases h : c
  · rw [if_pos h, if_pos (Or.inr rfl)]
  · rw [if_neg h, if_pos (Or.inl rfl)]
theorem pb_isCoordinate (N : Nat) (a : Int32) : f_Nd_isCoordinate N a = some (if (0 : Int32) ≤ a ∧ a ≤ 99 then 1 else 0) := by
  unfold f_Nd_isCoordinate
  rw [pb_isWithin, Option.bind_some, pb_bl]
theorem pb_isDocumentNumber (N : Nat) (a : Int32) : f_Nd_isDocumentNumber N a = some (if (0 : Int32) ≤ a ∧ a ≤ 29 then 1 else 0) := by
  unfold f_Nd_isDocumentNumber
  rw [pb_isWithin, Option.bind_some, pb_bl]
end
section
/-! PURE: lists in a strict total order -/
def so_T (lt : Nat → Nat → Bool) : Prop := (∀ a, lt a a = false) ∧ (∀ a b c, lt a b = true → lt b c = true → lt a c = true) ∧ ∀ a b, a ≠ b → lt a b = true ∨ lt b a = true
def so_ok (lt : Nat → Nat → Bool) (l : List Nat) : Prop := List.Pairwise (fun a b => lt a b = true) l
def so_ins (lt : Nat → Nat → Bool) (x : Nat) : List Nat → List Nat
  | [] => [x]
  | y :: l => if lt x y = true then x :: y :: l else y :: so_ins lt x l
theorem so_mem {lt : Nat → Nat → Bool} {x a : Nat} : ∀ {l : List Nat}, a ∈ so_ins lt x l ↔ a = x ∨ a ∈ l
  | [] => by simp [so_ins]
  | y :: l => by
    unfold so_ins
    by_cases h : lt x y = true
    · rw [if_pos h]; simp
    · rw [if_neg h]
      simp only [List.mem_cons, so_mem (l := l)]
      constructor
      · rintro (h1 | h1 | h1)
        · exact Or.inr (Or.inl h1)
        · exact Or.inl h1
        · exact Or.inr (Or.inr h1)
      · rintro (h1 | h1 | h1)
        · exact Or.inr (Or.inl h1)
        · exact Or.inl h1
        · exact Or.inr (Or.inr h1)
theorem so_len {lt : Nat → Nat → Bool} {x : Nat} : ∀ {l : List Nat}, (so_ins lt x l).length = l.length + 1
  | [] => rfl
  | y :: l => by
    unfold so_ins
    by_cases h : lt x y = true
    · rw [if_pos h]; simp
    · rw [if_neg h]
      simp only [List.length_cons, so_len (l := l)]
theorem so_ins_ok {lt : Nat → Nat → Bool} (T : so_T lt) {x : Nat} : ∀ {l : List Nat}, so_ok lt l → x ∉ l → so_ok lt (so_ins lt x l)
  | [], _, _ => by simp [so_ins, so_ok]
  | y :: l, hs, hx => by
    unfold so_ins
    have h1 := List.pairwise_cons.mp hs
    by_cases h : lt x y = true
    · rw [if_pos h]
      refine List.pairwise_cons.mpr ⟨fun a ha => ?_, hs⟩
      rcases List.mem_cons.mp ha with rfl | ha
      · exact h
      · exact T.2.1 _ _ _ h (h1.1 a ha)
    · rw [if_neg h]
      have hne : x ≠ y := fun e => hx (by rw [e]; exact List.mem_cons_self)
      refine List.pairwise_cons.mpr ⟨fun a ha => ?_, so_ins_ok T h1.2 (fun q => hx (List.mem_cons_of_mem _ q))⟩
      rcases so_mem.mp ha with rfl | ha
      · rcases T.2.2 _ _ hne with q | q
        · exact absurd q h
        · exact q
      · exact h1.1 a ha
theorem so_asym {lt : Nat → Nat → Bool} (T : so_T lt) {a b : Nat} (h : lt a b = true) : ¬ lt b a = true := fun q => by
  have := T.2.1 _ _ _ h q
  rw [T.1] at this
  cases this
/-- a list in order is what its members say -/
theorem so_uniq {lt : Nat → Nat → Bool} (T : so_T lt) : ∀ {l1 l2 : List Nat}, so_ok lt l1 → so_ok lt l2 → (∀ a, a ∈ l1 ↔ a ∈ l2) → l1 = l2
  | [], [], _, _, _ => rfl
  | [], b :: l2, _, _, h => absurd ((h b).mpr List.mem_cons_self) List.not_mem_nil
  | a :: l1, [], _, _, h => absurd ((h a).mp List.mem_cons_self) List.not_mem_nil
  | a :: l1, b :: l2, h1, h2, h => by
    have p1 := List.pairwise_cons.mp h1
    have p2 := List.pairwise_cons.mp h2
    have e : a = b := by
      rcases List.mem_cons.mp ((h a).mp List.mem_cons_self) with q | q
      · exact q
      · rcases List.mem_cons.mp ((h b).mpr List.mem_cons_self) with r | r
        · exact r.symm
        · exact absurd (p1.1 b r) (so_asym T (p2.1 a q))
    subst e
    have n1 : a ∉ l1 := fun q => by have := p1.1 a q; rw [T.1] at this; cases this
    have n2 : a ∉ l2 := fun q => by have := p2.1 a q; rw [T.1] at this; cases this
    rw [so_uniq T p1.2 p2.2 (fun x => by
      constructor
      · intro q
        rcases List.mem_cons.mp ((h x).mp (List.mem_cons_of_mem _ q)) with r | r
        · exact absurd (r ▸ q) n1
        · exact r
      · intro q
        rcases List.mem_cons.mp ((h x).mpr (List.mem_cons_of_mem _ q)) with r | r
        · exact absurd (r ▸ q) n2
        · exact r)]
theorem so_nodup {lt : Nat → Nat → Bool} (T : so_T lt) {l : List Nat} (h : so_ok lt l) : l.Nodup := by
  refine List.Pairwise.imp (fun {a b} (q : lt a b = true) (e : a = b) => ?_) h
  rw [e, T.1] at q
  cases q
/-- the members of a set of numbers below n, in order -/
def so_set (lt : Nat → Nat → Bool) (P : Nat → Bool) : Nat → List Nat
  | 0 => []
  | n + 1 => if P n = true then so_ins lt n (so_set lt P n) else so_set lt P n
theorem so_set_mem {lt : Nat → Nat → Bool} {P : Nat → Bool} {a : Nat} : ∀ {n : Nat}, a ∈ so_set lt P n ↔ a < n ∧ P a = true
  | 0 => by simp [so_set]
  | n + 1 => by
    unfold so_set
    by_cases h : P n = true
    · rw [if_pos h, so_mem, so_set_mem (n := n)]
      constructor
      · rintro (rfl | ⟨h1, h2⟩)
        · exact ⟨Nat.lt_succ_self _, h⟩
        · exact ⟨Nat.lt_succ_of_lt h1, h2⟩
      · rintro ⟨h1, h2⟩
        rcases Nat.lt_or_eq_of_le (Nat.le_of_lt_succ h1) with q | q
        · exact Or.inr ⟨q, h2⟩
        · exact Or.inl q
    · rw [if_neg h, so_set_mem (n := n)]
      constructor
      · rintro ⟨h1, h2⟩
        exact ⟨Nat.lt_succ_of_lt h1, h2⟩
      · rintro ⟨h1, h2⟩
        rcases Nat.lt_or_eq_of_le (Nat.le_of_lt_succ h1) with q | q
        · exact ⟨q, h2⟩
        · exact absurd (q ▸ h2) h
theorem so_set_ok {lt : Nat → Nat → Bool} (T : so_T lt) {P : Nat → Bool} : ∀ (n : Nat), so_ok lt (so_set lt P n)
  | 0 => List.Pairwise.nil
  | n + 1 => by
    unfold so_set
    by_cases h : P n = true
    · rw [if_pos h]
      exact so_ins_ok T (so_set_ok T n) (fun q => absurd (so_set_mem.mp q).1 (Nat.lt_irrefl _))
    · rw [if_neg h]
      exact so_set_ok T n
end
section
/-! PURE: distances -/
def pd_sum (F : Nat → Int32) : Nat → Int32
  | 0 => 0
  | k + 1 => pd_sum F k + F k
theorem pd_cl {i : Nat} (h : i < 2147483648) : (nI i).toNatClampNeg = i := nI_clamp h
theorem pd_4 (n j : Nat) : (4 : Int32) * nI n + nI j = nI (4 * n + j) := by
  rw [show (4 : Int32) = nI 4 from rfl, pk_mul, nI_add]
def pd_F (u v : Nat → Int32) (j : Nat) : Int32 := (u j - v j) * (u j - v j)
theorem pd_far_4 (N : Nat) (vec aim : Nat → Int32) (n : Nat) (hn : n < 30) : ∀ (k j m : Nat), j + k = 4 → f_Mo_far_4 N vec aim (nI n) (m + k + 1) (pd_sum (pd_F (fun j => vec (4 * n + j)) aim) j) (nI j) = some (pd_sum (pd_F (fun j => vec (4 * n + j)) aim) 4) := by
  intro k
  induction k with
  | zero =>
    intro j m h
    have hj : j = 4 := by omega
    subst hj
    rw [f_Mo_far_4, if_pos (by decide)]
  | succ k ih =>
    intro j m h
    rw [show m + (k + 1) + 1 = (m + k + 1) + 1 from rfl, f_Mo_far_4, if_neg (show ¬ (4 : Int32) ≤ nI j from nI_ge (show j < 4 by omega) (by decide)), pd_4, pb_at (show 4 * n + j < 120 by omega) (by decide), pb_at (show j < 4 by omega) (by decide), pb_at (show 4 * n + j < 120 by omega) (by decide), pb_at (show j < 4 by omega) (by decide), pd_cl (show 4 * n + j < 2147483648 by omega), pd_cl (show j < 2147483648 by omega), nI_1]
    exact ih (j + 1) m (by omega)
theorem pd_far {N : Nat} (hN : 5 ≤ N) (vec aim : Nat → Int32) {n : Nat} (hn : n < 30) : f_Mo_far N vec aim (nI n) = some (pd_sum (pd_F (fun j => vec (4 * n + j)) aim) 4) := by
  obtain ⟨m, rfl⟩ : ∃ m, N = m + 4 + 1 := ⟨N - 5, by omega⟩
  unfold f_Mo_far
  exact pd_far_4 _ vec aim n hn 4 0 m rfl
theorem pd_distance_4 (N : Nat) (u v : Nat → Int32) : ∀ (k j m : Nat), j + k = 4 → f_Nd_distance_4 N u v (m + k + 1) (pd_sum (pd_F u v) j) (nI j) = some (pd_sum (pd_F u v) 4) := by
  intro k
  induction k with
  | zero =>
    intro j m h
    have hj : j = 4 := by omega
    subst hj
    rw [f_Nd_distance_4, if_pos (by decide)]
  | succ k ih =>
    intro j m h
    rw [show m + (k + 1) + 1 = (m + k + 1) + 1 from rfl, f_Nd_distance_4, if_neg (show ¬ (4 : Int32) ≤ nI j from nI_ge (show j < 4 by omega) (by decide)), pb_at (show j < 4 by omega) (by decide), pb_at (show j < 4 by omega) (by decide), pd_cl (show j < 2147483648 by omega), nI_1]
    exact ih (j + 1) m (by omega)
theorem pd_distance {N : Nat} (hN : 5 ≤ N) (u v : Nat → Int32) : f_Nd_distance N u v = some (pd_sum (pd_F u v) 4) := by
  obtain ⟨m, rfl⟩ : ∃ m, N = m + 4 + 1 := ⟨N - 5, by omega⟩
  unfold f_Nd_distance
  exact pd_distance_4 _ u v 4 0 m rfl
/-- how many of the first n are not 0 -/
def pd_cnt (P : Nat → Int32) : Nat → Nat
  | 0 => 0
  | n + 1 => if P n = 0 then pd_cnt P n else pd_cnt P n + 1
theorem pd_size_4 (N : Nat) (P : Nat → Int32) : ∀ (k j m : Nat), j + k = 30 → f_Mo_size_4 N P (m + k + 1) (nI (pd_cnt P j)) (nI j) = some (nI (pd_cnt P 30)) := by
  intro k
  induction k with
  | zero =>
    intro j m h
    have hj : j = 30 := by omega
    subst hj
    rw [f_Mo_size_4, if_pos (by decide)]
  | succ k ih =>
    intro j m h
    rw [show m + (k + 1) + 1 = (m + k + 1) + 1 from rfl, f_Mo_size_4, if_neg (show ¬ (30 : Int32) ≤ nI j from nI_ge (show j < 30 by omega) (by decide)), pb_at (show j < 30 by omega) (by decide), pd_cl (show j < 2147483648 by omega), nI_1, nI_1]
    have h1 := ih (j + 1) m (by omega)
    unfold pd_cnt at h1
    by_cases c : P j = 0
    · rw [if_pos c] at h1 ⊢
      exact h1
    · rw [if_neg c] at h1 ⊢
      exact h1
theorem pd_size {N : Nat} (hN : 31 ≤ N) (P : Nat → Int32) : f_Mo_size N P = some (nI (pd_cnt P 30)) := by
  obtain ⟨m, rfl⟩ : ∃ m, N = m + 30 + 1 := ⟨N - 31, by omega⟩
  unfold f_Mo_size
  exact pd_size_4 _ P 30 0 m rfl
end
section
/-! PURE: the nearer of two, the nearest and the farthest of a set -/
def pn_lt (key : Nat → Int32) (a b : Nat) : Bool := decide (key a < key b ∨ key a = key b ∧ a < b)
theorem pn_T (key : Nat → Int32) : so_T (pn_lt key) := by
  refine ⟨fun a => ?_, fun a b c h1 h2 => ?_, fun a b h => ?_⟩
  · unfold pn_lt
    rw [decide_eq_false_iff_not]
    rintro (h | ⟨-, h⟩)
    · exact absurd h (by rw [Int32.lt_iff_toInt_lt]; omega)
    · omega
  · unfold pn_lt at h1 h2 ⊢
    rw [decide_eq_true_iff] at h1 h2 ⊢
    rw [Int32.lt_iff_toInt_lt, ← Int32.toInt_inj] at h1 h2 ⊢
    omega
  · unfold pn_lt
    rw [decide_eq_true_iff, decide_eq_true_iff, Int32.lt_iff_toInt_lt, Int32.lt_iff_toInt_lt, ← Int32.toInt_inj, ← Int32.toInt_inj]
    omega
/-- the distances to the aim, as the reference computes them -/
def pn_key (vec aim : Nat → Int32) (n : Nat) : Int32 := pd_sum (pd_F (fun j => vec (4 * n + j)) aim) 4
theorem pn_isNearer {N : Nat} (hN : 5 ≤ N) (vec aim : Nat → Int32) {a b : Nat} (ha : a < 30) (hb : b < 30) : f_Mo_isNearer N vec aim (nI a) (nI b) = some (if pn_lt (pn_key vec aim) a b = true then 1 else 0) := by
  unfold f_Mo_isNearer
  rw [pd_far hN vec aim ha, pd_far hN vec aim hb]
  simp only [Option.bind_some]
  have e : (pn_lt (pn_key vec aim) a b = true) = (pd_sum (pd_F (fun j => vec (4 * a + j)) aim) 4 < pd_sum (pd_F (fun j => vec (4 * b + j)) aim) 4 ∨ pd_sum (pd_F (fun j => vec (4 * a + j)) aim) 4 = pd_sum (pd_F (fun j => vec (4 * b + j)) aim) 4 ∧ a < b) := by
    unfold pn_lt pn_key
    rw [decide_eq_true_iff]
  generalize pd_sum (pd_F (fun j => vec (4 * a + j)) aim) 4 = u at e ⊢
  generalize pd_sum (pd_F (fun j => vec (4 * b + j)) aim) 4 = v at e ⊢
  by_cases h1 : u < v
  · rw [if_pos h1, if_pos (by rw [e]; exact Or.inl h1)]
  · rw [if_neg h1]
    by_cases h2 : u = v
    · rw [if_pos h2]
      by_cases h3 : a < b
      · rw [if_neg (show ¬ nI b ≤ nI a from nI_ge h3 (by omega)), if_pos (by rw [e]; exact Or.inr ⟨h2, h3⟩)]
      · rw [if_pos (show nI b ≤ nI a from nI_le (by omega) (by omega)), if_neg (by rw [e]; exact fun q => q.elim h1 (fun q => h3 q.2))]
    · rw [if_neg h2, if_neg (by rw [e]; exact fun q => q.elim h1 (fun q => h2 q.1))]
def pn_P (P : Nat → Int32) (n : Nat) : Bool := decide (P n ≠ 0)
def pn_o (o : Option Nat) : Int32 := match o with
  | none => -1
  | some a => nI a
theorem pn_head {lt : Nat → Nat → Bool} {x : Nat} : ∀ {l : List Nat}, (so_ins lt x l).head? = some (match l.head? with | none => x | some y => if lt x y = true then x else y)
  | [] => rfl
  | y :: l => by
    unfold so_ins
    by_cases h : lt x y = true
    · simp [h]
    · simp [h]
theorem pn_step {lt : Nat → Nat → Bool} {P : Nat → Int32} {j : Nat} : so_set lt (pn_P P) (j + 1) = if P j = 0 then so_set lt (pn_P P) j else so_ins lt j (so_set lt (pn_P P) j) := by
  rw [so_set]
  by_cases h : P j = 0
  · rw [if_pos h, if_neg (by unfold pn_P; rw [decide_eq_true_iff]; exact fun q => q h)]
  · rw [if_neg h, if_pos (by unfold pn_P; rw [decide_eq_true_iff]; exact h)]
theorem pn_hlt {lt : Nat → Nat → Bool} {P : Nat → Bool} {n a : Nat} (h : (so_set lt P n).head? = some a) : a < n := (so_set_mem.mp (List.mem_of_mem_head? h)).1
theorem pn_neg {a : Nat} (h : a < 30) : ¬ nI a < 0 := nI_pos (by omega)
theorem pn_nearest_open_4 {N : Nat} (hN : 5 ≤ N) (vec aim P : Nat → Int32) : ∀ (k j m : Nat), j + k = 30 → f_Mo_nearest_open_4 N vec aim P (m + k + 1) (pn_o (so_set (pn_lt (pn_key vec aim)) (pn_P P) j).head?) (nI j) = some (pn_o (so_set (pn_lt (pn_key vec aim)) (pn_P P) 30).head?) := by
  intro k
  induction k with
  | zero =>
    intro j m h
    have hj : j = 30 := by omega
    subst hj
    rw [f_Mo_nearest_open_4, if_pos (by decide)]
  | succ k ih =>
    intro j m h
    have h1 := ih (j + 1) m (by omega)
    rw [pn_step] at h1
    rw [show m + (k + 1) + 1 = (m + k + 1) + 1 from rfl, f_Mo_nearest_open_4, if_neg (show ¬ (30 : Int32) ≤ nI j from nI_ge (show j < 30 by omega) (by decide)), pb_at (show j < 30 by omega) (by decide), pd_cl (show j < 2147483648 by omega), nI_1]
    by_cases c : P j = 0
    · rw [if_pos c] at h1 ⊢
      exact h1
    · rw [if_neg c] at h1 ⊢
      rw [pn_head] at h1
      cases hd : (so_set (pn_lt (pn_key vec aim)) (pn_P P) j).head? with
      | none =>
        rw [hd] at h1
        rw [if_pos (show pn_o none < 0 by decide)]
        exact h1
      | some y =>
        rw [hd] at h1
        have hy : y < 30 := Nat.lt_of_lt_of_le (pn_hlt hd) (by omega)
        rw [if_neg (show ¬ pn_o (some y) < 0 from pn_neg hy)]
        show (f_Mo_isNearer N vec aim (nI j) (nI y)).bind _ = _
        rw [pn_isNearer hN vec aim (show j < 30 by omega) hy, Option.bind_some]
        by_cases q : pn_lt (pn_key vec aim) j y = true
        · simp only [if_pos q] at h1 ⊢
          rw [if_neg (show ¬ (1 : Int32) = 0 by decide)]
          exact h1
        · simp only [if_neg q] at h1 ⊢
          rw [if_pos trivial]
          exact h1
theorem pn_nearest_open {N : Nat} (hN : 31 ≤ N) (vec aim P : Nat → Int32) : f_Mo_nearest_open N vec aim P = some (pn_o (so_set (pn_lt (pn_key vec aim)) (pn_P P) 30).head?) := by
  have h := pn_nearest_open_4 (show 5 ≤ N by omega) vec aim P 30 0 (N - 31) rfl
  rw [show N - 31 + 30 + 1 = N by omega] at h
  exact h
theorem pn_nearest_held_4 {N : Nat} (hN : 5 ≤ N) (vec aim P : Nat → Int32) : ∀ (k j m : Nat), j + k = 30 → f_Mo_nearest_held_4 N vec aim P (m + k + 1) (pn_o (so_set (pn_lt (pn_key vec aim)) (pn_P P) j).head?) (nI j) = some (pn_o (so_set (pn_lt (pn_key vec aim)) (pn_P P) 30).head?) := by
  intro k
  induction k with
  | zero =>
    intro j m h
    have hj : j = 30 := by omega
    subst hj
    rw [f_Mo_nearest_held_4, if_pos (by decide)]
  | succ k ih =>
    intro j m h
    have h1 := ih (j + 1) m (by omega)
    rw [pn_step] at h1
    rw [show m + (k + 1) + 1 = (m + k + 1) + 1 from rfl, f_Mo_nearest_held_4, if_neg (show ¬ (30 : Int32) ≤ nI j from nI_ge (show j < 30 by omega) (by decide)), pb_at (show j < 30 by omega) (by decide), pd_cl (show j < 2147483648 by omega), nI_1]
    by_cases c : P j = 0
    · rw [if_pos c] at h1 ⊢
      exact h1
    · rw [if_neg c] at h1 ⊢
      rw [pn_head] at h1
      cases hd : (so_set (pn_lt (pn_key vec aim)) (pn_P P) j).head? with
      | none =>
        rw [hd] at h1
        rw [if_pos (show pn_o none < 0 by decide)]
        exact h1
      | some y =>
        rw [hd] at h1
        have hy : y < 30 := Nat.lt_of_lt_of_le (pn_hlt hd) (by omega)
        rw [if_neg (show ¬ pn_o (some y) < 0 from pn_neg hy)]
        show (f_Mo_isNearer N vec aim (nI j) (nI y)).bind _ = _
        rw [pn_isNearer hN vec aim (show j < 30 by omega) hy, Option.bind_some]
        by_cases q : pn_lt (pn_key vec aim) j y = true
        · simp only [if_pos q] at h1 ⊢
          rw [if_neg (show ¬ (1 : Int32) = 0 by decide)]
          exact h1
        · simp only [if_neg q] at h1 ⊢
          rw [if_pos trivial]
          exact h1
theorem pn_nearest_held {N : Nat} (hN : 31 ≤ N) (vec aim P : Nat → Int32) : f_Mo_nearest_held N vec aim P = some (pn_o (so_set (pn_lt (pn_key vec aim)) (pn_P P) 30).head?) := by
  have h := pn_nearest_held_4 (show 5 ≤ N by omega) vec aim P 30 0 (N - 31) rfl
  rw [show N - 31 + 30 + 1 = N by omega] at h
  exact h
theorem pn_last {lt : Nat → Nat → Bool} (T : so_T lt) {x : Nat} : ∀ {l : List Nat}, so_ok lt l → x ∉ l → (so_ins lt x l).getLast? = some (match l.getLast? with | none => x | some y => if lt y x = true then x else y)
  | [], _, _ => rfl
  | [y], _, hx => by
    have hne : x ≠ y := fun e => hx (by rw [e]; exact List.mem_cons_self)
    unfold so_ins so_ins
    by_cases h : lt x y = true
    · have h2 := so_asym T h
      simp [h, h2]
    · have h2 : lt y x = true := (T.2.2 _ _ hne).elim (fun q => absurd q h) id
      simp [h, h2]
  | y :: z :: l, hs, hx => by
    have p1 := List.pairwise_cons.mp hs
    unfold so_ins
    by_cases h : lt x y = true
    · rw [if_pos h]
      have hm : ∀ w, (z :: l).getLast? = some w → lt w x = true → False := fun w hw q => by
        have h1 : lt y w = true := p1.1 w (List.mem_of_getLast? hw)
        exact so_asym T (T.2.1 _ _ _ h h1) q
      rw [List.getLast?_cons_cons, List.getLast?_cons_cons]
      cases hw : (z :: l).getLast? with
      | none => simp at hw
      | some w =>
        simp only
        rw [if_neg (hm w hw)]
    · rw [if_neg h]
      have ih := pn_last T p1.2 (fun q => hx (List.mem_cons_of_mem _ q))
      have hne : so_ins lt x (z :: l) ≠ [] := fun q => by have := so_len (lt := lt) (x := x) (l := z :: l); rw [q] at this; simp at this
      obtain ⟨b, t, hbt⟩ := List.exists_cons_of_ne_nil hne
      rw [hbt, List.getLast?_cons_cons, ← hbt, ih, List.getLast?_cons_cons]
end
section
/-! PURE: the farthest of a set, its size -/
theorem pf_llt {lt : Nat → Nat → Bool} {P : Nat → Bool} {n a : Nat} (h : (so_set lt P n).getLast? = some a) : a < n := (so_set_mem.mp (List.mem_of_getLast? h)).1
theorem pf_farthest_held_4 {N : Nat} (hN : 5 ≤ N) (vec aim P : Nat → Int32) : ∀ (k j m : Nat), j + k = 30 → f_Mo_farthest_held_4 N vec aim P (m + k + 1) (pn_o (so_set (pn_lt (pn_key vec aim)) (pn_P P) j).getLast?) (nI j) = some (pn_o (so_set (pn_lt (pn_key vec aim)) (pn_P P) 30).getLast?) := by
  intro k
  induction k with
  | zero =>
    intro j m h
    have hj : j = 30 := by omega
    subst hj
    rw [f_Mo_farthest_held_4, if_pos (by decide)]
  | succ k ih =>
    intro j m h
    have h1 := ih (j + 1) m (by omega)
    rw [pn_step] at h1
    rw [show m + (k + 1) + 1 = (m + k + 1) + 1 from rfl, f_Mo_farthest_held_4, if_neg (show ¬ (30 : Int32) ≤ nI j from nI_ge (show j < 30 by omega) (by decide)), pb_at (show j < 30 by omega) (by decide), pd_cl (show j < 2147483648 by omega), nI_1]
    by_cases c : P j = 0
    · rw [if_pos c] at h1 ⊢
      exact h1
    · rw [if_neg c] at h1 ⊢
      rw [pn_last (pn_T _) (so_set_ok (pn_T _) j) (fun q => absurd (so_set_mem.mp q).1 (Nat.lt_irrefl _))] at h1
      cases hd : (so_set (pn_lt (pn_key vec aim)) (pn_P P) j).getLast? with
      | none =>
        rw [hd] at h1
        rw [if_pos (show pn_o none < 0 by decide)]
        exact h1
      | some y =>
        rw [hd] at h1
        have hy : y < 30 := Nat.lt_of_lt_of_le (pf_llt hd) (by omega)
        rw [if_neg (show ¬ pn_o (some y) < 0 from pn_neg hy)]
        show (f_Mo_isNearer N vec aim (nI y) (nI j)).bind _ = _
        rw [pn_isNearer hN vec aim hy (show j < 30 by omega), Option.bind_some]
        by_cases q : pn_lt (pn_key vec aim) y j = true
        · simp only [if_pos q] at h1 ⊢
          rw [if_neg (show ¬ (1 : Int32) = 0 by decide)]
          exact h1
        · simp only [if_neg q] at h1 ⊢
          rw [if_pos trivial]
          exact h1
theorem pf_farthest_held {N : Nat} (hN : 31 ≤ N) (vec aim P : Nat → Int32) : f_Mo_farthest_held N vec aim P = some (pn_o (so_set (pn_lt (pn_key vec aim)) (pn_P P) 30).getLast?) := by
  have h := pf_farthest_held_4 (show 5 ≤ N by omega) vec aim P 30 0 (N - 31) rfl
  rw [show N - 31 + 30 + 1 = N by omega] at h
  exact h
theorem pf_cnt (lt : Nat → Nat → Bool) (P : Nat → Int32) : ∀ n : Nat, pd_cnt P n = (so_set lt (pn_P P) n).length
  | 0 => rfl
  | n + 1 => by
    rw [pn_step, pd_cnt]
    by_cases c : P n = 0
    · rw [if_pos c, if_pos c]
      exact pf_cnt lt P n
    · rw [if_neg c, if_neg c, so_len, pf_cnt lt P n]
theorem pf_size {N : Nat} (hN : 31 ≤ N) (lt : Nat → Nat → Bool) (P : Nat → Int32) : f_Mo_size N P = some (nI (so_set lt (pn_P P) 30).length) := by
  rw [pd_size hN, pf_cnt lt]
/-- one more, one less: what the list of a set's members does -/
theorem pf_add {lt : Nat → Nat → Bool} (T : so_T lt) {P : Nat → Int32} {x : Nat} {v : Int32} (hx : x < 30) (h0 : P x = 0) (hv : v ≠ 0) : so_set lt (pn_P (upd P x v)) 30 = so_ins lt x (so_set lt (pn_P P) 30) := by
  have hn : x ∉ so_set lt (pn_P P) 30 := fun q => by
    have := (so_set_mem.mp q).2
    unfold pn_P at this
    rw [decide_eq_true_iff] at this
    exact this h0
  refine so_uniq T (so_set_ok T _) (so_ins_ok T (so_set_ok T _) hn) (fun a => ?_)
  rw [so_mem, so_set_mem, so_set_mem]
  unfold pn_P
  simp only [decide_eq_true_iff]
  by_cases e : a = x
  · subst e
    rw [pk_us]
    exact ⟨fun _ => Or.inl rfl, fun _ => ⟨hx, hv⟩⟩
  · rw [pk_un e]
    exact ⟨fun q => Or.inr q, fun q => q.elim (fun r => absurd r e) id⟩
theorem pf_del {lt : Nat → Nat → Bool} (T : so_T lt) {P : Nat → Int32} {x : Nat} : so_set lt (pn_P (upd P x 0)) 30 = (so_set lt (pn_P P) 30).filter (fun a => a != x) := by
  refine so_uniq T (so_set_ok T _) (List.Pairwise.filter _ (so_set_ok T _)) (fun a => ?_)
  rw [List.mem_filter, so_set_mem, so_set_mem]
  unfold pn_P
  simp only [decide_eq_true_iff, bne_iff_ne]
  by_cases e : a = x
  · subst e
    rw [pk_us]
    simp
  · rw [pk_un e]
    simp [e]
end
section
/-! PURE: a ranking is a list in order -/
theorem pr_getD {lt : Nat → Nat → Bool} {x : Nat} : ∀ (l : List Nat) (p : Nat), (∀ i, i < p → ¬ lt x (l.getD i 0) = true) → (∀ i, p ≤ i → i < l.length → lt x (l.getD i 0) = true) → p ≤ l.length → ∀ i, (so_ins lt x l).getD i 0 = if i < p then l.getD i 0 else if i = p then x else l.getD (i - 1) 0
  | [], p, _, _, h3, i => by
    have hp : p = 0 := by simpa using h3
    subst hp
    cases i with
    | zero => simp [so_ins]
    | succ i => simp [so_ins]
  | y :: l, 0, _, h2, _, i => by
    have h : lt x y = true := h2 0 (Nat.le_refl _) (by simp)
    unfold so_ins
    rw [if_pos h]
    cases i with
    | zero => simp
    | succ i => simp
  | y :: l, p + 1, h1, h2, h3, i => by
    have h : ¬ lt x y = true := h1 0 (Nat.succ_pos _)
    unfold so_ins
    rw [if_neg h]
    cases i with
    | zero => simp
    | succ i =>
      have ih := pr_getD l p (fun j hj => by have := h1 (j + 1) (by omega); simpa using this) (fun j hj hl => by have := h2 (j + 1) (by omega) (by simpa using hl); simpa using this) (by simpa using h3) i
      rw [List.getD_cons_succ, ih, List.getD_cons_succ]
      by_cases c : i < p
      · rw [if_pos c, if_pos (show i + 1 < p + 1 by omega)]
      · rw [if_neg c, if_neg (show ¬ i + 1 < p + 1 by omega)]
        by_cases d : i = p
        · rw [if_pos d, if_pos (show i + 1 = p + 1 by omega)]
        · rw [if_neg d, if_neg (show ¬ i + 1 = p + 1 by omega)]
          obtain ⟨j, rfl⟩ : ∃ j, i = j + 1 := ⟨i - 1, by omega⟩
          simp
theorem pr_prec0 (N : Nat) (u v : Int32) {a b : Nat} (ha : a < 30) (hb : b < 30) : f_Rk_precedes N 0 (nI a) u (nI b) v = some (if u < v ∨ u = v ∧ a < b then 1 else 0) := by
  unfold f_Rk_precedes
  by_cases h : u = v
  · rw [if_pos h]
    by_cases c : a < b
    · rw [if_neg (show ¬ nI b ≤ nI a from nI_ge c (by omega)), if_pos (Or.inr ⟨h, c⟩)]
    · rw [if_pos (show nI b ≤ nI a from nI_le (by omega) (by omega)), if_neg (fun q => q.elim (fun r => by rw [h, Int32.lt_iff_toInt_lt] at r; omega) (fun r => c r.2))]
  · rw [if_neg h]
    by_cases c : u ≤ v
    · have hlt : u < v := by
        rw [Int32.lt_iff_toInt_lt]
        rw [Int32.le_iff_toInt_le] at c
        rw [← Int32.toInt_inj] at h
        omega
      rw [if_pos c, if_pos rfl, if_pos (Or.inl hlt)]
    · rw [if_neg c, if_neg (by decide), if_neg (fun q => q.elim (fun r => c (by rw [Int32.lt_iff_toInt_lt] at r; rw [Int32.le_iff_toInt_le]; omega)) (fun r => h r.1))]
theorem pr_prec1 (N : Nat) (u v : Int32) {a b : Nat} (ha : a < 30) (hb : b < 30) : f_Rk_precedes N 1 (nI a) u (nI b) v = some (if v < u ∨ u = v ∧ a < b then 1 else 0) := by
  unfold f_Rk_precedes
  by_cases h : u = v
  · rw [if_pos h]
    by_cases c : a < b
    · rw [if_neg (show ¬ nI b ≤ nI a from nI_ge c (by omega)), if_pos (Or.inr ⟨h, c⟩)]
    · rw [if_pos (show nI b ≤ nI a from nI_le (by omega) (by omega)), if_neg (fun q => q.elim (fun r => by rw [h, Int32.lt_iff_toInt_lt] at r; omega) (fun r => c r.2))]
  · rw [if_neg h]
    by_cases c : u ≤ v
    · rw [if_pos c, if_neg (by decide), if_neg (fun q => q.elim (fun r => by rw [Int32.lt_iff_toInt_lt] at r; rw [Int32.le_iff_toInt_le] at c; omega) (fun r => h r.1))]
    · have hlt : v < u := by
        rw [Int32.lt_iff_toInt_lt]
        rw [Int32.le_iff_toInt_le] at c
        omega
      rw [if_neg c, if_pos rfl, if_pos (Or.inl hlt)]
/-- the members of a ranking stand in its rows -/
def pr_A (key : Nat → Int32) (l : List Nat) (nums vals : Nat → Int32) : Prop := ∀ i, i < l.length → nums i = nI (l.getD i 0) ∧ vals i = key (l.getD i 0)
theorem pr_m1 {p : Nat} : nI (p + 1) + (-1) = nI p := pk_m1 p
theorem pr_62 {N : Nat} {gf : Int32} {key : Nat → Int32} {lt : Nat → Nat → Bool} {x : Nat} {l : List Nat} (T : so_T lt) (hp : ∀ a b, a < 30 → b < 30 → f_Rk_precedes N gf (nI a) (key a) (nI b) (key b) = some (if lt a b = true then 1 else 0)) (hx : x < 30) (hl : ∀ a ∈ l, a < 30) (hlen : l.length < 30) (hs : so_ok lt l) (sz : Int32) : ∀ (p m : Nat) (nums vals : Nat → Int32), p ≤ l.length → (∀ i, i < p → nums i = nI (l.getD i 0) ∧ vals i = key (l.getD i 0)) → (∀ i, p ≤ i → i < l.length → nums (i + 1) = nI (l.getD i 0) ∧ vals (i + 1) = key (l.getD i 0)) → (∀ i, p ≤ i → i < l.length → lt x (l.getD i 0) = true) →
    ∃ nums' vals', f_Rk_add_62 N gf (nI x) (key x) (m + p + 1) nums vals sz (nI p) = some (1, nums', vals', sz + 1) ∧ pr_A key (so_ins lt x l) nums' vals' := by
  have fin : ∀ (p : Nat) (nums vals : Nat → Int32), p ≤ l.length → (∀ i, i < p → nums i = nI (l.getD i 0) ∧ vals i = key (l.getD i 0)) → (∀ i, p ≤ i → i < l.length → nums (i + 1) = nI (l.getD i 0) ∧ vals (i + 1) = key (l.getD i 0)) → (∀ i, i < p → ¬ lt x (l.getD i 0) = true) → (∀ i, p ≤ i → i < l.length → lt x (l.getD i 0) = true) → pr_A key (so_ins lt x l) (upd nums p (nI x)) (upd vals p (key x)) := by
    intro p nums vals h0 h1 h2 h3 h4 i hi
    rw [so_len] at hi
    rw [pr_getD l p h3 h4 h0 i]
    by_cases c : i < p
    · rw [if_pos c, pk_un (by omega), pk_un (by omega)]
      exact h1 i c
    · rw [if_neg c]
      by_cases d : i = p
      · subst d
        rw [if_pos rfl, pk_us, pk_us]
        exact ⟨rfl, rfl⟩
      · rw [if_neg d, pk_un d, pk_un d]
        obtain ⟨j, rfl⟩ : ∃ j, i = j + 1 := ⟨i - 1, by omega⟩
        exact h2 j (by omega) (by omega)
  intro p
  induction p with
  | zero =>
    intro m nums vals h0 h1 h2 h4
    refine ⟨_, _, ?_, fin 0 nums vals h0 h1 h2 (fun i hi => absurd hi (Nat.not_lt_zero _)) h4⟩
    rw [f_Rk_add_62, if_pos (by decide), pb_at (show 0 < 30 by decide) (by decide), pb_at (show 0 < 30 by decide) (by decide)]
    rfl
  | succ p ih =>
    intro m nums vals h0 h1 h2 h4
    have hgm : l.getD p 0 ∈ l := by
      rw [List.getD_eq_getElem?_getD, List.getElem?_eq_getElem (by omega)]
      exact List.getElem_mem _
    have e1 : nI (p + 1) - 1 = nI p := nI_pred p
    have hstep : f_Rk_add_62 N gf (nI x) (key x) (m + (p + 1) + 1) nums vals sz (nI (p + 1)) = (f_Rk_precedes N gf (nI x) (key x) (nI (l.getD p 0)) (key (l.getD p 0))).bind fun p17 => (if p17 = 0 then (some (1, upd nums (p + 1) (nI x), upd vals (p + 1) (key x), sz + 1)) else f_Rk_add_62 N gf (nI x) (key x) (m + p + 1) (upd nums (p + 1) (nums p)) (upd vals (p + 1) (vals p)) sz (nI p)) := by
      rw [show m + (p + 1) + 1 = (m + p + 1) + 1 from rfl, f_Rk_add_62, if_neg (show ¬ nI (p + 1) ≤ 0 from nI_nle (by omega) (by omega)), e1]
      simp only [pb_at (show p < 30 by omega) (show 30 < 2147483648 by decide), pb_at (show p + 1 < 30 by omega) (show 30 < 2147483648 by decide), pd_cl (show p < 2147483648 by omega), pd_cl (show p + 1 < 2147483648 by omega), pr_m1]
      rw [(h1 p (by omega)).1, (h1 p (by omega)).2]
    rw [hp x _ hx (hl _ hgm), Option.bind_some] at hstep
    by_cases c : lt x (l.getD p 0) = true
    · rw [if_pos c, if_neg (show ¬ (1 : Int32) = 0 by decide)] at hstep
      rw [hstep]
      refine ih m _ _ (by omega) (fun i hi => ?_) (fun i hi hi2 => ?_) (fun i hi hi2 => ?_)
      · rw [pk_un (by omega), pk_un (by omega)]
        exact h1 i (by omega)
      · by_cases d : i = p
        · subst d
          rw [pk_us, pk_us]
          exact h1 i (by omega)
        · rw [pk_un (by omega), pk_un (by omega)]
          exact h2 i (by omega) hi2
      · by_cases d : i = p
        · subst d
          exact c
        · exact h4 i (by omega) hi2
    · rw [if_neg c, if_pos rfl] at hstep
      rw [hstep]
      refine ⟨_, _, rfl, fin (p + 1) nums vals h0 h1 h2 (fun i hi q => ?_) h4⟩
      by_cases d : i = p
      · subst d
        exact c q
      · have hlt : lt (l.getD i 0) (l.getD p 0) = true := by
          rw [List.getD_eq_getElem?_getD, List.getD_eq_getElem?_getD, List.getElem?_eq_getElem (by omega), List.getElem?_eq_getElem (by omega)]
          exact List.pairwise_iff_getElem.mp hs i p (by omega) (by omega) (by omega)
        exact c (T.2.1 _ _ _ q hlt)
end
section
/-! PURE: a ranking with room: what add does -/
def pa_add (lt : Nat → Nat → Bool) (room x : Nat) (l : List Nat) : Bool × List Nat := if l.length < room then (true, so_ins lt x l) else match l.getLast? with
  | none => (false, l)
  | some y => if lt x y = true then (true, so_ins lt x l.dropLast) else (false, l)
theorem pa_drop {l : List Nat} {i : Nat} (h : i < l.dropLast.length) : l.dropLast.getD i 0 = l.getD i 0 := by
  have h2 : i < l.length := by rw [List.length_dropLast] at h; omega
  rw [List.getD_eq_getElem?_getD, List.getD_eq_getElem?_getD, List.getElem?_eq_getElem h, List.getElem?_eq_getElem h2, List.getElem_dropLast]
theorem pa_last {l : List Nat} {y : Nat} (h : l.getLast? = some y) : l.getD (l.length - 1) 0 = y ∧ 0 < l.length := by
  have hne : l ≠ [] := fun q => by rw [q] at h; cases h
  have hpos : 0 < l.length := List.length_pos_iff.mpr hne
  refine ⟨?_, hpos⟩
  rw [List.getLast?_eq_getElem?] at h
  rw [List.getD_eq_getElem?_getD, h]
  rfl
theorem pa_ok {N : Nat} (hN : 31 ≤ N) {gf : Int32} {key : Nat → Int32} {lt : Nat → Nat → Bool} {x room : Nat} {l : List Nat} (T : so_T lt) (hp : ∀ a b, a < 30 → b < 30 → f_Rk_precedes N gf (nI a) (key a) (nI b) (key b) = some (if lt a b = true then 1 else 0)) (hx : x < 30) (hl : ∀ a ∈ l, a < 30) (hr : room ≤ 30) (hlr : l.length ≤ room) (hs : so_ok lt l) (nums vals : Nat → Int32) (hA : pr_A key l nums vals) :
    ∃ nums' vals', f_Rk_add N nums vals (nI l.length) (nI room) gf (nI x) (key x) = some (if (pa_add lt room x l).1 = true then 1 else 0, nums', vals', nI (pa_add lt room x l).2.length) ∧ pr_A key (pa_add lt room x l).2 nums' vals' := by
  unfold f_Rk_add f_Rk_isFull
  by_cases c : l.length < room
  · obtain ⟨n1, v1, h1, h2⟩ := pr_62 T hp hx hl (by omega) hs (nI l.length) l.length (N - l.length - 1) nums vals (Nat.le_refl _) hA (fun i h3 h4 => absurd h4 (by omega)) (fun i h3 h4 => absurd h4 (by omega))
    rw [show N - l.length - 1 + l.length + 1 = N by omega] at h1
    refine ⟨n1, v1, ?_, ?_⟩
    · rw [if_pos (nI_lt c (by omega)), Option.bind_some, if_pos rfl, h1, nI_1]
      unfold pa_add
      rw [if_pos c, so_len]
      rfl
    · unfold pa_add
      rw [if_pos c]
      exact h2
  · rw [if_neg (nI_nlt (show room ≤ l.length by omega) (by omega)), Option.bind_some, if_neg (show ¬ (1 : Int32) = 0 by decide)]
    unfold pa_add
    rw [if_neg c]
    cases hd : l.getLast? with
    | none =>
      have h0 : l = [] := List.getLast?_eq_none_iff.mp hd
      subst h0
      refine ⟨nums, vals, ?_, hA⟩
      rw [if_pos (show nI ([] : List Nat).length = 0 from rfl)]
      rfl
    | some y =>
      obtain ⟨hy, hpos⟩ := pa_last hd
      obtain ⟨q, hq⟩ : ∃ q, l.length = q + 1 := ⟨l.length - 1, by omega⟩
      have hym : y ∈ l := List.mem_of_getLast? hd
      have hq30 : q < 30 := by omega
      have a1 := hA q (by omega)
      rw [show l.length - 1 = q by omega] at hy
      rw [hy] at a1
      rw [hq, if_neg (nI_ne0 (by omega) (by omega)), nI_pred, pb_at hq30 (by decide), pb_at hq30 (by decide), pd_cl (show q < 2147483648 by omega), a1.1, a1.2, hp x y hx (hl y hym), Option.bind_some]
      by_cases d : lt x y = true
      · simp only [if_pos d]
        rw [if_neg (show ¬ (1 : Int32) = 0 by decide)]
        have hdl : l.dropLast.length = q := by rw [List.length_dropLast, hq]; rfl
        obtain ⟨n1, v1, h1, h2⟩ := pr_62 (l := l.dropLast) T hp hx (fun a ha => hl a ((List.dropLast_sublist l).subset ha)) (by omega) (List.Pairwise.sublist (List.dropLast_sublist l) hs) (nI q) q (N - q - 1) nums vals (by omega) (fun i hi => by rw [pa_drop (by omega)]; exact hA i (by omega)) (fun i h3 h4 => absurd h4 (by omega)) (fun i h3 h4 => absurd h4 (by omega))
        rw [show N - q - 1 + q + 1 = N by omega] at h1
        refine ⟨n1, v1, ?_, h2⟩
        rw [h1, nI_1, so_len, hdl]
        rfl
      · simp only [if_neg d]
        refine ⟨nums, vals, ?_, hA⟩
        rw [if_pos trivial, ← hq]
        rfl
end
section
/-! PURE: a ranking without its first -/
theorem pq_drop_2 {N : Nat} {key : Nat → Int32} {t : List Nat} (ht : t.length < 30) : ∀ (k j m : Nat) (nums vals : Nat → Int32), j + k = t.length + 1 → 1 ≤ j → (∀ i, i + 1 < j → nums i = nI (t.getD i 0) ∧ vals i = key (t.getD i 0)) → (∀ i, j ≤ i → i < t.length + 1 → nums i = nI (t.getD (i - 1) 0) ∧ vals i = key (t.getD (i - 1) 0)) →
    ∃ nums' vals', f_Rk_dropFirst_2 N (nI (t.length + 1)) (m + k + 1) nums vals (nI j) = some (nums', vals', nI t.length) ∧ pr_A key t nums' vals' := by
  intro k
  induction k with
  | zero =>
    intro j m nums vals hj h1 h2 h3
    refine ⟨nums, vals, ?_, fun i hi => h2 i (by omega)⟩
    rw [f_Rk_dropFirst_2, if_pos (nI_le (show t.length + 1 ≤ j by omega) (by omega)), nI_pred]
    by_cases c : 0 < t.length
    · rw [if_pos (show (0 : Int32) < nI t.length from nI_lt (a := 0) c (by omega))]
    · have h0 : t.length = 0 := by omega
      rw [h0]
      rfl
  | succ k ih =>
    intro j m nums vals hj h1 h2 h3
    obtain ⟨q, rfl⟩ : ∃ q, j = q + 1 := ⟨j - 1, by omega⟩
    have hs : f_Rk_dropFirst_2 N (nI (t.length + 1)) (m + (k + 1) + 1) nums vals (nI (q + 1)) = f_Rk_dropFirst_2 N (nI (t.length + 1)) (m + k + 1) (upd nums q (nums (q + 1))) (upd vals q (vals (q + 1))) (nI (q + 1 + 1)) := by
      rw [show m + (k + 1) + 1 = (m + k + 1) + 1 from rfl, f_Rk_dropFirst_2, if_neg (nI_ge (show q + 1 < t.length + 1 by omega) (by omega)), nI_pred]
      simp only [pb_at (show q < 30 by omega) (show 30 < 2147483648 by decide), pb_at (show q + 1 < 30 by omega) (show 30 < 2147483648 by decide), pd_cl (show q < 2147483648 by omega), pd_cl (show q + 1 < 2147483648 by omega), nI_1]
    rw [hs]
    have a1 := h3 (q + 1) (Nat.le_refl _) (by omega)
    refine ih (q + 1 + 1) m _ _ (by omega) (by omega) (fun i hi => ?_) (fun i hi hi2 => ?_)
    · by_cases d : i = q
      · subst d
        rw [pk_us, pk_us]
        exact a1
      · rw [pk_un d, pk_un d]
        exact h2 i (by omega)
    · rw [pk_un (by omega), pk_un (by omega)]
      exact h3 i (by omega) hi2
theorem pq_drop {N : Nat} (hN : 31 ≤ N) {key : Nat → Int32} {y : Nat} {t : List Nat} (ht : t.length < 30) (nums vals : Nat → Int32) (hA : pr_A key (y :: t) nums vals) : ∃ nums' vals', f_Rk_dropFirst N nums vals (nI (y :: t).length) = some (nums', vals', nI t.length) ∧ pr_A key t nums' vals' := by
  have h := pq_drop_2 (N := N) (key := key) ht t.length 1 (N - t.length - 1) nums vals (by omega) (Nat.le_refl _) (fun i hi => absurd hi (by omega)) (fun i h1 h2 => by
    have := hA i (by simpa using h2)
    obtain ⟨j, rfl⟩ : ∃ j, i = j + 1 := ⟨i - 1, by omega⟩
    rw [List.getD_cons_succ] at this
    exact this)
  rw [show N - t.length - 1 + t.length + 1 = N by omega] at h
  exact h
end
section
/-! PURE: the rest of a ranking -/
theorem pl_lastPrecedes {N : Nat} {gf : Int32} {key : Nat → Int32} {lt : Nat → Nat → Bool} {n : Nat} {l : List Nat} (hp : ∀ a b, a < 30 → b < 30 → f_Rk_precedes N gf (nI a) (key a) (nI b) (key b) = some (if lt a b = true then 1 else 0)) (hn : n < 30) (hl : ∀ a ∈ l, a < 30) (hlen : l.length ≤ 30) (nums vals : Nat → Int32) (hA : pr_A key l nums vals) :
    f_Rk_lastPrecedes N nums vals (nI l.length) gf (nI n) (key n) = some (match l.getLast? with | none => 0 | some y => if lt y n = true then 1 else 0) := by
  unfold f_Rk_lastPrecedes
  cases hd : l.getLast? with
  | none =>
    have h0 : l = [] := List.getLast?_eq_none_iff.mp hd
    subst h0
    rw [if_pos (show nI ([] : List Nat).length ≤ 0 by decide)]
  | some y =>
    obtain ⟨hy, hpos⟩ := pa_last hd
    obtain ⟨q, hq⟩ : ∃ q, l.length = q + 1 := ⟨l.length - 1, by omega⟩
    have a1 := hA q (by omega)
    rw [show l.length - 1 = q by omega] at hy
    rw [hy] at a1
    rw [hq, if_neg (nI_nle (by omega) (by omega)), nI_pred, pb_at (show q < 30 by omega) (by decide), pb_at (show q < 30 by omega) (by decide), pd_cl (show q < 2147483648 by omega), a1.1, a1.2, hp y n (hl y (List.mem_of_getLast? hd)) hn, Option.bind_some]
    by_cases c : lt y n = true
    · simp only [if_pos c]
      rw [if_neg (show ¬ (1 : Int32) = 0 by decide)]
    · simp only [if_neg c]
      rw [if_pos trivial]
theorem pl_isFull (N : Nat) {a b : Nat} (ha : a ≤ 30) (hb : b ≤ 30) : f_Rk_isFull N (nI a) (nI b) = some (if b ≤ a then 1 else 0) := by
  unfold f_Rk_isFull
  by_cases c : b ≤ a
  · rw [if_neg (nI_nlt c (by omega)), if_pos c]
  · rw [if_pos (nI_lt (show a < b by omega) (by omega)), if_neg c]
theorem pl_min {a : Nat} (ha : a ≤ 30) : (if (30 : Int32) < nI a then 30 else nI a) = nI a := by
  rw [if_neg (show ¬ (30 : Int32) < nI a from nI_nlt (a := 30) (b := a) ha (by decide))]
theorem pl_start (N : Nat) {r : Nat} (hr : r ≤ 30) : f_Rk_start N (nI r) 0 = some (0, nI r, 0) ∧ f_Rk_start N (nI r) 1 = some (0, nI r, 1) := by
  unfold f_Rk_start
  rw [if_neg (show ¬ (0 : Int32) = 1 by decide), if_pos rfl, pl_min hr]
  exact ⟨rfl, rfl⟩
theorem pl_changeRoom (N : Nat) {s r : Nat} (hs : s ≤ 30) (hr : r ≤ 30) : f_Rk_changeRoom N (nI s) (nI r) = some (nI (min s r), nI r) := by
  unfold f_Rk_changeRoom
  rw [pl_min hr]
  by_cases c : r < s
  · rw [if_pos (nI_lt c (by omega)), Nat.min_eq_right (by omega)]
  · rw [if_neg (nI_nlt (show s ≤ r by omega) (by omega)), Nat.min_eq_left (by omega)]
theorem pl_take {key : Nat → Int32} {l : List Nat} {nums vals : Nat → Int32} (h : pr_A key l nums vals) (r : Nat) : pr_A key (l.take r) nums vals := by
  intro i hi
  rw [List.length_take] at hi
  have := h i (by omega)
  rw [List.getD_eq_getElem?_getD, List.getElem?_take_of_lt (by omega), ← List.getD_eq_getElem?_getD]
  exact this
end
section
/-! PURE: sets as bits of one number -/
theorem pm_s : ∀ n, n < 32 → ((nI n &&& 31).toBitVec.smod 32).toNat = n := by decide
theorem pm_isIn (N : Nat) {M n : Nat} (hM : M < 2 ^ 30) (hn : n < 30) : f_Nd_isIn N (nI M) (nI n) = some (if M.testBit n = true then 1 else 0) := by
  unfold f_Nd_isIn
  rw [pk_shrN (by omega) _ n (pm_s n (by omega)), show (1 : Int32) = nI 1 from rfl, pk_andN (m := nI 1) (n := M / 2 ^ n) (by have := Nat.div_le_self M (2 ^ n); omega) 1 rfl]
  have e : M.testBit n = decide (M / 2 ^ n % 2 = 1) := Nat.testBit_eq_decide_div_mod_eq
  rw [e]
  rcases Nat.mod_two_eq_zero_or_one (M / 2 ^ n) with h | h
  · simp [h, nI_0]
  · simp [h]
    decide
theorem pm_or (a b : Nat) : nI a ||| nI b = nI (a ||| b) := by
  apply Int32.toBitVec_inj.mp
  show (nI a).toBitVec ||| (nI b).toBitVec = (nI (a ||| b)).toBitVec
  show BitVec.ofNat 32 a ||| BitVec.ofNat 32 b = BitVec.ofNat 32 (a ||| b)
  apply BitVec.eq_of_getLsbD_eq
  intro i hi
  simp [BitVec.getLsbD_or, BitVec.getLsbD_ofNat, hi]
theorem pm_shl {n : Nat} (hn : n < 30) : (1 : Int32) <<< (nI n &&& 31) = nI (2 ^ n) := by
  have h : 2 ^ n < 2 ^ 30 := Nat.pow_lt_pow_right (by decide) hn
  rw [show (1 : Int32) = nI 1 from rfl, pk_shlN _ n (pm_s n (by omega)) (by omega), Nat.one_mul]
theorem pm_set {M n : Nat} (hn : n < 30) : nI M ||| ((1 : Int32) <<< (nI n &&& 31)) = nI (M ||| 2 ^ n) := by
  rw [pm_shl hn, pm_or]
theorem pm_set_lt {M n : Nat} (hM : M < 2 ^ 30) (hn : n < 30) : M ||| 2 ^ n < 2 ^ 30 := Nat.or_lt_two_pow hM (Nat.pow_lt_pow_right (by decide) hn)
theorem pm_set_bit (M n i : Nat) : (M ||| 2 ^ n).testBit i = (M.testBit i || decide (n = i)) := by
  rw [Nat.testBit_or, Nat.testBit_two_pow]
end
section
/-! PURE: one look of the reference is one add to a ranking -/
theorem pz_30 : (30 : Int32) = nI 30 := rfl
theorem pz_4 : (4 : Int32) = nI 4 := rfl
theorem pz_0 : (0 : Int32) = nI 0 := rfl
theorem pz_n1 : vp_nar .boolean 1 = 1 := by decide
theorem pz_n0 : vp_nar .boolean 0 = 0 := by decide
theorem pz_10 : (1 : Int32) ≠ 0 := by decide
theorem pw_fil {lt : Nat → Nat → Bool} (T : so_T lt) {x y : Nat} {l : List Nat} (hs : so_ok lt l) (h : l.getLast? = some y) (hx : x ∉ l) : (so_ins lt x l).filter (fun a => a != y) = so_ins lt x l.dropLast := by
  obtain ⟨t, rfl⟩ := List.getLast?_eq_some_iff.mp h
  have hs2 := List.pairwise_append.mp hs
  have hyt : y ∉ t := fun q => by
    have := hs2.2.2 y q y List.mem_cons_self
    rw [T.1] at this
    cases this
  rw [List.dropLast_concat]
  have hxt : x ∉ t := fun q => hx (List.mem_append_left _ q)
  have hxy : x ≠ y := fun e => hx (by rw [e]; exact List.mem_append_right _ List.mem_cons_self)
  refine so_uniq T (List.Pairwise.filter _ (so_ins_ok T hs hx)) (so_ins_ok T hs2.1 hxt) (fun a => ?_)
  rw [List.mem_filter, so_mem, so_mem, List.mem_append, List.mem_singleton, bne_iff_ne]
  constructor
  · rintro ⟨h1 | h1 | h1, h2⟩
    · exact Or.inl h1
    · exact Or.inr h1
    · exact absurd h1 h2
  · rintro (h1 | h1)
    · exact ⟨Or.inl h1, by rw [h1]; exact hxy⟩
    · exact ⟨Or.inr (Or.inl h1), fun e => hyt (by rw [← e]; exact h1)⟩
theorem pa_full {lt : Nat → Nat → Bool} {room x y : Nat} {l : List Nat} (c : ¬ l.length < room) (h : l.getLast? = some y) : pa_add lt room x l = if lt x y = true then (true, so_ins lt x l.dropLast) else (false, l) := by
  unfold pa_add
  rw [if_neg c, h]
theorem pw_set_mem {lt : Nat → Nat → Bool} {P : Nat → Int32} {x : Nat} (hx : x < 30) : x ∈ so_set lt (pn_P P) 30 ↔ P x ≠ 0 := by
  rw [so_set_mem]
  unfold pn_P
  rw [decide_eq_true_iff]
  exact ⟨fun h => h.2, fun h => ⟨hx, h⟩⟩
theorem pw_nil {lt : Nat → Nat → Bool} {P : Nat → Int32} {x : Nat} (h : P x = 0) : x ∉ so_set lt (pn_P P) 30 := fun q => by
  have := (so_set_mem.mp q).2
  unfold pn_P at this
  rw [decide_eq_true_iff] at this
  exact this h
theorem pw_look {N : Nat} (hN : 31 ≤ N) (vec aim sn hd op : Nat → Int32) {x w : Nat} {l o : List Nat} (hx : x < 30) (hw0 : 0 < w) (hw : w ≤ 30) (hl : so_set (pn_lt (pn_key vec aim)) (pn_P hd) 30 = l) (ho : so_set (pn_lt (pn_key vec aim)) (pn_P op) 30 = o) (hlw : l.length ≤ w) (h0 : sn x = 0) (h1 : hd x = 0) (h2 : op x = 0) :
    ∃ hd' op', f_Mo_look N vec aim sn hd op (nI x) (nI w) = some (upd sn x 1, hd', op') ∧ so_set (pn_lt (pn_key vec aim)) (pn_P hd') 30 = (pa_add (pn_lt (pn_key vec aim)) w x l).2 ∧ so_set (pn_lt (pn_key vec aim)) (pn_P op') 30 = if (pa_add (pn_lt (pn_key vec aim)) w x l).1 = true then so_ins (pn_lt (pn_key vec aim)) x o else o := by
  have T := pn_T (pn_key vec aim)
  have N31 : 30 < 2147483648 := by decide
  have hxl : x ∉ l := by rw [← hl]; exact pw_nil h1
  have hs : so_ok (pn_lt (pn_key vec aim)) l := by rw [← hl]; exact so_set_ok T _
  have e1 : so_set (pn_lt (pn_key vec aim)) (pn_P (upd hd x 1)) 30 = so_ins (pn_lt (pn_key vec aim)) x l := by rw [pf_add T hx h1 pz_10, hl]
  have e2 : so_set (pn_lt (pn_key vec aim)) (pn_P (upd op x 1)) 30 = so_ins (pn_lt (pn_key vec aim)) x o := by rw [pf_add T hx h2 pz_10, ho]
  unfold f_Mo_look
  simp only [pb_at hx N31, pd_cl (show x < 2147483648 by omega), pz_n1, pz_n0]
  rw [if_pos h0, pf_size hN (pn_lt (pn_key vec aim)), hl, Option.bind_some]
  by_cases c : l.length < w
  · rw [if_neg (fun q => by rw [nI_eq (by omega) (by omega)] at q; omega), pf_size hN (pn_lt (pn_key vec aim)), e1, Option.bind_some, so_len, if_pos (nI_le (by omega) (by omega))]
    refine ⟨_, _, rfl, ?_, ?_⟩
    · rw [e1]; unfold pa_add; rw [if_pos c]
    · rw [e2]; unfold pa_add; rw [if_pos c, if_pos rfl]
  · have hlw2 : l.length = w := by omega
    rw [if_pos (by rw [hlw2]), pf_farthest_held hN, hl, Option.bind_some]
    cases hd0 : l.getLast? with
    | none =>
      have := List.getLast?_eq_none_iff.mp hd0
      rw [this] at hlw2
      exact absurd hlw2 (by simp; omega)
    | some y =>
      rw [pa_full c hd0]
      have hym : y ∈ l := List.mem_of_getLast? hd0
      have hy : y < 30 := by rw [← hl] at hym; exact (so_set_mem.mp hym).1
      simp only [pn_o]
      rw [pn_isNearer (by omega) vec aim hx hy, Option.bind_some]
      by_cases d : pn_lt (pn_key vec aim) x y = true
      · simp only [if_pos d]
        rw [if_neg pz_10, pf_size hN (pn_lt (pn_key vec aim)), e1, Option.bind_some, so_len, if_neg (nI_ge (by omega) (by omega)), pf_farthest_held hN, e1, Option.bind_some, pn_last T hs hxl, hd0]
        simp only [if_neg (so_asym T d), pn_o]
        rw [pb_at hy N31, pd_cl (show y < 2147483648 by omega)]
        refine ⟨_, _, rfl, ?_, ?_⟩
        · rw [pf_del T, e1, pw_fil T hs hd0 hxl]
        · rw [e2, if_pos trivial]
      · simp only [if_neg d]
        rw [if_pos trivial]
        exact ⟨_, _, rfl, hl, by rw [ho]; rfl⟩
theorem pw_seen {N : Nat} (vec aim sn hd op : Nat → Int32) {x : Nat} (w : Int32) (hx : x < 30) (h0 : sn x ≠ 0) : f_Mo_look N vec aim sn hd op (nI x) w = some (sn, hd, op) := by
  unfold f_Mo_look
  rw [pb_at hx (by decide), pd_cl (show x < 2147483648 by omega), if_neg h0]
end
section
/-! PURE: looking around, in step -/
theorem wk_hp (N : Nat) (key : Nat → Int32) : ∀ a b, a < 30 → b < 30 → f_Rk_precedes N 0 (nI a) (key a) (nI b) (key b) = some (if pn_lt key a b = true then 1 else 0) := by
  intro a b ha hb
  rw [pr_prec0 N _ _ ha hb]
  unfold pn_lt
  simp only [decide_eq_true_iff]
theorem so_set_len {lt : Nat → Nat → Bool} {P : Nat → Bool} : ∀ n : Nat, (so_set lt P n).length ≤ n
  | 0 => Nat.le_refl 0
  | n + 1 => by
    have := so_set_len (lt := lt) (P := P) n
    unfold so_set
    by_cases h : P n = true
    · rw [if_pos h, so_len]; omega
    · rw [if_neg h]; omega
theorem wk_cnt {P : Nat → Int32} {x : Nat} (hx : x < 30) (h0 : P x = 0) : pd_cnt (upd P x 1) 30 = pd_cnt P 30 + 1 := by
  rw [pf_cnt (pn_lt (fun _ => 0)), pf_cnt (pn_lt (fun _ => 0)), pf_add (pn_T _) hx h0 pz_10, so_len]
theorem wk_cnt30 (P : Nat → Int32) : pd_cnt P 30 ≤ 30 := by
  rw [pf_cnt (pn_lt (fun _ => 0))]
  exact so_set_len _
theorem wk_x4 (n j : Nat) : nI n * 4 + nI j = nI (4 * n + j) := by
  rw [show (4 : Int32) = nI 4 from rfl, pk_mul, nI_add, Nat.mul_comm]
theorem wk_x7 (x i : Nat) : nI x * 7 + nI i = nI (7 * x + i) := by
  rw [show (7 : Int32) = nI 7 from rfl, pk_mul, nI_add, Nat.mul_comm]
theorem wk_7x (x i : Nat) : 7 * nI x + nI i = nI (7 * x + i) := by
  rw [show (7 : Int32) = nI 7 from rfl, pk_mul, nI_add]
theorem wk_7 (x : Nat) : 7 * nI x = nI (7 * x) := by
  rw [show (7 : Int32) = nI 7 from rfl, pk_mul]
def wk_R (key : Nat → Int32) (w : Nat) (P : Nat → Prop) (sn hd op : Nat → Int32) (l o : List Nat) (M : Nat) (hn hv on ov : Nat → Int32) : Prop :=
  so_set (pn_lt key) (pn_P hd) 30 = l ∧ so_set (pn_lt key) (pn_P op) 30 = o ∧ M < 2 ^ 30 ∧ (∀ a, a < 30 → (M.testBit a = true ↔ sn a ≠ 0)) ∧ (∀ a ∈ l, sn a ≠ 0 ∧ P a) ∧ (∀ a ∈ o, sn a ≠ 0 ∧ P a) ∧ l.length ≤ w ∧ pr_A key l hn hv ∧ pr_A key o on ov
theorem wk_look {N : Nat} (hN : 31 ≤ N) {vec aim dist D R : Nat → Int32} {P : Nat → Prop} {w : Nat} (hw0 : 0 < w) (hw : w ≤ 30) (hdist : ∀ a, a < 30 → dist a = pn_key vec aim a) {n layer d : Nat} (hn30 : n < 30) (hlay : layer < 4) (hd7 : d ≤ 7) (hD : D (4 * n + layer) = nI d) (e : Nat → Nat) (hR : ∀ i, i < d → R (7 * (4 * n + layer) + i) = nI (e i) ∧ e i < 30 ∧ P (e i)) :
    ∀ (k i m1 : Nat) (sn hd op : Nat → Int32) (l o : List Nat) (M : Nat) (hn hv on ov : Nat → Int32), i + k = d → wk_R (pn_key vec aim) w P sn hd op l o M hn hv on ov →
    ∃ sn' hd' op' l' o' M' hn' hv' on' ov', f_Wa_lookAround_3 N dist D R (nI layer) (nI n) (m1 + k + 1) (hn, hv, nI l.length, nI w, 0) (on, ov, nI o.length, nI 30, 0) (nI M) (nI i) = some ((hn', hv', nI l'.length, nI w, 0), (on', ov', nI o'.length, nI 30, 0), nI M') ∧ (∀ kk m2, f_Mo_walk_186 N vec R D aim (nI layer) (nI w) (nI n) kk (m2 + k + 1) sn hd op (nI (7 * (4 * n + layer) + i)) = kk sn' hd' op' (nI (7 * (4 * n + layer) + d))) ∧ wk_R (pn_key vec aim) w P sn' hd' op' l' o' M' hn' hv' on' ov' ∧ o'.length + pd_cnt sn 30 ≤ o.length + pd_cnt sn' 30 := by
  have N30 : 30 < 2147483648 := by decide
  have N120 : 120 < 2147483648 := by decide
  have N840 : 840 < 2147483648 := by decide
  intro k
  induction k with
  | zero =>
    intro i m1 sn hd op l o M hn hv on ov hi hW
    refine ⟨sn, hd, op, l, o, M, hn, hv, on, ov, ?_, ?_, hW, Nat.le_refl _⟩
    · rw [f_Wa_lookAround_3]
      unfold f_Li_degree
      rw [wk_x4, pb_at (by omega) N120, pd_cl (by omega), hD, Option.bind_some, if_pos (nI_le (by omega) (by omega))]
    · intro kk m2
      rw [f_Mo_walk_186, pd_4, pb_at (by omega) N120, pd_cl (show 4 * n + layer < 2147483648 by omega), hD, wk_7x, if_pos (nI_le (by omega) (by omega)), show i = d by omega]
  | succ k ih =>
    intro i m1 sn hd op l o M hn hv on ov hi hW
    obtain ⟨w1, w2, w3, w4, w5, w6, w7, w8, w9⟩ := hW
    obtain ⟨r1, r2, r3⟩ := hR i (by omega)
    have cls : f_Wa_lookAround_3 N dist D R (nI layer) (nI n) (m1 + (k + 1) + 1) (hn, hv, nI l.length, nI w, 0) (on, ov, nI o.length, nI 30, 0) (nI M) (nI i) = ((f_Nd_isIn N (nI M) (nI (e i))).bind fun p4 => (if p4 = 0 then ((f_Rk_add N hn hv (nI l.length) (nI w) 0 (nI (e i)) (dist (e i))).bind fun p8 => (if p8.1 = 0 then (f_Wa_lookAround_3 N dist D R (nI layer) (nI n) (m1 + k + 1) (p8.2.1, p8.2.2.1, p8.2.2.2, nI w, 0) (on, ov, nI o.length, nI 30, 0) (nI (M ||| 2 ^ (e i))) (nI (i + 1))) else ((f_Rk_add N on ov (nI o.length) (nI 30) 0 (nI (e i)) (dist (e i))).bind fun p12 => (f_Wa_lookAround_3 N dist D R (nI layer) (nI n) (m1 + k + 1) (p8.2.1, p8.2.2.1, p8.2.2.2, nI w, 0) (p12.2.1, p12.2.2.1, p12.2.2.2, nI 30, 0) (nI (M ||| 2 ^ (e i))) (nI (i + 1)))))) else (f_Wa_lookAround_3 N dist D R (nI layer) (nI n) (m1 + k + 1) (hn, hv, nI l.length, nI w, 0) (on, ov, nI o.length, nI 30, 0) (nI M) (nI (i + 1))))) := by
      rw [show m1 + (k + 1) + 1 = (m1 + k + 1) + 1 from rfl, f_Wa_lookAround_3]
      unfold f_Li_degree f_Li_linked
      rw [wk_x4, pb_at (show 4 * n + layer < 120 by omega) N120, pd_cl (show 4 * n + layer < 2147483648 by omega), hD, Option.bind_some, if_neg (nI_ge (show i < d by omega) (by omega)), wk_x7, pb_at (show 7 * (4 * n + layer) + i < 840 by omega) N840, pd_cl (show 7 * (4 * n + layer) + i < 2147483648 by omega), r1, Option.bind_some]
      simp only [pb_at r2 N30, pd_cl (show e i < 2147483648 by omega), pm_set r2, nI_1]
    have ref : ∀ kk m2, f_Mo_walk_186 N vec R D aim (nI layer) (nI w) (nI n) kk (m2 + (k + 1) + 1) sn hd op (nI (7 * (4 * n + layer) + i)) = ((f_Mo_look N vec aim sn hd op (nI (e i)) (nI w)).bind fun p52 => (f_Mo_walk_186 N vec R D aim (nI layer) (nI w) (nI n) kk (m2 + k + 1) p52.1 p52.2.1 p52.2.2 (nI (7 * (4 * n + layer) + (i + 1))))) := by
      intro kk m2
      rw [show m2 + (k + 1) + 1 = (m2 + k + 1) + 1 from rfl, f_Mo_walk_186, pd_4, pb_at (show 4 * n + layer < 120 by omega) N120, pd_cl (show 4 * n + layer < 2147483648 by omega), hD, wk_7x, if_neg (nI_ge (show 7 * (4 * n + layer) + i < 7 * (4 * n + layer) + d by omega) (by omega)), pb_at (show 7 * (4 * n + layer) + i < 840 by omega) N840, pd_cl (show 7 * (4 * n + layer) + i < 2147483648 by omega), r1, nI_1]
      rfl
    rw [cls]
    rw [pm_isIn N w3 r2, Option.bind_some]
    by_cases c : M.testBit (e i) = true
    · simp only [if_pos c]
      rw [if_neg pz_10]
      have hsx := (w4 _ r2).mp c
      obtain ⟨sn', hd', op', l', o', M', hn', hv', on', ov', h1, h2, h3, h4⟩ := ih (i + 1) m1 sn hd op l o M hn hv on ov (by omega) ⟨w1, w2, w3, w4, w5, w6, w7, w8, w9⟩
      refine ⟨sn', hd', op', l', o', M', hn', hv', on', ov', h1, ?_, h3, h4⟩
      intro kk m2
      rw [ref, pw_seen vec aim sn hd op (nI w) r2 hsx, Option.bind_some]
      exact h2 kk m2
    · simp only [if_neg c]
      rw [if_pos trivial]
      have hsx : sn (e i) = 0 := Decidable.byContradiction fun q => c ((w4 _ r2).mpr q)
      have hxl : e i ∉ l := fun q => (w5 _ q).1 hsx
      have hxo : e i ∉ o := fun q => (w6 _ q).1 hsx
      have hhx : hd (e i) = 0 := Decidable.byContradiction fun q => hxl (by rw [← w1]; exact (pw_set_mem r2).mpr q)
      have hox : op (e i) = 0 := Decidable.byContradiction fun q => hxo (by rw [← w2]; exact (pw_set_mem r2).mpr q)
      have T := pn_T (pn_key vec aim)
      have sl : so_ok (pn_lt (pn_key vec aim)) l := by rw [← w1]; exact so_set_ok T _
      have so : so_ok (pn_lt (pn_key vec aim)) o := by rw [← w2]; exact so_set_ok T _
      have ll : ∀ a ∈ l, a < 30 := fun a ha => by rw [← w1] at ha; exact (so_set_mem.mp ha).1
      have lo : ∀ a ∈ o, a < 30 := fun a ha => by rw [← w2] at ha; exact (so_set_mem.mp ha).1
      have ol : o.length < 30 := by
        have := so_set_len (lt := pn_lt (pn_key vec aim)) (P := pn_P (upd op (e i) 1)) 30
        rw [pf_add T r2 hox pz_10, w2, so_len] at this
        omega
      obtain ⟨hd', op', q1, q2, q3⟩ := pw_look hN vec aim sn hd op r2 hw0 hw w1 w2 w7 hsx hhx hox
      obtain ⟨hn', hv', a1, a2⟩ := pa_ok hN T (wk_hp N (pn_key vec aim)) r2 ll hw w7 sl hn hv w8
      obtain ⟨on', ov', b1, b2⟩ := pa_ok (room := 30) hN T (wk_hp N (pn_key vec aim)) r2 lo (Nat.le_refl _) (by omega) so on ov w9
      have opa : pa_add (pn_lt (pn_key vec aim)) 30 (e i) o = (true, so_ins (pn_lt (pn_key vec aim)) (e i) o) := by unfold pa_add; rw [if_pos ol]
      rw [opa] at b1 b2
      rw [hdist _ r2, a1, Option.bind_some]
      have hM' : M ||| 2 ^ (e i) < 2 ^ 30 := pm_set_lt w3 r2
      have hb' : ∀ a, a < 30 → ((M ||| 2 ^ (e i)).testBit a = true ↔ upd sn (e i) 1 a ≠ 0) := by
        intro a ha
        rw [pm_set_bit]
        by_cases ee : a = e i
        · subst ee
          rw [pk_us]
          simp [pz_10]
        · rw [pk_un ee]
          have : ¬ e i = a := fun q => ee q.symm
          simp [this, w4 a ha]
      have mem2 : ∀ a, a ∈ (pa_add (pn_lt (pn_key vec aim)) w (e i) l).2 → a = e i ∨ a ∈ l := by
        intro a ha
        unfold pa_add at ha
        by_cases c2 : l.length < w
        · rw [if_pos c2] at ha
          exact so_mem.mp ha
        · rw [if_neg c2] at ha
          cases hd0 : l.getLast? with
          | none => rw [hd0] at ha; exact Or.inr ha
          | some y =>
            rw [hd0] at ha
            simp only at ha
            by_cases d2 : pn_lt (pn_key vec aim) (e i) y = true
            · rw [if_pos d2] at ha
              rcases so_mem.mp ha with q | q
              · exact Or.inl q
              · exact Or.inr ((List.dropLast_sublist l).subset q)
            · rw [if_neg d2] at ha
              exact Or.inr ha
      have len2 : (pa_add (pn_lt (pn_key vec aim)) w (e i) l).2.length ≤ w := by
        unfold pa_add
        by_cases c2 : l.length < w
        · rw [if_pos c2, so_len]; omega
        · rw [if_neg c2]
          cases hd0 : l.getLast? with
          | none => exact w7
          | some y =>
            by_cases d2 : pn_lt (pn_key vec aim) (e i) y = true
            · simp only [if_pos d2]
              rw [so_len, List.length_dropLast]
              have := (pa_last hd0).2
              omega
            · simp only [if_neg d2]
              exact w7
      have upn : ∀ a, sn a ≠ 0 → upd sn (e i) 1 a ≠ 0 := by
        intro a ha
        by_cases ee : a = e i
        · subst ee; rw [pk_us]; exact pz_10
        · rw [pk_un ee]; exact ha
      have m5 : ∀ a ∈ (pa_add (pn_lt (pn_key vec aim)) w (e i) l).2, upd sn (e i) 1 a ≠ 0 ∧ P a := by
        intro a ha
        rcases mem2 a ha with q | q
        · subst q; rw [pk_us]; exact ⟨pz_10, r3⟩
        · exact ⟨upn a (w5 a q).1, (w5 a q).2⟩
      by_cases c3 : (pa_add (pn_lt (pn_key vec aim)) w (e i) l).1 = true
      · simp only [if_pos c3]
        rw [if_neg pz_10, b1, Option.bind_some]
        rw [if_pos c3] at q3
        obtain ⟨sn2, hd2, op2, l2, o2, M2, hn2, hv2, on2, ov2, h1, h2, h3, h4⟩ := ih (i + 1) m1 (upd sn (e i) 1) hd' op' _ _ (M ||| 2 ^ (e i)) hn' hv' on' ov' (by omega) ⟨q2, q3, hM', hb', m5, fun a ha => by
          rcases so_mem.mp ha with q | q
          · subst q; rw [pk_us]; exact ⟨pz_10, r3⟩
          · exact ⟨upn a (w6 a q).1, (w6 a q).2⟩, len2, a2, b2⟩
        refine ⟨sn2, hd2, op2, l2, o2, M2, hn2, hv2, on2, ov2, h1, ?_, h3, ?_⟩
        · intro kk m2
          rw [ref, q1, Option.bind_some]
          exact h2 kk m2
        · rw [wk_cnt r2 hsx, so_len] at h4
          omega
      · simp only [if_neg c3]
        rw [if_pos trivial]
        rw [if_neg c3] at q3
        obtain ⟨sn2, hd2, op2, l2, o2, M2, hn2, hv2, on2, ov2, h1, h2, h3, h4⟩ := ih (i + 1) m1 (upd sn (e i) 1) hd' op' _ _ (M ||| 2 ^ (e i)) hn' hv' on ov (by omega) ⟨q2, q3, hM', hb', m5, fun a ha => ⟨upn a (w6 a ha).1, (w6 a ha).2⟩, len2, a2, w9⟩
        refine ⟨sn2, hd2, op2, l2, o2, M2, hn2, hv2, on2, ov2, h1, ?_, h3, ?_⟩
        · intro kk m2
          rw [ref, q1, Option.bind_some]
          exact h2 kk m2
        · rw [wk_cnt r2 hsx] at h4
          omega
end
section
/-! PURE: the bits of a number, counted in fields -/
theorem pc_and (s a b : Nat) : a &&& b = 2 ^ s * ((a / 2 ^ s) &&& (b / 2 ^ s)) + ((a % 2 ^ s) &&& (b % 2 ^ s)) := by
  rw [← Nat.and_div_two_pow, ← Nat.and_mod_two_pow, Nat.div_add_mod]
def pc_S (B : Nat) : Nat → Nat → Nat
  | 0, _ => 0
  | t + 1, x => x % B + x / B % B + B * B * pc_S B t (x / (B * B))
def pc_m (B : Nat) : Nat → Nat
  | 0 => 0
  | t + 1 => (B - 1) + B * B * pc_m B t
theorem pc_field (s a q u : Nat) (hu : u = 2 ^ s - 1) : a &&& (u + 2 ^ s * 2 ^ s * q) = a % 2 ^ s + 2 ^ s * 2 ^ s * ((a / (2 ^ s * 2 ^ s)) &&& q) := by
  have hp : 0 < 2 ^ s := Nat.two_pow_pos s
  have e : 2 ^ s * 2 ^ s = 2 ^ (s + s) := (Nat.pow_add 2 s s).symm
  have hle : 2 ^ s ≤ 2 ^ s * 2 ^ s := Nat.le_mul_of_pos_left _ hp
  have hlt : u < 2 ^ (s + s) := by rw [← e]; omega
  rw [pc_and (s + s) a, e]
  rw [Nat.add_mul_div_left _ _ (Nat.two_pow_pos _), Nat.div_eq_of_lt hlt, Nat.zero_add, Nat.add_mul_mod_self_left, Nat.mod_eq_of_lt hlt, hu, Nat.and_two_pow_sub_one_eq_mod, ← e, Nat.mod_mul_left_mod, Nat.add_comm]
theorem pc_stage (s : Nat) : ∀ (t x : Nat), x < (2 ^ s * 2 ^ s) ^ t → (x &&& pc_m (2 ^ s) t) + ((x / 2 ^ s) &&& pc_m (2 ^ s) t) = pc_S (2 ^ s) t x ∧ x = (x &&& pc_m (2 ^ s) t) + 2 ^ s * ((x / 2 ^ s) &&& pc_m (2 ^ s) t) := by
  intro t
  induction t with
  | zero =>
    intro x hx
    have : x = 0 := by simpa using hx
    subst this
    simp [pc_m, pc_S]
  | succ t ih =>
    intro x hx
    have hp : 0 < 2 ^ s := Nat.two_pow_pos s
    have hx2 : x / (2 ^ s * 2 ^ s) < (2 ^ s * 2 ^ s) ^ t := by
      rw [Nat.div_lt_iff_lt_mul (Nat.mul_pos hp hp), ← Nat.pow_succ]
      exact hx
    obtain ⟨h1, h2⟩ := ih _ hx2
    rw [pc_m, pc_field s x _ _ rfl, pc_field s (x / 2 ^ s) _ _ rfl, pc_S, ← h1]
    have e : x / 2 ^ s / (2 ^ s * 2 ^ s) = x / (2 ^ s * 2 ^ s) / 2 ^ s := by
      rw [Nat.div_div_eq_div_mul, Nat.div_div_eq_div_mul, Nat.mul_comm]
    rw [e]
    generalize hA : x / (2 ^ s * 2 ^ s) &&& pc_m (2 ^ s) t = A at *
    generalize hC : x / (2 ^ s * 2 ^ s) / 2 ^ s &&& pc_m (2 ^ s) t = C at *
    constructor
    · rw [Nat.mul_add]
      omega
    · have hx3 : x = 2 ^ s * 2 ^ s * (x / (2 ^ s * 2 ^ s)) + x % (2 ^ s * 2 ^ s) := (Nat.div_add_mod _ _).symm
      have hm : x % (2 ^ s * 2 ^ s) = x % 2 ^ s + 2 ^ s * (x / 2 ^ s % 2 ^ s) := Nat.mod_mul
      rw [h2, Nat.mul_add] at hx3
      rw [hm] at hx3
      rw [Nat.mul_add]
      have e2 : 2 ^ s * (2 ^ s * 2 ^ s * C) = 2 ^ s * 2 ^ s * (2 ^ s * C) := by
        rw [← Nat.mul_assoc, Nat.mul_comm (2 ^ s) (2 ^ s * 2 ^ s), Nat.mul_assoc]
      rw [e2]
      omega
/-- the sum of the digits -/
def pc_ds (B : Nat) : Nat → Nat → Nat
  | 0, _ => 0
  | t + 1, x => x % B + pc_ds B t (x / B)
theorem pc_dsS {B : Nat} (hB : 2 ≤ B) : ∀ (t x : Nat), pc_ds (B * B) t (pc_S B t x) = pc_ds B (2 * t) x := by
  intro t
  induction t with
  | zero => intro x; rfl
  | succ t ih =>
    intro x
    have h1 : x % B < B := Nat.mod_lt _ (by omega)
    have h2 : x / B % B < B := Nat.mod_lt _ (by omega)
    have h3 : 2 * B ≤ B * B := Nat.mul_le_mul_right B hB
    have h4 : x % B + x / B % B < B * B := by omega
    rw [pc_S, pc_ds, Nat.add_mul_mod_self_left, Nat.mod_eq_of_lt h4, Nat.add_mul_div_left _ _ (by omega), Nat.div_eq_of_lt h4, Nat.zero_add, ih, show 2 * (t + 1) = 2 * t + 1 + 1 from rfl, pc_ds, pc_ds, Nat.div_div_eq_div_mul, Nat.add_assoc]
theorem pc_ds_last (x : Nat) : ∀ t y : Nat, pc_ds 2 (t + 1) y = pc_ds 2 t y + y / 2 ^ t % 2
  | 0, y => by simp [pc_ds]
  | t + 1, y => by
    rw [pc_ds, pc_ds_last x t (y / 2), pc_ds, Nat.div_div_eq_div_mul, Nat.pow_succ, Nat.mul_comm (2 ^ t) 2, Nat.add_assoc]
theorem pc_bits {M : Nat} {sn : Nat → Int32} : ∀ n : Nat, (∀ a, a < n → (M.testBit a = true ↔ sn a ≠ 0)) → pc_ds 2 n M = pd_cnt sn n
  | 0, _ => rfl
  | n + 1, h => by
    rw [pc_ds_last 0, pc_bits n (fun a ha => h a (Nat.lt_succ_of_lt ha)), pd_cnt]
    have h1 := h n (Nat.lt_succ_self n)
    rw [Nat.testBit_eq_decide_div_mod_eq, decide_eq_true_iff] at h1
    by_cases c : sn n = 0
    · rw [if_pos c]
      have : ¬ M / 2 ^ n % 2 = 1 := fun q => h1.mp q c
      omega
    · rw [if_neg c, h1.mpr c]
theorem pc_andI (a b : Nat) : nI a &&& nI b = nI (a &&& b) := by
  apply Int32.toBitVec_inj.mp
  show BitVec.ofNat 32 a &&& BitVec.ofNat 32 b = BitVec.ofNat 32 (a &&& b)
  apply BitVec.eq_of_getLsbD_eq
  intro i hi
  simp [BitVec.getLsbD_and, BitVec.getLsbD_ofNat, hi]
theorem pc_S_lt {B : Nat} (hB : 2 ≤ B) : ∀ (t x : Nat), pc_S B t x < (B * B) ^ t
  | 0, x => by simp [pc_S]
  | t + 1, x => by
    have h1 : x % B < B := Nat.mod_lt _ (by omega)
    have h2 : x / B % B < B := Nat.mod_lt _ (by omega)
    have h3 : 2 * B ≤ B * B := Nat.mul_le_mul_right B hB
    have h4 := pc_S_lt hB t (x / (B * B))
    have h5 : B * B * (pc_S B t (x / (B * B)) + 1) ≤ B * B * (B * B) ^ t := Nat.mul_le_mul_left _ h4
    rw [pc_S, Nat.pow_succ, Nat.mul_comm ((B * B) ^ t)]
    rw [Nat.mul_add, Nat.mul_one] at h5
    omega
def pc_le (B c : Nat) : Nat → Nat → Prop
  | 0, _ => True
  | t + 1, x => x % B ≤ c ∧ pc_le B c t (x / B)
theorem pc_leS {B c : Nat} (hB : 2 ≤ B) : ∀ (t x : Nat), pc_le B c (2 * t) x → pc_le (B * B) (2 * c) t (pc_S B t x) := by
  intro t
  induction t with
  | zero => intro x _; trivial
  | succ t ih =>
    intro x h
    rw [show 2 * (t + 1) = 2 * t + 1 + 1 from rfl] at h
    obtain ⟨g1, g2, g3⟩ := h
    have h1 : x % B < B := Nat.mod_lt _ (by omega)
    have h2 : x / B % B < B := Nat.mod_lt _ (by omega)
    have h3 : 2 * B ≤ B * B := Nat.mul_le_mul_right B hB
    have h4 : x % B + x / B % B < B * B := by omega
    rw [pc_S]
    refine ⟨?_, ?_⟩
    · rw [Nat.add_mul_mod_self_left, Nat.mod_eq_of_lt h4]
      omega
    · rw [Nat.add_mul_div_left _ _ (by omega), Nat.div_eq_of_lt h4, Nat.zero_add]
      rw [Nat.div_div_eq_div_mul] at g3
      exact ih _ g3
theorem pc_le2 : ∀ (t x : Nat), pc_le 2 1 t x
  | 0, _ => trivial
  | t + 1, x => ⟨by omega, pc_le2 t _⟩
theorem pc_u1 : (((1 : Int32).toUInt32 &&& Int32.toUInt32 31).toBitVec % 32).toNat = 1 := by decide
theorem pc_u2 : (((2 : Int32).toUInt32 &&& Int32.toUInt32 31).toBitVec % 32).toNat = 2 := by decide
theorem pc_u4 : (((4 : Int32).toUInt32 &&& Int32.toUInt32 31).toBitVec % 32).toNat = 4 := by decide
theorem pc_u8 : (((8 : Int32).toUInt32 &&& Int32.toUInt32 31).toBitVec % 32).toNat = 8 := by decide
theorem pc_u16 : (((16 : Int32).toUInt32 &&& Int32.toUInt32 31).toBitVec % 32).toNat = 16 := by decide
theorem pc_h1 (c W : Nat) (hc : c < 16) : (c + 16 * W) / 16 = W ∧ (c + 16 * W) % 16 = c := by omega
theorem pc_h2 (c d W : Nat) (hc : c < 16) (hd : d < 16) : (c + 16 * (d + 16 * W)) % 16 = c ∧ (c + 16 * (d + 16 * W)) / 256 = W := by omega
theorem pc_h3 (c W : Nat) (hc : c < 256) : (c + 256 * W) / 256 = W := by omega
theorem pc_h4 (c d W : Nat) (hc : c < 256) (hd : d < 256) : (c + 256 * (d + 256 * W)) / 65536 = W := by omega
theorem pc_h5 (a b c d e W : Nat) (h : a + c + (b + d) < 64) (he : e = a + c + (b + d)) : (a + c + 64 * W + (b + d)) % 64 = e := by omega
theorem pc_lastD (n0 n1 n2 n3 n4 n5 n6 n7 : Nat) (h0 : n0 ≤ 4) (h1 : n1 ≤ 4) (h2 : n2 ≤ 4) (h3 : n3 ≤ 4) (h4 : n4 ≤ 4) (h5 : n5 ≤ 4) (h6 : n6 ≤ 4) (h7 : n7 ≤ 4) {x : Nat} (hx : x = n0 + 16 * (n1 + 16 * (n2 + 16 * (n3 + 16 * (n4 + 16 * (n5 + 16 * (n6 + 16 * n7))))))) : ∃ y, (x + x / 16) &&& 252645135 = y ∧ y < 4294967296 ∧ ((y + y / 256) + (y + y / 256) / 65536) % 64 = n0 + (n1 + (n2 + (n3 + (n4 + (n5 + (n6 + n7)))))) ∧ y + y / 256 < 4294967296 := by
  have hq : x / 16 = n1 + 16 * (n2 + 16 * (n3 + 16 * (n4 + 16 * (n5 + 16 * (n6 + 16 * n7))))) := by
    rw [hx]; exact (pc_h1 n0 _ (by omega)).1
  have hz : x + x / 16 = (n0 + n1) + 16 * ((n1 + n2) + 16 * ((n2 + n3) + 16 * ((n3 + n4) + 16 * ((n4 + n5) + 16 * ((n5 + n6) + 16 * ((n6 + n7) + 16 * n7)))))) := by
    rw [hq, hx]; omega
  have e : (252645135 : Nat) = 15 + 2 ^ 4 * 2 ^ 4 * (15 + 2 ^ 4 * 2 ^ 4 * (15 + 2 ^ 4 * 2 ^ 4 * 15)) := rfl
  have f15 : ∀ a : Nat, a &&& 15 = a % 16 := fun a => Nat.and_two_pow_sub_one_eq_mod a 4
  have hy : (x + x / 16) &&& 252645135 = (n0 + n1) + 256 * ((n2 + n3) + 256 * ((n4 + n5) + 256 * (n6 + n7))) := by
    rw [hz, e, pc_field 4 _ _ 15 rfl, pc_field 4 _ _ 15 rfl, pc_field 4 _ _ 15 rfl, f15]
    have p0 := pc_h2 (n0 + n1) (n1 + n2) ((n2 + n3) + 16 * ((n3 + n4) + 16 * ((n4 + n5) + 16 * ((n5 + n6) + 16 * ((n6 + n7) + 16 * n7))))) (by omega) (by omega)
    have p1 := pc_h2 (n2 + n3) (n3 + n4) ((n4 + n5) + 16 * ((n5 + n6) + 16 * ((n6 + n7) + 16 * n7))) (by omega) (by omega)
    have p2 := pc_h2 (n4 + n5) (n5 + n6) ((n6 + n7) + 16 * n7) (by omega) (by omega)
    have p3 := pc_h1 (n6 + n7) n7 (by omega)
    simp only [Nat.reducePow, Nat.reduceMul]
    rw [p0.1, p0.2, p1.1, p1.2, p2.1, p2.2, p3.2]
  refine ⟨_, hy, by omega, ?_, ?_⟩
  · rw [pc_h3 _ _ (by omega)]
    have t : n0 + n1 + 256 * (n2 + n3 + 256 * (n4 + n5 + 256 * (n6 + n7))) + (n2 + n3 + 256 * (n4 + n5 + 256 * (n6 + n7))) = (n0 + n1 + (n2 + n3)) + 256 * ((n2 + n3 + (n4 + n5)) + 256 * ((n4 + n5 + (n6 + n7)) + 256 * (n6 + n7))) := by omega
    rw [t, pc_h4 _ _ _ (by omega) (by omega)]
    have t2 : (n0 + n1 + (n2 + n3)) + 256 * ((n2 + n3 + (n4 + n5)) + 256 * ((n4 + n5 + (n6 + n7)) + 256 * (n6 + n7))) + (n4 + n5 + (n6 + n7) + 256 * (n6 + n7)) = (n0 + n1) + (n2 + n3) + 64 * (4 * ((n2 + n3 + (n4 + n5)) + 256 * ((n4 + n5 + (n6 + n7)) + 256 * (n6 + n7))) + 4 * (n6 + n7)) + ((n4 + n5) + (n6 + n7)) := by omega
    rw [t2]
    exact pc_h5 _ _ _ _ _ _ (by omega) (by omega)
  · rw [pc_h3 _ _ (by omega)]
    omega
theorem pc_last {x : Nat} (hx : x < 4294967296) (h : pc_le 16 4 8 x) : ∃ y, (x + x / 16) &&& 252645135 = y ∧ y < 4294967296 ∧ ((y + y / 256) + (y + y / 256) / 65536) % 64 = pc_ds 16 8 x ∧ y + y / 256 < 4294967296 := by
  obtain ⟨h0, h1, h2, h3, h4, h5, h6, h7, -⟩ := h
  have ed : pc_ds 16 8 x = x % 16 + (x / 16 % 16 + (x / 16 / 16 % 16 + (x / 16 / 16 / 16 % 16 + (x / 16 / 16 / 16 / 16 % 16 + (x / 16 / 16 / 16 / 16 / 16 % 16 + (x / 16 / 16 / 16 / 16 / 16 / 16 % 16 + x / 16 / 16 / 16 / 16 / 16 / 16 / 16 % 16)))))) := rfl
  rw [ed]
  have d0 := Nat.div_add_mod x 16
  have d1 := Nat.div_add_mod (x / 16) 16
  have d2 := Nat.div_add_mod (x / 16 / 16) 16
  have d3 := Nat.div_add_mod (x / 16 / 16 / 16) 16
  have d4 := Nat.div_add_mod (x / 16 / 16 / 16 / 16) 16
  have d5 := Nat.div_add_mod (x / 16 / 16 / 16 / 16 / 16) 16
  have d6 := Nat.div_add_mod (x / 16 / 16 / 16 / 16 / 16 / 16) 16
  have d7 : x / 16 / 16 / 16 / 16 / 16 / 16 / 16 < 16 := by
    rw [Nat.div_div_eq_div_mul, Nat.div_div_eq_div_mul, Nat.div_div_eq_div_mul, Nat.div_div_eq_div_mul, Nat.div_div_eq_div_mul, Nat.div_div_eq_div_mul]
    exact Nat.div_lt_of_lt_mul (by omega)
  have d8 := Nat.mod_eq_of_lt d7
  refine pc_lastD _ _ _ _ _ _ _ _ h0 h1 h2 h3 h4 h5 h6 h7 ?_
  rw [d8]
  generalize x / 16 / 16 / 16 / 16 / 16 / 16 / 16 = q7 at *
  generalize x / 16 / 16 / 16 / 16 / 16 / 16 % 16 = n6 at *
  generalize x / 16 / 16 / 16 / 16 / 16 / 16 = q6 at *
  generalize x / 16 / 16 / 16 / 16 / 16 % 16 = n5 at *
  generalize x / 16 / 16 / 16 / 16 / 16 = q5 at *
  generalize x / 16 / 16 / 16 / 16 % 16 = n4 at *
  generalize x / 16 / 16 / 16 / 16 = q4 at *
  generalize x / 16 / 16 / 16 % 16 = n3 at *
  generalize x / 16 / 16 / 16 = q3 at *
  generalize x / 16 / 16 % 16 = n2 at *
  generalize x / 16 / 16 = q2 at *
  generalize x / 16 % 16 = n1 at *
  generalize x / 16 = q1 at *
  generalize x % 16 = n0 at *
  omega
theorem pc_ok {N M : Nat} {sn : Nat → Int32} (hM : M < 2 ^ 30) (h : ∀ a, a < 30 → (M.testBit a = true ↔ sn a ≠ 0)) : f_In_bitCount N (nI M) = some (nI (pd_cnt sn 30)) := by
  have hM' : M < 1073741824 := hM
  have s1 := pc_stage 1 16 M (by omega)
  have s2 := pc_stage 2 8 (pc_S 2 16 M) (pc_S_lt (B := 2) (by decide) 16 M)
  have b1 : pc_S 2 16 M < 4294967296 := pc_S_lt (B := 2) (by decide) 16 M
  have b2 : pc_S 4 8 (pc_S 2 16 M) < 4294967296 := pc_S_lt (B := 4) (by decide) 8 _
  have l2 : pc_le 16 4 8 (pc_S 4 8 (pc_S 2 16 M)) := pc_leS (B := 4) (by decide) 8 _ (pc_leS (B := 2) (by decide) 16 _ (pc_le2 32 M))
  have d2 : pc_ds 16 8 (pc_S 4 8 (pc_S 2 16 M)) = pd_cnt sn 30 := by
    have a1 := pc_dsS (B := 4) (by decide) 8 (pc_S 2 16 M)
    have a2 := pc_dsS (B := 2) (by decide) 16 M
    have a3 := pc_ds_last 0 30 M
    have a4 := pc_ds_last 0 31 M
    have a5 := pc_bits 30 h
    have a6 : M / 2 ^ 30 = 0 := Nat.div_eq_of_lt hM
    have a7 : M / 2 ^ 31 = 0 := Nat.div_eq_of_lt (by omega)
    rw [a6] at a3
    rw [a7] at a4
    have a1' : pc_ds 16 8 (pc_S 4 8 (pc_S 2 16 M)) = pc_ds 4 16 (pc_S 2 16 M) := a1
    have a2' : pc_ds 4 16 (pc_S 2 16 M) = pc_ds 2 32 M := a2
    rw [a1', a2', a4, a3, a5]
    omega
  have m1 : pc_m (2 ^ 1) 16 = 1431655765 := by decide
  have m2 : pc_m (2 ^ 2) 8 = 858993459 := by decide
  rw [m1] at s1
  rw [m2] at s2
  have s1' : M - (M / 2 ^ 1 &&& 1431655765) = pc_S 2 16 M := by
    have q1 : (M &&& 1431655765) + (M / 2 ^ 1 &&& 1431655765) = pc_S 2 16 M := s1.1
    have q2 := s1.2
    generalize M / 2 ^ 1 &&& 1431655765 = C at *
    generalize M &&& 1431655765 = A at *
    generalize pc_S 2 16 M = G at *
    omega
  have s2' : (pc_S 2 16 M &&& 858993459) + (pc_S 2 16 M / 2 ^ 2 &&& 858993459) = pc_S 4 8 (pc_S 2 16 M) := s2.1
  unfold f_In_bitCount
  have e1 : nI M - (((nI M).toUInt32 >>> ((1 : Int32).toUInt32 &&& Int32.toUInt32 31)).toInt32 &&& 1431655765) = nI (pc_S 2 16 M) := by
    rw [pk_ushrN (by omega) _ 1 pc_u1, show (1431655765 : Int32) = nI 1431655765 from rfl, pc_andI, pk_sub (by have := s1.2; generalize M / 2 ^ 1 &&& 1431655765 = C at *; generalize M &&& 1431655765 = A at *; omega)]
    rw [show M - (M / 2 ^ 1 &&& 1431655765) = pc_S 2 16 M from s1']
  rw [e1]
  have e2 : (nI (pc_S 2 16 M) &&& 858993459) + (((nI (pc_S 2 16 M)).toUInt32 >>> ((2 : Int32).toUInt32 &&& Int32.toUInt32 31)).toInt32 &&& 858993459) = nI (pc_S 4 8 (pc_S 2 16 M)) := by
    rw [pk_ushrN (by omega) _ 2 pc_u2, show (858993459 : Int32) = nI 858993459 from rfl, pc_andI, pc_andI, nI_add]
    rw [s2']
  rw [e2]
  rw [← d2]
  generalize pc_S 4 8 (pc_S 2 16 M) = x at *
  obtain ⟨y, y1, y2, y3, y4⟩ := pc_last b2 l2
  rw [pk_ushrN (by omega) _ 4 pc_u4, nI_add, show (252645135 : Int32) = nI 252645135 from rfl, pc_andI, y1, pk_ushrN (by omega) _ 8 pc_u8, nI_add]
  have y4' : y + y / 2 ^ 8 < 2 ^ 32 := y4
  rw [pk_ushrN y4' _ 16 pc_u16, nI_add, show (63 : Int32) = nI 63 from rfl, pc_andI, show (63 : Nat) = 2 ^ 6 - 1 from rfl, Nat.and_two_pow_sub_one_eq_mod]
  rw [show ((y + y / 2 ^ 8) + (y + y / 2 ^ 8) / 2 ^ 16) % 2 ^ 6 = pc_ds 16 8 x from y3]
end
section
/-! PURE: the walk's loop, in step -/
theorem pz_at0 {α : Type} {k : Option α} : g_at 0 30 k = k := pb_at (i := 0) (by decide) (by decide)
def hr_A (l : List Nat) (hr : Nat → Int32) : Prop := ∀ i, i < l.length → hr i = nI (l.getD i 0)
theorem wl_251 {N : Nat} (hN : 31 ≤ N) (vec aim sn op : Nat → Int32) (L : Nat) (hL : L ≤ 30) : ∀ (l : List Nat) (j m : Nat) (hd hr : Nat → Int32), so_set (pn_lt (pn_key vec aim)) (pn_P hd) 30 = l → j + l.length = L →
    ∃ hd' hr', f_Mo_walk_251 N vec aim sn (m + l.length + 1) hd op hr (nI L) (nI j) = some (nI (pd_cnt sn 30), sn, hd', op, hr', nI L) ∧ (∀ i, i < j → hr' i = hr i) ∧ ∀ i, i < l.length → hr' (j + i) = nI (l.getD i 0) := by
  intro l
  induction l with
  | nil =>
    intro j m hd hr h1 h2
    refine ⟨hd, hr, ?_, fun i _ => rfl, fun i hi => absurd hi (Nat.not_lt_zero _)⟩
    rw [f_Mo_walk_251, if_pos (nI_le (by simp at h2; omega) (by omega)), pd_size hN, Option.bind_some]
  | cons y t ih =>
    intro j m hd hr h1 h2
    have T := pn_T (pn_key vec aim)
    have hy : y < 30 := by
      have : y ∈ so_set (pn_lt (pn_key vec aim)) (pn_P hd) 30 := by rw [h1]; exact List.mem_cons_self
      exact (so_set_mem.mp this).1
    have hs : so_ok (pn_lt (pn_key vec aim)) (y :: t) := by rw [← h1]; exact so_set_ok T _
    have hyt : y ∉ t := fun q => by
      have := (List.pairwise_cons.mp hs).1 y q
      rw [T.1] at this
      cases this
    have h3 : so_set (pn_lt (pn_key vec aim)) (pn_P (upd hd y 0)) 30 = t := by
      rw [pf_del T, h1, List.filter_cons]
      simp only [bne_self_eq_false, Bool.false_eq_true, if_false]
      exact List.filter_eq_self.mpr (fun a ha => by rw [bne_iff_ne]; exact fun e => hyt (by rw [← e]; exact ha))
    simp only [List.length_cons] at h2
    obtain ⟨hd', hr', g1, g2, g3⟩ := ih (j + 1) m (upd hd y 0) (upd hr j (nI y)) h3 (by omega)
    refine ⟨hd', hr', ?_, ?_, ?_⟩
    · rw [List.length_cons, show m + (t.length + 1) + 1 = (m + t.length + 1) + 1 from rfl, f_Mo_walk_251, if_neg (nI_ge (by omega) (by omega)), pn_nearest_held hN, h1, Option.bind_some]
      simp only [List.head?_cons, pn_o]
      rw [pb_at (by omega) (by decide), pb_at hy (by decide), pd_cl (show y < 2147483648 by omega), pd_cl (show j < 2147483648 by omega), pz_n0, nI_1]
      exact g1
    · intro i hi
      rw [g2 i (by omega), pk_un (by omega)]
    · intro i hi
      cases i with
      | zero =>
        rw [Nat.add_zero, g2 j (by omega), pk_us]
        rfl
      | succ i =>
        have := g3 i (by simpa using hi)
        rw [show j + (i + 1) = j + 1 + i by omega, this]
        rfl
theorem wl_loop {N : Nat} (hN : 31 ≤ N) {vec aim dist D R : Nat → Int32} {P : Nat → Prop} {w : Nat} (hw0 : 0 < w) (hw : w ≤ 30) (hdist : ∀ a, a < 30 → dist a = pn_key vec aim a) {layer : Nat} (hlay : layer < 4) (hP : ∀ n, P n → n < 30 ∧ ∃ d, d ≤ 7 ∧ D (4 * n + layer) = nI d ∧ ∀ i, i < d → ∃ a, R (7 * (4 * n + layer) + i) = nI a ∧ a < 30 ∧ P a) (hr : Nat → Int32) :
    ∀ (k s m1 m2 : Nat) (sn hd op : Nat → Int32) (l o : List Nat) (M : Nat) (hn hv on ov : Nat → Int32), s + k = 30 → wk_R (pn_key vec aim) w P sn hd op l o M hn hv on ov → s + o.length ≤ pd_cnt sn 30 →
    ∃ S l' sn' hd' op' hr' M' hn' hv' O', f_Wa_walk_8 N dist D R (nI layer) (m1 + k + 1) (hn, hv, nI l.length, nI w, 0) (on, ov, nI o.length, nI 30, 0) (nI M) (nI s) = some (nI S, (hn', hv', nI l'.length, nI w, 0), O', nI M') ∧ f_Mo_walk_131 N vec R D aim hr (nI layer) (nI w) (m2 + k + 1) sn hd op (pn_o o.head?) = some (nI S, sn', hd', op', hr', nI l'.length) ∧ S ≤ 30 ∧ so_ok (pn_lt (pn_key vec aim)) l' ∧ (∀ a ∈ l', P a) ∧ l'.length ≤ w ∧ pr_A (pn_key vec aim) l' hn' hv' ∧ hr_A l' hr' := by
  have N30 : 30 < 2147483648 := by decide
  have T := pn_T (pn_key vec aim)
  intro k
  induction k with
  | zero =>
    intro s m1 m2 sn hd op l o M hn hv on ov hs hW hc
    have := wk_cnt30 sn
    have ho : o = [] := List.eq_nil_of_length_eq_zero (by omega)
    subst ho
    obtain ⟨w1, w2, w3, w4, w5, w6, w7, w8, w9⟩ := hW
    obtain ⟨hd', hr', g1, g2, g3⟩ := wl_251 hN vec aim sn op l.length (by omega) l 0 (N - l.length - 1) hd hr w1 (by omega)
    rw [show N - l.length - 1 + l.length + 1 = N by omega] at g1
    refine ⟨pd_cnt sn 30, l, sn, hd', op, hr', M, hn, hv, (on, ov, nI 0, nI 30, 0), ?_, ?_, this, by rw [← w1]; exact so_set_ok T _, fun a ha => (w5 a ha).2, w7, w8, fun i hi => by rw [← g3 i hi, Nat.zero_add]⟩
    · rw [f_Wa_walk_8, if_pos (show (30 : Int32) ≤ nI s from nI_le (a := 30) (by omega) (by omega)), pc_ok w3 w4, Option.bind_some]
      rfl
    · rw [f_Mo_walk_131, if_pos (show pn_o ([] : List Nat).head? < 0 by decide), pf_size hN (pn_lt (pn_key vec aim)), w1, Option.bind_some]
      exact g1
  | succ k ih =>
    intro s m1 m2 sn hd op l o M hn hv on ov hs hW hc
    have hcnt := wk_cnt30 sn
    have hW0 := hW
    obtain ⟨w1, w2, w3, w4, w5, w6, w7, w8, w9⟩ := hW
    have sl : so_ok (pn_lt (pn_key vec aim)) l := by rw [← w1]; exact so_set_ok T _
    have ll : ∀ a ∈ l, a < 30 := fun a ha => by rw [← w1] at ha; exact (so_set_mem.mp ha).1
    obtain ⟨hd', hr', g1, g2, g3⟩ := wl_251 hN vec aim sn op l.length (by omega) l 0 (N - l.length - 1) hd hr w1 (by omega)
    rw [show N - l.length - 1 + l.length + 1 = N by omega] at g1
    cases o with
    | nil =>
      refine ⟨pd_cnt sn 30, l, sn, hd', op, hr', M, hn, hv, (on, ov, nI 0, nI 30, 0), ?_, ?_, hcnt, sl, fun a ha => (w5 a ha).2, w7, w8, fun i hi => by rw [← g3 i hi, Nat.zero_add]⟩
      · rw [show m1 + (k + 1) + 1 = (m1 + k + 1) + 1 from rfl, f_Wa_walk_8, if_neg (show ¬ (30 : Int32) ≤ nI s from nI_ge (b := 30) (by omega) (by omega))]
        unfold f_Rk_size
        rw [Option.bind_some, if_pos (show nI ([] : List Nat).length ≤ 0 by decide), pc_ok w3 w4, Option.bind_some]
        rfl
      · rw [show m2 + (k + 1) + 1 = (m2 + k + 1) + 1 from rfl, f_Mo_walk_131, if_pos (show pn_o ([] : List Nat).head? < 0 by decide), pf_size hN (pn_lt (pn_key vec aim)), w1, Option.bind_some]
        exact g1
    | cons y t =>
      have hym : y ∈ so_set (pn_lt (pn_key vec aim)) (pn_P op) 30 := by rw [w2]; exact List.mem_cons_self
      have hy : y < 30 := (so_set_mem.mp hym).1
      have so : so_ok (pn_lt (pn_key vec aim)) (y :: t) := by rw [← w2]; exact so_set_ok T _
      have hyt : y ∉ t := fun q => by
        have := (List.pairwise_cons.mp so).1 y q
        rw [T.1] at this
        cases this
      have w2' : so_set (pn_lt (pn_key vec aim)) (pn_P (upd op y 0)) 30 = t := by
        rw [pf_del T, w2, List.filter_cons]
        simp only [bne_self_eq_false, Bool.false_eq_true, if_false]
        exact List.filter_eq_self.mpr (fun a ha => by rw [bne_iff_ne]; exact fun e => hyt (by rw [← e]; exact ha))
      have tl : t.length < 30 := by
        have := so_set_len (lt := pn_lt (pn_key vec aim)) (P := pn_P op) 30
        rw [w2, List.length_cons] at this
        omega
      simp only [List.length_cons] at hc
      obtain ⟨on1, ov1, p1, p2⟩ := pq_drop hN tl on ov w9
      have on0 : on 0 = nI y := (w9 0 (by simp)).1
      obtain ⟨-, d, hd7, hDd, hRR⟩ := hP y (w6 y List.mem_cons_self).2
      have hRe : ∀ i, i < d → R (7 * (4 * y + layer) + i) = nI ((R (7 * (4 * y + layer) + i)).toNatClampNeg) ∧ (R (7 * (4 * y + layer) + i)).toNatClampNeg < 30 ∧ P (R (7 * (4 * y + layer) + i)).toNatClampNeg := by
        intro i hi
        obtain ⟨a, q1, q2, q3⟩ := hRR i hi
        rw [q1, pd_cl (show a < 2147483648 by omega)]
        exact ⟨rfl, q2, q3⟩
      obtain ⟨sn2, hd2, op2, l2, o2, M2, hn2, hv2, on2, ov2, c1, c2, c3, c4⟩ := wk_look (dist := dist) (D := D) (R := R) (P := P) hN hw0 hw hdist hy hlay hd7 hDd _ hRe d 0 (N - d - 1) sn hd (upd op y 0) l t M hn hv on1 ov1 (by omega) ⟨w1, w2', w3, w4, w5, fun a ha => w6 a (List.mem_cons_of_mem _ ha), w7, w8, p2⟩
      rw [show N - d - 1 + d + 1 = N by omega, nI_0] at c1
      have cont : ∃ S l' sn' hd' op' hr' M' hn' hv' O', ((f_Wa_lookAround N (hn, hv, nI l.length, nI w, 0) (on1, ov1, nI t.length, nI 30, 0) dist (nI M) D R (nI layer) (nI y)).bind fun p13 => f_Wa_walk_8 N dist D R (nI layer) (m1 + k + 1) p13.1 p13.2.1 p13.2.2 (nI (s + 1))) = some (nI S, (hn', hv', nI l'.length, nI w, 0), O', nI M') ∧ f_Mo_walk_186 N vec R D aim (nI layer) (nI w) (nI y) (fun a b c _ => ((f_Mo_nearest_open N vec aim c).bind fun p38 => f_Mo_walk_131 N vec R D aim hr (nI layer) (nI w) (m2 + k + 1) a b c p38)) N sn hd (upd op y 0) (nI (7 * (4 * y + layer))) = some (nI S, sn', hd', op', hr', nI l'.length) ∧ S ≤ 30 ∧ so_ok (pn_lt (pn_key vec aim)) l' ∧ (∀ a ∈ l', P a) ∧ l'.length ≤ w ∧ pr_A (pn_key vec aim) l' hn' hv' ∧ hr_A l' hr' := by
        obtain ⟨S, l', sn', hd3, op', hr3, M', hn', hv', O', e1, e2, e3⟩ := ih (s + 1) m1 m2 sn2 hd2 op2 l2 o2 M2 hn2 hv2 on2 ov2 (by omega) c3 (by omega)
        refine ⟨S, l', sn', hd3, op', hr3, M', hn', hv', O', ?_, ?_, e3⟩
        · unfold f_Wa_lookAround
          rw [c1, Option.bind_some]
          exact e1
        · have c2' := c2 (fun a b c _ => ((f_Mo_nearest_open N vec aim c).bind fun p38 => f_Mo_walk_131 N vec R D aim hr (nI layer) (nI w) (m2 + k + 1) a b c p38)) (N - d - 1)
          rw [show N - d - 1 + d + 1 = N by omega] at c2'
          refine Eq.trans c2' ?_
          rw [pn_nearest_open hN, c3.2.1, Option.bind_some]
          exact e2
      obtain ⟨S, l', sn', hd3, op', hr3, M', hn', hv', O', e1, e2, e3⟩ := cont
      have cls : f_Wa_walk_8 N dist D R (nI layer) (m1 + (k + 1) + 1) (hn, hv, nI l.length, nI w, 0) (on, ov, nI (y :: t).length, nI 30, 0) (nI M) (nI s) = (if w ≤ l.length then (if (match l.getLast? with | none => (0 : Int32) | some z => if pn_lt (pn_key vec aim) z y = true then 1 else 0) = 0 then ((f_Wa_lookAround N (hn, hv, nI l.length, nI w, 0) (on1, ov1, nI t.length, nI 30, 0) dist (nI M) D R (nI layer) (nI y)).bind fun p13 => f_Wa_walk_8 N dist D R (nI layer) (m1 + k + 1) p13.1 p13.2.1 p13.2.2 (nI (s + 1))) else some (nI (pd_cnt sn 30), (hn, hv, nI l.length, nI w, 0), (on1, ov1, nI t.length, nI 30, 0), nI M)) else ((f_Wa_lookAround N (hn, hv, nI l.length, nI w, 0) (on1, ov1, nI t.length, nI 30, 0) dist (nI M) D R (nI layer) (nI y)).bind fun p13 => f_Wa_walk_8 N dist D R (nI layer) (m1 + k + 1) p13.1 p13.2.1 p13.2.2 (nI (s + 1)))) := by
        rw [show m1 + (k + 1) + 1 = (m1 + k + 1) + 1 from rfl, f_Wa_walk_8, if_neg (show ¬ (30 : Int32) ≤ nI s from nI_ge (b := 30) (by omega) (by omega))]
        unfold f_Rk_size f_Rk_numberAt
        dsimp only
        rw [Option.bind_some, if_neg (show ¬ nI (y :: t).length ≤ 0 from nI_nle (by simp) (by simp; omega)), pz_at0, Option.bind_some, show (0 : Int32).toNatClampNeg = 0 from rfl, on0, p1, Option.bind_some, pl_isFull N (by omega) hw, Option.bind_some]
        simp only [nI_1]
        by_cases cf : w ≤ l.length
        · simp only [if_pos cf]
          rw [if_neg pz_10, pb_at hy N30, pd_cl (show y < 2147483648 by omega), hdist y hy, pl_lastPrecedes (wk_hp N (pn_key vec aim)) hy ll (by omega) hn hv w8, Option.bind_some, pc_ok w3 w4, Option.bind_some]
          rfl
        · simp only [if_neg cf]
          rw [if_pos trivial]
      rw [cls]
      have ref0 : f_Mo_walk_131 N vec R D aim hr (nI layer) (nI w) (m2 + (k + 1) + 1) sn hd op (pn_o (y :: t).head?) = (if l.length = w then (if (match l.getLast? with | none => (0 : Int32) | some z => if pn_lt (pn_key vec aim) z y = true then 1 else 0) = 0 then f_Mo_walk_186 N vec R D aim (nI layer) (nI w) (nI y) (fun a b c _ => ((f_Mo_nearest_open N vec aim c).bind fun p38 => f_Mo_walk_131 N vec R D aim hr (nI layer) (nI w) (m2 + k + 1) a b c p38)) N sn hd (upd op y 0) (nI (7 * (4 * y + layer))) else f_Mo_walk_251 N vec aim sn N hd (upd op y 0) hr (nI l.length) (nI 0)) else f_Mo_walk_186 N vec R D aim (nI layer) (nI w) (nI y) (fun a b c _ => ((f_Mo_nearest_open N vec aim c).bind fun p38 => f_Mo_walk_131 N vec R D aim hr (nI layer) (nI w) (m2 + k + 1) a b c p38)) N sn hd (upd op y 0) (nI (7 * (4 * y + layer)))) := by
        simp only [List.head?_cons, pn_o]
        rw [show m2 + (k + 1) + 1 = (m2 + k + 1) + 1 from rfl, f_Mo_walk_131, if_neg (pn_neg hy), pb_at hy N30, pf_size hN (pn_lt (pn_key vec aim)), w1, Option.bind_some, pd_cl (show y < 2147483648 by omega), pz_n0, pd_4, wk_7]
        by_cases cf : l.length = w
        · rw [if_pos (show nI l.length = nI w by rw [cf]), if_pos cf, pf_farthest_held hN, w1, Option.bind_some]
          cases hd0 : l.getLast? with
          | none =>
            have := List.getLast?_eq_none_iff.mp hd0
            rw [this] at cf
            exact absurd cf (by simp; omega)
          | some z =>
            have hz : z < 30 := ll z (List.mem_of_getLast? hd0)
            simp only [pn_o]
            rw [pn_isNearer (by omega) vec aim hz hy, Option.bind_some, Option.bind_some]
            rfl
        · rw [if_neg (show ¬ nI l.length = nI w from fun q => cf ((nI_eq (by omega) (by omega)).mp q)), if_neg cf]
      rw [ref0]
      by_cases cf : l.length = w
      · rw [if_pos (show w ≤ l.length by omega), if_pos cf]
        by_cases cz : (match l.getLast? with | none => (0 : Int32) | some z => if pn_lt (pn_key vec aim) z y = true then 1 else 0) = 0
        · rw [if_pos cz, if_pos cz]
          exact ⟨S, l', sn', hd3, op', hr3, M', hn', hv', O', e1, e2, e3⟩
        · rw [if_neg cz, if_neg cz]
          obtain ⟨hd4, hr4, g4, g5, g6⟩ := wl_251 hN vec aim sn (upd op y 0) l.length (by omega) l 0 (N - l.length - 1) hd hr w1 (by omega)
          rw [show N - l.length - 1 + l.length + 1 = N by omega] at g4
          exact ⟨pd_cnt sn 30, l, sn, hd4, upd op y 0, hr4, M, hn, hv, _, rfl, g4, hcnt, sl, fun a ha => (w5 a ha).2, w7, w8, fun i hi => by rw [← g6 i hi, Nat.zero_add]⟩
      · rw [if_neg (show ¬ w ≤ l.length by omega), if_neg cf]
        exact ⟨S, l', sn', hd3, op', hr3, M', hn', hv', O', e1, e2, e3⟩
end
section
/-! PURE: how a walk begins, and the whole walk -/
theorem wp_end {lt : Nat → Nat → Bool} (T : so_T lt) {x : Nat} : ∀ {t : List Nat}, (∀ a ∈ t, lt a x = true) → so_ins lt x t = t ++ [x]
  | [], _ => rfl
  | y :: t, h => by
    unfold so_ins
    rw [if_neg (so_asym T (h y List.mem_cons_self)), wp_end T (fun a ha => h a (List.mem_cons_of_mem _ ha))]
    rfl
theorem wp_take {lt : Nat → Nat → Bool} (T : so_T lt) {l : List Nat} (hs : so_ok lt l) {i : Nat} (hi : i < l.length) : so_ins lt (l.getD i 0) (l.take i) = l.take (i + 1) := by
  have hg : l.getD i 0 = l[i] := by rw [List.getD_eq_getElem?_getD, List.getElem?_eq_getElem hi]; rfl
  rw [hg, wp_end T, List.take_append_getElem hi]
  intro a ha
  obtain ⟨j, hj, rfl⟩ := List.mem_iff_getElem.mp ha
  rw [List.length_take] at hj
  rw [List.getElem_take]
  exact List.pairwise_iff_getElem.mp hs j i (by omega) hi (by omega)
theorem wp_getD {l : List Nat} {i : Nat} (hi : i < l.length) : l.getD i 0 ∈ l := by
  rw [List.getD_eq_getElem?_getD, List.getElem?_eq_getElem hi]
  exact List.getElem_mem _
/-- the class: seen, and the open ones -/
theorem wp_63 {N : Nat} (hN : 31 ≤ N) {key : Nat → Int32} {l : List Nat} (hs : so_ok (pn_lt key) l) (hl : ∀ a ∈ l, a < 30) (hlen : l.length ≤ 30) (X : T_Rk) (v : Int32) (rm : Int32) (hA : pr_A key l X.1 X.2.1) : ∀ (k i m : Nat) (on ov : Nat → Int32), i + k = l.length → pr_A key (l.take i) on ov →
    ∃ on' ov', f_Wa_begin_63 N X v (nI l.length, rm) (m + k + 1) (on, ov, nI (l.take i).length, nI 30, 0) (nI i) = some ((X.1, X.2.1, nI l.length, rm, X.2.2.2.2), (on', ov', nI l.length, nI 30, 0), v) ∧ pr_A key l on' ov' := by
  intro k
  induction k with
  | zero =>
    intro i m on ov hi h1
    have : l.take i = l := List.take_of_length_le (by omega)
    rw [this] at h1 ⊢
    refine ⟨on, ov, ?_, h1⟩
    rw [f_Wa_begin_63]
    unfold f_Rk_size
    rw [Option.bind_some, if_pos (nI_le (by omega) (by omega))]
  | succ k ih =>
    intro i m on ov hi h1
    have T := pn_T key
    have lt1 : (l.take i).length = i := by rw [List.length_take]; omega
    have g1 := hl _ (wp_getD (show i < l.length by omega))
    obtain ⟨n1, v1, a1, a2⟩ := pa_ok (room := 30) (x := l.getD i 0) (l := l.take i) hN T (wk_hp N key) g1 (fun a ha => hl a (List.mem_of_mem_take ha)) (Nat.le_refl _) (by omega) (List.Pairwise.sublist (List.take_sublist i l) hs) on ov h1
    have e : pa_add (pn_lt key) 30 (l.getD i 0) (l.take i) = (true, l.take (i + 1)) := by
      unfold pa_add
      rw [if_pos (by omega), wp_take T hs (by omega)]
    rw [e] at a1 a2
    obtain ⟨on', ov', b1, b2⟩ := ih (i + 1) m n1 v1 (by omega) a2
    refine ⟨on', ov', ?_, b2⟩
    rw [show m + (k + 1) + 1 = (m + k + 1) + 1 from rfl, f_Wa_begin_63]
    unfold f_Rk_size f_Rk_numberAt f_Rk_valueAt
    dsimp only
    rw [Option.bind_some, if_neg (nI_ge (by omega) (by omega)), pb_at (show i < 30 by omega) (by decide), Option.bind_some, pb_at (show i < 30 by omega) (by decide), Option.bind_some, pd_cl (show i < 2147483648 by omega), (hA i (by omega)).1, (hA i (by omega)).2, a1, Option.bind_some, nI_1]
    exact b1
theorem wp_7 {N : Nat} (hN : 31 ≤ N) {key : Nat → Int32} {l : List Nat} (hs : so_ok (pn_lt key) l) (hl : ∀ a ∈ l, a < 30) (hlen : l.length ≤ 30) {w : Nat} (hw : w ≤ 30) (hn hv : Nat → Int32) (rm : Int32) (O : T_Rk) (hA : pr_A key l hn hv) : ∀ (k i m M : Nat), i + k = l.length → M < 2 ^ 30 → (∀ a, M.testBit a = true ↔ a ∈ l.take i) →
    ∃ M' on' ov', f_Wa_begin_7 N (hn, hv, nI l.length, rm, 0) O (nI w) (m + k + 1) (nI M) (nI i) = some ((hn, hv, nI (l.take w).length, nI w, 0), (on', ov', nI (l.take w).length, nI 30, 0), nI M') ∧ pr_A key (l.take w) on' ov' ∧ M' < 2 ^ 30 ∧ ∀ a, M'.testBit a = true ↔ a ∈ l := by
  intro k
  induction k with
  | zero =>
    intro i m M hi h1 h2
    have : l.take i = l := List.take_of_length_le (by omega)
    rw [this] at h2
    have hlw : (l.take w).length = min l.length w := by rw [List.length_take, Nat.min_comm]
    obtain ⟨on', ov', b1, b2⟩ := wp_63 (l := l.take w) hN (List.Pairwise.sublist (List.take_sublist w l) hs) (fun a ha => hl a (List.mem_of_mem_take ha)) (by omega) (hn, hv, nI l.length, rm, 0) (nI M) (nI w) (pl_take hA w) (l.take w).length 0 (N - (l.take w).length - 1) O.1 O.2.1 (by omega) (by rw [List.take_zero]; intro i hi; exact absurd hi (Nat.not_lt_zero _))
    rw [show N - (l.take w).length - 1 + (l.take w).length + 1 = N by omega] at b1
    refine ⟨M, on', ov', ?_, b2, h1, h2⟩
    rw [f_Wa_begin_7]
    unfold f_Rk_size
    dsimp only
    rw [Option.bind_some, if_pos (nI_le (by omega) (by omega)), pl_changeRoom N hlen hw, Option.bind_some, show f_Rk_start N 30 0 = some (0, nI 30, 0) from (pl_start N (r := 30) (by decide)).1, Option.bind_some, ← hlw]
    exact b1
  | succ k ih =>
    intro i m M hi h1 h2
    have g1 := hl _ (wp_getD (show i < l.length by omega))
    have hg : l.getD i 0 = l[i]'(by omega) := by rw [List.getD_eq_getElem?_getD, List.getElem?_eq_getElem (by omega)]; rfl
    obtain ⟨M', on', ov', b1, b2⟩ := ih (i + 1) m (M ||| 2 ^ (l.getD i 0)) (by omega) (pm_set_lt h1 g1) (fun a => by
      rw [pm_set_bit, ← List.take_append_getElem (show i < l.length by omega), List.mem_append, List.mem_singleton, ← hg, ← h2 a, Bool.or_eq_true, decide_eq_true_iff, eq_comm (a := a)])
    refine ⟨M', on', ov', ?_, b2⟩
    rw [show m + (k + 1) + 1 = (m + k + 1) + 1 from rfl, f_Wa_begin_7]
    unfold f_Rk_size f_Rk_numberAt
    dsimp only
    rw [Option.bind_some, if_neg (nI_ge (by omega) (by omega)), pb_at (show i < 30 by omega) (by decide), Option.bind_some, pd_cl (show i < 2147483648 by omega), (hA i (by omega)).1, pm_set g1, nI_1]
    exact b1
/-- the reference: seen, held, open -/
theorem wp_98 {N : Nat} (vec aim D R hr sn hd : Nat → Int32) (a1 a2 : Int32) (h01 : ∀ a, a < 30 → hd a = 0 ∨ hd a = 1) : ∀ (k j m : Nat) (op : Nat → Int32), j + k = 30 → (∀ a, a < j → op a = hd a) →
    ∃ op', f_Mo_walk_98 N vec R D aim hr a1 a2 sn hd (m + k + 1) op (nI j) = ((f_Mo_nearest_open N vec aim op').bind fun p19 => (f_Mo_walk_131 N vec R D aim hr a1 a2 N sn hd op' p19)) ∧ ∀ a, a < 30 → op' a = hd a := by
  intro k
  induction k with
  | zero =>
    intro j m op hj h
    refine ⟨op, ?_, fun a ha => h a (by omega)⟩
    rw [f_Mo_walk_98, if_pos (show (30 : Int32) ≤ nI j from nI_le (a := 30) (by omega) (by omega))]
  | succ k ih =>
    intro j m op hj h
    obtain ⟨op', b1, b2⟩ := ih (j + 1) m (upd op j (hd j)) (by omega) (fun a ha => by
      by_cases e : a = j
      · subst e; rw [pk_us]
      · rw [pk_un e]; exact h a (by omega))
    refine ⟨op', ?_, b2⟩
    have hb : vp_nar .boolean (hd j) = hd j := by
      rcases h01 j (by omega) with q | q <;> rw [q] <;> decide
    rw [show m + (k + 1) + 1 = (m + k + 1) + 1 from rfl, f_Mo_walk_98, if_neg (show ¬ (30 : Int32) ≤ nI j from nI_ge (b := 30) (by omega) (by omega)), pb_at (show j < 30 by omega) (by decide), pb_at (show j < 30 by omega) (by decide), pd_cl (show j < 2147483648 by omega), hb, nI_1]
    exact b1
theorem wp_68 {N : Nat} (hN : 31 ≤ N) (vec aim D R op hr sn : Nat → Int32) (a1 : Int32) {w : Nat} (hw : w ≤ 30) : ∀ (k m : Nat) (hd : Nat → Int32) (l : List Nat), l.length ≤ w + k → so_set (pn_lt (pn_key vec aim)) (pn_P hd) 30 = l → (∀ a, a < 30 → hd a = 0 ∨ hd a = 1) →
    ∃ hd', f_Mo_walk_68 N vec R D aim op hr a1 (nI w) sn (m + k + 1) hd = f_Mo_walk_98 N vec R D aim hr a1 (nI w) sn hd' N op 0 ∧ so_set (pn_lt (pn_key vec aim)) (pn_P hd') 30 = l.take w ∧ ∀ a, a < 30 → hd' a = 0 ∨ hd' a = 1 := by
  have T := pn_T (pn_key vec aim)
  intro k
  induction k with
  | zero =>
    intro m hd l h1 h2 h3
    refine ⟨hd, ?_, ?_, h3⟩
    · rw [f_Mo_walk_68, pf_size hN (pn_lt (pn_key vec aim)), h2, Option.bind_some, if_pos (nI_le (by omega) (by omega))]
    · rw [h2, List.take_of_length_le (by omega)]
  | succ k ih =>
    intro m hd l h1 h2 h3
    have hl30 : l.length ≤ 30 := by rw [← h2]; exact so_set_len _
    by_cases c : l.length ≤ w
    · refine ⟨hd, ?_, ?_, h3⟩
      · rw [show m + (k + 1) + 1 = (m + k + 1) + 1 from rfl, f_Mo_walk_68, pf_size hN (pn_lt (pn_key vec aim)), h2, Option.bind_some, if_pos (nI_le (by omega) (by omega))]
      · rw [h2, List.take_of_length_le (by omega)]
    · cases hd0 : l.getLast? with
      | none =>
        have := List.getLast?_eq_none_iff.mp hd0
        rw [this] at c
        exact absurd (Nat.zero_le w) c
      | some y =>
        have hym : y ∈ l := List.mem_of_getLast? hd0
        have hy : y < 30 := by rw [← h2] at hym; exact (so_set_mem.mp hym).1
        obtain ⟨t, rfl⟩ := List.getLast?_eq_some_iff.mp hd0
        have hs : so_ok (pn_lt (pn_key vec aim)) (t ++ [y]) := by rw [← h2]; exact so_set_ok T _
        have hyt : y ∉ t := fun q => by
          have := (List.pairwise_append.mp hs).2.2 y q y List.mem_cons_self
          rw [T.1] at this
          cases this
        have h4 : so_set (pn_lt (pn_key vec aim)) (pn_P (upd hd y 0)) 30 = t := by
          rw [pf_del T, h2, List.filter_append, List.filter_cons]
          simp only [bne_self_eq_false, Bool.false_eq_true, if_false, List.filter_nil, List.append_nil]
          exact List.filter_eq_self.mpr (fun a ha => by rw [bne_iff_ne]; exact fun e => hyt (by rw [← e]; exact ha))
        rw [List.length_append, List.length_singleton] at h1 c hl30
        obtain ⟨hd', b1, b2, b3⟩ := ih m (upd hd y 0) t (by omega) h4 (fun a ha => by
          by_cases e : a = y
          · subst e; rw [pk_us]; exact Or.inl rfl
          · rw [pk_un e]; exact h3 a ha)
        refine ⟨hd', ?_, ?_, b3⟩
        · rw [show m + (k + 1) + 1 = (m + k + 1) + 1 from rfl, f_Mo_walk_68, pf_size hN (pn_lt (pn_key vec aim)), h2, Option.bind_some, if_neg (nI_ge (by rw [List.length_append, List.length_singleton]; omega) (by rw [List.length_append, List.length_singleton]; omega)), pf_farthest_held hN, h2, hd0, Option.bind_some]
          simp only [pn_o]
          rw [pb_at hy (by decide), pd_cl (show y < 2147483648 by omega), pz_n0]
          exact b1
        · rw [b2, List.take_append_of_le_length (by omega)]
theorem wp_30 {N : Nat} (vec aim D R op hr : Nat → Int32) (a1 a2 : Int32) {l : List Nat} (hl : ∀ a ∈ l, a < 30) (hlen : l.length ≤ 30) (hA : hr_A l hr) : ∀ (k i m : Nat) (sn hd : Nat → Int32), i + k = l.length → (∀ a, a < 30 → (sn a = 0 ∨ sn a = 1) ∧ (hd a = 0 ∨ hd a = 1) ∧ (sn a ≠ 0 ↔ a ∈ l.take i) ∧ (hd a ≠ 0 ↔ a ∈ l.take i)) →
    ∃ sn' hd', f_Mo_walk_30 N vec R D aim op hr (nI l.length) a1 a2 (m + k + 1) sn hd (nI i) = f_Mo_walk_68 N vec R D aim op hr a1 a2 sn' N hd' ∧ ∀ a, a < 30 → (sn' a = 0 ∨ sn' a = 1) ∧ (hd' a = 0 ∨ hd' a = 1) ∧ (sn' a ≠ 0 ↔ a ∈ l) ∧ (hd' a ≠ 0 ↔ a ∈ l) := by
  intro k
  induction k with
  | zero =>
    intro i m sn hd hi h
    have : l.take i = l := List.take_of_length_le (by omega)
    rw [this] at h
    refine ⟨sn, hd, ?_, h⟩
    rw [f_Mo_walk_30, if_pos (nI_le (by omega) (by omega))]
  | succ k ih =>
    intro i m sn hd hi h
    have g1 := hl _ (wp_getD (show i < l.length by omega))
    have hg : l.getD i 0 = l[i]'(by omega) := by rw [List.getD_eq_getElem?_getD, List.getElem?_eq_getElem (by omega)]; rfl
    have mm : ∀ a, a ∈ l.take (i + 1) ↔ a ∈ l.take i ∨ a = l.getD i 0 := fun a => by
      rw [← List.take_append_getElem (show i < l.length by omega), List.mem_append, List.mem_singleton, ← hg]
    obtain ⟨sn', hd', b1, b2⟩ := ih (i + 1) m (upd sn (l.getD i 0) 1) (upd hd (l.getD i 0) 1) (by omega) (fun a ha => by
      rw [mm]
      by_cases e : a = l.getD i 0
      · rw [e, pk_us, pk_us]
        exact ⟨Or.inr rfl, Or.inr rfl, ⟨fun _ => Or.inr rfl, fun _ => pz_10⟩, ⟨fun _ => Or.inr rfl, fun _ => pz_10⟩⟩
      · rw [pk_un e, pk_un e]
        obtain ⟨q1, q2, q3, q4⟩ := h a ha
        exact ⟨q1, q2, q3.trans ⟨Or.inl, fun q => q.elim id (fun r => absurd r e)⟩, q4.trans ⟨Or.inl, fun q => q.elim id (fun r => absurd r e)⟩⟩)
    refine ⟨sn', hd', ?_, b2⟩
    rw [show m + (k + 1) + 1 = (m + k + 1) + 1 from rfl, f_Mo_walk_30, if_neg (nI_ge (by omega) (by omega))]
    simp only [pd_cl (show i < 2147483648 by omega), hA i (by omega), pb_at (show i < 30 by omega) (show 30 < 2147483648 by decide), pb_at g1 (show 30 < 2147483648 by decide), pd_cl (show l.getD i 0 < 2147483648 by omega), pz_n1, nI_1]
    exact b1
theorem wp_2 {N : Nat} (vec aim D R op hr : Nat → Int32) (hs a1 a2 : Int32) : ∀ (k j m : Nat) (sn hd : Nat → Int32), j + k = 30 → (∀ a, a < j → sn a = 0 ∧ hd a = 0) →
    ∃ sn' hd', f_Mo_walk_2 N vec R D aim op hr hs a1 a2 (m + k + 1) sn hd (nI j) = f_Mo_walk_30 N vec R D aim op hr hs a1 a2 N sn' hd' 0 ∧ ∀ a, a < 30 → sn' a = 0 ∧ hd' a = 0 := by
  intro k
  induction k with
  | zero =>
    intro j m sn hd hj h
    refine ⟨sn, hd, ?_, fun a ha => h a (by omega)⟩
    rw [f_Mo_walk_2, if_pos (show (30 : Int32) ≤ nI j from nI_le (a := 30) (by omega) (by omega))]
  | succ k ih =>
    intro j m sn hd hj h
    obtain ⟨sn', hd', b1, b2⟩ := ih (j + 1) m (upd sn j 0) (upd hd j 0) (by omega) (fun a ha => by
      by_cases e : a = j
      · subst e; rw [pk_us, pk_us]; exact ⟨rfl, rfl⟩
      · rw [pk_un e, pk_un e]; exact h a (by omega))
    refine ⟨sn', hd', ?_, b2⟩
    rw [show m + (k + 1) + 1 = (m + k + 1) + 1 from rfl, f_Mo_walk_2, if_neg (show ¬ (30 : Int32) ≤ nI j from nI_ge (b := 30) (by omega) (by omega)), pb_at (show j < 30 by omega) (by decide), pb_at (show j < 30 by omega) (by decide), pd_cl (show j < 2147483648 by omega), pz_n0, nI_1]
    exact b1
def wp_P (D R : Nat → Int32) (layer : Nat) (P : Nat → Prop) : Prop := ∀ n, P n → n < 30 ∧ ∃ d, d ≤ 7 ∧ D (4 * n + layer) = nI d ∧ ∀ i, i < d → ∃ a, R (7 * (4 * n + layer) + i) = nI a ∧ a < 30 ∧ P a
theorem wp_walk {N : Nat} (hN : 64 ≤ N) {vec aim dist D R : Nat → Int32} {P : Nat → Prop} {w : Nat} (hw0 : 0 < w) (hw : w ≤ 30) (hdist : ∀ a, a < 30 → dist a = pn_key vec aim a) {layer : Nat} (hlay : layer < 4) (hP : wp_P D R layer P) {l : List Nat} (hs : so_ok (pn_lt (pn_key vec aim)) l) (hlP : ∀ a ∈ l, P a) (hlen : l.length ≤ 30) (hn hv hr : Nat → Int32) (rm : Int32) (hA : pr_A (pn_key vec aim) l hn hv) (hH : hr_A l hr) (O : T_Rk) (sn hd op : Nat → Int32) :
    ∃ S l' sn' hd' op' hr' M' hn' hv' O', f_Wa_walk N (hn, hv, nI l.length, rm, 0) O dist D R (nI layer) (nI w) = some (nI S, (hn', hv', nI l'.length, nI w, 0), O', nI M') ∧ f_Mo_walk N vec R D aim sn hd op hr (nI l.length) (nI layer) (nI w) = some (nI S, sn', hd', op', hr', nI l'.length) ∧ S ≤ 30 ∧ so_ok (pn_lt (pn_key vec aim)) l' ∧ (∀ a ∈ l', P a) ∧ l'.length ≤ w ∧ pr_A (pn_key vec aim) l' hn' hv' ∧ hr_A l' hr' := by
  have T := pn_T (pn_key vec aim)
  have hl30 : ∀ a ∈ l, a < 30 := fun a ha => (hP a (hlP a ha)).1
  obtain ⟨M, on, ov, a1, a2, a3, a4⟩ := wp_7 (N := N) (by omega) hs hl30 hlen hw hn hv rm O hA l.length 0 (N - l.length - 1) 0 (by omega) (by omega) (fun a => by simp)
  rw [show N - l.length - 1 + l.length + 1 = N by omega] at a1
  obtain ⟨sn1, hd1, b1, b2⟩ := wp_2 vec aim D R op hr (nI l.length) (nI layer) (nI w) (N := N) 30 0 (N - 31) sn hd (by omega) (fun a ha => absurd ha (Nat.not_lt_zero _))
  rw [show N - 31 + 30 + 1 = N by omega] at b1
  obtain ⟨sn2, hd2, c1, c2⟩ := wp_30 (N := N) vec aim D R op hr (nI layer) (nI w) hl30 hlen hH l.length 0 (N - l.length - 1) sn1 hd1 (by omega) (fun a ha => by
    obtain ⟨q1, q2⟩ := b2 a ha
    rw [q1, q2]
    simp)
  rw [show N - l.length - 1 + l.length + 1 = N by omega] at c1
  have hset : so_set (pn_lt (pn_key vec aim)) (pn_P hd2) 30 = l := so_uniq T (so_set_ok T _) hs (fun a => by
    constructor
    · intro q
      have h30 := (so_set_mem.mp q).1
      exact (c2 a h30).2.2.2.mp ((pw_set_mem h30).mp q)
    · intro q
      exact (pw_set_mem (hl30 a q)).mpr ((c2 a (hl30 a q)).2.2.2.mpr q))
  have hsetS : so_set (pn_lt (pn_key vec aim)) (pn_P sn2) 30 = l := so_uniq T (so_set_ok T _) hs (fun a => by
    constructor
    · intro q
      have h30 := (so_set_mem.mp q).1
      exact (c2 a h30).2.2.1.mp ((pw_set_mem h30).mp q)
    · intro q
      exact (pw_set_mem (hl30 a q)).mpr ((c2 a (hl30 a q)).2.2.1.mpr q))
  obtain ⟨hd3, d1, d2, d3⟩ := wp_68 (N := N) (by omega) vec aim D R op hr sn2 (nI layer) hw 30 (N - 31) hd2 l (by omega) hset (fun a ha => (c2 a ha).2.1)
  rw [show N - 31 + 30 + 1 = N by omega] at d1
  obtain ⟨op3, e1, e2⟩ := wp_98 (N := N) vec aim D R hr sn2 hd3 (nI layer) (nI w) d3 30 0 (N - 31) op (by omega) (fun a ha => absurd ha (Nat.not_lt_zero _))
  rw [show N - 31 + 30 + 1 = N by omega] at e1
  have hop : so_set (pn_lt (pn_key vec aim)) (pn_P op3) 30 = l.take w := by
    rw [← d2]
    refine so_uniq T (so_set_ok T _) (so_set_ok T _) (fun a => ?_)
    rw [so_set_mem, so_set_mem]
    constructor
    · rintro ⟨q1, q2⟩
      exact ⟨q1, by unfold pn_P at q2 ⊢; rw [e2 a q1] at q2; exact q2⟩
    · rintro ⟨q1, q2⟩
      exact ⟨q1, by unfold pn_P at q2 ⊢; rw [e2 a q1]; exact q2⟩
  have cnt : pd_cnt sn2 30 = l.length := by rw [pf_cnt (pn_lt (pn_key vec aim)), hsetS]
  have htk : (l.take w).length ≤ l.length := by rw [List.length_take]; omega
  obtain ⟨S, l', sn', hd', op', hr', M', hn', hv', O', g1, g2, g3⟩ := wl_loop (N := N) (P := P) (by omega) hw0 hw hdist hlay hP hr 30 0 (N - 31) (N - 31) sn2 hd3 op3 (l.take w) (l.take w) M hn hv on ov (by omega) ⟨d2, hop, a3, fun a ha => (a4 a).trans (c2 a ha).2.2.1.symm, fun a ha => ⟨(c2 a (hl30 a (List.mem_of_mem_take ha))).2.2.1.mpr (List.mem_of_mem_take ha), hlP a (List.mem_of_mem_take ha)⟩, fun a ha => ⟨(c2 a (hl30 a (List.mem_of_mem_take ha))).2.2.1.mpr (List.mem_of_mem_take ha), hlP a (List.mem_of_mem_take ha)⟩, by rw [List.length_take]; omega, pl_take hA w, a2⟩ (by omega)
  rw [show N - 31 + 30 + 1 = N by omega] at g1 g2
  refine ⟨S, l', sn', hd', op', hr', M', hn', hv', O', ?_, ?_, g3⟩
  · unfold f_Wa_walk f_Wa_begin
    rw [show f_Wa_begin_7 N (hn, hv, nI l.length, rm, 0) O (nI w) N 0 0 = _ from a1, Option.bind_some]
    exact g1
  · unfold f_Mo_walk
    rw [show f_Mo_walk_2 N vec R D aim op hr (nI l.length) (nI layer) (nI w) N sn hd 0 = _ from b1, show f_Mo_walk_30 N vec R D aim op hr (nI l.length) (nI layer) (nI w) N sn1 hd1 0 = _ from c1, d1, show f_Mo_walk_98 N vec R D aim hr (nI layer) (nI w) sn2 hd3 N op 0 = _ from e1, pn_nearest_open (by omega), hop, Option.bind_some]
    exact g2
end
section
/-! PURE: to choose -/
theorem ch_sum {F G : Nat → Int32} : ∀ n : Nat, (∀ j, j < n → F j = G j) → pd_sum F n = pd_sum G n
  | 0, _ => rfl
  | n + 1, h => by rw [pd_sum, pd_sum, ch_sum n (fun j hj => h j (Nat.lt_succ_of_lt hj)), h n (Nat.lt_succ_self n)]
def ch_bt (vec : Nat → Int32) (a b : Nat) : Int32 := pd_sum (pd_F (fun j => vec (4 * a + j)) (fun j => vec (4 * b + j))) 4
def ch_V (V : Nat → Nat → Int32) (vec : Nat → Int32) : Prop := ∀ n, n < 30 → ∀ j, j < 4 → V n j = vec (4 * n + j)
theorem ch_dist {N : Nat} (hN : 5 ≤ N) {V : Nat → Nat → Int32} {vec : Nat → Int32} (hV : ch_V V vec) {a b : Nat} (ha : a < 30) (hb : b < 30) : f_Nd_distance N (V a) (V b) = some (ch_bt vec a b) := by
  rw [pd_distance hN]
  unfold ch_bt
  rw [ch_sum 4 (fun j hj => by unfold pd_F; rw [hV a ha j hj, hV b hb j hj])]
  rfl
theorem ch_between_5 (N : Nat) (vec : Nat → Int32) (a b : Nat) (ha : a < 30) (hb : b < 30) : ∀ (k j m : Nat), j + k = 4 → f_Mo_between_5 N vec (nI a) (nI b) (m + k + 1) (pd_sum (pd_F (fun j => vec (4 * a + j)) (fun j => vec (4 * b + j))) j) (nI j) = some (ch_bt vec a b) := by
  intro k
  induction k with
  | zero =>
    intro j m h
    have hj : j = 4 := by omega
    subst hj
    rw [f_Mo_between_5, if_pos (by decide)]
    rfl
  | succ k ih =>
    intro j m h
    rw [show m + (k + 1) + 1 = (m + k + 1) + 1 from rfl, f_Mo_between_5, if_neg (show ¬ (4 : Int32) ≤ nI j from nI_ge (show j < 4 by omega) (by decide)), pd_4, pd_4, pb_at (show 4 * a + j < 120 by omega) (by decide), pb_at (show 4 * b + j < 120 by omega) (by decide), pb_at (show 4 * a + j < 120 by omega) (by decide), pb_at (show 4 * b + j < 120 by omega) (by decide), pd_cl (show 4 * a + j < 2147483648 by omega), pd_cl (show 4 * b + j < 2147483648 by omega), nI_1]
    exact ih (j + 1) m (by omega)
theorem ch_between {N : Nat} (hN : 5 ≤ N) (vec : Nat → Int32) {a b : Nat} (ha : a < 30) (hb : b < 30) : f_Mo_between N vec (nI a) (nI b) = some (ch_bt vec a b) := by
  obtain ⟨m, rfl⟩ : ∃ m, N = m + 4 + 1 := ⟨N - 5, by omega⟩
  unfold f_Mo_between
  exact ch_between_5 _ vec a b ha hb 4 0 m rfl
theorem ch_far {N : Nat} (hN : 5 ≤ N) (vec aim : Nat → Int32) {n : Nat} (hn : n < 30) : f_Mo_far N vec aim (nI n) = some (pn_key vec aim n) := pd_far hN vec aim hn
theorem ch_dr {c r : List Nat} {i n : Nat} (h : c.drop i = n :: r) : i < c.length ∧ c.getD i 0 = n ∧ c.drop (i + 1) = r ∧ n ∈ c := by
  have hi : i < c.length := by
    rcases Nat.lt_or_ge i c.length with q | q
    · exact q
    · rw [List.drop_eq_nil_of_le q] at h; cases h
  rw [List.drop_eq_getElem_cons hi] at h
  injection h with h1 h2
  exact ⟨hi, by rw [List.getD_eq_getElem?_getD, List.getElem?_eq_getElem hi, ← h1]; rfl, h2, by rw [← h1]; exact List.getElem_mem _⟩
theorem ch_nil {c : List Nat} {i : Nat} (h : c.drop i = []) : c.length ≤ i := List.drop_eq_nil_iff.mp h
def ch_g (key : Nat → Int32) (bt : Nat → Nat → Int32) (n : Nat) (p : List Nat) : Bool := p.all (fun q => decide (key n < bt n q))
def ch_1 (key : Nat → Int32) (bt : Nat → Nat → Int32) (m : Nat) : List Nat → List Nat → List Nat
  | [], p => p
  | n :: c, p => ch_1 key bt m c (if p.length < m ∧ ch_g key bt n p = true then p ++ [n] else p)
def ch_2 (m : Nat) : List Nat → List Nat → List Nat
  | [], p => p
  | n :: c, p => ch_2 m c (if p.length < m ∧ n ∉ p then p ++ [n] else p)
theorem ch_1_full {key : Nat → Int32} {bt : Nat → Nat → Int32} {m : Nat} : ∀ {c p : List Nat}, m ≤ p.length → ch_1 key bt m c p = p
  | [], _, _ => rfl
  | n :: c, p, h => by
    rw [ch_1, if_neg (fun q => by omega)]
    exact ch_1_full h
theorem ch_2_full {m : Nat} : ∀ {c p : List Nat}, m ≤ p.length → ch_2 m c p = p
  | [], _, _ => rfl
  | n :: c, p, h => by
    rw [ch_2, if_neg (fun q => by omega)]
    exact ch_2_full h
theorem ch_2_eq {m : Nat} : ∀ {c p : List Nat}, c.Nodup → ch_2 m c p = p ++ (c.filter (fun a => decide (a ∉ p))).take (m - p.length)
  | [], p, _ => by simp [ch_2]
  | n :: c, p, h => by
    have h1 := List.nodup_cons.mp h
    rw [ch_2]
    by_cases c1 : p.length < m
    · by_cases c2 : n ∈ p
      · rw [if_neg (fun q => q.2 c2), ch_2_eq h1.2, List.filter_cons, if_neg (by rw [decide_eq_true_iff]; exact fun q => q c2)]
      · rw [if_pos ⟨c1, c2⟩, ch_2_eq h1.2, List.filter_cons, if_pos (by rw [decide_eq_true_iff]; exact c2), List.length_append, List.length_singleton]
        have e : c.filter (fun a => decide (a ∉ p ++ [n])) = c.filter (fun a => decide (a ∉ p)) := by
          refine List.filter_congr (fun a ha => ?_)
          have : a ≠ n := fun q => h1.1 (by rw [← q]; exact ha)
          simp [this]
        rw [e]
        obtain ⟨d, hd⟩ : ∃ d, m - p.length = d + 1 := ⟨m - p.length - 1, by omega⟩
        rw [hd, List.take_succ_cons, show m - (p.length + 1) = d by omega, List.append_assoc]
        rfl
    · rw [if_neg (fun q => c1 q.1), ch_2_full (by omega), show m - p.length = 0 by omega, List.take_zero, List.append_nil]
theorem ch_1_pr {key : Nat → Int32} {bt : Nat → Nat → Int32} {m : Nat} : ∀ {c p : List Nat}, (p ++ c).Nodup → p.length ≤ m → (ch_1 key bt m c p).Nodup ∧ (ch_1 key bt m c p).length ≤ m ∧ ∀ a ∈ ch_1 key bt m c p, a ∈ p ++ c
  | [], p, h, hl => by
    rw [List.append_nil] at *
    exact ⟨h, hl, fun a ha => ha⟩
  | n :: c, p, h, hl => by
    rw [ch_1]
    by_cases q : p.length < m ∧ ch_g key bt n p = true
    · rw [if_pos q]
      have := ch_1_pr (key := key) (bt := bt) (m := m) (c := c) (p := p ++ [n]) (by rw [List.append_assoc]; exact h) (by rw [List.length_append, List.length_singleton]; omega)
      rw [List.append_assoc] at this
      exact this
    · rw [if_neg q]
      have hsub : (p ++ c).Sublist (p ++ n :: c) := List.Sublist.append_left (List.sublist_cons_self n c) p
      have := ch_1_pr (key := key) (bt := bt) (m := m) (c := c) (p := p) (h.sublist hsub) hl
      exact ⟨this.1, this.2.1, fun a ha => hsub.subset (this.2.2 a ha)⟩
theorem ch_cat {l : List Nat} {n : Nat} {row : Nat → Int32} (h : hr_A l row) : hr_A (l ++ [n]) (upd row l.length (nI n)) := by
  intro i hi
  rw [List.length_append, List.length_singleton] at hi
  by_cases e : i = l.length
  · subst e
    rw [pk_us, List.getD_eq_getElem?_getD, List.getElem?_append_right (Nat.le_refl _), Nat.sub_self]
    rfl
  · rw [pk_un e, h i (by omega), List.getD_eq_getElem?_getD, List.getD_eq_getElem?_getD, List.getElem?_append_left (by omega)]
theorem ch_near {N : Nat} (hN : 5 ≤ N) {V : Nat → Nat → Int32} {vec : Nat → Int32} (hV : ch_V V vec) {key : Nat → Int32} {n : Nat} (hn : n < 30) {p : List Nat} (hp : ∀ a ∈ p, a < 30) (hp30 : p.length ≤ 30) {row : Nat → Int32} (hA : hr_A p row) : ∀ (r : List Nat) (i m : Nat), i ≤ p.length → p.drop i = r → f_Ch_isNearestToVector_3 N row (nI p.length) V (nI n) (key n) (m + r.length + 1) (nI i) = some (if ch_g key (ch_bt vec) n r = true then 1 else 0) := by
  intro r
  induction r with
  | nil =>
    intro i m hi h
    have := ch_nil h
    rw [f_Ch_isNearestToVector_3, if_pos (nI_le this (by omega))]
    rfl
  | cons q r ih =>
    intro i m hi h
    obtain ⟨h1, h2, h3, h4⟩ := ch_dr h
    have hq := hp q h4
    unfold ch_g
    rw [List.length_cons, show m + (r.length + 1) + 1 = (m + r.length + 1) + 1 from rfl, f_Ch_isNearestToVector_3, if_neg (nI_ge h1 (by omega))]
    unfold f_Do_vector
    rw [pb_at hn (by decide), Option.bind_some, pb_at (show i < 30 by omega) (by decide), pd_cl (show i < 2147483648 by omega), hA i h1, h2, pb_at hq (by decide), Option.bind_some, pd_cl (show n < 2147483648 by omega), pd_cl (show q < 2147483648 by omega), ch_dist hN hV hn hq, Option.bind_some, nI_1, ih (i + 1) m h1 h3]
    unfold ch_g
    rw [List.all_cons]
    by_cases c : key n < ch_bt vec n q
    · rw [if_pos c, decide_eq_true c, Bool.true_and]
    · rw [if_neg c, decide_eq_false c, Bool.false_and]
      rfl
/-- the class -/
theorem ch_c69 {N : Nat} {c : List Nat} (hc : ∀ a ∈ c, a < 30) (hc30 : c.length ≤ 30) {nums : Nat → Int32} (hA : hr_A c nums) {m : Nat} (hm : m ≤ 6) : ∀ (r : List Nat) (i m1 : Nat) (p : List Nat) (row : Nat → Int32) (M : Nat), i ≤ c.length → c.drop i = r → p.length ≤ m → (∀ a ∈ p, a < 30) → hr_A p row → M < 2 ^ 30 → (∀ a, M.testBit a = true ↔ a ∈ p) →
    ∃ row' M', f_Ch_choose_69 N nums (nI c.length) (nI m) (m1 + r.length + 1) row (nI p.length) (nI M) (nI i) = some (row', nI (ch_2 m r p).length, nI M') ∧ hr_A (ch_2 m r p) row' := by
  intro r
  induction r with
  | nil =>
    intro i m1 p row M hi h h1 h2 h3 h4 h5
    have := ch_nil h
    refine ⟨row, M, ?_, h3⟩
    rw [f_Ch_choose_69]
    unfold f_Rk_size
    rw [Option.bind_some, if_pos (nI_le this (by omega))]
    rfl
  | cons n r ih =>
    intro i m1 p row M hi h h1 h2 h3 h4 h5
    obtain ⟨d1, d2, d3, d4⟩ := ch_dr h
    have hn := hc n d4
    rw [List.length_cons, show m1 + (r.length + 1) + 1 = (m1 + r.length + 1) + 1 from rfl, f_Ch_choose_69]
    unfold f_Rk_size f_Rk_numberAt
    rw [Option.bind_some, if_neg (nI_ge d1 (by omega)), ch_2]
    by_cases c1 : p.length < m
    · rw [if_neg (nI_ge c1 (by omega)), pb_at (show i < 30 by omega) (by decide), pd_cl (show i < 2147483648 by omega), hA i d1, d2, Option.bind_some, pm_isIn N h4 hn, Option.bind_some]
      by_cases c2 : n ∈ p
      · simp only [if_pos ((h5 n).mpr c2)]
        rw [if_neg pz_10, if_neg (fun q => q.2 c2), nI_1]
        exact ih (i + 1) m1 p row M d1 d3 h1 h2 h3 h4 h5
      · simp only [if_neg (fun q => c2 ((h5 n).mp q))]
        rw [if_pos trivial, if_pos ⟨c1, c2⟩]
        unfold f_Ch_take
        rw [pb_at (show p.length < 30 by omega) (by decide), Option.bind_some, pd_cl (show p.length < 2147483648 by omega), pm_set hn, nI_1, nI_1]
        have e : p.length + 1 = (p ++ [n]).length := by rw [List.length_append, List.length_singleton]
        rw [e]
        refine ih (i + 1) m1 (p ++ [n]) _ (M ||| 2 ^ n) d1 d3 (by omega) (fun a ha => ?_) (ch_cat h3) (pm_set_lt h4 hn) (fun a => ?_)
        · rcases List.mem_append.mp ha with q | q
          · exact h2 a q
          · rw [List.mem_singleton.mp q]; exact hn
        · rw [pm_set_bit, List.mem_append, List.mem_singleton, ← h5 a, Bool.or_eq_true, decide_eq_true_iff, eq_comm (a := a)]
    · rw [if_pos (nI_le (show m ≤ p.length by omega) (by omega)), if_neg (fun q => c1 q.1), ch_2_full (by omega)]
      exact ⟨row, M, rfl, h3⟩
theorem ch_c13 {N : Nat} (hN : 64 ≤ N) {V : Nat → Nat → Int32} {vec : Nat → Int32} (hV : ch_V V vec) {key : Nat → Int32} {c : List Nat} (hc : ∀ a ∈ c, a < 30) (hc30 : c.length ≤ 30) {nums vals : Nat → Int32} (hA : pr_A key c nums vals) {m : Nat} (hm : m ≤ 6) : ∀ (r : List Nat) (i m1 : Nat) (p : List Nat) (row : Nat → Int32) (M : Nat), i ≤ c.length → c.drop i = r → p.length ≤ m → (∀ a ∈ p, a < 30) → hr_A p row → M < 2 ^ 30 → (∀ a, M.testBit a = true ↔ a ∈ p) →
    ∃ row' M', f_Ch_choose_13 N V nums vals (nI c.length) (nI m) (m1 + r.length + 1) row (nI p.length) (nI M) (nI i) = f_Ch_choose_69 N nums (nI c.length) (nI m) N row' (nI (ch_1 key (ch_bt vec) m r p).length) (nI M') 0 ∧ hr_A (ch_1 key (ch_bt vec) m r p) row' ∧ (∀ a ∈ ch_1 key (ch_bt vec) m r p, a < 30) ∧ M' < 2 ^ 30 ∧ (∀ a, M'.testBit a = true ↔ a ∈ ch_1 key (ch_bt vec) m r p) := by
  intro r
  induction r with
  | nil =>
    intro i m1 p row M hi h h1 h2 h3 h4 h5
    have := ch_nil h
    refine ⟨row, M, ?_, h3, h2, h4, h5⟩
    rw [f_Ch_choose_13]
    unfold f_Rk_size
    rw [Option.bind_some, if_pos (nI_le this (by omega))]
    rfl
  | cons n r ih =>
    intro i m1 p row M hi h h1 h2 h3 h4 h5
    obtain ⟨d1, d2, d3, d4⟩ := ch_dr h
    have hn := hc n d4
    rw [List.length_cons, show m1 + (r.length + 1) + 1 = (m1 + r.length + 1) + 1 from rfl, f_Ch_choose_13]
    unfold f_Rk_size f_Rk_numberAt f_Rk_valueAt
    rw [Option.bind_some, if_neg (nI_ge d1 (by omega)), ch_1]
    by_cases c1 : p.length < m
    · have hnr := ch_near (N := N) (by omega) hV (key := key) hn h2 (by omega) h3 p 0 (N - p.length - 1) (by omega) rfl
      rw [show N - p.length - 1 + p.length + 1 = N by omega, nI_0] at hnr
      rw [if_neg (nI_ge c1 (by omega)), pb_at (show i < 30 by omega) (by decide), pd_cl (show i < 2147483648 by omega), (hA i d1).1, (hA i d1).2, d2, Option.bind_some, pb_at (show i < 30 by omega) (by decide), Option.bind_some]
      unfold f_Ch_isNearestToVector
      rw [hnr, Option.bind_some]
      by_cases c2 : ch_g key (ch_bt vec) n p = true
      · simp only [if_pos c2]
        rw [if_neg pz_10, if_pos ⟨c1, c2⟩]
        unfold f_Ch_take
        rw [pb_at (show p.length < 30 by omega) (by decide), Option.bind_some, pd_cl (show p.length < 2147483648 by omega), pm_set hn, nI_1, nI_1]
        have e : p.length + 1 = (p ++ [n]).length := by rw [List.length_append, List.length_singleton]
        rw [e]
        refine ih (i + 1) m1 (p ++ [n]) _ (M ||| 2 ^ n) d1 d3 (by omega) (fun a ha => ?_) (ch_cat h3) (pm_set_lt h4 hn) (fun a => ?_)
        · rcases List.mem_append.mp ha with q | q
          · exact h2 a q
          · rw [List.mem_singleton.mp q]; exact hn
        · rw [pm_set_bit, List.mem_append, List.mem_singleton, ← h5 a, Bool.or_eq_true, decide_eq_true_iff, eq_comm (a := a)]
      · simp only [if_neg c2]
        rw [if_pos trivial, if_neg (fun q => by first | exact c2 q.2 | exact q.2), nI_1]
        exact ih (i + 1) m1 p row M d1 d3 h1 h2 h3 h4 h5
    · rw [if_pos (nI_le (show m ≤ p.length by omega) (by omega)), if_neg (fun q => c1 q.1), ch_1_full (by omega)]
      exact ⟨row, M, rfl, h3, h2, h4, h5⟩
end
section
/-! PURE: to choose, the reference -/
theorem cr_105 {N : Nat} (hN : 5 ≤ N) (vec aim : Nat → Int32) {n : Nat} (hn : n < 30) {p : List Nat} (hp : ∀ a ∈ p, a < 30) (hp8 : p.length < 8) {pk : Nat → Int32} (hA : hr_A p pk) (kk : Int32 → Int32 → Option ((Nat → Int32) × (Nat → Int32) × (Nat → Int32) × Int32)) : ∀ (r : List Nat) (i m : Nat) (g : Int32), i ≤ p.length → p.drop i = r → f_Mo_choose_105 N vec aim pk (nI p.length) (nI n) kk (m + r.length + 1) g (nI i) = kk (if ch_g (pn_key vec aim) (ch_bt vec) n r = true then g else 0) (nI p.length) := by
  intro r
  induction r with
  | nil =>
    intro i m g hi h
    have := ch_nil h
    rw [f_Mo_choose_105, if_pos (nI_le this (by omega)), show i = p.length by omega]
    rfl
  | cons q r ih =>
    intro i m g hi h
    obtain ⟨h1, h2, h3, h4⟩ := ch_dr h
    have hq := hp q h4
    have e : ch_g (pn_key vec aim) (ch_bt vec) n (q :: r) = (decide (pn_key vec aim n < ch_bt vec n q) && ch_g (pn_key vec aim) (ch_bt vec) n r) := rfl
    rw [e, List.length_cons, show m + (r.length + 1) + 1 = (m + r.length + 1) + 1 from rfl, f_Mo_choose_105, if_neg (nI_ge h1 (by omega)), ch_far hN vec aim hn, Option.bind_some, pb_at (show i < 8 by omega) (by decide), pd_cl (show i < 2147483648 by omega), hA i h1, h2, ch_between hN vec hn hq, Option.bind_some, nI_1]
    by_cases c : pn_key vec aim n < ch_bt vec n q
    · rw [if_pos c, ih (i + 1) m g h1 h3, decide_eq_true c, Bool.true_and]
    · rw [if_neg c, ih (i + 1) m 0 h1 h3, decide_eq_false c, Bool.false_and]
      simp
theorem cr_pop {lt : Nat → Nat → Bool} (T : so_T lt) {op : Nat → Int32} {y : Nat} {t : List Nat} (h : so_set lt (pn_P op) 30 = y :: t) : y < 30 ∧ so_set lt (pn_P (upd op y 0)) 30 = t := by
  have hym : y ∈ so_set lt (pn_P op) 30 := by rw [h]; exact List.mem_cons_self
  have so : so_ok lt (y :: t) := by rw [← h]; exact so_set_ok T _
  have hyt : y ∉ t := fun q => by
    have := (List.pairwise_cons.mp so).1 y q
    rw [T.1] at this
    cases this
  refine ⟨(so_set_mem.mp hym).1, ?_⟩
  rw [pf_del T, h, List.filter_cons]
  simp only [bne_self_eq_false, Bool.false_eq_true, if_false]
  exact List.filter_eq_self.mpr (fun a ha => by rw [bne_iff_ne]; exact fun e => hyt (by rw [← e]; exact ha))
theorem cr_ch {p : List Nat} {ch : Nat → Int32} {n : Nat} (h : ∀ a, a < 30 → (ch a ≠ 0 ↔ a ∈ p)) : ∀ a, a < 30 → (upd ch n 1 a ≠ 0 ↔ a ∈ p ++ [n]) := by
  intro a ha
  rw [List.mem_append, List.mem_singleton]
  by_cases e : a = n
  · subst e
    rw [pk_us]
    exact ⟨fun _ => Or.inr rfl, fun _ => pz_10⟩
  · rw [pk_un e, h a ha]
    exact ⟨Or.inl, fun q => q.elim id (fun r => absurd r e)⟩
theorem cr_63 {N : Nat} (hN : 64 ≤ N) (vec aim pool : Nat → Int32) {L m : Nat} (hL : L ≤ 30) (hm : m ≤ 6) : ∀ (r : List Nat) (i m1 : Nat) (op ch pk : Nat → Int32) (p : List Nat), i + r.length = L → so_set (pn_lt (pn_key vec aim)) (pn_P op) 30 = r → p.length ≤ m → (∀ a ∈ p, a < 30) → hr_A p pk → (∀ a, a < 30 → (ch a ≠ 0 ↔ a ∈ p)) →
    ∃ op' ch' pk', f_Mo_choose_63 N vec aim pool (nI L) (nI m) (m1 + r.length + 1) op ch pk (nI p.length) (nI i) = f_Mo_choose_161 N vec aim pool (nI L) (nI m) ch' pk' (nI (ch_1 (pn_key vec aim) (ch_bt vec) m r p).length) N op' 0 ∧ hr_A (ch_1 (pn_key vec aim) (ch_bt vec) m r p) pk' ∧ (∀ a, a < 30 → (ch' a ≠ 0 ↔ a ∈ ch_1 (pn_key vec aim) (ch_bt vec) m r p)) ∧ ∀ a, a < 30 → op' a = 0 := by
  have T := pn_T (pn_key vec aim)
  intro r
  induction r with
  | nil =>
    intro i m1 op ch pk p hi hs h1 h2 h3 h4
    refine ⟨op, ch, pk, ?_, h3, h4, fun a ha => Decidable.byContradiction fun q => ?_⟩
    · rw [f_Mo_choose_63, if_pos (nI_le (by simp at hi; omega) (by omega))]
      rfl
    · have := (pw_set_mem (lt := pn_lt (pn_key vec aim)) ha).mpr q
      rw [hs] at this
      exact absurd this List.not_mem_nil
  | cons n r ih =>
    intro i m1 op ch pk p hi hs h1 h2 h3 h4
    rw [List.length_cons] at hi
    obtain ⟨hn, hs2⟩ := cr_pop T hs
    rw [List.length_cons, show m1 + (r.length + 1) + 1 = (m1 + r.length + 1) + 1 from rfl, f_Mo_choose_63, if_neg (nI_ge (by omega) (by omega)), pn_nearest_open (by omega), hs, Option.bind_some, ch_1]
    simp only [List.head?_cons, pn_o]
    rw [pb_at hn (by decide), pd_cl (show n < 2147483648 by omega), pz_n0]
    have fu : N = (N - p.length - 1) + p.length + 1 := by omega
    by_cases c1 : p.length < m
    · rw [if_neg (nI_ge c1 (by omega))]
      have q := cr_105 (N := N) (by omega) vec aim hn h2 (by omega) h3 (fun v4_21 v5_21 => (if v4_21 = 0 then (f_Mo_choose_63 N vec aim pool (nI L) (nI m) (m1 + r.length + 1) (upd op n 0) ch pk (nI p.length) (nI i + 1)) else ((f_Mo_pick N ch pk (nI p.length) (nI n)).bind fun p24 => (f_Mo_choose_63 N vec aim pool (nI L) (nI m) (m1 + r.length + 1) (upd op n 0) p24.1 p24.2.1 p24.2.2 (nI i + 1))))) p 0 (N - p.length - 1) 1 (by omega) rfl
      rw [← fu, nI_0] at q
      rw [q]
      by_cases c2 : ch_g (pn_key vec aim) (ch_bt vec) n p = true
      · simp only [if_pos c2]
        rw [if_neg pz_10, if_pos ⟨c1, c2⟩]
        unfold f_Mo_pick
        rw [pb_at (show p.length < 8 by omega) (by decide), pb_at hn (by decide), Option.bind_some, pd_cl (show p.length < 2147483648 by omega), pd_cl (show n < 2147483648 by omega), pz_n1, nI_1, nI_1]
        have e : p.length + 1 = (p ++ [n]).length := by rw [List.length_append, List.length_singleton]
        rw [e]
        exact ih (i + 1) m1 (upd op n 0) _ _ (p ++ [n]) (by omega) hs2 (by omega) (fun a ha => (List.mem_append.mp ha).elim (h2 a) (fun q => by rw [List.mem_singleton.mp q]; exact hn)) (ch_cat h3) (cr_ch h4)
      · simp only [if_neg c2]
        rw [if_pos trivial, if_neg (fun q => c2 q.2), nI_1]
        exact ih (i + 1) m1 (upd op n 0) ch pk p (by omega) hs2 h1 h2 h3 h4
    · rw [if_pos (nI_le (show m ≤ p.length by omega) (by omega)), if_neg (fun q => c1 q.1)]
      have q := cr_105 (N := N) (by omega) vec aim hn h2 (by omega) h3 (fun v4_16 v5_16 => (if v4_16 = 0 then (f_Mo_choose_63 N vec aim pool (nI L) (nI m) (m1 + r.length + 1) (upd op n 0) ch pk (nI p.length) (nI i + 1)) else ((f_Mo_pick N ch pk (nI p.length) (nI n)).bind fun p19 => (f_Mo_choose_63 N vec aim pool (nI L) (nI m) (m1 + r.length + 1) (upd op n 0) p19.1 p19.2.1 p19.2.2 (nI i + 1))))) p 0 (N - p.length - 1) 0 (by omega) rfl
      rw [← fu, nI_0] at q
      rw [q]
      simp only [ite_self]
      rw [if_pos trivial, nI_1]
      exact ih (i + 1) m1 (upd op n 0) ch pk p (by omega) hs2 h1 h2 h3 h4
theorem cr_161 {N : Nat} (vec aim pool : Nat → Int32) {u p : List Nat} (hu : ∀ a ∈ u, a < 30) (hu30 : u.length ≤ 30) (hA : hr_A u pool) (m pl : Int32) {ch : Nat → Int32} (hch : ∀ a, a < 30 → (ch a ≠ 0 ↔ a ∈ p)) (pk : Nat → Int32) : ∀ (k i m1 : Nat) (op : Nat → Int32), i + k = u.length → (∀ a, a < 30 → (op a ≠ 0 ↔ a ∈ u.take i ∧ a ∉ p)) →
    ∃ op', f_Mo_choose_161 N vec aim pool (nI u.length) m ch pk pl (m1 + k + 1) op (nI i) = ((f_Mo_nearest_open N vec aim op').bind fun p27 => (f_Mo_choose_214 N vec aim m N op' ch pk pl p27)) ∧ ∀ a, a < 30 → (op' a ≠ 0 ↔ a ∈ u ∧ a ∉ p) := by
  intro k
  induction k with
  | zero =>
    intro i m1 op hi h
    rw [List.take_of_length_le (by omega)] at h
    refine ⟨op, ?_, h⟩
    rw [f_Mo_choose_161, if_pos (nI_le (by omega) (by omega))]
  | succ k ih =>
    intro i m1 op hi h
    have g1 := hu _ (wp_getD (show i < u.length by omega))
    have hg : u.getD i 0 = u[i]'(by omega) := by rw [List.getD_eq_getElem?_getD, List.getElem?_eq_getElem (by omega)]; rfl
    have mm : ∀ a, a ∈ u.take (i + 1) ↔ a ∈ u.take i ∨ a = u.getD i 0 := fun a => by
      rw [← List.take_append_getElem (show i < u.length by omega), List.mem_append, List.mem_singleton, ← hg]
    rw [show m1 + (k + 1) + 1 = (m1 + k + 1) + 1 from rfl, f_Mo_choose_161, if_neg (nI_ge (by omega) (by omega))]
    simp only [pd_cl (show i < 2147483648 by omega), hA i (by omega), pb_at (show i < 30 by omega) (show 30 < 2147483648 by decide), pb_at g1 (show 30 < 2147483648 by decide), pd_cl (show u.getD i 0 < 2147483648 by omega), pz_n1, pz_n0, nI_1]
    by_cases c : ch (u.getD i 0) = 0
    · rw [if_pos c]
      refine ih (i + 1) m1 _ (by omega) (fun a ha => ?_)
      rw [mm]
      by_cases e : a = u.getD i 0
      · rw [e, pk_us]
        exact ⟨fun _ => ⟨Or.inr rfl, fun q => (hch _ g1).mpr q c⟩, fun _ => pz_10⟩
      · rw [pk_un e, h a ha]
        exact ⟨fun q => ⟨Or.inl q.1, q.2⟩, fun q => ⟨q.1.elim id (fun r => absurd r e), q.2⟩⟩
    · rw [if_neg c]
      have hp : u.getD i 0 ∈ p := (hch _ g1).mp c
      refine ih (i + 1) m1 _ (by omega) (fun a ha => ?_)
      rw [mm]
      by_cases e : a = u.getD i 0
      · rw [e, pk_us]
        exact ⟨fun q => absurd rfl q, fun q => absurd hp q.2⟩
      · rw [pk_un e, h a ha]
        exact ⟨fun q => ⟨Or.inl q.1, q.2⟩, fun q => ⟨q.1.elim id (fun r => absurd r e), q.2⟩⟩
theorem cr_214 {N : Nat} (hN : 31 ≤ N) (vec aim : Nat → Int32) {m : Nat} (hm : m ≤ 6) : ∀ (r : List Nat) (m1 : Nat) (op ch pk : Nat → Int32) (p : List Nat), so_set (pn_lt (pn_key vec aim)) (pn_P op) 30 = r → p.length ≤ m → hr_A p pk →
    ∃ op' ch' pk', f_Mo_choose_214 N vec aim (nI m) (m1 + r.length + 1) op ch pk (nI p.length) (pn_o r.head?) = some (op', ch', pk', nI (p ++ r.take (m - p.length)).length) ∧ hr_A (p ++ r.take (m - p.length)) pk' := by
  have T := pn_T (pn_key vec aim)
  intro r
  induction r with
  | nil =>
    intro m1 op ch pk p hs h1 h2
    rw [List.take_nil, List.append_nil]
    refine ⟨op, ch, pk, ?_, h2⟩
    rw [f_Mo_choose_214, if_pos (show pn_o ([] : List Nat).head? < 0 by decide)]
  | cons n r ih =>
    intro m1 op ch pk p hs h1 h2
    obtain ⟨hn, hs2⟩ := cr_pop T hs
    rw [show pn_o (n :: r).head? = nI n from rfl, List.length_cons, show m1 + (r.length + 1) + 1 = (m1 + r.length + 1) + 1 from rfl, f_Mo_choose_214]
    rw [if_neg (pn_neg hn)]
    by_cases c1 : p.length < m
    · rw [if_neg (nI_ge c1 (by omega)), pb_at hn (by decide)]
      unfold f_Mo_pick
      rw [pb_at (show p.length < 8 by omega) (by decide), pb_at hn (by decide), Option.bind_some, pd_cl (show p.length < 2147483648 by omega), pd_cl (show n < 2147483648 by omega), pz_n1, pz_n0, nI_1, pn_nearest_open hN, hs2, Option.bind_some]
      have e : p.length + 1 = (p ++ [n]).length := by rw [List.length_append, List.length_singleton]
      obtain ⟨d, hd⟩ : ∃ d, m - p.length = d + 1 := ⟨m - p.length - 1, by omega⟩
      have e2 : p ++ (n :: r).take (m - p.length) = (p ++ [n]) ++ r.take (m - (p ++ [n]).length) := by
        rw [hd, List.take_succ_cons, ← e, show m - (p.length + 1) = d by omega, List.append_assoc]
        rfl
      rw [e2, e]
      exact ih m1 (upd op n 0) _ _ (p ++ [n]) hs2 (by omega) (ch_cat h2)
    · rw [if_pos (nI_le (show m ≤ p.length by omega) (by omega)), show m - p.length = 0 by omega, List.take_zero, List.append_nil]
      exact ⟨op, ch, pk, rfl, h2⟩
theorem cr_30 {N : Nat} (vec aim pk pool : Nat → Int32) {u : List Nat} (hu : ∀ a ∈ u, a < 30) (hu30 : u.length ≤ 30) (hA : hr_A u pool) (m : Int32) (ch : Nat → Int32) : ∀ (k i m1 : Nat) (op : Nat → Int32), i + k = u.length → (∀ a, a < 30 → (op a ≠ 0 ↔ a ∈ u.take i)) →
    ∃ op', f_Mo_choose_30 N vec aim pk pool (nI u.length) m ch (m1 + k + 1) op (nI i) = f_Mo_choose_63 N vec aim pool (nI u.length) m N op' ch pk 0 0 ∧ ∀ a, a < 30 → (op' a ≠ 0 ↔ a ∈ u) := by
  intro k
  induction k with
  | zero =>
    intro i m1 op hi h
    rw [List.take_of_length_le (by omega)] at h
    refine ⟨op, ?_, h⟩
    rw [f_Mo_choose_30, if_pos (nI_le (by omega) (by omega))]
  | succ k ih =>
    intro i m1 op hi h
    have g1 := hu _ (wp_getD (show i < u.length by omega))
    have hg : u.getD i 0 = u[i]'(by omega) := by rw [List.getD_eq_getElem?_getD, List.getElem?_eq_getElem (by omega)]; rfl
    have mm : ∀ a, a ∈ u.take (i + 1) ↔ a ∈ u.take i ∨ a = u.getD i 0 := fun a => by
      rw [← List.take_append_getElem (show i < u.length by omega), List.mem_append, List.mem_singleton, ← hg]
    rw [show m1 + (k + 1) + 1 = (m1 + k + 1) + 1 from rfl, f_Mo_choose_30, if_neg (nI_ge (by omega) (by omega))]
    simp only [pd_cl (show i < 2147483648 by omega), hA i (by omega), pb_at (show i < 30 by omega) (show 30 < 2147483648 by decide), pb_at g1 (show 30 < 2147483648 by decide), pd_cl (show u.getD i 0 < 2147483648 by omega), pz_n1, nI_1]
    refine ih (i + 1) m1 _ (by omega) (fun a ha => ?_)
    rw [mm]
    by_cases e : a = u.getD i 0
    · rw [e, pk_us]
      exact ⟨fun _ => Or.inr rfl, fun _ => pz_10⟩
    · rw [pk_un e, h a ha]
      exact ⟨Or.inl, fun q => q.elim id (fun r => absurd r e)⟩
theorem cr_2 {N : Nat} (vec aim pk pool : Nat → Int32) (L m : Int32) : ∀ (k j m1 : Nat) (op ch : Nat → Int32), j + k = 30 → (∀ a, a < j → op a = 0 ∧ ch a = 0) →
    ∃ op' ch', f_Mo_choose_2 N vec aim pk pool L m (m1 + k + 1) op ch (nI j) = f_Mo_choose_30 N vec aim pk pool L m ch' N op' 0 ∧ ∀ a, a < 30 → op' a = 0 ∧ ch' a = 0 := by
  intro k
  induction k with
  | zero =>
    intro j m1 op ch hj h
    refine ⟨op, ch, ?_, fun a ha => h a (by omega)⟩
    rw [f_Mo_choose_2, if_pos (show (30 : Int32) ≤ nI j from nI_le (a := 30) (by omega) (by omega))]
  | succ k ih =>
    intro j m1 op ch hj h
    rw [show m1 + (k + 1) + 1 = (m1 + k + 1) + 1 from rfl, f_Mo_choose_2, if_neg (show ¬ (30 : Int32) ≤ nI j from nI_ge (b := 30) (by omega) (by omega)), pb_at (show j < 30 by omega) (by decide), pb_at (show j < 30 by omega) (by decide), pd_cl (show j < 2147483648 by omega), pz_n0, nI_1]
    refine ih (j + 1) m1 _ _ (by omega) (fun a ha => ?_)
    by_cases e : a = j
    · subst e; rw [pk_us, pk_us]; exact ⟨rfl, rfl⟩
    · rw [pk_un e, pk_un e]; exact h a (by omega)
theorem cr_ok {N : Nat} (hN : 64 ≤ N) {V : Nat → Nat → Int32} {vec aim : Nat → Int32} (hV : ch_V V vec) {c u : List Nat} (hs : so_ok (pn_lt (pn_key vec aim)) c) (hc : ∀ a ∈ c, a < 30) (hc30 : c.length ≤ 30) (huc : ∀ a, a ∈ u ↔ a ∈ c) (hul : u.length = c.length) {nums vals pool : Nat → Int32} (hA : pr_A (pn_key vec aim) c nums vals) (hU : hr_A u pool) {m : Nat} (hm : m ≤ 6) (row op ch pk : Nat → Int32) :
    ∃ q row' M' op' ch' pk', f_Ch_choose N row V nums vals (nI c.length) (nI m) = some (row', nI q.length, M') ∧ f_Mo_choose N vec aim op ch pk pool (nI u.length) (nI m) = some (op', ch', pk', nI q.length) ∧ hr_A q row' ∧ hr_A q pk' ∧ q.Nodup ∧ (∀ a ∈ q, a ∈ c) ∧ q.length ≤ m := by
  have T := pn_T (pn_key vec aim)
  have hnd : c.Nodup := so_nodup T hs
  have hpr := ch_1_pr (key := pn_key vec aim) (bt := ch_bt vec) (m := m) (c := c) (p := []) hnd (Nat.zero_le _)
  have nilA : ∀ f : Nat → Int32, hr_A [] f := fun f i hi => absurd hi (Nat.not_lt_zero _)
  have hu : ∀ a ∈ u, a < 30 := fun a ha => hc a ((huc a).mp ha)
  obtain ⟨row1, M1, a1, a2, a3, a4, a5⟩ := ch_c13 hN hV hc hc30 hA hm c 0 (N - c.length - 1) [] row 0 (Nat.zero_le _) rfl (Nat.zero_le _) (fun a ha => absurd ha List.not_mem_nil) (nilA _) (by decide) (fun a => by simp)
  rw [show N - c.length - 1 + c.length + 1 = N by omega] at a1
  obtain ⟨row2, M2, b1, b2⟩ := ch_c69 (N := N) hc hc30 (nums := nums) (fun i hi => (hA i hi).1) hm c 0 (N - c.length - 1) _ row1 M1 (Nat.zero_le _) rfl hpr.2.1 a3 a2 a4 a5
  rw [show N - c.length - 1 + c.length + 1 = N by omega] at b1
  obtain ⟨op1, ch1, c1, c2⟩ := cr_2 (N := N) vec aim pk pool (nI u.length) (nI m) 30 0 (N - 31) op ch (by omega) (fun a ha => absurd ha (Nat.not_lt_zero _))
  rw [show N - 31 + 30 + 1 = N by omega] at c1
  obtain ⟨op2, d1, d2⟩ := cr_30 (N := N) vec aim pk pool hu (by omega) hU (nI m) ch1 u.length 0 (N - u.length - 1) op1 (by omega) (fun a ha => by rw [(c2 a ha).1]; simp)
  rw [show N - u.length - 1 + u.length + 1 = N by omega] at d1
  have hset : so_set (pn_lt (pn_key vec aim)) (pn_P op2) 30 = c := so_uniq T (so_set_ok T _) hs (fun a => by
    constructor
    · intro q
      have h30 := (so_set_mem.mp q).1
      exact (huc a).mp ((d2 a h30).mp ((pw_set_mem h30).mp q))
    · intro q
      exact (pw_set_mem (hc a q)).mpr ((d2 a (hc a q)).mpr ((huc a).mpr q)))
  obtain ⟨op3, ch3, pk3, e1, e2, e3, e4⟩ := cr_63 hN vec aim pool (L := u.length) (by omega) hm c 0 (N - c.length - 1) op2 ch1 pk [] (by omega) hset (Nat.zero_le _) (fun a ha => absurd ha List.not_mem_nil) (nilA _) (fun a ha => by rw [(c2 a ha).2]; simp)
  rw [show N - c.length - 1 + c.length + 1 = N by omega] at e1
  obtain ⟨op4, f1, f2⟩ := cr_161 (N := N) vec aim pool (p := ch_1 (pn_key vec aim) (ch_bt vec) m c []) hu (by omega) hU (nI m) (nI (ch_1 (pn_key vec aim) (ch_bt vec) m c []).length) e3 pk3 u.length 0 (N - u.length - 1) op3 (by omega) (fun a ha => by rw [e4 a ha]; simp)
  rw [show N - u.length - 1 + u.length + 1 = N by omega] at f1
  have hset4 : so_set (pn_lt (pn_key vec aim)) (pn_P op4) 30 = c.filter (fun a => decide (a ∉ ch_1 (pn_key vec aim) (ch_bt vec) m c [])) := so_uniq T (so_set_ok T _) (List.Pairwise.filter _ hs) (fun a => by
    rw [List.mem_filter, decide_eq_true_iff]
    constructor
    · intro q
      have h30 := (so_set_mem.mp q).1
      have := (f2 a h30).mp ((pw_set_mem h30).mp q)
      exact ⟨(huc a).mp this.1, this.2⟩
    · intro q
      exact (pw_set_mem (hc a q.1)).mpr ((f2 a (hc a q.1)).mpr ⟨(huc a).mpr q.1, q.2⟩))
  have hfl : (c.filter (fun a => decide (a ∉ ch_1 (pn_key vec aim) (ch_bt vec) m c []))).length ≤ 30 := Nat.le_trans (List.length_filter_le _ _) hc30
  obtain ⟨op5, ch5, pk5, g1, g2⟩ := cr_214 (N := N) (by omega) vec aim hm _ (N - (c.filter (fun a => decide (a ∉ ch_1 (pn_key vec aim) (ch_bt vec) m c []))).length - 1) op4 ch3 pk3 _ hset4 hpr.2.1 e2
  rw [show N - (c.filter (fun a => decide (a ∉ ch_1 (pn_key vec aim) (ch_bt vec) m c []))).length - 1 + (c.filter (fun a => decide (a ∉ ch_1 (pn_key vec aim) (ch_bt vec) m c []))).length + 1 = N by omega] at g1
  rw [← ch_2_eq hnd] at g1 g2
  refine ⟨ch_2 m c (ch_1 (pn_key vec aim) (ch_bt vec) m c []), row2, nI M2, op5, ch5, pk5, ?_, ?_, b2, g2, ?_, ?_, ?_⟩
  · unfold f_Ch_choose
    rw [show f_Ch_choose_13 N V nums vals (nI c.length) (nI m) N row 0 0 0 = _ from a1]
    exact b1
  · unfold f_Mo_choose
    rw [show f_Mo_choose_2 N vec aim pk pool (nI u.length) (nI m) N op ch 0 = _ from c1, show f_Mo_choose_30 N vec aim pk pool (nI u.length) (nI m) ch1 N op1 0 = _ from d1, show f_Mo_choose_63 N vec aim pool (nI u.length) (nI m) N op2 ch1 pk 0 0 = _ from e1, show f_Mo_choose_161 N vec aim pool (nI u.length) (nI m) ch3 pk3 _ N op3 0 = _ from f1, pn_nearest_open (by omega), hset4, Option.bind_some]
    exact g1
  · rw [ch_2_eq hnd]
    refine List.nodup_append.mpr ⟨hpr.1, (hnd.sublist ((List.take_sublist _ _).trans List.filter_sublist)), fun a ha b hb => ?_⟩
    have := (List.mem_filter.mp (List.mem_of_mem_take hb)).2
    rw [decide_eq_true_iff] at this
    exact fun e => this (by rw [← e]; exact ha)
  · intro a ha
    rw [ch_2_eq hnd] at ha
    rcases List.mem_append.mp ha with q | q
    · exact hpr.2.2 a q
    · exact (List.mem_filter.mp (List.mem_of_mem_take q)).1
  · rw [ch_2_eq hnd, List.length_append, List.length_take]
    have := hpr.2.1
    omega
end
section
/-! PURE: rows of neighbours -/
theorem ti_uu {f : Nat → Int32} {k : Nat} {a b : Int32} : upd (upd f k a) k b = upd f k b := by
  funext j
  by_cases e : j = k
  · subst e; rw [pk_us, pk_us]
  · rw [pk_un e, pk_un e, pk_un e]
theorem ti_sq (a b : Int32) : (a - b) * (a - b) = (b - a) * (b - a) := by
  have h : a - b = -(b - a) := by rw [Int32.neg_sub]
  rw [h, Int32.neg_mul, Int32.mul_neg, Int32.neg_neg]
theorem ti_sym (vec : Nat → Int32) (a b : Nat) : ch_bt vec a b = ch_bt vec b a := by
  unfold ch_bt
  exact ch_sum 4 (fun j _ => by unfold pd_F; exact ti_sq _ _)
theorem ti_key (vec aim : Nat → Int32) (o : Nat) (h : ∀ j, j < 4 → aim j = vec (4 * o + j)) (n : Nat) : pn_key vec aim n = ch_bt vec n o := by
  unfold pn_key ch_bt
  exact ch_sum 4 (fun j hj => by unfold pd_F; rw [h j hj])
def ti_w (R : Nat → Int32) (x : Nat) (q : List Nat) : Nat → Nat → Int32
  | 0 => R
  | k + 1 => upd (ti_w R x q k) (7 * x + k) (nI (q.getD k 0))
theorem ti_wG (R : Nat → Int32) (x : Nat) (q : List Nat) : ∀ k j : Nat, ti_w R x q k j = if 7 * x ≤ j ∧ j < 7 * x + k then nI (q.getD (j - 7 * x) 0) else R j
  | 0, j => by rw [if_neg (by omega)]; rfl
  | k + 1, j => by
    rw [ti_w]
    by_cases e : j = 7 * x + k
    · subst e
      rw [pk_us, if_pos (by omega), Nat.add_sub_cancel_left]
    · rw [pk_un e, ti_wG R x q k j]
      by_cases c : 7 * x ≤ j ∧ j < 7 * x + k
      · rw [if_pos c, if_pos (by omega)]
      · rw [if_neg c, if_neg (by omega)]
def ti_row (D R : Nat → Int32) (x : Nat) (u : List Nat) : Prop := D x = nI u.length ∧ ∀ i, i < u.length → R (7 * x + i) = nI (u.getD i 0)
theorem ti_append {N : Nat} {D R : Nat → Int32} {o layer d : Nat} (ho : o < 30) (hl : layer < 4) (hd : d < 7) (hD : D (4 * o + layer) = nI d) (v : Int32) : f_Li_append N D R (nI o) (nI layer) v = some (upd D (4 * o + layer) (nI (d + 1)), upd R (7 * (4 * o + layer) + d) v) := by
  unfold f_Li_append
  simp only [wk_x4, pb_at (show 4 * o + layer < 120 by omega) (show 120 < 2147483648 by decide), pd_cl (show 4 * o + layer < 2147483648 by omega), hD]
  rw [if_neg (show ¬ (7 : Int32) ≤ nI d from nI_ge (b := 7) hd (by decide)), wk_x7, pb_at (show 7 * (4 * o + layer) + d < 840 by omega) (by decide), pd_cl (show 7 * (4 * o + layer) + d < 2147483648 by omega), nI_1]
theorem ti_replace_14 {N : Nat} {D R row : Nat → Int32} {o layer : Nat} (ho : o < 30) (hl : layer < 4) {q : List Nat} (hq : q.length ≤ 6) (hA : hr_A q row) : ∀ (k i m : Nat), i + k = q.length → f_Li_replace_14 N row (nI q.length) (nI o) (nI layer) (m + k + 1) (upd D (4 * o + layer) (nI i)) (ti_w R (4 * o + layer) q i) (nI i) = some (upd D (4 * o + layer) (nI q.length), ti_w R (4 * o + layer) q q.length) := by
  intro k
  induction k with
  | zero =>
    intro i m hi
    rw [f_Li_replace_14]
    unfold f_Ch_size
    rw [Option.bind_some, if_pos (nI_le (by omega) (by omega)), show i = q.length by omega]
  | succ k ih =>
    intro i m hi
    rw [show m + (k + 1) + 1 = (m + k + 1) + 1 from rfl, f_Li_replace_14]
    unfold f_Ch_size f_Ch_chosen
    rw [Option.bind_some, if_neg (nI_ge (by omega) (by omega)), pb_at (show i < 30 by omega) (by decide), pd_cl (show i < 2147483648 by omega), hA i (by omega), Option.bind_some, ti_append ho hl (show i < 7 by omega) pk_us, Option.bind_some, ti_uu, nI_1]
    exact ih (i + 1) m (by omega)
theorem ti_replace {N : Nat} (hN : 64 ≤ N) {D R row : Nat → Int32} {o layer : Nat} (ho : o < 30) (hl : layer < 4) {q : List Nat} (hq : q.length ≤ 6) (hA : hr_A q row) : f_Li_replace N D R row (nI q.length) (nI o) (nI layer) = some (upd D (4 * o + layer) (nI q.length), ti_w R (4 * o + layer) q q.length) := by
  unfold f_Li_replace
  rw [wk_x4, pb_at (show 4 * o + layer < 120 by omega) (by decide), pd_cl (show 4 * o + layer < 2147483648 by omega)]
  have := ti_replace_14 (N := N) (D := D) (R := R) ho hl hq hA q.length 0 (N - q.length - 1) (by omega)
  rw [show N - q.length - 1 + q.length + 1 = N by omega] at this
  exact this
theorem ti_take_2 {N : Nat} {D R pk : Nat → Int32} {x : Nat} (hx : x < 120) {q : List Nat} (hq : q.length ≤ 6) (hA : hr_A q pk) : ∀ (k i m : Nat), i + k = q.length → f_Mo_take_2 N D pk (nI q.length) (nI x) (m + k + 1) (ti_w R x q i) (nI i) = some (ti_w R x q q.length, upd D x (nI q.length)) := by
  intro k
  induction k with
  | zero =>
    intro i m hi
    rw [f_Mo_take_2, if_pos (nI_le (by omega) (by omega)), pb_at hx (by decide), pd_cl (show x < 2147483648 by omega), show i = q.length by omega]
  | succ k ih =>
    intro i m hi
    rw [show m + (k + 1) + 1 = (m + k + 1) + 1 from rfl, f_Mo_take_2, if_neg (nI_ge (by omega) (by omega)), pb_at (show i < 8 by omega) (by decide), wk_7x, pb_at (show 7 * x + i < 840 by omega) (by decide), pd_cl (show 7 * x + i < 2147483648 by omega), pd_cl (show i < 2147483648 by omega), hA i (by omega), nI_1]
    exact ih (i + 1) m (by omega)
theorem ti_take {N : Nat} (hN : 64 ≤ N) {D R pk : Nat → Int32} {x : Nat} (hx : x < 120) {q : List Nat} (hq : q.length ≤ 6) (hA : hr_A q pk) : f_Mo_take N R D pk (nI q.length) (nI x) = some (ti_w R x q q.length, upd D x (nI q.length)) := by
  unfold f_Mo_take
  have := ti_take_2 (N := N) (D := D) (R := R) hx hq hA q.length 0 (N - q.length - 1) (by omega)
  rw [show N - q.length - 1 + q.length + 1 = N by omega] at this
  exact this
theorem ti_aimAt_2 {N : Nat} (vec : Nat → Int32) {o : Nat} (ho : o < 30) : ∀ (k j m : Nat) (aim : Nat → Int32), j + k = 4 → (∀ a, a < j → aim a = vec (4 * o + a)) → ∃ aim', f_Mo_aimAt_2 N vec (nI o) (m + k + 1) aim (nI j) = some aim' ∧ ∀ a, a < 4 → aim' a = vec (4 * o + a) := by
  intro k
  induction k with
  | zero =>
    intro j m aim hj h
    refine ⟨aim, ?_, fun a ha => h a (by omega)⟩
    rw [f_Mo_aimAt_2, if_pos (show (4 : Int32) ≤ nI j from nI_le (a := 4) (by omega) (by omega))]
  | succ k ih =>
    intro j m aim hj h
    rw [show m + (k + 1) + 1 = (m + k + 1) + 1 from rfl, f_Mo_aimAt_2, if_neg (show ¬ (4 : Int32) ≤ nI j from nI_ge (b := 4) (by omega) (by omega)), pd_4, pb_at (show 4 * o + j < 120 by omega) (by decide), pb_at (show j < 4 by omega) (by decide), pd_cl (show j < 2147483648 by omega), pd_cl (show 4 * o + j < 2147483648 by omega), nI_1]
    refine ih (j + 1) m _ (by omega) (fun a ha => ?_)
    by_cases e : a = j
    · subst e; rw [pk_us]
    · rw [pk_un e]; exact h a (by omega)
theorem ti_aimAt {N : Nat} (hN : 64 ≤ N) (vec aim : Nat → Int32) {o : Nat} (ho : o < 30) : ∃ aim', f_Mo_aimAt N vec aim (nI o) = some aim' ∧ ∀ a, a < 4 → aim' a = vec (4 * o + a) := by
  have := ti_aimAt_2 (N := N) vec ho 4 0 (N - 5) aim (by omega) (fun a ha => absurd ha (Nat.not_lt_zero _))
  rw [show N - 5 + 4 + 1 = N by omega] at this
  exact this
def ti_most (layer : Nat) : Nat := if layer = 0 then 6 else 3
theorem ti_most6 (layer : Nat) : ti_most layer ≤ 6 ∧ 3 ≤ ti_most layer := by
  unfold ti_most
  by_cases h : layer = 0
  · rw [if_pos h]; omega
  · rw [if_neg h]; omega
theorem ti_mostI (N : Nat) {layer : Nat} (hl : layer < 4) : f_Li_most N (nI layer) = some (nI (ti_most layer)) := by
  unfold f_Li_most ti_most
  by_cases h : layer = 0
  · subst h; rfl
  · rw [if_neg (nI_ne0 (by omega) (by omega)), if_neg h]; rfl
/-- the class shortens: the candidates in order -/
theorem ti_13 {N : Nat} (hN : 64 ≤ N) {V : Nat → Nat → Int32} {vec : Nat → Int32} (hV : ch_V V vec) {key : Nat → Int32} {D R : Nat → Int32} {o layer : Nat} (ho : o < 30) (hl : layer < 4) (hk : ∀ a, a < 30 → ch_bt vec o a = key a) {u : List Nat} (hrow : ti_row D R (4 * o + layer) u) (hnd : u.Nodup) (hu : ∀ a ∈ u, a < 30) (hu7 : u.length ≤ 7) (ord lev que : Nat → Int32) (sz : Int32) (C : T_Ch) :
    ∀ (k i m1 : Nat) (c : List Nat) (kn kv : Nat → Int32), i + k = u.length → so_ok (pn_lt key) c → (∀ a, a ∈ c ↔ a ∈ u.take i) → c.length = i → pr_A key c kn kv →
    ∃ c' kn' kv', f_Gr_shorten_13 N (ord, lev, D, R, que, sz) C V (nI o) (nI layer) (m1 + k + 1) (kn, kv, nI c.length, nI 30, 0) (nI i) = ((f_Ch_choose N C.1 V kn' kv' (nI c'.length) (nI (ti_most layer))).bind fun p6 => ((f_Li_replace N D R p6.1 p6.2.1 (nI o) (nI layer)).bind fun p8 => (some ((ord, lev, p8.1, p8.2, que, sz), (p6.1, p6.2.1, p6.2.2), (kn', kv', nI c'.length, nI 30, 0))))) ∧ so_ok (pn_lt key) c' ∧ (∀ a, a ∈ c' ↔ a ∈ u) ∧ c'.length = u.length ∧ pr_A key c' kn' kv' := by
  have T := pn_T key
  intro k
  induction k with
  | zero =>
    intro i m1 c kn kv hi h1 h2 h3 h4
    rw [List.take_of_length_le (by omega)] at h2
    refine ⟨c, kn, kv, ?_, h1, h2, by omega, h4⟩
    rw [f_Gr_shorten_13]
    unfold f_Li_degree
    dsimp only
    rw [wk_x4, pb_at (show 4 * o + layer < 120 by omega) (by decide), pd_cl (show 4 * o + layer < 2147483648 by omega), hrow.1, Option.bind_some, if_pos (nI_le (by omega) (by omega)), ti_mostI N hl, Option.bind_some]
  | succ k ih =>
    intro i m1 c kn kv hi h1 h2 h3 h4
    have hg : u.getD i 0 = u[i]'(by omega) := by rw [List.getD_eq_getElem?_getD, List.getElem?_eq_getElem (by omega)]; rfl
    have mm : ∀ a, a ∈ u.take (i + 1) ↔ a ∈ u.take i ∨ a = u.getD i 0 := fun a => by
      rw [← List.take_append_getElem (show i < u.length by omega), List.mem_append, List.mem_singleton, ← hg]
    have g1 := hu _ (wp_getD (show i < u.length by omega))
    have hnc : u.getD i 0 ∉ c := fun q => by
      have q2 := (h2 _).mp q
      obtain ⟨j, hj, hj2⟩ := List.mem_iff_getElem.mp q2
      rw [List.length_take] at hj
      rw [List.getElem_take, hg] at hj2
      have := (List.nodup_iff_pairwise_ne.mp hnd)
      exact (List.pairwise_iff_getElem.mp this j i (by omega) (by omega) (by omega)) hj2
    obtain ⟨kn1, kv1, a1, a2⟩ := pa_ok (N := N) (room := 30) (by omega) T (wk_hp N key) g1 (fun a ha => hu a (List.mem_of_mem_take ((h2 a).mp ha))) (Nat.le_refl _) (by omega) h1 kn kv h4
    have opa : pa_add (pn_lt key) 30 (u.getD i 0) c = (true, so_ins (pn_lt key) (u.getD i 0) c) := by unfold pa_add; rw [if_pos (by omega)]
    rw [opa] at a1 a2
    rw [show m1 + (k + 1) + 1 = (m1 + k + 1) + 1 from rfl, f_Gr_shorten_13]
    unfold f_Li_degree f_Li_linked f_Do_vector
    dsimp only
    rw [wk_x4, pb_at (show 4 * o + layer < 120 by omega) (by decide), pd_cl (show 4 * o + layer < 2147483648 by omega), hrow.1, Option.bind_some, if_neg (nI_ge (by omega) (by omega)), wk_x7, pb_at (show 7 * (4 * o + layer) + i < 840 by omega) (by decide), pd_cl (show 7 * (4 * o + layer) + i < 2147483648 by omega), hrow.2 i (by omega), Option.bind_some, pb_at ho (by decide), Option.bind_some, pb_at g1 (by decide), Option.bind_some, pd_cl (show o < 2147483648 by omega), pd_cl (show u.getD i 0 < 2147483648 by omega), ch_dist (by omega) hV ho g1, Option.bind_some, hk _ g1, a1, Option.bind_some, nI_1]
    exact ih (i + 1) m1 _ kn1 kv1 (by omega) (so_ins_ok T h1 hnc) (fun a => by rw [so_mem, mm, h2, or_comm]) (by rw [so_len]; omega) a2
theorem ti_169 {N : Nat} {n layer o i d : Nat} {R D : Nat → Int32} (kk : (Nat → Int32) → Int32 → Option ((Nat → Int32) × (Nat → Int32) × (Nat → Int32) × (Nat → Int32) × (Nat → Int32) × (Nat → Int32) × (Nat → Int32) × Int32 × Int32)) (hn : n < 30) (hl : layer < 4) (ho : o < 30) (hi7 : i < 7) (hRn : R (7 * (4 * n + layer) + i) = nI o) (hD : D (4 * o + layer) = nI d) {u : List Nat} (hu7 : u.length ≤ 7) (hud : u.length = d + 1) (hru : ∀ j, j < u.length → upd R (7 * (4 * o + layer) + d) (nI n) (7 * (4 * o + layer) + j) = nI (u.getD j 0)) :
    ∀ (k j m : Nat) (pool : Nat → Int32), j + k = u.length → (∀ a, a < j → pool a = nI (u.getD a 0)) → ∃ pool', f_Mo_tie_169 N (nI n) (nI layer) R D (nI i) kk (m + k + 1) pool (nI j) = kk pool' (nI u.length) ∧ hr_A u pool' := by
  intro k
  induction k with
  | zero =>
    intro j m pool hj h
    refine ⟨pool, ?_, fun a ha => h a (by omega)⟩
    rw [f_Mo_tie_169]
    simp only [pd_4, wk_7x, pd_cl (show 7 * (4 * n + layer) + i < 2147483648 by omega), hRn, pd_cl (show 4 * o + layer < 2147483648 by omega), pk_us, hD, nI_1]
    rw [if_pos (nI_le (by omega) (by omega)), show j = u.length by omega]
  | succ k ih =>
    intro j m pool hj h
    rw [show m + (k + 1) + 1 = (m + k + 1) + 1 from rfl, f_Mo_tie_169]
    simp only [pd_4, wk_7x, pd_cl (show 7 * (4 * n + layer) + i < 2147483648 by omega), hRn, pd_cl (show 4 * o + layer < 2147483648 by omega), pk_us, hD, nI_1]
    rw [if_neg (nI_ge (by omega) (by omega)), pb_at (show 7 * (4 * o + layer) + j < 840 by omega) (by decide), pb_at (show j < 30 by omega) (by decide), pd_cl (show 7 * (4 * o + layer) + j < 2147483648 by omega), pd_cl (show 7 * (4 * o + layer) + d < 2147483648 by omega), hru j (by omega), pd_cl (show j < 2147483648 by omega)]
    refine ih (j + 1) m _ (by omega) (fun a ha => ?_)
    by_cases e : a = j
    · subst e; rw [pk_us]
    · rw [pk_un e]; exact h a (by omega)
end
section
/-! PURE: to link a node in a layer, in step -/
def tl_I (P : Nat → Prop) (n layer : Nat) (q : List Nat) (D R : Nat → Int32) (i : Nat) : Prop :=
  ti_row D R (4 * n + layer) q ∧ ∀ o, P o → o < 30 ∧ o ≠ n ∧ ∃ u, ti_row D R (4 * o + layer) u ∧ u.Nodup ∧ u.length ≤ ti_most layer ∧ (∀ a ∈ u, P a ∨ a = n) ∧ (n ∈ u → o ∈ q.take i)
def tl_F (D R D' R' : Nat → Int32) (layer : Nat) : Prop := ∀ x, x % 4 ≠ layer → D' x = D x ∧ ∀ i, i < 7 → R' (7 * x + i) = R (7 * x + i)
theorem tl_row {D R D' R' : Nat → Int32} {x : Nat} {u : List Nat} (h : ti_row D R x u) (hu : u.length ≤ 7) (h1 : D' x = D x) (h2 : ∀ i, i < 7 → R' (7 * x + i) = R (7 * x + i)) : ti_row D' R' x u :=
  ⟨h1.trans h.1, fun i hi => (h2 i (by omega)).trans (h.2 i hi)⟩
theorem tl_step {P : Nat → Prop} {n layer : Nat} {q : List Nat} {D R D' R' : Nat → Int32} {i o : Nat} (hl : layer < 4) (hq6 : q.length ≤ 6) (hI : tl_I P n layer q D R i) (hi : i < q.length) (ho : q.getD i 0 = o) (hP : P o) (hoff : ∀ x, x ≠ 4 * o + layer → D' x = D x ∧ ∀ i, i < 7 → R' (7 * x + i) = R (7 * x + i)) {w : List Nat} (hw : ti_row D' R' (4 * o + layer) w) (hnd : w.Nodup) (hlen : w.length ≤ ti_most layer) (hm : ∀ a ∈ w, P a ∨ a = n) : tl_I P n layer q D' R' (i + 1) := by
  obtain ⟨h1, h2⟩ := hI
  have hon := (h2 o hP).2.1
  have m6 := (ti_most6 layer).1
  refine ⟨tl_row h1 (by omega) (hoff _ (by omega)).1 (hoff _ (by omega)).2, fun b hb => ?_⟩
  obtain ⟨g1, g2, u, g3, g4, g5, g6, g7⟩ := h2 b hb
  refine ⟨g1, g2, ?_⟩
  by_cases e : b = o
  · subst e
    refine ⟨w, hw, hnd, hlen, hm, fun _ => ?_⟩
    have hg : q.getD i 0 = q[i]'hi := by rw [List.getD_eq_getElem?_getD, List.getElem?_eq_getElem hi]; rfl
    rw [← List.take_append_getElem hi, List.mem_append, List.mem_singleton, ← hg, ho]
    exact Or.inr rfl
  · have hx : 4 * b + layer ≠ 4 * o + layer := by omega
    refine ⟨u, tl_row g3 (by omega) (hoff _ hx).1 (hoff _ hx).2, g4, g5, g6, fun h => ?_⟩
    have := g7 h
    rw [← List.take_append_getElem hi, List.mem_append]
    exact Or.inl this
theorem tl_catrow {D R : Nat → Int32} {x n : Nat} {u : List Nat} (h : ti_row D R x u) : ti_row (upd D x (nI (u.length + 1))) (upd R (7 * x + u.length) (nI n)) x (u ++ [n]) := by
  refine ⟨by rw [pk_us, List.length_append, List.length_singleton], fun i hi => ?_⟩
  rw [List.length_append, List.length_singleton] at hi
  by_cases e : i = u.length
  · subst e
    rw [pk_us, List.getD_eq_getElem?_getD, List.getElem?_append_right (Nat.le_refl _), Nat.sub_self]
    rfl
  · rw [pk_un (by omega), h.2 i (by omega), List.getD_eq_getElem?_getD, List.getD_eq_getElem?_getD, List.getElem?_append_left (by omega)]
theorem tl_loop {N : Nat} (hN : 64 ≤ N) {V : Nat → Nat → Int32} {vec : Nat → Int32} (hV : ch_V V vec) {P : Nat → Prop} {n layer : Nat} (hn : n < 30) (hl : layer < 4) {q : List Nat} (hqP : ∀ a ∈ q, P a) (hqn : q.Nodup) (hq6 : q.length ≤ 6) (ord lev que : Nat → Int32) (sz : Int32) :
    ∀ (r : List Nat) (i m1 m2 : Nat) (D R : Nat → Int32) (C : T_Ch) (K : T_Rk) (op ch pk pool aim : Nat → Int32) (picks pools : Int32), i ≤ q.length → q.drop i = r → tl_I P n layer q D R i →
    ∃ D' R' C' K' op' ch' pk' pool' aim' picks' pools', f_Gr_link_32 N V (nI n) (nI layer) (m1 + r.length + 1) (ord, lev, D, R, que, sz) C K (nI i) = some ((ord, lev, D', R', que, sz), C', K') ∧ f_Mo_tie_64 N vec (nI n) (nI layer) (m2 + r.length + 1) op ch pk pool R D aim picks pools (nI (ti_most layer)) (nI i) = some (R', D', aim', op', ch', pk', pool', picks', pools') ∧ tl_I P n layer q D' R' q.length ∧ tl_F D R D' R' layer := by
  have m6 := ti_most6 layer
  have N120 : 120 < 2147483648 := by decide
  have N840 : 840 < 2147483648 := by decide
  intro r
  induction r with
  | nil =>
    intro i m1 m2 D R C K op ch pk pool aim picks pools hi h hI
    have hle := ch_nil h
    have hie : i = q.length := by omega
    refine ⟨D, R, C, K, op, ch, pk, pool, aim, picks, pools, ?_, ?_, hie ▸ hI, fun x _ => ⟨rfl, fun _ _ => rfl⟩⟩
    · rw [f_Gr_link_32]
      unfold f_Li_degree
      dsimp only
      rw [wk_x4, pb_at (show 4 * n + layer < 120 by omega) N120, pd_cl (show 4 * n + layer < 2147483648 by omega), hI.1.1, Option.bind_some, if_pos (nI_le hle (by omega))]
    · rw [f_Mo_tie_64, pd_4, pb_at (show 4 * n + layer < 120 by omega) N120, pd_cl (show 4 * n + layer < 2147483648 by omega), hI.1.1, if_pos (nI_le hle (by omega))]
  | cons o r ih =>
    intro i m1 m2 D R C K op ch pk pool aim picks pools hi h hI
    obtain ⟨d1, d2, d3, d4⟩ := ch_dr h
    have hPo := hqP o d4
    obtain ⟨ho, hon, u, u1, u2, u3, u4, u5⟩ := hI.2 o hPo
    have hRn : R (7 * (4 * n + layer) + i) = nI o := by rw [hI.1.2 i d1, d2]
    have hnu : n ∉ u := fun qq => by
      have q2 := u5 qq
      obtain ⟨j, hj, hj2⟩ := List.mem_iff_getElem.mp q2
      rw [List.length_take] at hj
      have hg : q.getD i 0 = q[i]'d1 := by rw [List.getD_eq_getElem?_getD, List.getElem?_eq_getElem d1]; rfl
      rw [List.getElem_take, ← d2, hg] at hj2
      exact (List.pairwise_iff_getElem.mp (List.nodup_iff_pairwise_ne.mp hqn) j i (by omega) d1 (by omega)) hj2
    have hrow' := tl_catrow (n := n) u1
    have hnd' : (u ++ [n]).Nodup := List.nodup_append.mpr ⟨u2, List.nodup_cons.mpr ⟨List.not_mem_nil, List.nodup_nil⟩, fun a ha b hb => by rw [List.mem_singleton.mp hb]; exact fun e => hnu (by rw [← e]; exact ha)⟩
    have hlen' : (u ++ [n]).length = u.length + 1 := by rw [List.length_append, List.length_singleton]
    have hmem' : ∀ a ∈ u ++ [n], P a ∨ a = n := fun a ha => (List.mem_append.mp ha).elim (u4 a) (fun q => Or.inr (List.mem_singleton.mp q))
    have hlt' : ∀ a ∈ u ++ [n], a < 30 := fun a ha => (hmem' a ha).elim (fun q => (hI.2 a q).1) (fun q => by rw [q]; exact hn)
    have hoff1 : ∀ x, x ≠ 4 * o + layer → upd D (4 * o + layer) (nI (u.length + 1)) x = D x ∧ ∀ i, i < 7 → upd R (7 * (4 * o + layer) + u.length) (nI n) (7 * x + i) = R (7 * x + i) := fun x hx => ⟨pk_un hx, fun i hi => pk_un (by omega)⟩
    have cls : f_Gr_link_32 N V (nI n) (nI layer) (m1 + (o :: r).length + 1) (ord, lev, D, R, que, sz) C K (nI i) = (if nI (u.length + 1) ≤ nI (ti_most layer) then (f_Gr_link_32 N V (nI n) (nI layer) (m1 + r.length + 1) (ord, lev, upd D (4 * o + layer) (nI (u.length + 1)), upd R (7 * (4 * o + layer) + u.length) (nI n), que, sz) C K (nI (i + 1))) else ((f_Gr_shorten N (ord, lev, upd D (4 * o + layer) (nI (u.length + 1)), upd R (7 * (4 * o + layer) + u.length) (nI n), que, sz) C K V (nI o) (nI layer)).bind fun p14 => (f_Gr_link_32 N V (nI n) (nI layer) (m1 + r.length + 1) p14.1 p14.2.1 p14.2.2 (nI (i + 1))))) := by
      rw [List.length_cons, show m1 + (r.length + 1) + 1 = (m1 + r.length + 1) + 1 from rfl, f_Gr_link_32]
      unfold f_Li_degree f_Li_linked
      dsimp only
      rw [wk_x4, pb_at (show 4 * n + layer < 120 by omega) N120, pd_cl (show 4 * n + layer < 2147483648 by omega), hI.1.1, Option.bind_some, if_neg (nI_ge d1 (by omega)), wk_x7, pb_at (show 7 * (4 * n + layer) + i < 840 by omega) N840, pd_cl (show 7 * (4 * n + layer) + i < 2147483648 by omega), hRn, Option.bind_some, ti_append ho hl (show u.length < 7 by omega) u1.1, Option.bind_some]
      dsimp only
      rw [wk_x4, pb_at (show 4 * o + layer < 120 by omega) N120, pd_cl (show 4 * o + layer < 2147483648 by omega), pk_us, Option.bind_some, ti_mostI N hl, Option.bind_some, nI_1]
    have ref : f_Mo_tie_64 N vec (nI n) (nI layer) (m2 + (o :: r).length + 1) op ch pk pool R D aim picks pools (nI (ti_most layer)) (nI i) = (if nI (ti_most layer) < nI (u.length + 1) then ((f_Mo_aimAt N vec aim (nI o)).bind fun p22 => (f_Mo_tie_169 N (nI n) (nI layer) R D (nI i) (fun vak0_17_26 v7_26 => ((f_Mo_choose N vec p22 op ch pk vak0_17_26 (nI (u.length + 1)) (nI (ti_most layer))).bind fun p28 => ((f_Mo_take N (upd R (7 * (4 * o + layer) + u.length) (nI n)) (upd D (4 * o + layer) (nI (u.length + 1))) p28.2.2.1 p28.2.2.2 (nI (4 * o + layer))).bind fun p30 => (f_Mo_tie_64 N vec (nI n) (nI layer) (m2 + r.length + 1) p28.1 p28.2.1 p28.2.2.1 vak0_17_26 p30.1 p30.2 p22 p28.2.2.2 (nI (u.length + 1)) (nI (ti_most layer)) (nI (i + 1)))))) N pool 0)) else (f_Mo_tie_64 N vec (nI n) (nI layer) (m2 + r.length + 1) op ch pk pool (upd R (7 * (4 * o + layer) + u.length) (nI n)) (upd D (4 * o + layer) (nI (u.length + 1))) aim picks pools (nI (ti_most layer)) (nI (i + 1)))) := by
      rw [List.length_cons, show m2 + (r.length + 1) + 1 = (m2 + r.length + 1) + 1 from rfl, f_Mo_tie_64]
      simp only [pd_4, pb_at (show 4 * n + layer < 120 by omega) N120, pd_cl (show 4 * n + layer < 2147483648 by omega), hI.1.1, if_neg (nI_ge d1 (by omega)), wk_7x, pb_at (show 7 * (4 * n + layer) + i < 840 by omega) N840, pd_cl (show 7 * (4 * n + layer) + i < 2147483648 by omega), hRn, pb_at (show 4 * o + layer < 120 by omega) N120, pd_cl (show 4 * o + layer < 2147483648 by omega), u1.1, pb_at (show 7 * (4 * o + layer) + u.length < 840 by omega) N840, pd_cl (show 7 * (4 * o + layer) + u.length < 2147483648 by omega), pk_us, nI_1]
    rw [cls, ref]
    by_cases c : u.length + 1 ≤ ti_most layer
    · rw [if_pos (nI_le c (by omega)), if_neg (nI_nlt c (by omega))]
      obtain ⟨D', R', C', K', op', ch', pk', pool', aim', picks', pools', e1, e2, e3, e4⟩ := ih (i + 1) m1 m2 _ _ C K op ch pk pool aim picks pools d1 d3 (tl_step hl hq6 hI d1 d2 hPo hoff1 hrow' hnd' (by omega) hmem')
      exact ⟨D', R', C', K', op', ch', pk', pool', aim', picks', pools', e1, e2, e3, fun x hx => ⟨(e4 x hx).1.trans (hoff1 x (by omega)).1, fun j hj => ((e4 x hx).2 j hj).trans ((hoff1 x (by omega)).2 j hj)⟩⟩
    · rw [if_neg (nI_ge (by omega) (by omega)), if_pos (nI_lt (by omega) (by omega))]
      obtain ⟨aim2, f1, f2⟩ := ti_aimAt hN vec aim ho
      have hkey : ∀ a, a < 30 → ch_bt vec o a = pn_key vec aim2 a := fun a _ => by rw [ti_key vec aim2 o f2 a, ti_sym]
      obtain ⟨c', kn', kv', g1, g2, g3, g4, g5⟩ := ti_13 hN hV ho hl hkey hrow' hnd' hlt' (by omega) ord lev que sz C (u ++ [n]).length 0 (N - (u ++ [n]).length - 1) [] K.1 K.2.1 (by omega) List.Pairwise.nil (fun a => by simp) rfl (fun j hj => absurd hj (Nat.not_lt_zero _))
      rw [show N - (u ++ [n]).length - 1 + (u ++ [n]).length + 1 = N by omega] at g1
      rw [f1, Option.bind_some]
      obtain ⟨pool2, p1, p2⟩ := ti_169 (N := N) (fun vak0_17_26 v7_26 => ((f_Mo_choose N vec aim2 op ch pk vak0_17_26 (nI (u.length + 1)) (nI (ti_most layer))).bind fun p28 => ((f_Mo_take N (upd R (7 * (4 * o + layer) + u.length) (nI n)) (upd D (4 * o + layer) (nI (u.length + 1))) p28.2.2.1 p28.2.2.2 (nI (4 * o + layer))).bind fun p30 => (f_Mo_tie_64 N vec (nI n) (nI layer) (m2 + r.length + 1) p28.1 p28.2.1 p28.2.2.1 vak0_17_26 p30.1 p30.2 aim2 p28.2.2.2 (nI (u.length + 1)) (nI (ti_most layer)) (nI (i + 1)))))) hn hl ho (by omega) hRn u1.1 (u := u ++ [n]) (by omega) hlen' (fun j hj => hrow'.2 j hj) (u ++ [n]).length 0 (N - (u ++ [n]).length - 1) pool (by omega) (fun a ha => absurd ha (Nat.not_lt_zero _))
      rw [show N - (u ++ [n]).length - 1 + (u ++ [n]).length + 1 = N by omega, nI_0] at p1
      rw [p1]
      obtain ⟨w, row2, M2, op2, ch2, pk2, w1, w2, w3, w4, w5, w6, w7⟩ := cr_ok hN hV g2 (fun a ha => hlt' a ((g3 a).mp ha)) (by omega) (fun a => (g3 a).symm) g4.symm g5 p2 m6.1 C.1 op ch pk
      have hw6 : w.length ≤ 6 := by omega
      have hD2 : upd (upd D (4 * o + layer) (nI (u.length + 1))) (4 * o + layer) (nI w.length) = upd D (4 * o + layer) (nI w.length) := ti_uu
      have hoff2 : ∀ x, x ≠ 4 * o + layer → upd (upd D (4 * o + layer) (nI (u.length + 1))) (4 * o + layer) (nI w.length) x = D x ∧ ∀ i, i < 7 → ti_w (upd R (7 * (4 * o + layer) + u.length) (nI n)) (4 * o + layer) w w.length (7 * x + i) = R (7 * x + i) := fun x hx => ⟨by rw [pk_un hx, pk_un hx], fun j hj => by rw [ti_wG, if_neg (by omega), pk_un (by omega)]⟩
      have hrow2 : ti_row (upd (upd D (4 * o + layer) (nI (u.length + 1))) (4 * o + layer) (nI w.length)) (ti_w (upd R (7 * (4 * o + layer) + u.length) (nI n)) (4 * o + layer) w w.length) (4 * o + layer) w := ⟨pk_us, fun j hj => by rw [ti_wG, if_pos (by omega), Nat.add_sub_cancel_left]⟩
      obtain ⟨D', R', C', K', op', ch', pk', pool', aim', picks', pools', e1, e2, e3, e4⟩ := ih (i + 1) m1 m2 _ _ (row2, nI w.length, M2) (kn', kv', nI c'.length, nI 30, 0) op2 ch2 pk2 pool2 aim2 (nI w.length) (nI (u.length + 1)) d1 d3 (tl_step hl hq6 hI d1 d2 hPo hoff2 hrow2 w5 w7 (fun a ha => hmem' a ((g3 a).mp (w6 a ha))))
      refine ⟨D', R', C', K', op', ch', pk', pool', aim', picks', pools', ?_, ?_, e3, fun x hx => ⟨(e4 x hx).1.trans (hoff2 x (by omega)).1, fun j hj => ((e4 x hx).2 j hj).trans ((hoff2 x (by omega)).2 j hj)⟩⟩
      · unfold f_Gr_shorten
        rw [show f_Rk_start N 30 0 = some (0, nI 30, 0) from (pl_start N (r := 30) (by decide)).1, Option.bind_some]
        rw [show f_Gr_shorten_13 N (ord, lev, upd D (4 * o + layer) (nI (u.length + 1)), upd R (7 * (4 * o + layer) + u.length) (nI n), que, sz) C V (nI o) (nI layer) N (K.1, K.2.1, (0, nI 30, (0 : Int32)).1, (0, nI 30, (0 : Int32)).2.1, (0, nI 30, (0 : Int32)).2.2) 0 = _ from g1, w1, Option.bind_some, ti_replace hN ho hl hw6 w3, Option.bind_some, Option.bind_some]
        exact e1
      · rw [hlen'] at w2
        rw [w2, Option.bind_some, ti_take hN (show 4 * o + layer < 120 by omega) hw6 w4, Option.bind_some]
        exact e2
end
section
/-! PURE: tie and link; standing at a node; levels -/
def tl_G (P : Nat → Prop) (layer : Nat) (D R : Nat → Int32) : Prop := ∀ o, P o → o < 30 ∧ ∃ u, ti_row D R (4 * o + layer) u ∧ u.Nodup ∧ u.length ≤ ti_most layer ∧ ∀ a ∈ u, P a
theorem en_wp {P : Nat → Prop} {layer : Nat} {D R : Nat → Int32} (h : tl_G P layer D R) : wp_P D R layer P := by
  intro n hn
  obtain ⟨h1, u, h2, h3, h4, h5⟩ := h n hn
  have := (ti_most6 layer).1
  exact ⟨h1, u.length, by omega, h2.1, fun i hi => ⟨u.getD i 0, h2.2 i hi, (h _ (h5 _ (wp_getD hi))).1, h5 _ (wp_getD hi)⟩⟩
theorem en_tie_10 {N : Nat} (vec R D aim op ch hr pk : Nat → Int32) {n layer : Nat} {l : List Nat} (hl30 : l.length ≤ 30) (hH : hr_A l hr) : ∀ (k i m : Nat) (pool : Nat → Int32), i + k = l.length → (∀ a, a < i → pool a = nI (l.getD a 0)) → ∃ pool', f_Mo_tie_10 N vec R D aim op ch hr pk (nI l.length) (nI n) (nI layer) (m + k + 1) pool (nI i) = ((f_Mo_choose N vec aim op ch pk pool' (nI l.length) 3).bind fun p3 => ((f_Mo_take N R D p3.2.2.1 p3.2.2.2 ((4 * nI n) + nI layer)).bind fun p5 => (if nI layer = 0 then (f_Mo_tie_64 N vec (nI n) (nI layer) N p3.1 p3.2.1 p3.2.2.1 pool' p5.1 p5.2 aim p3.2.2.2 (nI l.length) 6 0) else (f_Mo_tie_64 N vec (nI n) (nI layer) N p3.1 p3.2.1 p3.2.2.1 pool' p5.1 p5.2 aim p3.2.2.2 (nI l.length) 3 0)))) ∧ hr_A l pool' := by
  intro k
  induction k with
  | zero =>
    intro i m pool hi h
    refine ⟨pool, ?_, fun a ha => h a (by omega)⟩
    rw [f_Mo_tie_10, if_pos (nI_le (by omega) (by omega))]
  | succ k ih =>
    intro i m pool hi h
    rw [show m + (k + 1) + 1 = (m + k + 1) + 1 from rfl, f_Mo_tie_10, if_neg (nI_ge (by omega) (by omega)), pb_at (show i < 30 by omega) (by decide), pb_at (show i < 30 by omega) (by decide), pd_cl (show i < 2147483648 by omega), hH i (by omega), nI_1]
    refine ih (i + 1) m _ (by omega) (fun a ha => ?_)
    by_cases e : a = i
    · subst e; rw [pk_us]
    · rw [pk_un e]; exact h a (by omega)
theorem en_tie {N : Nat} (hN : 64 ≤ N) {V : Nat → Nat → Int32} {vec aim : Nat → Int32} (hV : ch_V V vec) {P : Nat → Prop} {n layer : Nat} (hn : n < 30) (hl : layer < 4) (hnP : ¬ P n) {D R : Nat → Int32} (hG : tl_G P layer D R) {l : List Nat} (hs : so_ok (pn_lt (pn_key vec aim)) l) (hlP : ∀ a ∈ l, P a) (hlen : l.length ≤ 30) {hn0 hv0 hr : Nat → Int32} (hA : pr_A (pn_key vec aim) l hn0 hv0) (hH : hr_A l hr) (ord lev que : Nat → Int32) (sz rm : Int32) (O : T_Rk) (dist : Nat → Int32) (M : Int32) (C : T_Ch) (K : T_Rk) (op ch pk pool : Nat → Int32) :
    ∃ D' R' C' K' op' ch' pk' pool' aim' picks' pools', f_Gr_link N (ord, lev, D, R, que, sz) ((hn0, hv0, nI l.length, rm, 0), O, dist, M) C K V (nI n) (nI layer) = some ((ord, lev, D', R', que, sz), C', K') ∧ f_Mo_tie N vec R D aim op ch hr pk pool (nI l.length) (nI n) (nI layer) = some (R', D', aim', op', ch', pk', pool', picks', pools') ∧ tl_G (fun a => P a ∨ a = n) layer D' R' ∧ tl_F D R D' R' layer := by
  have m6 := ti_most6 layer
  have hl30 : ∀ a ∈ l, a < 30 := fun a ha => (hG a (hlP a ha)).1
  obtain ⟨pool1, a1, a2⟩ := en_tie_10 (N := N) vec R D aim op ch hr pk (n := n) (layer := layer) hlen hH l.length 0 (N - l.length - 1) pool (by omega) (fun a ha => absurd ha (Nat.not_lt_zero _))
  rw [show N - l.length - 1 + l.length + 1 = N by omega] at a1
  obtain ⟨q, row2, M2, op2, ch2, pk2, w1, w2, w3, w4, w5, w6, w7⟩ := cr_ok hN hV hs hl30 hlen (u := l) (fun a => Iff.rfl) rfl hA a2 (m := 3) (by decide) C.1 op ch pk
  have hx : 4 * n + layer < 120 := by omega
  have hI0 : tl_I P n layer q (upd D (4 * n + layer) (nI q.length)) (ti_w R (4 * n + layer) q q.length) 0 := by
    refine ⟨⟨pk_us, fun j hj => by rw [ti_wG, if_pos (by omega), Nat.add_sub_cancel_left]⟩, fun o ho => ?_⟩
    obtain ⟨g1, u, g2, g3, g4, g5⟩ := hG o ho
    have hon : o ≠ n := fun e => hnP (e ▸ ho)
    refine ⟨g1, hon, u, tl_row g2 (by omega) (pk_un (by omega)) (fun j hj => by rw [ti_wG, if_neg (by omega)]), g3, g4, fun a ha => Or.inl (g5 a ha), fun h => absurd (g5 n h) hnP⟩
  obtain ⟨D', R', C', K', op', ch', pk', pool', aim', picks', pools', e1, e2, e3, e4⟩ := tl_loop hN hV hn hl (fun a ha => hlP a (w6 a ha)) w5 (by omega) ord lev que sz q 0 (N - q.length - 1) (N - q.length - 1) _ _ (row2, nI q.length, M2) K op2 ch2 pk2 pool1 aim (nI q.length) (nI l.length) (Nat.zero_le _) rfl hI0
  rw [show N - q.length - 1 + q.length + 1 = N by omega] at e1 e2
  refine ⟨D', R', C', K', op', ch', pk', pool', aim', picks', pools', ?_, ?_, ?_, ?_⟩
  · unfold f_Gr_link f_Wa_held
    rw [Option.bind_some]
    dsimp only
    rw [show f_Ch_choose N C.1 V hn0 hv0 (nI l.length) 3 = _ from w1, Option.bind_some, ti_replace hN hn hl (by omega) w3, Option.bind_some]
    exact e1
  · unfold f_Mo_tie
    rw [show f_Mo_tie_10 N vec R D aim op ch hr pk (nI l.length) (nI n) (nI layer) N pool 0 = _ from a1, show f_Mo_choose N vec aim op ch pk pool1 (nI l.length) 3 = _ from w2, Option.bind_some, pd_4, ti_take hN hx (by omega) w4, Option.bind_some]
    by_cases c : layer = 0
    · rw [show ti_most layer = 6 by unfold ti_most; rw [if_pos c]] at e2
      rw [if_pos (show nI layer = 0 by rw [c]; rfl)]
      exact e2
    · rw [show ti_most layer = 3 by unfold ti_most; rw [if_neg c]] at e2
      rw [if_neg (nI_ne0 (by omega) (by omega))]
      exact e2
  · obtain ⟨i1, i2⟩ := e3
    intro o ho
    rcases ho with ho | ho
    · obtain ⟨g1, g2, u, g3, g4, g5, g6, g7⟩ := i2 o ho
      exact ⟨g1, u, g3, g4, g5, g6⟩
    · subst ho
      exact ⟨hn, q, i1, w5, by omega, fun a ha => Or.inl (hlP a (w6 a ha))⟩
  · intro x hx
    obtain ⟨g1, g2⟩ := e4 x hx
    have hne : x ≠ 4 * n + layer := fun e => hx (by omega)
    exact ⟨g1.trans (pk_un hne), fun j hj => (g2 j hj).trans (by rw [ti_wG, if_neg (by omega)])⟩
/-- standing at a node -/
theorem en_measure_2 {N : Nat} (hN : 5 ≤ N) {V : Nat → Nat → Int32} {vec aim v : Nat → Int32} (hV : ch_V V vec) (hv : ∀ j, j < 4 → aim j = v j) : ∀ (k j m : Nat) (dist : Nat → Int32), j + k = 30 → (∀ a, a < j → dist a = pn_key vec aim a) → ∃ dist', f_Do_measure_2 N V v (m + k + 1) dist (nI j) = some dist' ∧ ∀ a, a < 30 → dist' a = pn_key vec aim a := by
  intro k
  induction k with
  | zero =>
    intro j m dist hj h
    refine ⟨dist, ?_, fun a ha => h a (by omega)⟩
    rw [f_Do_measure_2, if_pos (show (30 : Int32) ≤ nI j from nI_le (a := 30) (by omega) (by omega))]
  | succ k ih =>
    intro j m dist hj h
    rw [show m + (k + 1) + 1 = (m + k + 1) + 1 from rfl, f_Do_measure_2, if_neg (show ¬ (30 : Int32) ≤ nI j from nI_ge (b := 30) (by omega) (by omega)), pb_at (show j < 30 by omega) (by decide), pd_cl (show j < 2147483648 by omega), pd_distance hN, Option.bind_some, pb_at (show j < 30 by omega) (by decide), nI_1]
    refine ih (j + 1) m _ (by omega) (fun a ha => ?_)
    by_cases e : a = j
    · subst e
      rw [pk_us]
      unfold pn_key
      exact ch_sum 4 (fun i hi => by unfold pd_F; rw [hV a (by omega) i hi, hv i hi]; exact ti_sq _ _)
    · rw [pk_un e]; exact h a (by omega)
theorem en_distA {N : Nat} (hN : 5 ≤ N) {V : Nat → Nat → Int32} {vec aim v : Nat → Int32} (hV : ch_V V vec) (hv : ∀ j, j < 4 → aim j = v j) {a : Nat} (ha : a < 30) : f_Nd_distance N v (V a) = some (pn_key vec aim a) := by
  rw [pd_distance hN]
  unfold pn_key
  rw [ch_sum (F := pd_F v (V a)) (G := pd_F (fun j => vec (4 * a + j)) aim) 4 (fun i hi => by unfold pd_F; rw [hV a ha i hi, hv i hi]; exact ti_sq _ _)]
theorem en_stand {N : Nat} (hN : 64 ≤ N) {V : Nat → Nat → Int32} {vec aim v : Nat → Int32} (hV : ch_V V vec) (hv : ∀ j, j < 4 → aim j = v j) {e : Nat} (he : e < 30) (H : T_Rk) (dist : Nat → Int32) : ∃ hn hv0 dist', f_Wa_standAt N H dist V v (nI e) = some ((hn, hv0, nI 1, nI 1, 0), dist') ∧ pr_A (pn_key vec aim) [e] hn hv0 ∧ ∀ a, a < 30 → dist' a = pn_key vec aim a := by
  obtain ⟨dist', d1, d2⟩ := en_measure_2 (N := N) (by omega) hV hv 30 0 (N - 31) dist (by omega) (fun a ha => absurd ha (Nat.not_lt_zero _))
  rw [show N - 31 + 30 + 1 = N by omega] at d1
  obtain ⟨n1, v1, a1, a2⟩ := pa_ok (N := N) (room := 1) (x := e) (l := []) (by omega) (pn_T (pn_key vec aim)) (wk_hp N (pn_key vec aim)) he (fun a ha => absurd ha List.not_mem_nil) (by decide) (by decide) List.Pairwise.nil H.1 H.2.1 (fun i hi => absurd hi (Nat.not_lt_zero _))
  have opa : pa_add (pn_lt (pn_key vec aim)) 1 e [] = (true, [e]) := rfl
  rw [opa] at a1 a2
  refine ⟨n1, v1, dist', ?_, a2, d2⟩
  unfold f_Wa_standAt f_Do_measure
  rw [show f_Do_measure_2 N V v N dist 0 = _ from d1, Option.bind_some, show f_Rk_start N 1 0 = some (0, nI 1, 0) from (pl_start N (r := 1) (by decide)).1, Option.bind_some, pb_at he (by decide), pd_cl (show e < 2147483648 by omega), d2 e he]
  rw [show f_Rk_add N H.1 H.2.1 (0, nI 1, (0 : Int32)).1 (0, nI 1, (0 : Int32)).2.1 (0, nI 1, (0 : Int32)).2.2 (nI e) (pn_key vec aim e) = _ from a1, Option.bind_some]
  rfl
theorem en_seen (x : Int64) (s : Int32) : (x + s.toInt64).toInt32 = x.toInt32 + s := by
  rw [Int64.toInt32_add, Int32.toInt32_toInt64]
end
section
/-! PURE: a document enters, in step -/
theorem en_ne2 {e : Nat} (he : e < 30) : ¬ nI e = -2 := fun q => by
  have h : (nI e).toInt = (e : Int) := nI_toInt (by omega)
  rw [q] at h
  have : (-2 : Int32).toInt = -2 := by decide
  omega
theorem en_kaim {vec aim : Nat → Int32} {n : Nat} (h : ∀ j, j < 4 → aim j = vec (4 * n + j)) : pn_key vec aim = fun a => ch_bt vec a n := funext (ti_key vec aim n h)
theorem en_mono {P : Nat → Prop} {layer n : Nat} {D R : Nat → Int32} (h : tl_G P layer D R) (hn : n < 30) (hD : D (4 * n + layer) = nI 0) : tl_G (fun a => P a ∨ a = n) layer D R := by
  intro o ho
  rcases ho with ho | ho
  · obtain ⟨g1, u, g2, g3, g4, g5⟩ := h o ho
    exact ⟨g1, u, g2, g3, g4, fun a ha => Or.inl (g5 a ha)⟩
  · subst ho
    exact ⟨hn, [], ⟨hD, fun i hi => absurd hi (Nat.not_lt_zero _)⟩, List.nodup_nil, Nat.zero_le _, fun a ha => absurd ha List.not_mem_nil⟩
theorem en_frame {P : Nat → Prop} {layer j : Nat} {D R D' R' : Nat → Int32} (h : tl_G P j D R) (hF : tl_F D R D' R' layer) (hj : j < 4) (hne : j ≠ layer) : tl_G P j D' R' := by
  intro o ho
  obtain ⟨g1, u, g2, g3, g4, g5⟩ := h o ho
  have := (ti_most6 j).1
  have q := hF (4 * o + j) (by omega)
  exact ⟨g1, u, tl_row g2 (by omega) q.1 q.2, g3, g4, g5⟩
theorem en_B {N : Nat} (hN : 64 ≤ N) {V : Nat → Nat → Int32} {vec : Nat → Int32} (hV : ch_V V vec) {P : Nat → Prop} {n l e lt : Nat} (hn : n < 30) (hnP : ¬ P n) (he : e < 30) (hl3 : l ≤ 3) {lev : Nat → Int32} (hlev : upd lev n (nI l) e = nI lt) (hlt : lt ≤ 3) (ord que isN isL ent : Nat → Int32) (sz many : Int32) :
    ∀ (k m1 m2 : Nat) (D R : Nat → Int32) (C : T_Ch) (K : T_Rk) (hn0 hv0 : Nat → Int32) (O : T_Rk) (dist : Nat → Int32) (M seC : Int32) (l0 : List Nat) (rm : Int32) (sn hd op ch hr pk pool aim : Nat → Int32) (picks pools : Int32) (se : Int64), k ≤ l + 1 → (∀ j, j < 4 → aim j = vec (4 * n + j)) → (∀ a, a < 30 → dist a = ch_bt vec a n) → so_ok (pn_lt (fun a => ch_bt vec a n)) l0 → (∀ a ∈ l0, P a) → l0.length ≤ 30 → pr_A (fun a => ch_bt vec a n) l0 hn0 hv0 → hr_A l0 hr → (∀ j, j < k → tl_G P j D R) → (∀ j, k ≤ j → j < 4 → tl_G (fun a => P a ∨ a = n) j D R) → seC = se.toInt32 →
    ∃ D' R' C' K' Wa' seC' se' aim' sn' hd' op' ch' hr' pk' pool' heres' picks' pools', f_Gr_enter_55 N (nI e) V (nI n) (nI l) (m1 + k + 1) (ord, upd lev n (nI l), D, R, que, sz) C K ((hn0, hv0, nI l0.length, rm, 0), O, dist, M) seC (nI k + (-1)) = some ((ord, upd lev n (nI l), D', R', que, sz), Wa', C', K', (if l ≤ lt then nI e else nI n), seC') ∧ f_Mo_enter_160 N isN isL vec lev ent (nI e) many (nI n) (nI l) (m2 + k + 1) sn hd op ch hr pk pool R D aim (nI l0.length) picks pools se (nI k + (-1)) = some (upd isN n 1, upd isL n 1, upd lev n (nI l), upd ent n (many + 1), R', D', (if l ≤ lt then nI e else nI n), many + 1, aim', sn', hd', op', ch', hr', pk', pool', heres', picks', pools', se') ∧ (∀ j, j < 4 → tl_G (fun a => P a ∨ a = n) j D' R') ∧ seC' = se'.toInt32 := by
  intro k
  induction k with
  | zero =>
    intro m1 m2 D R C K hn0 hv0 O dist M seC l0 rm sn hd op ch hr pk pool aim picks pools se hk haim hdist hs hlP hlen hA hH hG1 hG2 hse
    refine ⟨D, R, C, K, ((hn0, hv0, nI l0.length, rm, 0), O, dist, M), seC, se, aim, sn, hd, op, ch, hr, pk, pool, nI l0.length, picks, pools, ?_, ?_, fun j hj => hG2 j (Nat.zero_le _) hj, hse⟩
    · rw [f_Gr_enter_55, if_pos (show nI 0 + (-1) < 0 by decide)]
      unfold f_Gr_top f_Li_level
      dsimp only
      rw [if_neg (en_ne2 he), pb_at he (by decide), pd_cl (show e < 2147483648 by omega), hlev, Option.bind_some, Option.bind_some]
      by_cases c : l ≤ lt
      · rw [if_pos (nI_le c (by omega)), if_pos c]
      · rw [if_neg (nI_ge (show lt < l by omega) (by omega)), if_neg c]
    · rw [f_Mo_enter_160, if_pos (show nI 0 + (-1) < 0 by decide), pb_at hn (by decide), pb_at hn (by decide), if_neg (pn_neg he), pb_at he (by decide), pd_cl (show e < 2147483648 by omega), pd_cl (show n < 2147483648 by omega), hlev, pz_n1]
      by_cases c : l ≤ lt
      · rw [if_pos (nI_le c (by omega)), if_pos c]
      · rw [if_neg (nI_ge (show lt < l by omega) (by omega)), if_neg c]
  | succ k ih =>
    intro m1 m2 D R C K hn0 hv0 O dist M seC l0 rm sn hd op ch hr pk pool aim picks pools se hk haim hdist hs hlP hlen hA hH hG1 hG2 hse
    have hkk := en_kaim haim
    obtain ⟨S, l1, sn1, hd1, op1, hr1, M1, hn1, hv1, O1, w1, w2, w3, w4, w5, w6, w7, w8⟩ := wp_walk (N := N) hN (w := 5) (by decide) (by decide) (dist := dist) (vec := vec) (aim := aim) (fun a ha => by rw [hkk]; exact hdist a ha) (layer := k) (by omega) (en_wp (hG1 k (by omega))) (l := l0) (by rw [hkk]; exact hs) hlP hlen hn0 hv0 hr rm (by rw [hkk]; exact hA) hH O sn hd op
    obtain ⟨D2, R2, C2, K2, op2, ch2, pk2, pool2, aim2, picks2, pools2, t1, t2, t3, t4⟩ := en_tie (N := N) hN hV hn (show k < 4 by omega) hnP (hG1 k (by omega)) w4 w5 (by omega) w7 w8 ord (upd lev n (nI l)) que sz (nI 5) O1 dist (nI M1) C K op1 ch pk pool
    obtain ⟨aim3, a1, a2⟩ := ti_aimAt hN vec aim2 hn
    rw [hkk] at w4 w7
    obtain ⟨D', R', C', K', Wa', seC', se', aim', sn', hd', op', ch', hr', pk', pool', heres', picks', pools', e1, e2, e3, e4⟩ := ih m1 m2 D2 R2 C2 K2 hn1 hv1 O1 dist (nI M1) (seC + nI S) l1 (nI 5) sn1 hd1 op2 ch2 hr1 pk2 pool2 aim3 picks2 pools2 (se + (nI S).toInt64) (by omega) a2 hdist w4 w5 (by omega) w7 w8 (fun j hj => en_frame (hG1 j (by omega)) t4 (by omega) (by omega)) (fun j h1 h2 => by
      by_cases ee : j = k
      · subst ee; exact t3
      · exact en_frame (hG2 j (by omega) h2) t4 h2 ee) (by rw [hse, en_seen])
    refine ⟨D', R', C', K', Wa', seC', se', aim', sn', hd', op', ch', hr', pk', pool', heres', picks', pools', ?_, ?_, e3, e4⟩
    · rw [pr_m1, show m1 + (k + 1) + 1 = (m1 + k + 1) + 1 from rfl, f_Gr_enter_55, if_neg (nI_pos (show k < 2 ^ 31 by omega)), if_pos (nI_le (show k ≤ l by omega) (by omega))]
      dsimp only
      rw [show f_Wa_walk N (hn0, hv0, nI l0.length, rm, 0) O dist D R (nI k) 5 = _ from w1, Option.bind_some]
      dsimp only
      rw [t1, Option.bind_some]
      exact e1
    · rw [pr_m1, show m2 + (k + 1) + 1 = (m2 + k + 1) + 1 from rfl, f_Mo_enter_160, if_neg (nI_pos (show k < 2 ^ 31 by omega)), show f_Mo_walk N vec R D aim sn hd op hr (nI l0.length) (nI k) 5 = _ from w2, Option.bind_some]
      dsimp only
      rw [t2, Option.bind_some]
      dsimp only
      rw [a1, Option.bind_some]
      exact e2
theorem en_A {N : Nat} (hN : 64 ≤ N) {V : Nat → Nat → Int32} {vec aim : Nat → Int32} {P : Nat → Prop} {n l e : Nat} (hn : n < 30) (he : e < 30) {lev : Nat → Int32} {D R : Nat → Int32} (hG : ∀ j, j < 4 → tl_G P j D R) (ord que isN isL ent : Nat → Int32) (sz many : Int32) (haim : ∀ j, j < 4 → aim j = vec (4 * n + j)) {dist : Nat → Int32} (hdist : ∀ a, a < 30 → dist a = ch_bt vec a n) (C : T_Ch) (K : T_Rk) (ch pk pool : Nat → Int32) (picks pools : Int32) :
    ∀ (k m1 m2 : Nat) (hn0 hv0 : Nat → Int32) (O : T_Rk) (M seC : Int32) (l0 : List Nat) (rm : Int32) (sn hd op hr : Nat → Int32) (se : Int64), l + k ≤ 3 → so_ok (pn_lt (fun a => ch_bt vec a n)) l0 → (∀ a ∈ l0, P a) → l0.length ≤ 30 → pr_A (fun a => ch_bt vec a n) l0 hn0 hv0 → hr_A l0 hr → seC = se.toInt32 →
    ∃ hn1 hv1 O1 M1 seC1 l1 rm1 sn1 hd1 op1 hr1 se1, f_Gr_enter_55 N (nI e) V (nI n) (nI l) (m1 + k) (ord, lev, D, R, que, sz) C K ((hn0, hv0, nI l0.length, rm, 0), O, dist, M) seC (nI (l + k)) = f_Gr_enter_55 N (nI e) V (nI n) (nI l) m1 (ord, lev, D, R, que, sz) C K ((hn1, hv1, nI l1.length, rm1, 0), O1, dist, M1) seC1 (nI l) ∧ (∀ lv, f_Mo_enter_119 N isN isL vec lv ent R (nI e) many ch pk pool picks pools (nI n) (nI l) D aim (m2 + k) sn hd op hr (nI l0.length) se (nI (l + k)) = f_Mo_enter_119 N isN isL vec lv ent R (nI e) many ch pk pool picks pools (nI n) (nI l) D aim m2 sn1 hd1 op1 hr1 (nI l1.length) se1 (nI l)) ∧ so_ok (pn_lt (fun a => ch_bt vec a n)) l1 ∧ (∀ a ∈ l1, P a) ∧ l1.length ≤ 30 ∧ pr_A (fun a => ch_bt vec a n) l1 hn1 hv1 ∧ hr_A l1 hr1 ∧ seC1 = se1.toInt32 := by
  have hkk := en_kaim haim
  intro k
  induction k with
  | zero =>
    intro m1 m2 hn0 hv0 O M seC l0 rm sn hd op hr se h3 hs hlP hlen hA hH hse
    exact ⟨hn0, hv0, O, M, seC, l0, rm, sn, hd, op, hr, se, rfl, fun _ => rfl, hs, hlP, hlen, hA, hH, hse⟩
  | succ k ih =>
    intro m1 m2 hn0 hv0 O M seC l0 rm sn hd op hr se h3 hs hlP hlen hA hH hse
    obtain ⟨S, l1, sn1, hd1, op1, hr1, M1, hn1, hv1, O1, w1, w2, w3, w4, w5, w6, w7, w8⟩ := wp_walk (N := N) hN (w := 1) (by decide) (by decide) (dist := dist) (vec := vec) (aim := aim) (fun a ha => by rw [hkk]; exact hdist a ha) (layer := l + (k + 1)) (by omega) (en_wp (hG (l + (k + 1)) (by omega))) (l := l0) (by rw [hkk]; exact hs) hlP hlen hn0 hv0 hr rm (by rw [hkk]; exact hA) hH O sn hd op
    rw [hkk] at w4 w7
    obtain ⟨hn2, hv2, O2, M2, seC2, l2, rm2, sn2, hd2, op2, hr2, se2, e1, e2, e3⟩ := ih m1 m2 hn1 hv1 O1 (nI M1) (seC + nI S) l1 (nI 1) sn1 hd1 op1 hr1 (se + (nI S).toInt64) (by omega) w4 w5 (by omega) w7 w8 (by rw [hse, en_seen])
    refine ⟨hn2, hv2, O2, M2, seC2, l2, rm2, sn2, hd2, op2, hr2, se2, ?_, ?_, e3⟩
    · rw [show m1 + (k + 1) = (m1 + k) + 1 from rfl, f_Gr_enter_55, if_neg (nI_pos (by omega)), if_neg (nI_ge (show l < l + (k + 1) by omega) (by omega))]
      dsimp only
      rw [show f_Wa_walk N (hn0, hv0, nI l0.length, rm, 0) O dist D R (nI (l + (k + 1))) 1 = _ from w1, Option.bind_some, show nI (l + (k + 1)) + (-1) = nI (l + k) from pr_m1]
      exact e1
    · intro lv
      rw [show m2 + (k + 1) = (m2 + k) + 1 from rfl, f_Mo_enter_119, if_neg (nI_ge (show l < l + (k + 1) by omega) (by omega)), show f_Mo_walk N vec R D aim sn hd op hr (nI l0.length) (nI (l + (k + 1))) 1 = _ from w2, Option.bind_some, show nI (l + (k + 1)) + (-1) = nI (l + k) from pr_m1]
      exact e2 lv
/-- levels -/
theorem en_level {N : Nat} (isN isL vec lev ent R D aim sn hd op ch hr pk pool : Nat → Int32) (entry many heres picks pools : Int32) (se : Int64) (nn : Int32) : ∀ (k v1 v2 m1 m2 : Nat), v1 + k = 3 → v2 < 2147483648 →
    ∃ l, l ≤ 3 ∧ f_Li_levelOf_4 N (m1 + k + 1) (nI v1) (nI v2) = some (nI l) ∧ f_Mo_enter_27 N isN isL vec lev ent R D entry many aim sn hd op ch hr pk pool heres picks pools se nn (m2 + k + 1) (nI v1) (nI v2) = g_at nn 30 (f_Mo_enter_57 N isN isL vec lev ent R entry many aim sn hd op ch hr pk pool heres picks pools se nn (nI l) N D 0) := by
  intro k
  induction k with
  | zero =>
    intro v1 v2 m1 m2 h1 h2
    have : v1 = 3 := by omega
    subst this
    refine ⟨3, by omega, ?_, ?_⟩
    · rw [f_Li_levelOf_4, if_pos (by decide)]
    · rw [f_Mo_enter_27, if_pos (show (3 : Int32) ≤ nI 3 by decide)]
      by_cases c : nI v2 - nI v2 / 3 * 3 = 0
      · rw [if_pos c]
      · rw [if_neg c]
  | succ k ih =>
    intro v1 v2 m1 m2 h1 h2
    have hr := pk_rem (a := v2) (d := 3) h2 (by decide) (by decide)
    have hdv := pk_div (a := v2) (d := 3) h2 (by decide) (by decide)
    by_cases c : nI v2 - nI v2 / 3 * 3 = 0
    · obtain ⟨l, l1, l2, l3⟩ := ih (v1 + 1) (v2 / 3) m1 m2 (by omega) (by omega)
      refine ⟨l, l1, ?_, ?_⟩
      · rw [show m1 + (k + 1) + 1 = (m1 + k + 1) + 1 from rfl, f_Li_levelOf_4, if_neg (show ¬ (3 : Int32) ≤ nI v1 from nI_ge (b := 3) (by omega) (by decide)), if_pos c, nI_1, show nI v2 / 3 = nI (v2 / 3) from hdv]
        exact l2
      · rw [show m2 + (k + 1) + 1 = (m2 + k + 1) + 1 from rfl, f_Mo_enter_27, if_pos c, if_neg (show ¬ (3 : Int32) ≤ nI v1 from nI_ge (b := 3) (by omega) (by decide)), nI_1, show nI v2 / 3 = nI (v2 / 3) from hdv]
        exact l3
    · refine ⟨v1, by omega, ?_, ?_⟩
      · rw [show m1 + (k + 1) + 1 = (m1 + k + 1) + 1 from rfl, f_Li_levelOf_4, if_neg (show ¬ (3 : Int32) ≤ nI v1 from nI_ge (b := 3) (by omega) (by decide)), if_neg c]
      · rw [show m2 + (k + 1) + 1 = (m2 + k + 1) + 1 from rfl, f_Mo_enter_27, if_neg c]
def en_z (D : Nat → Int32) (n : Nat) : Nat → Nat → Int32
  | 0 => D
  | k + 1 => upd (en_z D n k) (4 * n + k) 0
theorem en_zG (D : Nat → Int32) (n : Nat) : ∀ k j : Nat, en_z D n k j = if 4 * n ≤ j ∧ j < 4 * n + k then 0 else D j
  | 0, j => by rw [if_neg (by omega)]; rfl
  | k + 1, j => by
    rw [en_z]
    by_cases e : j = 4 * n + k
    · subst e
      rw [pk_us, if_pos (by omega)]
    · rw [pk_un e, en_zG D n k j]
      by_cases c : 4 * n ≤ j ∧ j < 4 * n + k
      · rw [if_pos c, if_pos (by omega)]
      · rw [if_neg c, if_neg (by omega)]
theorem en_35 {N : Nat} {ord lev D : Nat → Int32} {sz p4 : Int32} {n : Nat} (hn : n < 30) : ∀ (k j m : Nat), j + k = 4 → f_Li_addNode_35 N ord lev sz (nI n) p4 (m + k + 1) (en_z D n j) (nI j) = some (upd ord n (sz + 1), upd lev n p4, en_z D n 4, sz + 1) := by
  intro k
  induction k with
  | zero =>
    intro j m hj
    have : j = 4 := by omega
    subst this
    rw [f_Li_addNode_35, if_pos (by decide), pd_cl (show n < 2147483648 by omega)]
  | succ k ih =>
    intro j m hj
    rw [show m + (k + 1) + 1 = (m + k + 1) + 1 from rfl, f_Li_addNode_35, if_neg (show ¬ (4 : Int32) ≤ nI j from nI_ge (b := 4) (by omega) (by decide)), wk_x4, pb_at (show 4 * n + j < 120 by omega) (by decide), pd_cl (show 4 * n + j < 2147483648 by omega), nI_1]
    exact ih (j + 1) m (by omega)
theorem en_57 {N : Nat} (isN isL vec lev ent R D aim sn hd op ch hr pk pool : Nat → Int32) (entry many heres picks pools : Int32) (se : Int64) {n : Nat} (hn : n < 30) (l : Int32) : ∀ (k j m : Nat), j + k = 4 → f_Mo_enter_57 N isN isL vec lev ent R entry many aim sn hd op ch hr pk pool heres picks pools se (nI n) l (m + k + 1) (en_z D n j) (nI j) = f_Mo_enter_57 N isN isL vec lev ent R entry many aim sn hd op ch hr pk pool heres picks pools se (nI n) l (m + 1) (en_z D n 4) (nI 4) := by
  intro k
  induction k with
  | zero =>
    intro j m hj
    have : j = 4 := by omega
    subst this
    rfl
  | succ k ih =>
    intro j m hj
    rw [← ih (j + 1) m (by omega)]
    rw [show m + (k + 1) + 1 = (m + k + 1) + 1 from rfl, f_Mo_enter_57, if_neg (show ¬ (4 : Int32) ≤ nI j from nI_ge (b := 4) (by omega) (by decide)), pd_4, pb_at (show 4 * n + j < 120 by omega) (by decide), pd_cl (show 4 * n + j < 2147483648 by omega), nI_1]
    rfl
end
section
/-! PURE: enter as a whole -/
def en_R (ord lev D R isN ent : Nat → Int32) (sz entry entryM : Int32) : Prop := sz = nI (pd_cnt isN 30) ∧ (∀ n, n < 30 → (isN n = 0 ∧ ord n = 0) ∨ (isN n = 1 ∧ ∃ k, 0 < k ∧ k ≤ 30 ∧ ord n = nI k ∧ ent n = nI k)) ∧ (∀ n, n < 30 → ∃ l, l ≤ 3 ∧ lev n = nI l) ∧ (∀ j, j < 4 → tl_G (fun a => a < 30 ∧ isN a ≠ 0) j D R) ∧ ((entry = -2 ∧ entryM = -1 ∧ ∀ n, n < 30 → isN n = 0) ∨ ∃ e, e < 30 ∧ isN e ≠ 0 ∧ entry = nI e ∧ entryM = nI e)
theorem en_iff {P Q : Nat → Prop} {j : Nat} {D R : Nat → Int32} (h : ∀ a, P a ↔ Q a) (hG : tl_G P j D R) : tl_G Q j D R := by
  intro o ho
  obtain ⟨g1, u, g2, g3, g4, g5⟩ := hG o ((h o).mpr ho)
  exact ⟨g1, u, g2, g3, g4, fun a ha => (h a).mp (g5 a ha)⟩
theorem en_zero {P : Nat → Prop} {j n : Nat} {D R : Nat → Int32} (hj : j < 4) (hn : ¬ P n) (hG : tl_G P j D R) : tl_G P j (en_z D n 4) R := by
  intro o ho
  obtain ⟨g1, u, g2, g3, g4, g5⟩ := hG o ho
  have hne : o ≠ n := fun e => hn (e ▸ ho)
  exact ⟨g1, u, ⟨by rw [en_zG, if_neg (by omega)]; exact g2.1, g2.2⟩, g3, g4, g5⟩
theorem en_nodes {isN : Nat → Int32} {n : Nat} (hn : n < 30) (a : Nat) : ((a < 30 ∧ isN a ≠ 0) ∨ a = n) ↔ (a < 30 ∧ upd isN n 1 a ≠ 0) := by
  by_cases e : a = n
  · subst e
    rw [pk_us]
    exact ⟨fun _ => ⟨hn, pz_10⟩, fun _ => Or.inr rfl⟩
  · rw [pk_un e]
    exact ⟨fun q => q.elim id (fun r => absurd r e), Or.inl⟩
theorem en_ok {N : Nat} (hN : 64 ≤ N) {V : Nat → Nat → Int32} {vec : Nat → Int32} (hV : ch_V V vec) {ord lev D R isN ent : Nat → Int32} {sz entry entryM : Int32} (hE : en_R ord lev D R isN ent sz entry entryM) {n : Nat} (hn : n < 30) (h0 : isN n = 0) (que isL : Nat → Int32) (Wa : T_Wa) (C : T_Ch) (K : T_Rk) (seC : Int32) (se : Int64) (hse : seC = se.toInt32) (aim sn hd op ch hr pk pool : Nat → Int32) (heres picks pools : Int32) :
    ∃ lev' D' R' C' K' Wa' entry' entryM' seC' se' aim' sn' hd' op' ch' hr' pk' pool' heres' picks' pools', f_Gr_enter N (ord, lev, D, R, que, sz) Wa C K entry seC V (nI n) = some ((upd ord n (sz + 1), lev', D', R', que, sz + 1), Wa', C', K', entry', seC') ∧ f_Mo_enter N isN isL vec lev ent R D entryM sz aim sn hd op ch hr pk pool heres picks pools se (nI n) = some (upd isN n 1, upd isL n 1, lev', upd ent n (sz + 1), R', D', entryM', sz + 1, aim', sn', hd', op', ch', hr', pk', pool', heres', picks', pools', se') ∧ en_R (upd ord n (sz + 1)) lev' D' R' (upd isN n 1) (upd ent n (sz + 1)) (sz + 1) entry' entryM' ∧ seC' = se'.toInt32 := by
  obtain ⟨q1, q2, q3, q4, q5⟩ := hE
  have hcnt : pd_cnt (upd isN n 1) 30 = pd_cnt isN 30 + 1 := wk_cnt hn h0
  have hs30 : pd_cnt isN 30 + 1 ≤ 30 := by rw [← hcnt]; exact wk_cnt30 _
  have hnP : ¬ (n < 30 ∧ isN n ≠ 0) := fun q => q.2 h0
  have hsz : sz + 1 = nI (pd_cnt isN 30 + 1) := by rw [q1, nI_1]
  obtain ⟨l, l1, l2, l3⟩ := en_level (N := N) isN isL vec lev ent R D aim sn hd op ch hr pk pool entryM sz heres picks pools se (nI n) 3 0 (pd_cnt isN 30 + 1) (N - 4) (N - 4) (by omega) (by omega)
  rw [show N - 4 + 3 + 1 = N by omega] at l2 l3
  have hadd : f_Li_addNode N ord lev D sz (nI n) = some (upd ord n (sz + 1), upd lev n (nI l), en_z D n 4, sz + 1) := by
    unfold f_Li_addNode f_Li_levelOf
    rw [pb_at hn (by decide), hsz, show f_Li_levelOf_4 N N 0 (nI (pd_cnt isN 30 + 1)) = _ from l2, Option.bind_some, pb_at hn (by decide)]
    have := en_35 (N := N) (ord := ord) (lev := lev) (D := D) (sz := sz) (p4 := nI l) hn 4 0 (N - 5) (by omega)
    rw [show N - 5 + 4 + 1 = N by omega, hsz] at this
    exact this
  have href : f_Mo_enter N isN isL vec lev ent R D entryM sz aim sn hd op ch hr pk pool heres picks pools se (nI n) = f_Mo_enter_57 N isN isL vec lev ent R entryM sz aim sn hd op ch hr pk pool heres picks pools se (nI n) (nI l) (N - 5 + 1) (en_z D n 4) (nI 4) := by
    unfold f_Mo_enter
    rw [pb_at hn (by decide), hsz, show f_Mo_enter_27 N isN isL vec lev ent R D entryM sz aim sn hd op ch hr pk pool heres picks pools se (nI n) N 0 (nI (pd_cnt isN 30 + 1)) = _ from l3, pb_at hn (by decide)]
    have := en_57 (N := N) isN isL vec lev ent R D aim sn hd op ch hr pk pool entryM sz heres picks pools se hn (nI l) 4 0 (N - 5) (by omega)
    rw [show N - 5 + 4 + 1 = N by omega] at this
    exact this
  have hG0 : ∀ j, j < 4 → tl_G (fun a => a < 30 ∧ isN a ≠ 0) j (en_z D n 4) R := fun j hj => en_zero hj hnP (q4 j hj)
  have hG1 : ∀ j, j < 4 → tl_G (fun a => (a < 30 ∧ isN a ≠ 0) ∨ a = n) j (en_z D n 4) R := fun j hj => en_mono (hG0 j hj) hn (by rw [en_zG, if_pos (by omega)]; rfl)
  have r2 : ∀ b, b < 30 → (upd isN n 1 b = 0 ∧ upd ord n (sz + 1) b = 0) ∨ (upd isN n 1 b = 1 ∧ ∃ k, 0 < k ∧ k ≤ 30 ∧ upd ord n (sz + 1) b = nI k ∧ upd ent n (sz + 1) b = nI k) := by
    intro b hb
    by_cases e : b = n
    · subst e
      rw [pk_us, pk_us, pk_us]
      exact Or.inr ⟨rfl, pd_cnt isN 30 + 1, by omega, hs30, hsz, hsz⟩
    · rw [pk_un e, pk_un e, pk_un e]
      exact q2 b hb
  have r3 : ∀ b, b < 30 → ∃ l', l' ≤ 3 ∧ upd lev n (nI l) b = nI l' := by
    intro b hb
    by_cases e : b = n
    · subst e
      rw [pk_us]
      exact ⟨l, l1, rfl⟩
    · rw [pk_un e]
      exact q3 b hb
  have r1 : sz + 1 = nI (pd_cnt (upd isN n 1) 30) := by rw [hcnt, hsz]
  rw [href]
  rcases q5 with ⟨p1, p2, p3⟩ | ⟨e, p1, p2, p3, p4⟩
  · refine ⟨upd lev n (nI l), en_z D n 4, R, C, K, Wa, nI n, nI n, seC, se, aim, sn, hd, op, ch, hr, pk, pool, heres, picks, pools, ?_, ?_, ?_, hse⟩
    · unfold f_Gr_enter
      dsimp only
      rw [hadd, Option.bind_some, if_pos p1]
    · rw [f_Mo_enter_57, if_pos (show (4 : Int32) ≤ nI 4 by decide), p2, if_pos (show (-1 : Int32) < 0 by decide), pb_at hn (by decide), pb_at hn (by decide), if_pos (show (-1 : Int32) < 0 by decide), pd_cl (show n < 2147483648 by omega), pz_n1]
    · exact ⟨r1, r2, r3, fun j hj => en_iff (en_nodes hn) (hG1 j hj), Or.inr ⟨n, hn, by rw [pk_us]; exact pz_10, rfl, rfl⟩⟩
  · have hen : e ≠ n := fun q => by rw [q] at p2; exact p2 h0
    obtain ⟨lt, t1, t2⟩ := q3 e p1
    have hlev : upd lev n (nI l) e = nI lt := by rw [pk_un hen]; exact t2
    obtain ⟨aim1, a1, a2⟩ := ti_aimAt hN vec aim hn
    have hkk := en_kaim a2
    obtain ⟨hn1, hv1, dist1, s1, s2, s3⟩ := en_stand (N := N) (vec := vec) (aim := aim1) (v := V n) hN hV (fun j hj => by rw [a2 j hj, hV n hn j hj]) p1 Wa.1 Wa.2.2.1
    rw [hkk] at s2
    have s3' : ∀ a, a < 30 → dist1 a = ch_bt vec a n := fun a ha => by rw [s3 a ha, hkk]
    have hso : so_ok (pn_lt (fun a => ch_bt vec a n)) [e] := List.pairwise_singleton _ _
    have hmem : ∀ a ∈ [e], a < 30 ∧ isN a ≠ 0 := fun a ha => by rw [List.mem_singleton.mp ha]; exact ⟨p1, p2⟩
    have hH : hr_A [e] (upd hr 0 (nI e)) := fun i hi => by
      have : i = 0 := by simpa using hi
      subst this
      rw [pk_us]
      rfl
    have fin : ∀ (k : Nat), k = (if lt ≤ l then lt else l) + 1 → ∀ (m1 : Nat) (hn0 hv0 : Nat → Int32) (O : T_Rk) (M seC1 : Int32) (l0 : List Nat) (rm : Int32) (sn hd op hr : Nat → Int32) (se1 : Int64), so_ok (pn_lt (fun a => ch_bt vec a n)) l0 → (∀ a ∈ l0, a < 30 ∧ isN a ≠ 0) → l0.length ≤ 30 → pr_A (fun a => ch_bt vec a n) l0 hn0 hv0 → hr_A l0 hr → seC1 = se1.toInt32 →
        ∃ D' R' C' K' Wa' entry' seC' se' aim' sn' hd' op' ch' hr' pk' pool' heres' picks' pools', f_Gr_enter_55 N (nI e) V (nI n) (nI l) (m1 + 5) (upd ord n (sz + 1), upd lev n (nI l), en_z D n 4, R, que, sz + 1) C K ((hn0, hv0, nI l0.length, rm, 0), O, dist1, M) seC1 (nI (if lt ≤ l then lt else l)) = some ((upd ord n (sz + 1), upd lev n (nI l), D', R', que, sz + 1), Wa', C', K', entry', seC') ∧ f_Mo_enter_160 N isN isL vec lev ent (nI e) sz (nI n) (nI l) N sn hd op ch hr pk pool R (en_z D n 4) aim1 (nI l0.length) picks pools se1 (nI (if lt ≤ l then lt else l)) = some (upd isN n 1, upd isL n 1, upd lev n (nI l), upd ent n (sz + 1), R', D', entry', sz + 1, aim', sn', hd', op', ch', hr', pk', pool', heres', picks', pools', se') ∧ en_R (upd ord n (sz + 1)) (upd lev n (nI l)) D' R' (upd isN n 1) (upd ent n (sz + 1)) (sz + 1) entry' entry' ∧ seC' = se'.toInt32 := by
      intro k hk m1 hn0 hv0 O M seC1 l0 rm sn hd op hr se1 g1 g2 g3 g4 g5 g6
      have hk4 : k ≤ 4 ∧ k ≤ l + 1 ∧ 1 ≤ k := by
        by_cases c : lt ≤ l
        · rw [if_pos c] at hk; omega
        · rw [if_neg c] at hk; omega
      obtain ⟨D', R', C', K', Wa', seC', se', aim', sn', hd', op', ch', hr', pk', pool', heres', picks', pools', e1, e2, e3, e4⟩ := en_B (N := N) (P := fun a => a < 30 ∧ isN a ≠ 0) hN hV hn hnP p1 l1 hlev t1 (upd ord n (sz + 1)) que isN isL ent (sz + 1) sz k (m1 + 4 - k) (N - k - 1) (en_z D n 4) R C K hn0 hv0 O dist1 M seC1 l0 rm sn hd op ch hr pk pool aim1 picks pools se1 hk4.2.1 a2 s3' g1 g2 g3 g4 g5 (fun j hj => hG0 j (by omega)) (fun j _ hj => hG1 j hj) g6
      rw [show m1 + 4 - k + k + 1 = m1 + 5 by omega] at e1
      rw [show N - k - 1 + k + 1 = N by omega] at e2
      have hkm : nI k + (-1) = nI (if lt ≤ l then lt else l) := by rw [hk]; exact pr_m1
      rw [hkm] at e1 e2
      refine ⟨D', R', C', K', Wa', _, seC', se', aim', sn', hd', op', ch', hr', pk', pool', heres', picks', pools', e1, e2, ⟨r1, r2, r3, fun j hj => en_iff (en_nodes hn) (e3 j hj), Or.inr ?_⟩, e4⟩
      by_cases c : l ≤ lt
      · rw [if_pos c]
        exact ⟨e, p1, by rw [pk_un hen]; exact p2, rfl, rfl⟩
      · rw [if_neg c]
        exact ⟨n, hn, by rw [pk_us]; exact pz_10, rfl, rfl⟩
    have cls : f_Gr_enter N (ord, lev, D, R, que, sz) Wa C K entry seC V (nI n) = f_Gr_enter_55 N (nI e) V (nI n) (nI l) N (upd ord n (sz + 1), upd lev n (nI l), en_z D n 4, R, que, sz + 1) C K ((hn1, hv1, nI 1, nI 1, 0), Wa.2.1, dist1, Wa.2.2.2) seC (nI lt) := by
      unfold f_Gr_enter f_Li_level f_Do_vector f_Gr_top f_Li_level
      dsimp only
      rw [hadd, Option.bind_some, p3, if_neg (en_ne2 p1)]
      dsimp only
      rw [pb_at hn (by decide), pd_cl (show n < 2147483648 by omega), Option.bind_some, pk_us, pb_at hn (by decide), Option.bind_some, s1, Option.bind_some, if_neg (en_ne2 p1), pb_at p1 (by decide), pd_cl (show e < 2147483648 by omega), hlev, Option.bind_some, Option.bind_some]
    have ref : f_Mo_enter_57 N isN isL vec lev ent R entryM sz aim sn hd op ch hr pk pool heres picks pools se (nI n) (nI l) (N - 5 + 1) (en_z D n 4) (nI 4) = f_Mo_enter_119 N isN isL vec lev ent R (nI e) sz ch pk pool picks pools (nI n) (nI l) (en_z D n 4) aim1 N sn hd op (upd hr 0 (nI e)) 1 se (nI lt) := by
      rw [f_Mo_enter_57, if_pos (show (4 : Int32) ≤ nI 4 by decide), p4, if_neg (pn_neg p1), a1, Option.bind_some, pz_at0, pb_at p1 (by decide), pd_cl (show n < 2147483648 by omega), pd_cl (show e < 2147483648 by omega), hlev]
      rfl
    rw [cls, ref]
    by_cases c : lt ≤ l
    · obtain ⟨D', R', C', K', Wa', entry', seC', se', aim', sn', hd', op', ch', hr', pk', pool', heres', picks', pools', e1, e2, e3, e4⟩ := fin _ rfl (N - 5) hn1 hv1 Wa.2.1 Wa.2.2.2 seC [e] (nI 1) sn hd op (upd hr 0 (nI e)) se hso hmem (by simp) s2 hH hse
      rw [if_pos c] at e1 e2
      rw [show N - 5 + 5 = N by omega] at e1
      refine ⟨upd lev n (nI l), D', R', C', K', Wa', entry', entry', seC', se', aim', sn', hd', op', ch', hr', pk', pool', heres', picks', pools', e1, ?_, e3, e4⟩
      obtain ⟨N1, rfl⟩ : ∃ N1, N = N1 + 1 := ⟨N - 1, by omega⟩
      rw [f_Mo_enter_119, if_pos (nI_le c (by omega)), pd_cl (show e < 2147483648 by omega), pd_cl (show n < 2147483648 by omega), hlev, if_pos (nI_le c (by omega))]
      exact e2
    · obtain ⟨hn2, hv2, O2, M2, seC2, l2', rm2, sn2, hd2, op2, hr2, se2, b1, b2, b3, b4, b5, b6, b7, b8⟩ := en_A (N := N) (V := V) (l := l) (e := e) (lev := upd lev n (nI l)) hN hn p1 hG0 (upd ord n (sz + 1)) que isN isL ent (sz + 1) sz a2 s3' C K ch pk pool picks pools (lt - l) (N - (lt - l)) (N - (lt - l)) hn1 hv1 Wa.2.1 Wa.2.2.2 seC [e] (nI 1) sn hd op (upd hr 0 (nI e)) se (by omega) hso hmem (by simp) s2 hH hse
      rw [show N - (lt - l) + (lt - l) = N by omega, show l + (lt - l) = lt by omega] at b1
      have b2' := b2 lev
      rw [show N - (lt - l) + (lt - l) = N by omega, show l + (lt - l) = lt by omega] at b2'
      obtain ⟨D', R', C', K', Wa', entry', seC', se', aim', sn', hd', op', ch', hr', pk', pool', heres', picks', pools', e1, e2, e3, e4⟩ := fin _ rfl (N - (lt - l) - 5) hn2 hv2 O2 M2 seC2 l2' rm2 sn2 hd2 op2 hr2 se2 b3 b4 b5 b6 b7 b8
      rw [if_neg c] at e1 e2
      rw [show N - (lt - l) - 5 + 5 = N - (lt - l) by omega] at e1
      refine ⟨upd lev n (nI l), D', R', C', K', Wa', entry', entry', seC', se', aim', sn', hd', op', ch', hr', pk', pool', heres', picks', pools', ?_, ?_, e3, e4⟩
      · refine Eq.trans ?_ (b1.trans e1)
        rfl
      · refine Eq.trans ?_ (b2'.trans ?_)
        · rfl
        · obtain ⟨N1, hN1⟩ : ∃ N1, N - (lt - l) = N1 + 1 := ⟨N - (lt - l) - 1, by omega⟩
          rw [hN1, f_Mo_enter_119, if_pos (nI_le (Nat.le_refl l) (by omega)), pd_cl (show e < 2147483648 by omega), pd_cl (show n < 2147483648 by omega), hlev, if_neg (nI_ge (show l < lt by omega) (by omega))]
          exact e2
end
section
/-! PURE: adding to a ranking with room is inserting and cutting -/
theorem se_cut {lt : Nat → Nat → Bool} {x : Nat} : ∀ (l : List Nat) (k : Nat), (so_ins lt x (l.take k)).take k = (so_ins lt x l).take k
  | [], k => by rw [List.take_nil]
  | y :: t, 0 => by simp
  | y :: t, k + 1 => by
    rw [List.take_succ_cons, so_ins, so_ins]
    by_cases h : lt x y = true
    · rw [if_pos h, if_pos h, List.take_succ_cons, List.take_succ_cons]
      congr 1
      rw [← List.take_succ_cons, List.take_take, Nat.min_eq_left (by omega)]
    · rw [if_neg h, if_neg h, List.take_succ_cons, List.take_succ_cons, se_cut t k]
theorem se_last {lt : Nat → Nat → Bool} (T : so_T lt) {x : Nat} {t : List Nat} {y : Nat} (hs : so_ok lt (t ++ [y])) (hx : x ∉ t ++ [y]) : (so_ins lt x (t ++ [y])).dropLast = if lt x y = true then so_ins lt x t else t ++ [y] := by
  induction t with
  | nil =>
    by_cases h : lt x y = true
    · simp [so_ins, h]
    · simp [so_ins, h]
  | cons z t ih =>
    have h1 := List.pairwise_cons.mp hs
    rw [List.cons_append, so_ins]
    by_cases h : lt x z = true
    · have h2 : lt x y = true := T.2.1 _ _ _ h (h1.1 y (List.mem_append_right _ List.mem_cons_self))
      rw [if_pos h, if_pos h2, so_ins, if_pos h]
      rw [show x :: z :: (t ++ [y]) = (x :: z :: t) ++ [y] from rfl, List.dropLast_concat]
    · rw [if_neg h]
      have hne : so_ins lt x (t ++ [y]) ≠ [] := fun q => by
        have : x ∈ so_ins lt x (t ++ [y]) := so_mem.mpr (Or.inl rfl)
        rw [q] at this
        exact absurd this List.not_mem_nil
      rw [List.dropLast_cons_of_ne_nil hne, ih h1.2 (fun q => hx (List.mem_cons_of_mem _ q))]
      by_cases h2 : lt x y = true
      · rw [if_pos h2, if_pos h2, so_ins, if_neg h]
      · rw [if_neg h2, if_neg h2]
theorem se_add {lt : Nat → Nat → Bool} (T : so_T lt) {x k : Nat} {l : List Nat} (hs : so_ok lt l) (hx : x ∉ l) : (pa_add lt k x (l.take k)).2 = (so_ins lt x l).take k := by
  have hs2 : so_ok lt (l.take k) := List.Pairwise.sublist (List.take_sublist k l) hs
  have hx2 : x ∉ l.take k := fun q => hx (List.mem_of_mem_take q)
  have hlk : (l.take k).length ≤ k := by rw [List.length_take]; omega
  rw [← se_cut]
  generalize l.take k = c at *
  by_cases h : c.length < k
  · unfold pa_add
    rw [if_pos h, List.take_of_length_le (by rw [so_len]; omega)]
  · by_cases hk : c.length = k
    · cases hd : c.getLast? with
      | none =>
        have := List.getLast?_eq_none_iff.mp hd
        subst this
        unfold pa_add
        rw [if_neg h]
        have hk0 : k = 0 := by simp at hk; omega
        subst hk0
        rfl
      | some y =>
        rw [pa_full h hd]
        obtain ⟨t, rfl⟩ := List.getLast?_eq_some_iff.mp hd
        have e : (so_ins lt x (t ++ [y])).take k = (so_ins lt x (t ++ [y])).dropLast := by
          rw [List.dropLast_eq_take, so_len, ← hk]
          rfl
        rw [e, se_last T hs2 hx2, List.dropLast_concat]
        by_cases d : lt x y = true
        · rw [if_pos d, if_pos d]
        · rw [if_neg d, if_neg d]
    · omega
/-! PURE: the live ones -/
def lv_R (lv : Int32) (isL : Nat → Int32) : Prop := ∃ Lm, Lm < 2 ^ 30 ∧ lv = nI Lm ∧ ∀ a, a < 30 → (Lm.testBit a = true ↔ isL a ≠ 0) ∧ (isL a = 0 ∨ isL a = 1)
def lv_f (isL : Nat → Int32) (a : Nat) : Bool := decide (isL a ≠ 0)
theorem lv_doc (N : Nat) {a : Nat} (ha : a < 30) : f_Nd_isDocumentNumber N (nI a) = some 1 := by
  rw [pb_isDocumentNumber, if_pos ⟨nI_pos' (by omega), show nI a ≤ nI 29 from nI_le (by omega) (by decide)⟩]
theorem lv_is {N : Nat} {lv : Int32} {isL : Nat → Int32} (h : lv_R lv isL) {a : Nat} (ha : a < 30) : f_Do_isLive N lv (nI a) = some (if isL a = 0 then 0 else 1) := by
  obtain ⟨Lm, h1, h2, h3⟩ := h
  unfold f_Do_isLive
  rw [lv_doc N ha, Option.bind_some, if_neg pz_10, h2, pm_isIn N h1 ha, Option.bind_some]
  by_cases c : isL a = 0
  · rw [if_neg (fun q => (h3 a ha).1.mp q c), if_pos rfl, if_pos c]
  · rw [if_pos ((h3 a ha).1.mpr c), if_neg pz_10, if_neg c]
theorem se_filt {isL : Nat → Int32} (t : List Nat) (a : Nat) : (t ++ [a]).filter (lv_f isL) = if isL a = 0 then t.filter (lv_f isL) else t.filter (lv_f isL) ++ [a] := by
  rw [List.filter_append]
  by_cases c : isL a = 0
  · have : lv_f isL a = false := by unfold lv_f; simp [c]
    rw [if_pos c]
    simp [this]
  · have : lv_f isL a = true := by unfold lv_f; simp [c]
    rw [if_neg c]
    simp [this]
/-! PURE: search, in step -/
theorem se_96 {N : Nat} {isL : Nat → Int32} {l : List Nat} (hl : ∀ a ∈ l, a < 30) (hl30 : l.length ≤ 30) (aim sn hd op hr0 : Nat → Int32) (S : Int32) (sA : Int64) : ∀ (k i m : Nat) (hr : Nat → Int32) (q : List Nat), i + k = l.length → q = (l.take i).filter (lv_f isL) → hr_A q hr → (∀ j, i ≤ j → j < l.length → hr j = nI (l.getD j 0)) →
    ∃ hr', f_Mo_search_96 N isL aim sA (S, sn, hd, op, hr0, nI l.length) (m + k + 1) hr (nI q.length) (nI i) = some (aim, sn, hd, op, hr', nI (l.filter (lv_f isL)).length, sA + S.toInt64) ∧ hr_A (l.filter (lv_f isL)) hr' := by
  intro k
  induction k with
  | zero =>
    intro i m hr q hi hq h1 h2
    rw [List.take_of_length_le (by omega)] at hq
    subst hq
    refine ⟨hr, ?_, h1⟩
    rw [f_Mo_search_96, if_pos (nI_le (by omega) (by omega))]
  | succ k ih =>
    intro i m hr q hi hq h1 h2
    have hil : i < l.length := by omega
    have g1 := hl _ (wp_getD hil)
    have hg : l.getD i 0 = l[i]'hil := by rw [List.getD_eq_getElem?_getD, List.getElem?_eq_getElem hil]; rfl
    have hql : q.length ≤ i := by
      rw [hq]
      have := List.length_filter_le (lv_f isL) (l.take i)
      rw [List.length_take] at this
      omega
    have hst : (l.take (i + 1)).filter (lv_f isL) = (if isL (l.getD i 0) = 0 then q else q ++ [l.getD i 0]) := by
      rw [← List.take_append_getElem hil, ← hg, se_filt, ← hq]
    rw [show m + (k + 1) + 1 = (m + k + 1) + 1 from rfl, f_Mo_search_96]
    dsimp only
    rw [if_neg (nI_ge hil (by omega))]
    simp only [pd_cl (show i < 2147483648 by omega), h2 i (Nat.le_refl _) hil, pb_at (show i < 30 by omega) (show 30 < 2147483648 by decide), pb_at g1 (show 30 < 2147483648 by decide), pd_cl (show l.getD i 0 < 2147483648 by omega), nI_1]
    by_cases c : isL (l.getD i 0) = 0
    · rw [if_pos c] at hst ⊢
      exact ih (i + 1) m hr q (by omega) hst.symm h1 (fun j hj => h2 j (by omega))
    · rw [if_neg c] at hst ⊢
      rw [pb_at (show q.length < 30 by omega) (by decide), pd_cl (show q.length < 2147483648 by omega), show q.length + 1 = (q ++ [l.getD i 0]).length by rw [List.length_append, List.length_singleton]]
      exact ih (i + 1) m _ _ (by omega) hst.symm (ch_cat h1) (fun j hj hj2 => by rw [pk_un (by omega)]; exact h2 j (by omega) hj2)
theorem se_20 {N : Nat} (hN : 64 ≤ N) {isL : Nat → Int32} {x0 : T_Do} (hlv : lv_R x0.2.2.2 isL) (x1 : T_Gr) {key : Nat → Int32} {l : List Nat} (hs : so_ok (pn_lt key) l) (hl : ∀ a ∈ l, a < 30) (hl30 : l.length ≤ 30) {kk : Nat} (hkk : kk ≤ 30) {hn hv : Nat → Int32} (hA : pr_A key l hn hv) (rm : Int32) (O : T_Rk) (dist : Nat → Int32) (M sS : Int32) : ∀ (k i m : Nat) (tn tv : Nat → Int32), i + k = l.length → pr_A key (((l.take i).filter (lv_f isL)).take kk) tn tv →
    ∃ tn' tv', f_Nd_searchInto_results_20 N x0 x1 (((hn, hv, nI l.length, rm, 0), O, dist, M), sS) (m + k + 1) (tn, tv, nI (((l.take i).filter (lv_f isL)).take kk).length, nI kk, 0) (nI i) = some ((x1.1, ((hn, hv, nI l.length, rm, 0), O, dist, M), x1.2.2.1, x1.2.2.2.1, x1.2.2.2.2.1, sS, x1.2.2.2.2.2.2), (tn', tv', nI ((l.filter (lv_f isL)).take kk).length, nI kk, 0)) ∧ pr_A key ((l.filter (lv_f isL)).take kk) tn' tv' := by
  have T := pn_T key
  intro k
  induction k with
  | zero =>
    intro i m tn tv hi h
    rw [show l.take i = l from List.take_of_length_le (by omega)] at h ⊢
    refine ⟨tn, tv, ?_, h⟩
    rw [f_Nd_searchInto_results_20]
    unfold f_Rk_size
    dsimp only
    rw [Option.bind_some, if_pos (nI_le (by omega) (by omega))]
  | succ k ih =>
    intro i m tn tv hi h
    have hil : i < l.length := by omega
    have g1 := hl _ (wp_getD hil)
    have hg : l.getD i 0 = l[i]'hil := by rw [List.getD_eq_getElem?_getD, List.getElem?_eq_getElem hil]; rfl
    have hbig : ∀ a ∈ (l.take i).filter (lv_f isL), pn_lt key a (l.getD i 0) = true := fun a ha => by
      obtain ⟨j, hj, rfl⟩ := List.mem_iff_getElem.mp (List.mem_filter.mp ha).1
      rw [List.length_take] at hj
      rw [List.getElem_take, hg]
      exact List.pairwise_iff_getElem.mp hs j i (by omega) hil (by omega)
    have hst : (l.take (i + 1)).filter (lv_f isL) = (if isL (l.getD i 0) = 0 then (l.take i).filter (lv_f isL) else so_ins (pn_lt key) (l.getD i 0) ((l.take i).filter (lv_f isL))) := by
      rw [wp_end T hbig, ← List.take_append_getElem hil, ← hg, se_filt]
    rw [show m + (k + 1) + 1 = (m + k + 1) + 1 from rfl, f_Nd_searchInto_results_20]
    unfold f_Rk_size f_Rk_numberAt f_Rk_valueAt
    dsimp only
    rw [Option.bind_some, if_neg (nI_ge hil (by omega)), pb_at (show i < 30 by omega) (by decide), Option.bind_some, pd_cl (show i < 2147483648 by omega), (hA i hil).1, lv_is hlv g1, Option.bind_some]
    by_cases c : isL (l.getD i 0) = 0
    · simp only [if_pos c]
      rw [if_pos c] at hst
      rw [if_pos trivial, nI_1, ← hst]
      exact ih (i + 1) m tn tv (by omega) (by rw [hst]; exact h)
    · simp only [if_neg c]
      rw [if_neg c] at hst
      have hsf : so_ok (pn_lt key) ((l.take i).filter (lv_f isL)) := List.Pairwise.filter _ (List.Pairwise.sublist (List.take_sublist i l) hs)
      have hnx : l.getD i 0 ∉ (l.take i).filter (lv_f isL) := fun q => by
        have := hbig _ q
        rw [T.1] at this
        cases this
      obtain ⟨n1, v1, a1, a2⟩ := pa_ok (N := N) (room := kk) (x := l.getD i 0) (l := ((l.take i).filter (lv_f isL)).take kk) (by omega) T (wk_hp N key) g1 (fun a ha => hl a (List.mem_of_mem_take (List.mem_filter.mp (List.mem_of_mem_take ha)).1)) hkk (by rw [List.length_take]; omega) (List.Pairwise.sublist (List.take_sublist _ _) hsf) tn tv h
      rw [se_add T hsf hnx, ← hst] at a1 a2
      rw [if_neg pz_10, pb_at (show i < 30 by omega) (by decide), Option.bind_some, (hA i hil).2, a1, Option.bind_some, nI_1]
      exact ih (i + 1) m n1 v1 (by omega) a2
theorem se_20s {N : Nat} (hN : 64 ≤ N) {isL : Nat → Int32} {x0 : T_Do} (hlv : lv_R x0.2.2.2 isL) (x1 : T_Gr) {key : Nat → Int32} {l : List Nat} (hs : so_ok (pn_lt key) l) (hl : ∀ a ∈ l, a < 30) (hl30 : l.length ≤ 30) {kk : Nat} (hkk : kk ≤ 30) {hn hv : Nat → Int32} (hA : pr_A key l hn hv) (rm : Int32) (O : T_Rk) (dist : Nat → Int32) (M sS : Int32) : ∀ (k i m : Nat) (tn tv : Nat → Int32), i + k = l.length → pr_A key (((l.take i).filter (lv_f isL)).take kk) tn tv →
    ∃ tn' tv', f_Nd_searchInto_scratch_20 N x0 x1 (((hn, hv, nI l.length, rm, 0), O, dist, M), sS) (m + k + 1) (tn, tv, nI (((l.take i).filter (lv_f isL)).take kk).length, nI kk, 0) (nI i) = some ((x1.1, ((hn, hv, nI l.length, rm, 0), O, dist, M), x1.2.2.1, x1.2.2.2.1, x1.2.2.2.2.1, sS, x1.2.2.2.2.2.2), (tn', tv', nI ((l.filter (lv_f isL)).take kk).length, nI kk, 0)) ∧ pr_A key ((l.filter (lv_f isL)).take kk) tn' tv' := by
  have T := pn_T key
  intro k
  induction k with
  | zero =>
    intro i m tn tv hi h
    rw [show l.take i = l from List.take_of_length_le (by omega)] at h ⊢
    refine ⟨tn, tv, ?_, h⟩
    rw [f_Nd_searchInto_scratch_20]
    unfold f_Rk_size
    dsimp only
    rw [Option.bind_some, if_pos (nI_le (by omega) (by omega))]
  | succ k ih =>
    intro i m tn tv hi h
    have hil : i < l.length := by omega
    have g1 := hl _ (wp_getD hil)
    have hg : l.getD i 0 = l[i]'hil := by rw [List.getD_eq_getElem?_getD, List.getElem?_eq_getElem hil]; rfl
    have hbig : ∀ a ∈ (l.take i).filter (lv_f isL), pn_lt key a (l.getD i 0) = true := fun a ha => by
      obtain ⟨j, hj, rfl⟩ := List.mem_iff_getElem.mp (List.mem_filter.mp ha).1
      rw [List.length_take] at hj
      rw [List.getElem_take, hg]
      exact List.pairwise_iff_getElem.mp hs j i (by omega) hil (by omega)
    have hst : (l.take (i + 1)).filter (lv_f isL) = (if isL (l.getD i 0) = 0 then (l.take i).filter (lv_f isL) else so_ins (pn_lt key) (l.getD i 0) ((l.take i).filter (lv_f isL))) := by
      rw [wp_end T hbig, ← List.take_append_getElem hil, ← hg, se_filt]
    rw [show m + (k + 1) + 1 = (m + k + 1) + 1 from rfl, f_Nd_searchInto_scratch_20]
    unfold f_Rk_size f_Rk_numberAt f_Rk_valueAt
    dsimp only
    rw [Option.bind_some, if_neg (nI_ge hil (by omega)), pb_at (show i < 30 by omega) (by decide), Option.bind_some, pd_cl (show i < 2147483648 by omega), (hA i hil).1, lv_is hlv g1, Option.bind_some]
    by_cases c : isL (l.getD i 0) = 0
    · simp only [if_pos c]
      rw [if_pos c] at hst
      rw [if_pos trivial, nI_1, ← hst]
      exact ih (i + 1) m tn tv (by omega) (by rw [hst]; exact h)
    · simp only [if_neg c]
      rw [if_neg c] at hst
      have hsf : so_ok (pn_lt key) ((l.take i).filter (lv_f isL)) := List.Pairwise.filter _ (List.Pairwise.sublist (List.take_sublist i l) hs)
      have hnx : l.getD i 0 ∉ (l.take i).filter (lv_f isL) := fun q => by
        have := hbig _ q
        rw [T.1] at this
        cases this
      obtain ⟨n1, v1, a1, a2⟩ := pa_ok (N := N) (room := kk) (x := l.getD i 0) (l := ((l.take i).filter (lv_f isL)).take kk) (by omega) T (wk_hp N key) g1 (fun a ha => hl a (List.mem_of_mem_take (List.mem_filter.mp (List.mem_of_mem_take ha)).1)) hkk (by rw [List.length_take]; omega) (List.Pairwise.sublist (List.take_sublist _ _) hsf) tn tv h
      rw [se_add T hsf hnx, ← hst] at a1 a2
      rw [if_neg pz_10, pb_at (show i < 30 by omega) (by decide), Option.bind_some, (hA i hil).2, a1, Option.bind_some, nI_1]
      exact ih (i + 1) m n1 v1 (by omega) a2
theorem se_38 {N : Nat} (hN : 64 ≤ N) {vec aim dist D R : Nat → Int32} {P : Nat → Prop} {w : Nat} (hw0 : 0 < w) (hw : w ≤ 30) (hG : ∀ j, j < 4 → tl_G P j D R) (hdist : ∀ a, a < 30 → dist a = pn_key vec aim a) (ord lev que isL : Nat → Int32) (sz : Int32) :
    ∀ (k m1 m2 : Nat) (hn0 hv0 : Nat → Int32) (O : T_Rk) (M sS : Int32) (l0 : List Nat) (rm : Int32) (sn hd op hr : Nat → Int32) (sA : Int64), k ≤ 3 → so_ok (pn_lt (pn_key vec aim)) l0 → (∀ a ∈ l0, P a) → l0.length ≤ 30 → pr_A (pn_key vec aim) l0 hn0 hv0 → hr_A l0 hr → sS = sA.toInt32 →
    ∃ S l1 sn1 hd1 op1 hr1 M1 hn1 hv1 O1 sS1 sA1, f_Gr_search_38 N (ord, lev, D, R, que, sz) (nI w) (m1 + k + 2) ((hn0, hv0, nI l0.length, rm, 0), O, dist, M) sS (nI k) = some (((hn1, hv1, nI l1.length, nI w, 0), O1, dist, M1), sS1) ∧ f_Mo_search_42 N isL vec R D (nI w) aim (m2 + k + 1) sn hd op hr (nI l0.length) sA (nI k) = f_Mo_search_96 N isL aim sA1 (nI S, sn1, hd1, op1, hr1, nI l1.length) N hr1 0 0 ∧ so_ok (pn_lt (pn_key vec aim)) l1 ∧ (∀ a ∈ l1, P a) ∧ l1.length ≤ w ∧ pr_A (pn_key vec aim) l1 hn1 hv1 ∧ hr_A l1 hr1 ∧ sS1 = (sA1 + (nI S).toInt64).toInt32 := by
  intro k
  induction k with
  | zero =>
    intro m1 m2 hn0 hv0 O M sS l0 rm sn hd op hr sA h3 hs hlP hlen hA hH hse
    obtain ⟨S, l1, sn1, hd1, op1, hr1, M1, hn1, hv1, O1, w1, w2, w3, w4, w5, w6, w7, w8⟩ := wp_walk (N := N) hN (w := w) hw0 hw hdist (layer := 0) (by decide) (en_wp (hG 0 (by decide))) hs hlP hlen hn0 hv0 hr rm hA hH O sn hd op
    refine ⟨S, l1, sn1, hd1, op1, hr1, nI M1, hn1, hv1, O1, sS + nI S, sA, ?_, ?_, w4, w5, w6, w7, w8, by rw [hse, en_seen]⟩
    · rw [show m1 + 0 + 2 = (m1 + 1) + 1 from rfl, f_Gr_search_38, if_neg (show ¬ nI 0 < 0 by decide), if_pos (show nI 0 ≤ 0 by decide)]
      dsimp only
      rw [w1, Option.bind_some, f_Gr_search_38, if_pos (show nI 0 + (-1) < 0 by decide)]
      rfl
    · rw [f_Mo_search_42, if_pos (show nI 0 ≤ 0 by decide), show f_Mo_walk N vec R D aim sn hd op hr (nI l0.length) 0 (nI w) = _ from w2, Option.bind_some]
  | succ k ih =>
    intro m1 m2 hn0 hv0 O M sS l0 rm sn hd op hr sA h3 hs hlP hlen hA hH hse
    obtain ⟨S, l1, sn1, hd1, op1, hr1, M1, hn1, hv1, O1, w1, w2, w3, w4, w5, w6, w7, w8⟩ := wp_walk (N := N) hN (w := 1) (by decide) (by decide) hdist (layer := k + 1) (by omega) (en_wp (hG (k + 1) (by omega))) hs hlP hlen hn0 hv0 hr rm hA hH O sn hd op
    obtain ⟨S2, l2, sn2, hd2, op2, hr2, M2, hn2, hv2, O2, sS2, sA2, e1, e2, e3⟩ := ih m1 m2 hn1 hv1 O1 (nI M1) (sS + nI S) l1 (nI 1) sn1 hd1 op1 hr1 (sA + (nI S).toInt64) (by omega) w4 w5 (by omega) w7 w8 (by rw [hse, en_seen])
    refine ⟨S2, l2, sn2, hd2, op2, hr2, M2, hn2, hv2, O2, sS2, sA2, ?_, ?_, e3⟩
    · rw [show m1 + (k + 1) + 2 = (m1 + k + 2) + 1 from rfl, f_Gr_search_38, if_neg (nI_pos (by omega)), if_neg (nI_nle (by omega) (by omega))]
      dsimp only
      rw [show f_Wa_walk N (hn0, hv0, nI l0.length, rm, 0) O dist D R (nI (k + 1)) 1 = _ from w1, Option.bind_some, pr_m1]
      exact e1
    · rw [show m2 + (k + 1) + 1 = (m2 + k + 1) + 1 from rfl, f_Mo_search_42, if_neg (nI_nle (by omega) (by omega)), show f_Mo_walk N vec R D aim sn hd op hr (nI l0.length) (nI (k + 1)) 1 = _ from w2, Option.bind_some, pr_m1]
      exact e2
theorem se_aim_2 {N : Nat} (asked : Nat → Int32) : ∀ (k j m : Nat) (aim : Nat → Int32), j + k = 4 → (∀ a, a < j → aim a = asked a) → ∃ aim', f_Mo_aimAsked_2 N asked (m + k + 1) aim (nI j) = some aim' ∧ ∀ a, a < 4 → aim' a = asked a := by
  intro k
  induction k with
  | zero =>
    intro j m aim hj h
    refine ⟨aim, ?_, fun a ha => h a (by omega)⟩
    rw [f_Mo_aimAsked_2, if_pos (show (4 : Int32) ≤ nI j from nI_le (a := 4) (by omega) (by omega))]
  | succ k ih =>
    intro j m aim hj h
    rw [show m + (k + 1) + 1 = (m + k + 1) + 1 from rfl, f_Mo_aimAsked_2, if_neg (show ¬ (4 : Int32) ≤ nI j from nI_ge (b := 4) (by omega) (by omega)), pb_at (show j < 4 by omega) (by decide), pb_at (show j < 4 by omega) (by decide), pd_cl (show j < 2147483648 by omega), nI_1]
    refine ih (j + 1) m _ (by omega) (fun a ha => ?_)
    by_cases e : a = j
    · subst e; rw [pk_us]
    · rw [pk_un e]; exact h a (by omega)
theorem se_aim {N : Nat} (hN : 64 ≤ N) (aim asked : Nat → Int32) : ∃ aim', f_Mo_aimAsked N aim asked = some aim' ∧ ∀ a, a < 4 → aim' a = asked a := by
  have := se_aim_2 (N := N) asked 4 0 (N - 5) aim (by omega) (fun a ha => absurd ha (Nat.not_lt_zero _))
  rw [show N - 5 + 4 + 1 = N by omega] at this
  exact this
theorem se_ok {N : Nat} (hN : 64 ≤ N) {V : Nat → Nat → Int32} {vec : Nat → Int32} (hV : ch_V V vec) {ord lev D R isN ent : Nat → Int32} {sz entry entryM : Int32} (hE : en_R ord lev D R isN ent sz entry entryM) (que isL asked : Nat → Int32) (Wa : T_Wa) (sS : Int32) (sA : Int64) (hse : sS = sA.toInt32) {w : Nat} (hw0 : 0 < w) (hw : w ≤ 30) (aim sn hd op hr : Nat → Int32) :
    ∃ l hn0 hv0 rm O1 dist1 M1 sS' aim' sn' hd' op' hr' sA', f_Gr_search N (ord, lev, D, R, que, sz) Wa entry sS V asked (nI w) = some (((hn0, hv0, nI l.length, rm, 0), O1, dist1, M1), sS') ∧ f_Mo_search N isL vec lev R D entryM aim asked sn hd op hr sA (nI w) = some (aim', sn', hd', op', hr', nI (l.filter (lv_f isL)).length, sA') ∧ so_ok (pn_lt (pn_key vec aim')) l ∧ (∀ a ∈ l, a < 30) ∧ l.length ≤ w ∧ pr_A (pn_key vec aim') l hn0 hv0 ∧ hr_A (l.filter (lv_f isL)) hr' ∧ (∀ j, j < 4 → aim' j = asked j) ∧ sS' = sA'.toInt32 := by
  obtain ⟨q1, q2, q3, q4, q5⟩ := hE
  obtain ⟨aim1, a1, a2⟩ := se_aim hN aim asked
  rcases q5 with ⟨p1, p2, p3⟩ | ⟨e, p1, p2, p3, p4⟩
  · refine ⟨[], Wa.1.1, Wa.1.2.1, 0, Wa.2.1, Wa.2.2.1, Wa.2.2.2, sS, aim1, sn, hd, op, hr, sA, ?_, ?_, List.Pairwise.nil, fun a ha => absurd ha List.not_mem_nil, Nat.zero_le _, fun i hi => absurd hi (Nat.not_lt_zero _), fun i hi => absurd hi (Nat.not_lt_zero _), a2, hse⟩
    · unfold f_Gr_search f_Wa_standNowhere f_Wa_held
      rw [if_pos p1, show f_Rk_start N 0 0 = some (0, nI 0, 0) from (pl_start N (r := 0) (by decide)).1]
      rfl
    · unfold f_Mo_search
      rw [a1, Option.bind_some, p2, if_neg (show ¬ (0 : Int32) ≤ -1 by decide)]
      rfl
  · obtain ⟨lt, t1, t2⟩ := q3 e p1
    obtain ⟨hn1, hv1, dist1, s1, s2, s3⟩ := en_stand (N := N) (vec := vec) (aim := aim1) (v := asked) hN hV a2 p1 Wa.1 Wa.2.2.1
    have hH : hr_A [e] (upd hr 0 (nI e)) := fun i hi => by
      have : i = 0 := by simpa using hi
      subst this
      rw [pk_us]
      rfl
    obtain ⟨S, l1, sn1, hd1, op1, hr1, M1, hn2, hv2, O2, sS1, sA1, e1, e2, e3, e4, e5, e6, e7, e8⟩ := se_38 (N := N) (w := w) hN hw0 hw q4 s3 ord lev que isL sz lt (N - lt - 2) (N - lt - 1) hn1 hv1 Wa.2.1 Wa.2.2.2 sS [e] (nI 1) sn hd op (upd hr 0 (nI e)) sA t1 (List.pairwise_singleton _ _) (fun a ha => by rw [List.mem_singleton.mp ha]; exact ⟨p1, p2⟩) (by simp) s2 hH hse
    rw [show N - lt - 2 + lt + 2 = N by omega] at e1
    rw [show N - lt - 1 + lt + 1 = N by omega] at e2
    obtain ⟨hr2, f1, f2⟩ := se_96 (N := N) (isL := isL) (fun a ha => (e4 a ha).1) (by omega) aim1 sn1 hd1 op1 hr1 (nI S) sA1 l1.length 0 (N - l1.length - 1) hr1 [] (by omega) rfl (fun i hi => absurd hi (Nat.not_lt_zero _)) (fun j _ hj => e7 j hj)
    rw [show N - l1.length - 1 + l1.length + 1 = N by omega] at f1
    refine ⟨l1, hn2, hv2, nI w, O2, dist1, M1, sS1, aim1, sn1, hd1, op1, hr2, sA1 + (nI S).toInt64, ?_, ?_, e3, fun a ha => (e4 a ha).1, e5, e6, f2, a2, e8⟩
    · unfold f_Gr_search f_Gr_top f_Li_level
      dsimp only
      rw [p3, if_neg (en_ne2 p1), s1, Option.bind_some, if_neg (en_ne2 p1), pb_at p1 (by decide), pd_cl (show e < 2147483648 by omega), t2, Option.bind_some, Option.bind_some]
      exact e1
    · unfold f_Mo_search
      rw [a1, Option.bind_some, p4, if_pos (nI_pos' (by omega)), pz_at0, pb_at p1 (by decide), pd_cl (show e < 2147483648 by omega), t2]
      refine Eq.trans ?_ (e2.trans f1)
      rfl
end
section
/-! PURE: near and exact -/
def re_F (rn rv : Nat → Int32) (rs : Int32) (number worth : Nat → Int32) (found : Int32) : Prop := ∃ f, f ≤ 30 ∧ rs = nI f ∧ found = nI f ∧ ∀ i, i < f → number i = rn i ∧ worth i = rv i ∧ ∃ a, a < 30 ∧ rn i = nI a
theorem re_ofA {key : Nat → Int32} {c : List Nat} (hc : ∀ a ∈ c, a < 30) (h30 : c.length ≤ 30) {rn rv number worth : Nat → Int32} (h1 : pr_A key c rn rv) (h2 : pr_A key c number worth) : re_F rn rv (nI c.length) number worth (nI c.length) :=
  ⟨c.length, h30, rfl, rfl, fun i hi => ⟨by rw [(h1 i hi).1, (h2 i hi).1], by rw [(h1 i hi).2, (h2 i hi).2], c.getD i 0, hc _ (wp_getD hi), (h1 i hi).1⟩⟩
theorem ne_in {a : Int32} {lo hi : Nat} (hlo : lo < 2147483648) (hh : hi < 2147483648) (h : nI lo ≤ a ∧ a ≤ nI hi) : ∃ k, lo ≤ k ∧ k ≤ hi ∧ a = nI k := by
  have h0 : ¬ a < 0 := fun q => by
    have h1 := h.1
    rw [Int32.le_iff_toInt_le, nI_toInt (n := lo) (by omega)] at h1
    rw [Int32.lt_iff_toInt_lt] at q
    have : (0 : Int32).toInt = 0 := by decide
    omega
  obtain ⟨j, h1, h2⟩ := nI_of h0
  subst h2
  exact ⟨j, (nI_leI (by omega) (by omega)).mp h.1, (nI_leI (by omega) (by omega)).mp h.2, rfl⟩
theorem ne_cat {key : Nat → Int32} {l : List Nat} {n : Nat} {nums vals : Nat → Int32} (h : pr_A key l nums vals) : pr_A key (l ++ [n]) (upd nums l.length (nI n)) (upd vals l.length (key n)) := by
  intro i hi
  rw [List.length_append, List.length_singleton] at hi
  by_cases e : i = l.length
  · subst e
    rw [pk_us, pk_us, List.getD_eq_getElem?_getD, List.getElem?_append_right (Nat.le_refl _), Nat.sub_self]
    exact ⟨rfl, rfl⟩
  · rw [pk_un e, pk_un e, List.getD_eq_getElem?_getD, List.getElem?_append_left (by omega), ← List.getD_eq_getElem?_getD]
    exact h i (by omega)
theorem ne_58 {N : Nat} (hN : 64 ≤ N) (vec aim sn hd op hr : Nat → Int32) {c : List Nat} (hc : ∀ a ∈ c, a < 30) (hA : hr_A c hr) (heres : Int32) (sA : Int64) {f : Nat} (hf : f ≤ c.length) (hf30 : f ≤ 30) : ∀ (k i m : Nat) (num wor : Nat → Int32), i + k = f → (∀ j, j < i → num j = nI (c.getD j 0) ∧ wor j = pn_key vec aim (c.getD j 0)) →
    ∃ num' wor', f_Mo_near_58 N vec (m + k + 1) sn hd op hr num wor aim heres (nI f) sA (nI i) = some (nI f, aim, sn, hd, op, hr, heres, num', wor', nI f, sA) ∧ pr_A (pn_key vec aim) (c.take f) num' wor' := by
  intro k
  induction k with
  | zero =>
    intro i m num wor hi h
    refine ⟨num, wor, ?_, fun j hj => ?_⟩
    · rw [f_Mo_near_58, if_pos (nI_le (by omega) (by omega))]
    · rw [List.length_take] at hj
      rw [List.getD_eq_getElem?_getD, List.getElem?_take_of_lt (by omega), ← List.getD_eq_getElem?_getD]
      exact h j (by omega)
  | succ k ih =>
    intro i m num wor hi h
    have g1 := hc _ (wp_getD (show i < c.length by omega))
    rw [show m + (k + 1) + 1 = (m + k + 1) + 1 from rfl, f_Mo_near_58, if_neg (nI_ge (by omega) (by omega))]
    simp only [pb_at (show i < 30 by omega) (show 30 < 2147483648 by decide), pd_cl (show i < 2147483648 by omega), hA i (by omega)]
    rw [ch_far (by omega) vec aim g1, Option.bind_some, nI_1]
    refine ih (i + 1) m _ _ (by omega) (fun j hj => ?_)
    by_cases e : j = i
    · subst e; rw [pk_us, pk_us]; exact ⟨rfl, rfl⟩
    · rw [pk_un e, pk_un e]; exact h j (by omega)
theorem ne_start {N k : Nat} (hk : k ≤ 30) : f_Rk_start N (nI k) 0 = some (0, nI k, 0) := (pl_start N hk).1
theorem ne_near {N : Nat} (hN : 64 ≤ N) {V : Nat → Nat → Int32} {vec : Nat → Int32} (hV : ch_V V vec) {ord lev D R isN ent : Nat → Int32} {sz entry entryM : Int32} (hE : en_R ord lev D R isN ent sz entry entryM) (cw wg que isL asked : Nat → Int32) {lv : Int32} (hlv : lv_R lv isL) (Wa : T_Wa) (C : T_Ch) (K : T_Rk) (sS sE : Int32) (sA : Int64) (hse : sS = sA.toInt32) (rn rv : Nat → Int32) (rs rr rg : Int32) (aim sn hd op hr number worth : Nat → Int32) (heres found : Int32) (hF : re_F rn rv rs number worth found) (a1 a2 : Int32) :
    ∃ r Wa' sS' rn' rv' rs' rr' rg' aim' sn' hd' op' hr' heres' number' worth' found' sA', f_Nd_near N (V, cw, wg, lv) ((ord, lev, D, R, que, sz), Wa, C, K, entry, sS, sE) (rn, rv, rs, rr, rg) asked a1 a2 = some (r, ((ord, lev, D, R, que, sz), Wa', C, K, entry, sS', sE), (rn', rv', rs', rr', rg')) ∧ f_Mo_near N isL vec lev R D entryM aim asked sn hd op hr heres number worth found sA a1 a2 = some (r, aim', sn', hd', op', hr', heres', number', worth', found', sA') ∧ re_F rn' rv' rs' number' worth' found' ∧ sS' = sA'.toInt32 := by
  unfold f_Nd_near f_Mo_near
  simp only [pb_isWithin, pb_in, Option.bind_some]
  by_cases c1 : (1 : Int32) ≤ a1 ∧ a1 ≤ 10
  · simp only [if_pos c1, if_neg pz_10]
    by_cases c2 : (1 : Int32) ≤ a2 ∧ a2 ≤ 10
    · simp only [if_pos c2, if_neg pz_10]
      obtain ⟨k, k1, k2, rfl⟩ := ne_in (lo := 1) (hi := 10) (by decide) (by decide) c1
      obtain ⟨w, w1, w2, rfl⟩ := ne_in (lo := 1) (hi := 10) (by decide) (by decide) c2
      have main : ∀ W, W = max k w → ∃ r Wa' sS' rn' rv' rs' rr' rg' aim' sn' hd' op' hr' heres' number' worth' found' sA', ((f_Rk_start N (nI k) 0).bind fun p5 => ((f_Nd_searchInto_results N (V, cw, wg, lv) ((ord, lev, D, R, que, sz), Wa, C, K, entry, sS, sE) (rn, rv, p5.1, p5.2.1, p5.2.2) asked (nI W)).bind fun p7 => ((f_Rk_size N p7.2.2.2.1).bind fun p9 => (some (p9, p7.1, p7.2))))) = some (r, ((ord, lev, D, R, que, sz), Wa', C, K, entry, sS', sE), (rn', rv', rs', rr', rg')) ∧ ((f_Mo_search N isL vec lev R D entryM aim asked sn hd op hr sA (nI W)).bind fun p6 => (if nI k ≤ p6.2.2.2.2.2.1 then (f_Mo_near_58 N vec N p6.2.1 p6.2.2.1 p6.2.2.2.1 p6.2.2.2.2.1 number worth p6.1 p6.2.2.2.2.2.1 (nI k) p6.2.2.2.2.2.2 0) else (f_Mo_near_58 N vec N p6.2.1 p6.2.2.1 p6.2.2.2.1 p6.2.2.2.2.1 number worth p6.1 p6.2.2.2.2.2.1 p6.2.2.2.2.2.1 p6.2.2.2.2.2.2 0))) = some (r, aim', sn', hd', op', hr', heres', number', worth', found', sA') ∧ re_F rn' rv' rs' number' worth' found' ∧ sS' = sA'.toInt32 := by
        intro W hW
        obtain ⟨l, hn0, hv0, rm, O1, dist1, M1, sS', aim', sn', hd', op', hr', sA', s1, s2, s3, s4, s5, s6, s7, s8, s9⟩ := se_ok hN hV hE que isL asked Wa sS sA hse (w := W) (by omega) (by omega) aim sn hd op hr
        obtain ⟨tn, tv, t1, t2⟩ := se_20 (N := N) (isL := isL) (x0 := (V, cw, wg, lv)) hN hlv ((ord, lev, D, R, que, sz), Wa, C, K, entry, sS, sE) s3 s4 (by omega) (kk := k) (by omega) s6 rm O1 dist1 M1 sS' l.length 0 (N - l.length - 1) rn rv (by omega) (by intro i hi; simp at hi)
        rw [show N - l.length - 1 + l.length + 1 = N by omega, List.take_zero, List.filter_nil, List.take_nil] at t1
        have hfl : (l.filter (lv_f isL)).length ≤ 30 := Nat.le_trans (List.length_filter_le _ _) (by omega)
        have hcl : ((l.filter (lv_f isL)).take k).length = min k (l.filter (lv_f isL)).length := List.length_take
        have hm : ∀ a ∈ l.filter (lv_f isL), a < 30 := fun a ha => s4 a (List.mem_filter.mp ha).1
        obtain ⟨num', wor', n1, n2⟩ := ne_58 (N := N) hN vec aim' sn' hd' op' hr' hm s7 (nI (l.filter (lv_f isL)).length) sA' (f := min k (l.filter (lv_f isL)).length) (by omega) (by omega) (min k (l.filter (lv_f isL)).length) 0 (N - (min k (l.filter (lv_f isL)).length) - 1) number worth (by omega) (fun j hj => absurd hj (Nat.not_lt_zero _))
        rw [show N - (min k (l.filter (lv_f isL)).length) - 1 + (min k (l.filter (lv_f isL)).length) + 1 = N by omega] at n1
        have htk : (l.filter (lv_f isL)).take (min k (l.filter (lv_f isL)).length) = (l.filter (lv_f isL)).take k := by
          by_cases q : k ≤ (l.filter (lv_f isL)).length
          · rw [Nat.min_eq_left q]
          · rw [Nat.min_eq_right (by omega), List.take_of_length_le (Nat.le_refl _), List.take_of_length_le (by omega)]
        rw [htk] at n2
        refine ⟨nI ((l.filter (lv_f isL)).take k).length, ((hn0, hv0, nI l.length, rm, 0), O1, dist1, M1), sS', tn, tv, nI ((l.filter (lv_f isL)).take k).length, nI k, 0, aim', sn', hd', op', hr', nI (l.filter (lv_f isL)).length, num', wor', nI ((l.filter (lv_f isL)).take k).length, sA', ?_, ?_, re_ofA (fun a ha => hm a (List.mem_of_mem_take ha)) (by omega) t2 n2, s9⟩
        · rw [ne_start (by omega), Option.bind_some]
          unfold f_Nd_searchInto_results
          dsimp only
          rw [s1, Option.bind_some]
          rw [show f_Nd_searchInto_results_20 N (V, cw, wg, lv) ((ord, lev, D, R, que, sz), Wa, C, K, entry, sS, sE) (((hn0, hv0, nI l.length, rm, 0), O1, dist1, M1), sS') N (rn, rv, 0, nI k, 0) 0 = _ from t1, Option.bind_some]
          rfl
        · rw [s2, Option.bind_some]
          dsimp only
          rw [hcl]
          by_cases q : k ≤ (l.filter (lv_f isL)).length
          · rw [if_pos (nI_le q (by omega))]
            rw [Nat.min_eq_left q] at n1 ⊢
            exact n1
          · rw [if_neg (nI_ge (show (l.filter (lv_f isL)).length < k by omega) (by omega))]
            rw [Nat.min_eq_right (show (l.filter (lv_f isL)).length ≤ k by omega)] at n1 ⊢
            exact n1
      by_cases q : k < w
      · rw [if_pos (nI_lt q (by omega)), if_pos (nI_le (show k ≤ w by omega) (by omega))]
        exact main w (by omega)
      · rw [if_neg (nI_nlt (show w ≤ k by omega) (by omega))]
        by_cases q2 : k = w
        · subst q2
          rw [if_pos (nI_le (Nat.le_refl k) (by omega))]
          exact main k (by omega)
        · rw [if_neg (nI_ge (show w < k by omega) (by omega))]
          exact main k (by omega)
    · simp only [if_neg c2, if_true]
      exact ⟨-1, Wa, sS, rn, rv, rs, rr, rg, aim, sn, hd, op, hr, heres, number, worth, found, sA, rfl, rfl, hF, hse⟩
  · simp only [if_neg c1, if_true]
    exact ⟨-1, Wa, sS, rn, rv, rs, rr, rg, aim, sn, hd, op, hr, heres, number, worth, found, sA, rfl, rfl, hF, hse⟩
/-! exact -/
theorem ne_rank {N : Nat} (hN : 64 ≤ N) {V : Nat → Nat → Int32} {vec aim asked : Nat → Int32} (hV : ch_V V vec) (haim : ∀ j, j < 4 → aim j = asked j) {isL : Nat → Int32} {lv : Int32} (hlv : lv_R lv isL) {kk : Nat} (hkk : kk ≤ 30) : ∀ (k j m : Nat) (tn tv : Nat → Int32), j + k = 30 → pr_A (pn_key vec aim) ((so_set (pn_lt (pn_key vec aim)) (lv_f isL) j).take kk) tn tv →
    ∃ tn' tv', f_Do_rankByDistance_2 N V lv asked (m + k + 1) (tn, tv, nI ((so_set (pn_lt (pn_key vec aim)) (lv_f isL) j).take kk).length, nI kk, 0) (nI j) = some (tn', tv', nI ((so_set (pn_lt (pn_key vec aim)) (lv_f isL) 30).take kk).length, nI kk, 0) ∧ pr_A (pn_key vec aim) ((so_set (pn_lt (pn_key vec aim)) (lv_f isL) 30).take kk) tn' tv' := by
  have T := pn_T (pn_key vec aim)
  intro k
  induction k with
  | zero =>
    intro j m tn tv hj h
    have : j = 30 := by omega
    subst this
    refine ⟨tn, tv, ?_, h⟩
    rw [f_Do_rankByDistance_2, if_pos (by decide)]
  | succ k ih =>
    intro j m tn tv hj h
    have hj30 : j < 30 := by omega
    have hst : so_set (pn_lt (pn_key vec aim)) (lv_f isL) (j + 1) = if isL j = 0 then so_set (pn_lt (pn_key vec aim)) (lv_f isL) j else so_ins (pn_lt (pn_key vec aim)) j (so_set (pn_lt (pn_key vec aim)) (lv_f isL) j) := pn_step (P := isL)
    rw [show m + (k + 1) + 1 = (m + k + 1) + 1 from rfl, f_Do_rankByDistance_2, if_neg (show ¬ (30 : Int32) ≤ nI j from nI_ge (b := 30) (by omega) (by omega)), lv_is hlv hj30, Option.bind_some]
    by_cases c : isL j = 0
    · simp only [if_pos c, if_true]
      rw [if_pos c] at hst
      rw [nI_1, ← hst]
      exact ih (j + 1) m tn tv (by omega) (by rw [hst]; exact h)
    · simp only [if_neg c, if_neg pz_10]
      rw [if_neg c] at hst
      have hsf : so_ok (pn_lt (pn_key vec aim)) (so_set (pn_lt (pn_key vec aim)) (lv_f isL) j) := so_set_ok T _
      have hnx : j ∉ so_set (pn_lt (pn_key vec aim)) (lv_f isL) j := fun q => absurd (so_set_mem.mp q).1 (Nat.lt_irrefl _)
      obtain ⟨n1, v1, a1, a2⟩ := pa_ok (N := N) (room := kk) (x := j) (l := (so_set (pn_lt (pn_key vec aim)) (lv_f isL) j).take kk) (by omega) T (wk_hp N (pn_key vec aim)) hj30 (fun a ha => Nat.lt_trans (so_set_mem.mp (List.mem_of_mem_take ha)).1 hj30) hkk (by rw [List.length_take]; omega) (List.Pairwise.sublist (List.take_sublist _ _) hsf) tn tv h
      rw [se_add T hsf hnx, ← hst] at a1 a2
      rw [pb_at hj30 (by decide), pd_cl (show j < 2147483648 by omega), en_distA (by omega) hV haim hj30, Option.bind_some, a1, Option.bind_some, nI_1]
      exact ih (j + 1) m n1 v1 (by omega) a2
theorem ne_56 {N : Nat} (hN : 64 ≤ N) (vec aim : Nat → Int32) {k : Nat} (hk : k ≤ 30) : ∀ (s : List Nat) (m : Nat) (hd num wor : Nat → Int32) (q : List Nat), so_set (pn_lt (pn_key vec aim)) (pn_P hd) 30 = s → q.length ≤ k → pr_A (pn_key vec aim) q num wor →
    ∃ hd' num' wor', f_Mo_exact_56 N vec (nI k) aim (m + s.length + 1) hd num wor (nI q.length) (pn_o s.head?) = some (nI (q ++ s.take (k - q.length)).length, aim, hd', num', wor', nI (q ++ s.take (k - q.length)).length) ∧ pr_A (pn_key vec aim) (q ++ s.take (k - q.length)) num' wor' := by
  have T := pn_T (pn_key vec aim)
  intro s
  induction s with
  | nil =>
    intro m hd num wor q hs h1 h2
    rw [List.take_nil, List.append_nil]
    refine ⟨hd, num, wor, ?_, h2⟩
    rw [f_Mo_exact_56, if_pos (show pn_o ([] : List Nat).head? < 0 by decide)]
  | cons n r ih =>
    intro m hd num wor q hs h1 h2
    obtain ⟨hn, hs2⟩ := cr_pop T hs
    rw [show pn_o (n :: r).head? = nI n from rfl, List.length_cons, show m + (r.length + 1) + 1 = (m + r.length + 1) + 1 from rfl, f_Mo_exact_56, if_neg (pn_neg hn)]
    by_cases c1 : q.length < k
    · rw [if_neg (nI_ge c1 (by omega)), pb_at hn (by decide), pb_at (show q.length < 30 by omega) (by decide), ch_far (by omega) vec aim hn, Option.bind_some, pb_at (show q.length < 30 by omega) (by decide), pd_cl (show q.length < 2147483648 by omega), pd_cl (show n < 2147483648 by omega), pz_n0, nI_1, pn_nearest_held (by omega), hs2, Option.bind_some]
      have e : q.length + 1 = (q ++ [n]).length := by rw [List.length_append, List.length_singleton]
      obtain ⟨d, hd2⟩ : ∃ d, k - q.length = d + 1 := ⟨k - q.length - 1, by omega⟩
      have e2 : q ++ (n :: r).take (k - q.length) = (q ++ [n]) ++ r.take (k - (q ++ [n]).length) := by
        rw [hd2, List.take_succ_cons, ← e, show k - (q.length + 1) = d by omega, List.append_assoc]
        rfl
      rw [e2, e]
      exact ih m (upd hd n 0) _ _ (q ++ [n]) hs2 (by omega) (ne_cat h2)
    · rw [if_pos (nI_le (show k ≤ q.length by omega) (by omega)), show k - q.length = 0 by omega, List.take_zero, List.append_nil]
      exact ⟨hd, num, wor, rfl, h2⟩
theorem ne_18 {N : Nat} (vec isL num wor aim : Nat → Int32) (a1 : Int32) (h01 : ∀ a, a < 30 → isL a = 0 ∨ isL a = 1) : ∀ (k j m : Nat) (hd : Nat → Int32), j + k = 30 → (∀ a, a < j → hd a = isL a) →
    ∃ hd', f_Mo_exact_18 N isL vec num wor a1 aim (m + k + 1) hd (nI j) = ((f_Mo_nearest_held N vec aim hd').bind fun p7 => (f_Mo_exact_56 N vec a1 aim N hd' num wor 0 p7)) ∧ ∀ a, a < 30 → hd' a = isL a := by
  intro k
  induction k with
  | zero =>
    intro j m hd hj h
    refine ⟨hd, ?_, fun a ha => h a (by omega)⟩
    rw [f_Mo_exact_18, if_pos (show (30 : Int32) ≤ nI j from nI_le (a := 30) (by omega) (by omega))]
  | succ k ih =>
    intro j m hd hj h
    have hb : vp_nar .boolean (isL j) = isL j := by
      rcases h01 j (by omega) with q | q <;> rw [q] <;> decide
    rw [show m + (k + 1) + 1 = (m + k + 1) + 1 from rfl, f_Mo_exact_18, if_neg (show ¬ (30 : Int32) ≤ nI j from nI_ge (b := 30) (by omega) (by omega)), pb_at (show j < 30 by omega) (by decide), pb_at (show j < 30 by omega) (by decide), pd_cl (show j < 2147483648 by omega), hb, nI_1]
    refine ih (j + 1) m _ (by omega) (fun a ha => ?_)
    by_cases e : a = j
    · subst e; rw [pk_us]
    · rw [pk_un e]; exact h a (by omega)
theorem ne_setE {lt : Nat → Nat → Bool} {P Q : Nat → Bool} : ∀ n : Nat, (∀ a, a < n → P a = Q a) → so_set lt P n = so_set lt Q n
  | 0, _ => rfl
  | n + 1, h => by
    rw [so_set, so_set, h n (Nat.lt_succ_self n), ne_setE n (fun a ha => h a (Nat.lt_succ_of_lt ha))]
theorem ne_exact {N : Nat} (hN : 64 ≤ N) {V : Nat → Nat → Int32} {vec : Nat → Int32} (hV : ch_V V vec) (cw wg isL asked : Nat → Int32) {lv : Int32} (hlv : lv_R lv isL) (rn rv : Nat → Int32) (rs rr rg : Int32) (aim hd number worth : Nat → Int32) (found : Int32) (hF : re_F rn rv rs number worth found) (a1 : Int32) :
    ∃ r rn' rv' rs' rr' rg' aim' hd' number' worth' found', f_Nd_exact N (V, cw, wg, lv) (rn, rv, rs, rr, rg) asked a1 = some (r, (rn', rv', rs', rr', rg')) ∧ f_Mo_exact N isL vec aim asked hd number worth found a1 = some (r, aim', hd', number', worth', found') ∧ re_F rn' rv' rs' number' worth' found' := by
  unfold f_Nd_exact f_Mo_exact
  simp only [pb_isWithin, pb_in, Option.bind_some]
  by_cases c1 : (1 : Int32) ≤ a1 ∧ a1 ≤ 10
  · simp only [if_pos c1, if_neg pz_10]
    obtain ⟨k, k1, k2, rfl⟩ := ne_in (lo := 1) (hi := 10) (by decide) (by decide) c1
    obtain ⟨aim1, b1, b2⟩ := se_aim hN aim asked
    obtain ⟨tn, tv, t1, t2⟩ := ne_rank (N := N) (aim := aim1) hN hV b2 hlv (kk := k) (by omega) 30 0 (N - 31) rn rv (by omega) (by intro i hi; simp [so_set] at hi)
    rw [show N - 31 + 30 + 1 = N by omega, show so_set (pn_lt (pn_key vec aim1)) (lv_f isL) 0 = [] from rfl, List.take_nil] at t1
    obtain ⟨Lm, -, -, hL⟩ := hlv
    obtain ⟨hd1, d1, d2⟩ := ne_18 (N := N) vec isL number worth aim1 (nI k) (fun a ha => (hL a ha).2) 30 0 (N - 31) hd (by omega) (fun a ha => absurd ha (Nat.not_lt_zero _))
    rw [show N - 31 + 30 + 1 = N by omega] at d1
    have hset : so_set (pn_lt (pn_key vec aim1)) (pn_P hd1) 30 = so_set (pn_lt (pn_key vec aim1)) (lv_f isL) 30 := ne_setE 30 (fun a ha => by unfold pn_P lv_f; rw [d2 a ha])
    have hl30 := so_set_len (lt := pn_lt (pn_key vec aim1)) (P := lv_f isL) 30
    obtain ⟨hd2, num', wor', e1, e2⟩ := ne_56 (N := N) hN vec aim1 (k := k) (by omega) _ (N - (so_set (pn_lt (pn_key vec aim1)) (lv_f isL) 30).length - 1) hd1 number worth [] hset (Nat.zero_le _) (fun i hi => absurd hi (Nat.not_lt_zero _))
    rw [show N - (so_set (pn_lt (pn_key vec aim1)) (lv_f isL) 30).length - 1 + (so_set (pn_lt (pn_key vec aim1)) (lv_f isL) 30).length + 1 = N by omega, List.nil_append, List.length_nil, Nat.sub_zero] at e1
    rw [List.nil_append, List.length_nil, Nat.sub_zero] at e2
    refine ⟨nI ((so_set (pn_lt (pn_key vec aim1)) (lv_f isL) 30).take k).length, tn, tv, nI ((so_set (pn_lt (pn_key vec aim1)) (lv_f isL) 30).take k).length, nI k, 0, aim1, hd2, num', wor', nI ((so_set (pn_lt (pn_key vec aim1)) (lv_f isL) 30).take k).length, ?_, ?_, re_ofA (fun a ha => (so_set_mem.mp (List.mem_of_mem_take ha)).1) (by rw [List.length_take]; omega) t2 e2⟩
    · rw [ne_start (by omega), Option.bind_some]
      unfold f_Do_rankByDistance
      dsimp only
      rw [show f_Do_rankByDistance_2 N V lv asked N (rn, rv, 0, nI k, 0) 0 = _ from t1, Option.bind_some]
      rfl
    · rw [b1, Option.bind_some, show f_Mo_exact_18 N isL vec number worth (nI k) aim1 N hd 0 = _ from d1, pn_nearest_held (by omega), hset, Option.bind_some]
      exact e1
  · simp only [if_neg c1, if_true]
    exact ⟨-1, rn, rv, rs, rr, rg, aim, hd, number, worth, found, rfl, rfl, hF⟩
end
section
/-! PURE: scores -/
def sc_c (cw : Nat → Int32) (n w : Nat) : Nat := ((cw n >>> ((3 * nI w) &&& 31)) &&& 7).toNatClampNeg
theorem sc_cI (cw : Nat → Int32) (n w : Nat) : (cw n >>> ((3 * nI w) &&& 31)) &&& 7 = nI (sc_c cw n w) ∧ sc_c cw n w < 8 := by
  obtain ⟨j, h1, h2⟩ := pk_andE (cw n >>> ((3 * nI w) &&& 31)) (m := 7) 3 (by decide)
  unfold sc_c
  rw [h2, pd_cl (show j < 2147483648 by omega)]
  exact ⟨rfl, h1⟩
def sc_h (cw isL : Nat → Int32) (w : Nat) : Nat → Nat
  | 0 => 0
  | j + 1 => if isL j = 0 ∨ sc_c cw j w = 0 then sc_h cw isL w j else sc_h cw isL w j + 1
theorem sc_hle (cw isL : Nat → Int32) (w : Nat) : ∀ j : Nat, sc_h cw isL w j ≤ j
  | 0 => Nat.le_refl 0
  | j + 1 => by
    have := sc_hle cw isL w j
    unfold sc_h
    by_cases c : isL j = 0 ∨ sc_c cw j w = 0
    · rw [if_pos c]; omega
    · rw [if_neg c]; omega
theorem sc_hpos (cw isL : Nat → Int32) (w : Nat) {n : Nat} (h1 : isL n ≠ 0) (h2 : sc_c cw n w ≠ 0) : ∀ j : Nat, n < j → 0 < sc_h cw isL w j
  | 0, h => absurd h (Nat.not_lt_zero _)
  | j + 1, h => by
    unfold sc_h
    by_cases e : n = j
    · subst e
      rw [if_neg (fun q => q.elim h1 h2)]
      omega
    · have := sc_hpos cw isL w h1 h2 j (by omega)
      by_cases c : isL j = 0 ∨ sc_c cw j w = 0
      · rw [if_pos c]; exact this
      · rw [if_neg c]; omega
theorem sc_lw {N : Nat} {cw isL : Nat → Int32} {lv : Int32} (hlv : lv_R lv isL) (w : Nat) : ∀ (k j m : Nat), j + k = 30 → f_Do_liveWith_4 N cw lv (nI w) (m + k + 1) (nI (sc_h cw isL w j)) (nI j) = some (nI (sc_h cw isL w 30)) := by
  intro k
  induction k with
  | zero =>
    intro j m hj
    have : j = 30 := by omega
    subst this
    rw [f_Do_liveWith_4, if_pos (by decide)]
  | succ k ih =>
    intro j m hj
    have hj30 : j < 30 := by omega
    have hst : sc_h cw isL w (j + 1) = if isL j = 0 ∨ sc_c cw j w = 0 then sc_h cw isL w j else sc_h cw isL w j + 1 := rfl
    have hi := ih (j + 1) m (by omega)
    rw [hst] at hi
    rw [show m + (k + 1) + 1 = (m + k + 1) + 1 from rfl, f_Do_liveWith_4, if_neg (show ¬ (30 : Int32) ≤ nI j from nI_ge (b := 30) (by omega) (by omega)), lv_is hlv hj30, Option.bind_some, nI_1, nI_1]
    by_cases c : isL j = 0
    · simp only [if_pos c, if_true]
      rw [if_pos (Or.inl c)] at hi
      exact hi
    · simp only [if_neg c, if_neg pz_10]
      unfold f_Do_countOfWord
      rw [pb_at hj30 (by decide), Option.bind_some, pd_cl (show j < 2147483648 by omega), (sc_cI cw j w).1]
      by_cases d : sc_c cw j w = 0
      · rw [if_pos (show nI (sc_c cw j w) ≤ 0 by rw [d]; decide)]
        rw [if_pos (Or.inr d)] at hi
        exact hi
      · rw [if_neg (nI_nle (by omega) (by have := (sc_cI cw j w).2; omega))]
        rw [if_neg (fun q => q.elim c d)] at hi
        exact hi
theorem sc_53 {N : Nat} {cw isL : Nat → Int32} (w : Nat) (kk : Int32 → Int32 → Option Int32) : ∀ (k j m : Nat), j + k = 30 → f_Mo_scoreOf_53 N isL cw (nI w) kk (m + k + 1) (nI (sc_h cw isL w j)) (nI j) = kk (nI (sc_h cw isL w 30)) (nI 30) := by
  intro k
  induction k with
  | zero =>
    intro j m hj
    have : j = 30 := by omega
    subst this
    rw [f_Mo_scoreOf_53, if_pos (by decide)]
  | succ k ih =>
    intro j m hj
    have hj30 : j < 30 := by omega
    have hst : sc_h cw isL w (j + 1) = if isL j = 0 ∨ sc_c cw j w = 0 then sc_h cw isL w j else sc_h cw isL w j + 1 := rfl
    have hi := ih (j + 1) m (by omega)
    rw [hst] at hi
    rw [show m + (k + 1) + 1 = (m + k + 1) + 1 from rfl, f_Mo_scoreOf_53, if_neg (show ¬ (30 : Int32) ≤ nI j from nI_ge (b := 30) (by omega) (by omega)), pb_at hj30 (by decide), pd_cl (show j < 2147483648 by omega), nI_1, nI_1]
    by_cases c : isL j = 0
    · rw [if_pos c]
      rw [if_pos (Or.inl c)] at hi
      exact hi
    · rw [if_neg c]
      unfold f_Mo_countOf
      rw [pb_at hj30 (by decide), Option.bind_some, pd_cl (show j < 2147483648 by omega), (sc_cI cw j w).1]
      by_cases d : sc_c cw j w = 0
      · rw [if_pos (show nI (sc_c cw j w) ≤ 0 by rw [d]; decide)]
        rw [if_pos (Or.inr d)] at hi
        exact hi
      · rw [if_neg (nI_nle (by omega) (by have := (sc_cI cw j w).2; omega))]
        rw [if_neg (fun q => q.elim c d)] at hi
        exact hi
def sc_wt (cw isL : Nat → Int32) (w : Nat) : Int32 := if sc_h cw isL w 30 = 0 then 0 else nI (1 + pd_cnt isL 30 / sc_h cw isL w 30)
theorem sc_live {N : Nat} {isL : Nat → Int32} {lv : Int32} (hlv : lv_R lv isL) : f_Do_liveCount N lv = some (nI (pd_cnt isL 30)) := by
  obtain ⟨Lm, h1, h2, h3⟩ := hlv
  unfold f_Do_liveCount
  rw [h2, pc_ok h1 (fun a ha => (h3 a ha).1), Option.bind_some]
theorem sc_1p {L h : Nat} (hL : L ≤ 30) (h0 : 0 < h) (hh : h ≤ 30) : 1 + nI L / nI h = nI (1 + L / h) := by
  rw [pk_div (by omega) h0 (by omega), show (1 : Int32) = nI 1 from rfl, nI_add]
theorem sc_weigh {N : Nat} (hN : 64 ≤ N) {cw isL : Nat → Int32} {lv : Int32} (hlv : lv_R lv isL) : ∀ (k v m : Nat) (wg : Nat → Int32), v + k = 8 → (∀ a, a < v → wg a = sc_wt cw isL a) → ∃ wg', f_Do_weighWords_2 N cw lv (m + k + 1) wg (nI v) = some wg' ∧ ∀ a, a < 8 → wg' a = sc_wt cw isL a := by
  intro k
  induction k with
  | zero =>
    intro v m wg hv h
    refine ⟨wg, ?_, fun a ha => h a (by omega)⟩
    rw [f_Do_weighWords_2, if_pos (show (8 : Int32) ≤ nI v from nI_le (a := 8) (by omega) (by omega))]
  | succ k ih =>
    intro v m wg hv h
    have hlw := sc_lw (N := N) (cw := cw) hlv v 30 0 (N - 31) (by omega)
    rw [show N - 31 + 30 + 1 = N by omega] at hlw
    have hle := sc_hle cw isL v 30
    have hcn := wk_cnt30 isL
    have upn : ∀ x, x = sc_wt cw isL v → ∀ a, a < v + 1 → upd wg v x a = sc_wt cw isL a := fun x hx a ha => by
      by_cases e : a = v
      · subst e; rw [pk_us, hx]
      · rw [pk_un e]; exact h a (by omega)
    rw [show m + (k + 1) + 1 = (m + k + 1) + 1 from rfl, f_Do_weighWords_2, if_neg (show ¬ (8 : Int32) ≤ nI v from nI_ge (b := 8) (by omega) (by omega))]
    unfold f_Do_liveWith
    rw [show f_Do_liveWith_4 N cw lv (nI v) N 0 0 = _ from hlw, Option.bind_some, nI_1, pd_cl (show v < 2147483648 by omega)]
    by_cases c : sc_h cw isL v 30 = 0
    · rw [if_pos (show nI (sc_h cw isL v 30) ≤ 0 by rw [c]; decide), pb_at (show v < 8 by omega) (by decide)]
      exact ih (v + 1) m _ (by omega) (upn 0 (by unfold sc_wt; rw [if_pos c]))
    · rw [if_neg (nI_nle (by omega) (by omega)), sc_live hlv, Option.bind_some]
      unfold g_dv
      rw [if_neg (nI_ne0 (by omega) (by omega)), pb_at (show v < 8 by omega) (by decide), sc_1p hcn (by omega) hle]
      exact ih (v + 1) m _ (by omega) (upn _ (by unfold sc_wt; rw [if_neg c]))
theorem sc_term {c x v : Nat} (hc : c < 8) (hx : x ≤ 31) : nI v + (((100 * nI c) / (nI c + 1)) * nI x) = nI (v + 100 * c / (c + 1) * x) ∧ 100 * c / (c + 1) * x ≤ 3100 := by
  constructor
  · rw [show (100 : Int32) = nI 100 from rfl, pk_mul, nI_1, pk_div (by omega) (by omega) (by omega), pk_mul, nI_add]
  · have h1 : 100 * c / (c + 1) ≤ 100 := by
      apply Nat.div_le_of_le_mul
      omega
    exact Nat.le_trans (Nat.mul_le_mul h1 hx) (by decide)
theorem sc_lock {N : Nat} (hN : 64 ≤ N) {cw isL wg : Nat → Int32} (hwg : ∀ a, a < 8 → wg a = sc_wt cw isL a) {n : Nat} (hn : n < 30) (hL : isL n ≠ 0) (st : Int32) : ∀ (k w m1 m2 v : Nat), w + k = 8 → v ≤ 3100 * w →
    ∃ v', v' ≤ 24800 ∧ f_Do_score_5 N cw wg (nI n) st (m1 + k + 1) (nI v) (nI w) = some (nI v') ∧ f_Mo_scoreOf_14 N isL cw (nI n) st (nI (pd_cnt isL 30)) (m2 + k + 1) (nI v) (nI w) = some (nI v') := by
  intro k
  induction k with
  | zero =>
    intro w m1 m2 v hw hv
    have : w = 8 := by omega
    subst this
    refine ⟨v, by omega, ?_, ?_⟩
    · rw [f_Do_score_5, if_pos (by decide)]
    · rw [f_Mo_scoreOf_14, if_pos (by decide)]
  | succ k ih =>
    intro w m1 m2 v hw hv
    have hcc := sc_cI cw n w
    have hle := sc_hle cw isL w 30
    have hcn := wk_cnt30 isL
    rw [show m1 + (k + 1) + 1 = (m1 + k + 1) + 1 from rfl, f_Do_score_5, if_neg (show ¬ (8 : Int32) ≤ nI w from nI_ge (b := 8) (by omega) (by omega)), show m2 + (k + 1) + 1 = (m2 + k + 1) + 1 from rfl, f_Mo_scoreOf_14, if_neg (show ¬ (8 : Int32) ≤ nI w from nI_ge (b := 8) (by omega) (by omega))]
    unfold f_Nd_isIn f_Mo_countOf f_Do_countOfWord
    simp only [pb_at hn (show 30 < 2147483648 by decide), Option.bind_some, pd_cl (show n < 2147483648 by omega), hcc.1, nI_1]
    by_cases c : (st >>> (nI w &&& 31)) &&& 1 = 0
    · simp only [if_pos c, Option.bind_some, if_true]
      exact ih (w + 1) m1 m2 v (by omega) (by omega)
    · simp only [if_neg c, Option.bind_some, if_neg pz_10]
      unfold g_dv
      rw [if_neg (nI_ne0 (by omega) (by omega)), pb_at (show w < 8 by omega) (by decide), pd_cl (show w < 2147483648 by omega), hwg w (by omega)]
      by_cases d : sc_c cw n w = 0
      · rw [if_pos (show nI (sc_c cw n w) = 0 by rw [d]; rfl), d]
        rw [show nI v + 100 * nI 0 / nI (0 + 1) * sc_wt cw isL w = nI v by
          rw [show (100 : Int32) * nI 0 / nI (0 + 1) = 0 by decide, Int32.zero_mul, Int32.add_zero]]
        exact ih (w + 1) m1 m2 v (by omega) (by omega)
      · have hp := sc_hpos cw isL w hL d 30 hn
        rw [if_neg (nI_ne0 (by omega) (by omega))]
        have h53 := sc_53 (N := N) (cw := cw) (isL := isL) w (fun v7_6 v8_6 => (if nI (sc_c cw n w + 1) = 0 then none else (if v7_6 = 0 then none else (f_Mo_scoreOf_14 N isL cw (nI n) st (nI (pd_cnt isL 30)) (m2 + k + 1) (nI v + (((100 * nI (sc_c cw n w)) / nI (sc_c cw n w + 1)) * (1 + (nI (pd_cnt isL 30) / v7_6)))) (nI (w + 1)))))) 30 0 (N - 31) (by omega)
        rw [show N - 31 + 30 + 1 = N by omega] at h53
        have hx : 1 + pd_cnt isL 30 / sc_h cw isL w 30 ≤ 31 := by
          have := Nat.div_le_self (pd_cnt isL 30) (sc_h cw isL w 30)
          omega
        have ht := sc_term (v := v) hcc.2 hx
        rw [nI_1] at ht
        have hwt : sc_wt cw isL w = nI (1 + pd_cnt isL 30 / sc_h cw isL w 30) := by unfold sc_wt; rw [if_neg (by omega)]
        rw [hwt, ht.1]
        obtain ⟨v', e1, e2, e3⟩ := ih (w + 1) m1 m2 _ (by omega) (show v + 100 * sc_c cw n w / (sc_c cw n w + 1) * (1 + pd_cnt isL 30 / sc_h cw isL w 30) ≤ 3100 * (w + 1) by have := ht.2; omega)
        refine ⟨v', e1, e2, ?_⟩
        refine Eq.trans h53 ?_
        rw [if_neg (nI_ne0 (by omega) (by omega)), if_neg (nI_ne0 (by omega) (by omega)), sc_1p hcn hp hle, ht.1]
        exact e3
theorem sc_array {N : Nat} (hN : 64 ≤ N) {cw isL wg : Nat → Int32} (hwg : ∀ a, a < 8 → wg a = sc_wt cw isL a) (st : Int32) : ∀ (k j m : Nat) (sc : Nat → Int32), j + k = 30 → (∀ n, n < j → (isL n = 0 → sc n = 0) ∧ (isL n ≠ 0 → f_Do_score N cw wg (nI n) st = some (sc n)) ∧ ∃ v, v ≤ 24800 ∧ sc n = nI v) →
    ∃ sc', f_Mo_score_2 N isL cw st (m + k + 1) sc (nI j) = some sc' ∧ ∀ n, n < 30 → (isL n = 0 → sc' n = 0) ∧ (isL n ≠ 0 → f_Do_score N cw wg (nI n) st = some (sc' n)) ∧ ∃ v, v ≤ 24800 ∧ sc' n = nI v := by
  intro k
  induction k with
  | zero =>
    intro j m sc hj h
    refine ⟨sc, ?_, fun a ha => h a (by omega)⟩
    rw [f_Mo_score_2, if_pos (show (30 : Int32) ≤ nI j from nI_le (a := 30) (by omega) (by omega))]
  | succ k ih =>
    intro j m sc hj h
    have hj30 : j < 30 := by omega
    rw [show m + (k + 1) + 1 = (m + k + 1) + 1 from rfl, f_Mo_score_2, if_neg (show ¬ (30 : Int32) ≤ nI j from nI_ge (b := 30) (by omega) (by omega)), pb_at hj30 (by decide), pd_cl (show j < 2147483648 by omega), nI_1]
    by_cases c : isL j = 0
    · rw [if_pos c, pb_at hj30 (by decide)]
      refine ih (j + 1) m _ (by omega) (fun a ha => ?_)
      by_cases e : a = j
      · subst e
        rw [pk_us]
        exact ⟨fun _ => rfl, fun q => absurd c q, 0, by omega, rfl⟩
      · rw [pk_un e]; exact h a (by omega)
    · obtain ⟨v', e1, e2, e3⟩ := sc_lock hN hwg hj30 c st 8 0 (N - 9) (N - 9) 0 (by omega) (by omega)
      rw [show N - 9 + 8 + 1 = N by omega] at e2 e3
      have hso : f_Mo_scoreOf N isL cw (nI j) st = some (nI v') := by
        unfold f_Mo_scoreOf
        rw [pd_size (by omega), Option.bind_some]
        exact e3
      rw [if_neg c, hso, Option.bind_some, pb_at hj30 (by decide)]
      refine ih (j + 1) m _ (by omega) (fun a ha => ?_)
      by_cases e : a = j
      · subst e
        rw [pk_us]
        exact ⟨fun q => absurd q c, fun _ => e2, v', e1, rfl⟩
      · rw [pk_un e]; exact h a (by omega)
end
section
/-! PURE: the best, by places -/
def sc_lt (key : Nat → Int32) (a b : Nat) : Bool := decide (key b < key a ∨ key a = key b ∧ a < b)
theorem sc_T (key : Nat → Int32) : so_T (sc_lt key) := by
  refine ⟨fun a => ?_, fun a b c h1 h2 => ?_, fun a b h => ?_⟩
  · unfold sc_lt
    rw [decide_eq_false_iff_not]
    rintro (h | ⟨-, h⟩)
    · exact absurd h (by rw [Int32.lt_iff_toInt_lt]; omega)
    · omega
  · unfold sc_lt at h1 h2 ⊢
    rw [decide_eq_true_iff] at h1 h2 ⊢
    rw [Int32.lt_iff_toInt_lt, ← Int32.toInt_inj] at h1 h2 ⊢
    omega
  · unfold sc_lt
    rw [decide_eq_true_iff, decide_eq_true_iff, Int32.lt_iff_toInt_lt, Int32.lt_iff_toInt_lt, ← Int32.toInt_inj, ← Int32.toInt_inj]
    omega
theorem sc_hp (N : Nat) (key : Nat → Int32) : ∀ a b, a < 30 → b < 30 → f_Rk_precedes N 1 (nI a) (key a) (nI b) (key b) = some (if sc_lt key a b = true then 1 else 0) := by
  intro a b ha hb
  rw [pr_prec1 N _ _ ha hb]
  unfold sc_lt
  simp only [decide_eq_true_iff]
theorem rk_idx {lt : Nat → Nat → Bool} (T : so_T lt) {P : Nat → Bool} {a : Nat} (ha : a < 30) (hP : P a = true) : (so_set lt (fun m => P m && lt m a) 30).length < (so_set lt P 30).length ∧ (so_set lt P 30).getD (so_set lt (fun m => P m && lt m a) 30).length 0 = a ∧ ∀ k, (a ∈ (so_set lt P 30).take k ↔ (so_set lt (fun m => P m && lt m a) 30).length < k) := by
  have hs : so_ok lt (so_set lt P 30) := so_set_ok T _
  have hmem : ∀ m, m ∈ so_set lt P 30 ↔ m < 30 ∧ P m = true := fun m => so_set_mem
  have hQ : ∀ m, m ∈ so_set lt (fun m => P m && lt m a) 30 ↔ m < 30 ∧ (P m && lt m a) = true := fun m => so_set_mem
  have hQs : so_ok lt (so_set lt (fun m => P m && lt m a) 30) := so_set_ok T _
  generalize so_set lt (fun m => P m && lt m a) 30 = q at *
  generalize so_set lt P 30 = s at *
  obtain ⟨i, hi, hia⟩ := List.mem_iff_getElem.mp ((hmem a).mpr ⟨ha, hP⟩)
  have e : q = s.take i := by
    refine so_uniq T hQs (List.Pairwise.sublist (List.take_sublist i s) hs) (fun m => ?_)
    rw [hQ m, Bool.and_eq_true]
    constructor
    · rintro ⟨h1, h2, h3⟩
      obtain ⟨j, hj, hjm⟩ := List.mem_iff_getElem.mp ((hmem m).mpr ⟨h1, h2⟩)
      rcases Nat.lt_trichotomy j i with g | g | g
      · rw [← hjm, List.mem_iff_getElem]
        exact ⟨j, by rw [List.length_take]; omega, by rw [List.getElem_take]⟩
      · subst g
        rw [hjm] at hia
        rw [hia, T.1] at h3
        cases h3
      · have := List.pairwise_iff_getElem.mp hs i j hi hj g
        rw [hia, hjm] at this
        exact absurd this (so_asym T h3)
    · intro h
      have h1 := (hmem m).mp (List.mem_of_mem_take h)
      obtain ⟨j, hj, hjm⟩ := List.mem_iff_getElem.mp h
      rw [List.length_take] at hj
      rw [List.getElem_take] at hjm
      refine ⟨h1.1, h1.2, ?_⟩
      rw [← hjm, ← hia]
      exact List.pairwise_iff_getElem.mp hs j i (by omega) hi (by omega)
  have hlen : q.length = i := by rw [e, List.length_take]; omega
  rw [hlen]
  refine ⟨hi, by rw [List.getD_eq_getElem?_getD, List.getElem?_eq_getElem hi, hia]; rfl, fun k => ?_⟩
  constructor
  · intro h
    obtain ⟨j, hj, hjm⟩ := List.mem_iff_getElem.mp h
    rw [List.length_take] at hj
    rw [List.getElem_take] at hjm
    rcases Nat.lt_trichotomy j i with g | g | g
    · have := List.pairwise_iff_getElem.mp hs j i (by omega) hi g
      rw [hia, hjm, T.1] at this
      cases this
    · omega
    · have := List.pairwise_iff_getElem.mp hs i j hi (by omega) g
      rw [hia, hjm, T.1] at this
      cases this
  · intro h
    rw [← hia, List.mem_iff_getElem]
    exact ⟨i, by rw [List.length_take]; omega, by rw [List.getElem_take]⟩
def be_r (sc : Nat → Int32) (n : Nat) : Nat := (so_set (sc_lt sc) (fun m => sc_lt sc m n) 30).length
theorem be_r30 (sc : Nat → Int32) (n : Nat) : be_r sc n ≤ 30 := so_set_len _
theorem be_len {lt : Nat → Nat → Bool} {P : Nat → Bool} (j : Nat) : (so_set lt P (j + 1)).length = if P j = true then (so_set lt P j).length + 1 else (so_set lt P j).length := by
  rw [so_set]
  by_cases c : P j = true
  · rw [if_pos c, if_pos c, so_len]
  · rw [if_neg c, if_neg c]
theorem be_place_4 {N : Nat} (sc : Nat → Int32) {n : Nat} (hn : n < 30) : ∀ (k j m : Nat), j + k = 30 → f_Mo_placeOf_4 N sc (nI n) (m + k + 1) (nI (so_set (sc_lt sc) (fun m => sc_lt sc m n) j).length) (nI j) = some (nI (be_r sc n)) := by
  intro k
  induction k with
  | zero =>
    intro j m hj
    have : j = 30 := by omega
    subst this
    rw [f_Mo_placeOf_4, if_pos (by decide)]
    rfl
  | succ k ih =>
    intro j m hj
    have hj30 : j < 30 := by omega
    have hi := ih (j + 1) m (by omega)
    rw [be_len] at hi
    have e : (sc_lt sc j n = true) = (sc n < sc j ∨ sc j = sc n ∧ j < n) := by unfold sc_lt; rw [decide_eq_true_iff]
    rw [show m + (k + 1) + 1 = (m + k + 1) + 1 from rfl, f_Mo_placeOf_4, if_neg (show ¬ (30 : Int32) ≤ nI j from nI_ge (b := 30) (by omega) (by omega)), pb_at hj30 (by decide), pb_at hn (by decide), pb_at hj30 (by decide), pb_at hn (by decide), pd_cl (show j < 2147483648 by omega), pd_cl (show n < 2147483648 by omega), nI_1, nI_1]
    by_cases c1 : sc n < sc j
    · rw [if_pos c1]
      rw [if_pos (by rw [e]; exact Or.inl c1)] at hi
      exact hi
    · rw [if_neg c1]
      by_cases c2 : sc j = sc n
      · rw [if_pos c2]
        by_cases c3 : j < n
        · rw [if_neg (nI_ge c3 (by omega))]
          rw [if_pos (by rw [e]; exact Or.inr ⟨c2, c3⟩)] at hi
          exact hi
        · rw [if_pos (nI_le (show n ≤ j by omega) (by omega))]
          rw [if_neg (by rw [e]; exact fun q => q.elim c1 (fun q => c3 q.2))] at hi
          exact hi
      · rw [if_neg c2]
        rw [if_neg (by rw [e]; exact fun q => q.elim c1 (fun q => c2 q.1))] at hi
        exact hi
theorem be_place {N : Nat} (hN : 64 ≤ N) (sc : Nat → Int32) {n : Nat} (hn : n < 30) : f_Mo_placeOf N sc (nI n) = some (nI (be_r sc n)) := by
  have := be_place_4 (N := N) sc hn 30 0 (N - 31) (by omega)
  rw [show N - 31 + 30 + 1 = N by omega] at this
  exact this
/-- places of those that have a score -/
theorem be_idx {sc : Nat → Int32} (hv : ∀ n, n < 30 → ∃ v, v ≤ 100000 ∧ sc n = nI v) {n : Nat} (hn : n < 30) (h0 : sc n ≠ 0) : be_r sc n < (so_set (sc_lt sc) (pn_P sc) 30).length ∧ (so_set (sc_lt sc) (pn_P sc) 30).getD (be_r sc n) 0 = n ∧ ∀ k, (n ∈ (so_set (sc_lt sc) (pn_P sc) 30).take k ↔ be_r sc n < k) := by
  have e : so_set (sc_lt sc) (fun m => sc_lt sc m n) 30 = so_set (sc_lt sc) (fun m => pn_P sc m && sc_lt sc m n) 30 := by
    refine ne_setE 30 (fun m hm => ?_)
    by_cases c : sc_lt sc m n = true
    · rw [c, Bool.and_true]
      unfold pn_P
      refine (decide_eq_true ?_).symm
      intro q
      unfold sc_lt at c
      rw [decide_eq_true_iff, q] at c
      obtain ⟨v, v1, v2⟩ := hv n hn
      rw [v2] at c h0
      rcases c with c | c
      · exact nI_pos (by omega) c
      · exact h0 c.1.symm
    · rw [Bool.not_eq_true] at c
      rw [c, Bool.and_false]
  unfold be_r
  rw [e]
  exact rk_idx (sc_T sc) hn (by unfold pn_P; exact decide_eq_true h0)
theorem be_7 {N : Nat} (hN : 64 ≤ N) {sc : Nat → Int32} (hv : ∀ n, n < 30 → ∃ v, v ≤ 100000 ∧ sc n = nI v) {kk : Nat} (hkk : kk ≤ 30) : ∀ (k j m : Nat) (num wor : Nat → Int32), j + k = 30 → (∀ i, i < ((so_set (sc_lt sc) (pn_P sc) 30).take kk).length → (so_set (sc_lt sc) (pn_P sc) 30).getD i 0 < j → num i = nI ((so_set (sc_lt sc) (pn_P sc) 30).getD i 0) ∧ wor i = sc ((so_set (sc_lt sc) (pn_P sc) 30).getD i 0)) →
    ∃ num' wor', f_Mo_best_7 N sc (nI kk) (m + k + 1) num wor (nI (so_set (sc_lt sc) (fun a => decide (a ∈ (so_set (sc_lt sc) (pn_P sc) 30).take kk)) j).length) (nI j) = some (nI ((so_set (sc_lt sc) (pn_P sc) 30).take kk).length, num', wor', nI ((so_set (sc_lt sc) (pn_P sc) 30).take kk).length) ∧ pr_A sc ((so_set (sc_lt sc) (pn_P sc) 30).take kk) num' wor' := by
  have T := sc_T sc
  have hs : so_ok (sc_lt sc) (so_set (sc_lt sc) (pn_P sc) 30) := so_set_ok T _
  have hidx := fun n hn h0 => be_idx hv (n := n) hn h0
  have hmem : ∀ m, m ∈ so_set (sc_lt sc) (pn_P sc) 30 → m < 30 ∧ sc m ≠ 0 := fun m hm => ⟨(so_set_mem.mp hm).1, (pw_set_mem (so_set_mem.mp hm).1).mp hm⟩
  generalize so_set (sc_lt sc) (pn_P sc) 30 = s at *
  have hlast : so_set (sc_lt sc) (fun a => decide (a ∈ s.take kk)) 30 = s.take kk := so_uniq T (so_set_ok T _) (List.Pairwise.sublist (List.take_sublist kk s) hs) (fun a => by
    rw [so_set_mem, decide_eq_true_iff]
    exact ⟨fun q => q.2, fun q => ⟨(hmem a (List.mem_of_mem_take q)).1, q⟩⟩)
  have hgd : ∀ i, i < (s.take kk).length → (s.take kk).getD i 0 = s.getD i 0 := fun i hi => by
    rw [List.length_take] at hi
    rw [List.getD_eq_getElem?_getD, List.getElem?_take_of_lt (by omega), ← List.getD_eq_getElem?_getD]
  intro k
  induction k with
  | zero =>
    intro j m num wor hj h
    have : j = 30 := by omega
    subst this
    refine ⟨num, wor, ?_, fun i hi => ?_⟩
    · rw [f_Mo_best_7, if_pos (by decide), hlast]
    · rw [hgd i hi]
      refine h i hi ?_
      rw [← hgd i hi]
      exact (hmem _ (List.mem_of_mem_take (wp_getD hi))).1
  | succ k ih =>
    intro j m num wor hj h
    have hj30 : j < 30 := by omega
    have hst := be_len (lt := sc_lt sc) (P := fun a => decide (a ∈ s.take kk)) j
    rw [show m + (k + 1) + 1 = (m + k + 1) + 1 from rfl, f_Mo_best_7, if_neg (show ¬ (30 : Int32) ≤ nI j from nI_ge (b := 30) (by omega) (by omega)), be_place hN sc hj30, Option.bind_some, pb_at hj30 (by decide), pd_cl (show j < 2147483648 by omega)]
    have hr30 := be_r30 sc j
    have skip : j ∉ s.take kk → ∃ num' wor', f_Mo_best_7 N sc (nI kk) (m + k + 1) num wor (nI (so_set (sc_lt sc) (fun a => decide (a ∈ s.take kk)) j).length) (nI j + 1) = some (nI (s.take kk).length, num', wor', nI (s.take kk).length) ∧ pr_A sc (s.take kk) num' wor' := by
      intro hnm
      rw [if_neg (by rw [decide_eq_true_iff]; exact hnm)] at hst
      rw [nI_1, ← hst]
      refine ih (j + 1) m num wor (by omega) (fun i hi hlt => h i hi ?_)
      have : s.getD i 0 ≠ j := fun q => hnm (by rw [← q, ← hgd i hi]; exact wp_getD hi)
      omega
    by_cases c : sc j = 0
    · rw [if_pos c]
      exact skip (fun q => (hmem j (List.mem_of_mem_take q)).2 c)
    · rw [if_neg c]
      obtain ⟨i1, i2, i3⟩ := hidx j hj30 c
      by_cases d : be_r sc j < kk
      · rw [if_pos (nI_lt d (by omega)), pb_at (show be_r sc j < 30 by omega) (by decide), pb_at hj30 (by decide), pb_at (show be_r sc j < 30 by omega) (by decide), pd_cl (show be_r sc j < 2147483648 by omega), nI_1, nI_1]
        rw [if_pos (by rw [decide_eq_true_iff]; exact (i3 kk).mpr d)] at hst
        rw [← hst]
        refine ih (j + 1) m _ _ (by omega) (fun i hi hlt => ?_)
        by_cases e : i = be_r sc j
        · rw [e, pk_us, pk_us, i2]
          exact ⟨rfl, rfl⟩
        · rw [pk_un e, pk_un e]
          refine h i hi ?_
          have : s.getD i 0 ≠ j := fun q => e (by
            have hil : i < s.length := by rw [List.length_take] at hi; omega
            have g1 : s.getD i 0 = s[i] := by rw [List.getD_eq_getElem?_getD, List.getElem?_eq_getElem hil]; rfl
            have g2 : s.getD (be_r sc j) 0 = s[be_r sc j] := by rw [List.getD_eq_getElem?_getD, List.getElem?_eq_getElem i1]; rfl
            rw [g1] at q
            rw [g2] at i2
            rcases Nat.lt_trichotomy i (be_r sc j) with g | g | g
            · have := List.pairwise_iff_getElem.mp hs i (be_r sc j) hil i1 g
              rw [q, i2, T.1] at this
              cases this
            · exact g
            · have := List.pairwise_iff_getElem.mp hs (be_r sc j) i i1 hil g
              rw [q, i2, T.1] at this
              cases this)
          omega
      · rw [if_neg (nI_nlt (show kk ≤ be_r sc j by omega) (by omega))]
        exact skip (fun q => d ((i3 kk).mp q))
theorem be_best {N : Nat} (hN : 64 ≤ N) {sc : Nat → Int32} (hv : ∀ n, n < 30 → ∃ v, v ≤ 100000 ∧ sc n = nI v) {kk : Nat} (hkk : kk ≤ 30) (num wor : Nat → Int32) : ∃ num' wor', f_Mo_best N num wor sc (nI kk) = some (nI ((so_set (sc_lt sc) (pn_P sc) 30).take kk).length, num', wor', nI ((so_set (sc_lt sc) (pn_P sc) 30).take kk).length) ∧ pr_A sc ((so_set (sc_lt sc) (pn_P sc) 30).take kk) num' wor' := by
  have := be_7 hN hv hkk 30 0 (N - 31) num wor (by omega) (fun i hi hlt => absurd hlt (Nat.not_lt_zero _))
  rw [show N - 31 + 30 + 1 = N by omega] at this
  exact this
end
