section
-- ===== PART A: goes FIRST, ahead of the names: the tables' words, and 'selects' of the private methods out of them =====
/-- a private method of a class that the tables say can be made, by its rows of tables_1 -/
def lw_okq (q : MethodName × Nat) : Prop := (q.1.cls ≠ "java/lang/invoke/MethodHandle" ∧ q.1.cls ≠ "java/lang/invoke/VarHandle") ∧ Cond.instantiable q.1.cls q.2 ∈ tables_1 ∧ Cond.privateMethod q.1 ∈ tables_1 ∧ Cond.instanceMethod q.1 ∈ tables_1
theorem lw_p0 : lw_okq (⟨"NearDesk$Ranking", "precedes", "(IIII)Z"⟩, 5) := ⟨⟨by decide +kernel, by decide +kernel⟩, List.mem_of_getElem? (i := 79) (by decide +kernel), List.mem_of_getElem? (i := 246) (by decide +kernel), List.mem_of_getElem? (i := 247) (by decide +kernel)⟩
theorem lw_p1 : lw_okq (⟨"NearDesk$Walker", "begin", "(I)V"⟩, 4) := ⟨⟨by decide +kernel, by decide +kernel⟩, List.mem_of_getElem? (i := 73) (by decide +kernel), List.mem_of_getElem? (i := 258) (by decide +kernel), List.mem_of_getElem? (i := 259) (by decide +kernel)⟩
theorem lw_p2 : lw_okq (⟨"NearDesk$Walker", "lookAround", "(LNearDesk$Links;II)V"⟩, 4) := ⟨⟨by decide +kernel, by decide +kernel⟩, List.mem_of_getElem? (i := 73) (by decide +kernel), List.mem_of_getElem? (i := 290) (by decide +kernel), List.mem_of_getElem? (i := 291) (by decide +kernel)⟩
theorem lw_p3 : lw_okq (⟨"NearDesk$Graph", "link", "(LNearDesk$Documents;II)V"⟩, 7) := ⟨⟨by decide +kernel, by decide +kernel⟩, List.mem_of_getElem? (i := 42) (by decide +kernel), List.mem_of_getElem? (i := 311) (by decide +kernel), List.mem_of_getElem? (i := 312) (by decide +kernel)⟩
theorem lw_p4 : lw_okq (⟨"NearDesk$Chooser", "isNearestToVector", "(LNearDesk$Documents;II)Z"⟩, 3) := ⟨⟨by decide +kernel, by decide +kernel⟩, List.mem_of_getElem? (i := 114) (by decide +kernel), List.mem_of_getElem? (i := 326) (by decide +kernel), List.mem_of_getElem? (i := 327) (by decide +kernel)⟩
theorem lw_p5 : lw_okq (⟨"NearDesk$Chooser", "take", "(I)V"⟩, 3) := ⟨⟨by decide +kernel, by decide +kernel⟩, List.mem_of_getElem? (i := 114) (by decide +kernel), List.mem_of_getElem? (i := 332) (by decide +kernel), List.mem_of_getElem? (i := 333) (by decide +kernel)⟩
theorem lw_p6 : lw_okq (⟨"NearDesk$Graph", "shorten", "(LNearDesk$Documents;II)V"⟩, 7) := ⟨⟨by decide +kernel, by decide +kernel⟩, List.mem_of_getElem? (i := 42) (by decide +kernel), List.mem_of_getElem? (i := 360) (by decide +kernel), List.mem_of_getElem? (i := 361) (by decide +kernel)⟩
theorem lw_p7 : lw_okq (⟨"NearDesk", "searchInto", "(LNearDesk$Ranking;I)V"⟩, 6) := ⟨⟨by decide +kernel, by decide +kernel⟩, List.mem_of_getElem? (i := 12) (by decide +kernel), List.mem_of_getElem? (i := 416) (by decide +kernel), List.mem_of_getElem? (i := 417) (by decide +kernel)⟩
theorem lw_p8 : lw_okq (⟨"NearDesk$Documents", "weighWords", "()V"⟩, 4) := ⟨⟨by decide +kernel, by decide +kernel⟩, List.mem_of_getElem? (i := 20) (by decide +kernel), List.mem_of_getElem? (i := 449) (by decide +kernel), List.mem_of_getElem? (i := 450) (by decide +kernel)⟩
theorem lw_p9 : lw_okq (⟨"NearDesk$Documents", "liveWith", "(I)I"⟩, 4) := ⟨⟨by decide +kernel, by decide +kernel⟩, List.mem_of_getElem? (i := 20) (by decide +kernel), List.mem_of_getElem? (i := 453) (by decide +kernel), List.mem_of_getElem? (i := 454) (by decide +kernel)⟩
theorem lw_p10 : lw_okq (⟨"NearDesk$Documents", "countOfWord", "(II)I"⟩, 4) := ⟨⟨by decide +kernel, by decide +kernel⟩, List.mem_of_getElem? (i := 20) (by decide +kernel), List.mem_of_getElem? (i := 457) (by decide +kernel), List.mem_of_getElem? (i := 458) (by decide +kernel)⟩
theorem lw_p11 : lw_okq (⟨"NearDesk$Documents", "score", "(II)I"⟩, 4) := ⟨⟨by decide +kernel, by decide +kernel⟩, List.mem_of_getElem? (i := 20) (by decide +kernel), List.mem_of_getElem? (i := 462) (by decide +kernel), List.mem_of_getElem? (i := 463) (by decide +kernel)⟩
theorem lw_p12 : lw_okq (⟨"NearDesk", "clearPoints", "()V"⟩, 6) := ⟨⟨by decide +kernel, by decide +kernel⟩, List.mem_of_getElem? (i := 12) (by decide +kernel), List.mem_of_getElem? (i := 470) (by decide +kernel), List.mem_of_getElem? (i := 471) (by decide +kernel)⟩
theorem lw_p13 : lw_okq (⟨"NearDesk", "addPoints", "(LNearDesk$Ranking;)V"⟩, 6) := ⟨⟨by decide +kernel, by decide +kernel⟩, List.mem_of_getElem? (i := 12) (by decide +kernel), List.mem_of_getElem? (i := 474) (by decide +kernel), List.mem_of_getElem? (i := 475) (by decide +kernel)⟩
theorem lw_p14 : lw_okq (⟨"NearDesk", "rankByPoints", "(LNearDesk$Ranking;)V"⟩, 6) := ⟨⟨by decide +kernel, by decide +kernel⟩, List.mem_of_getElem? (i := 12) (by decide +kernel), List.mem_of_getElem? (i := 478) (by decide +kernel), List.mem_of_getElem? (i := 479) (by decide +kernel)⟩
theorem lw_p15 : lw_okq (⟨"NearDesk", "foundAmongNearest", "()I"⟩, 6) := ⟨⟨by decide +kernel, by decide +kernel⟩, List.mem_of_getElem? (i := 12) (by decide +kernel), List.mem_of_getElem? (i := 537) (by decide +kernel), List.mem_of_getElem? (i := 538) (by decide +kernel)⟩
def lw_privs_1 : List (MethodName × Nat) := [(⟨"NearDesk$Ranking", "precedes", "(IIII)Z"⟩, 5), (⟨"NearDesk$Walker", "begin", "(I)V"⟩, 4), (⟨"NearDesk$Walker", "lookAround", "(LNearDesk$Links;II)V"⟩, 4), (⟨"NearDesk$Graph", "link", "(LNearDesk$Documents;II)V"⟩, 7), (⟨"NearDesk$Chooser", "isNearestToVector", "(LNearDesk$Documents;II)Z"⟩, 3), (⟨"NearDesk$Chooser", "take", "(I)V"⟩, 3), (⟨"NearDesk$Graph", "shorten", "(LNearDesk$Documents;II)V"⟩, 7), (⟨"NearDesk", "searchInto", "(LNearDesk$Ranking;I)V"⟩, 6), (⟨"NearDesk$Documents", "weighWords", "()V"⟩, 4), (⟨"NearDesk$Documents", "liveWith", "(I)I"⟩, 4), (⟨"NearDesk$Documents", "countOfWord", "(II)I"⟩, 4), (⟨"NearDesk$Documents", "score", "(II)I"⟩, 4), (⟨"NearDesk", "clearPoints", "()V"⟩, 6), (⟨"NearDesk", "addPoints", "(LNearDesk$Ranking;)V"⟩, 6), (⟨"NearDesk", "rankByPoints", "(LNearDesk$Ranking;)V"⟩, 6), (⟨"NearDesk", "foundAmongNearest", "()I"⟩, 6)]
theorem lw_r1 : ∀ q ∈ lw_privs_1, lw_okq q := List.forall_mem_cons.mpr ⟨lw_p0, List.forall_mem_cons.mpr ⟨lw_p1, List.forall_mem_cons.mpr ⟨lw_p2, List.forall_mem_cons.mpr ⟨lw_p3, List.forall_mem_cons.mpr ⟨lw_p4, List.forall_mem_cons.mpr ⟨lw_p5, List.forall_mem_cons.mpr ⟨lw_p6, List.forall_mem_cons.mpr ⟨lw_p7, List.forall_mem_cons.mpr ⟨lw_p8, List.forall_mem_cons.mpr ⟨lw_p9, List.forall_mem_cons.mpr ⟨lw_p10, List.forall_mem_cons.mpr ⟨lw_p11, List.forall_mem_cons.mpr ⟨lw_p12, List.forall_mem_cons.mpr ⟨lw_p13, List.forall_mem_cons.mpr ⟨lw_p14, List.forall_mem_cons.mpr ⟨lw_p15, fun _ h => absurd h List.not_mem_nil⟩⟩⟩⟩⟩⟩⟩⟩⟩⟩⟩⟩⟩⟩⟩⟩
theorem lw_p16 : lw_okq (⟨"NearDesk$Links", "unreturned", "(I)I"⟩, 6) := ⟨⟨by decide +kernel, by decide +kernel⟩, List.mem_of_getElem? (i := 48) (by decide +kernel), List.mem_of_getElem? (i := 549) (by decide +kernel), List.mem_of_getElem? (i := 550) (by decide +kernel)⟩
theorem lw_p17 : lw_okq (⟨"NearDesk$Links", "isLinked", "(II)Z"⟩, 6) := ⟨⟨by decide +kernel, by decide +kernel⟩, List.mem_of_getElem? (i := 48) (by decide +kernel), List.mem_of_getElem? (i := 555) (by decide +kernel), List.mem_of_getElem? (i := 556) (by decide +kernel)⟩
theorem lw_p18 : lw_okq (⟨"NearDeskModel", "enter", "(I)V"⟩, 28) := ⟨⟨by decide +kernel, by decide +kernel⟩, List.mem_of_getElem? (i := 564) (by decide +kernel), List.mem_of_getElem? (i := 664) (by decide +kernel), List.mem_of_getElem? (i := 665) (by decide +kernel)⟩
theorem lw_p19 : lw_okq (⟨"NearDeskModel", "aimAt", "(I)V"⟩, 28) := ⟨⟨by decide +kernel, by decide +kernel⟩, List.mem_of_getElem? (i := 564) (by decide +kernel), List.mem_of_getElem? (i := 668) (by decide +kernel), List.mem_of_getElem? (i := 669) (by decide +kernel)⟩
theorem lw_p20 : lw_okq (⟨"NearDeskModel", "walk", "(II)I"⟩, 28) := ⟨⟨by decide +kernel, by decide +kernel⟩, List.mem_of_getElem? (i := 564) (by decide +kernel), List.mem_of_getElem? (i := 672) (by decide +kernel), List.mem_of_getElem? (i := 673) (by decide +kernel)⟩
theorem lw_p21 : lw_okq (⟨"NearDeskModel", "farthest", "([Z)I"⟩, 28) := ⟨⟨by decide +kernel, by decide +kernel⟩, List.mem_of_getElem? (i := 564) (by decide +kernel), List.mem_of_getElem? (i := 679) (by decide +kernel), List.mem_of_getElem? (i := 680) (by decide +kernel)⟩
theorem lw_p22 : lw_okq (⟨"NearDeskModel", "isNearer", "(II)Z"⟩, 28) := ⟨⟨by decide +kernel, by decide +kernel⟩, List.mem_of_getElem? (i := 564) (by decide +kernel), List.mem_of_getElem? (i := 683) (by decide +kernel), List.mem_of_getElem? (i := 684) (by decide +kernel)⟩
theorem lw_p23 : lw_okq (⟨"NearDeskModel", "far", "(I)I"⟩, 28) := ⟨⟨by decide +kernel, by decide +kernel⟩, List.mem_of_getElem? (i := 564) (by decide +kernel), List.mem_of_getElem? (i := 687) (by decide +kernel), List.mem_of_getElem? (i := 688) (by decide +kernel)⟩
theorem lw_p24 : lw_okq (⟨"NearDeskModel", "nearest", "([Z)I"⟩, 28) := ⟨⟨by decide +kernel, by decide +kernel⟩, List.mem_of_getElem? (i := 564) (by decide +kernel), List.mem_of_getElem? (i := 691) (by decide +kernel), List.mem_of_getElem? (i := 692) (by decide +kernel)⟩
theorem lw_p25 : lw_okq (⟨"NearDeskModel", "look", "(II)V"⟩, 28) := ⟨⟨by decide +kernel, by decide +kernel⟩, List.mem_of_getElem? (i := 564) (by decide +kernel), List.mem_of_getElem? (i := 695) (by decide +kernel), List.mem_of_getElem? (i := 696) (by decide +kernel)⟩
theorem lw_p26 : lw_okq (⟨"NearDeskModel", "tie", "(II)V"⟩, 28) := ⟨⟨by decide +kernel, by decide +kernel⟩, List.mem_of_getElem? (i := 564) (by decide +kernel), List.mem_of_getElem? (i := 699) (by decide +kernel), List.mem_of_getElem? (i := 700) (by decide +kernel)⟩
theorem lw_p27 : lw_okq (⟨"NearDeskModel", "choose", "(I)V"⟩, 28) := ⟨⟨by decide +kernel, by decide +kernel⟩, List.mem_of_getElem? (i := 564) (by decide +kernel), List.mem_of_getElem? (i := 703) (by decide +kernel), List.mem_of_getElem? (i := 704) (by decide +kernel)⟩
theorem lw_p28 : lw_okq (⟨"NearDeskModel", "between", "(II)I"⟩, 28) := ⟨⟨by decide +kernel, by decide +kernel⟩, List.mem_of_getElem? (i := 564) (by decide +kernel), List.mem_of_getElem? (i := 707) (by decide +kernel), List.mem_of_getElem? (i := 708) (by decide +kernel)⟩
theorem lw_p29 : lw_okq (⟨"NearDeskModel", "pick", "(I)V"⟩, 28) := ⟨⟨by decide +kernel, by decide +kernel⟩, List.mem_of_getElem? (i := 564) (by decide +kernel), List.mem_of_getElem? (i := 711) (by decide +kernel), List.mem_of_getElem? (i := 712) (by decide +kernel)⟩
theorem lw_p30 : lw_okq (⟨"NearDeskModel", "take", "(I)V"⟩, 28) := ⟨⟨by decide +kernel, by decide +kernel⟩, List.mem_of_getElem? (i := 564) (by decide +kernel), List.mem_of_getElem? (i := 715) (by decide +kernel), List.mem_of_getElem? (i := 716) (by decide +kernel)⟩
theorem lw_p31 : lw_okq (⟨"NearDeskModel", "search", "(I)V"⟩, 28) := ⟨⟨by decide +kernel, by decide +kernel⟩, List.mem_of_getElem? (i := 564) (by decide +kernel), List.mem_of_getElem? (i := 735) (by decide +kernel), List.mem_of_getElem? (i := 736) (by decide +kernel)⟩
def lw_privs_2 : List (MethodName × Nat) := [(⟨"NearDesk$Links", "unreturned", "(I)I"⟩, 6), (⟨"NearDesk$Links", "isLinked", "(II)Z"⟩, 6), (⟨"NearDeskModel", "enter", "(I)V"⟩, 28), (⟨"NearDeskModel", "aimAt", "(I)V"⟩, 28), (⟨"NearDeskModel", "walk", "(II)I"⟩, 28), (⟨"NearDeskModel", "farthest", "([Z)I"⟩, 28), (⟨"NearDeskModel", "isNearer", "(II)Z"⟩, 28), (⟨"NearDeskModel", "far", "(I)I"⟩, 28), (⟨"NearDeskModel", "nearest", "([Z)I"⟩, 28), (⟨"NearDeskModel", "look", "(II)V"⟩, 28), (⟨"NearDeskModel", "tie", "(II)V"⟩, 28), (⟨"NearDeskModel", "choose", "(I)V"⟩, 28), (⟨"NearDeskModel", "between", "(II)I"⟩, 28), (⟨"NearDeskModel", "pick", "(I)V"⟩, 28), (⟨"NearDeskModel", "take", "(I)V"⟩, 28), (⟨"NearDeskModel", "search", "(I)V"⟩, 28)]
theorem lw_r2 : ∀ q ∈ lw_privs_2, lw_okq q := List.forall_mem_cons.mpr ⟨lw_p16, List.forall_mem_cons.mpr ⟨lw_p17, List.forall_mem_cons.mpr ⟨lw_p18, List.forall_mem_cons.mpr ⟨lw_p19, List.forall_mem_cons.mpr ⟨lw_p20, List.forall_mem_cons.mpr ⟨lw_p21, List.forall_mem_cons.mpr ⟨lw_p22, List.forall_mem_cons.mpr ⟨lw_p23, List.forall_mem_cons.mpr ⟨lw_p24, List.forall_mem_cons.mpr ⟨lw_p25, List.forall_mem_cons.mpr ⟨lw_p26, List.forall_mem_cons.mpr ⟨lw_p27, List.forall_mem_cons.mpr ⟨lw_p28, List.forall_mem_cons.mpr ⟨lw_p29, List.forall_mem_cons.mpr ⟨lw_p30, List.forall_mem_cons.mpr ⟨lw_p31, fun _ h => absurd h List.not_mem_nil⟩⟩⟩⟩⟩⟩⟩⟩⟩⟩⟩⟩⟩⟩⟩⟩
theorem lw_p32 : lw_okq (⟨"NearDeskModel", "aimAsked", "()V"⟩, 28) := ⟨⟨by decide +kernel, by decide +kernel⟩, List.mem_of_getElem? (i := 564) (by decide +kernel), List.mem_of_getElem? (i := 739) (by decide +kernel), List.mem_of_getElem? (i := 740) (by decide +kernel)⟩
theorem lw_p33 : lw_okq (⟨"NearDeskModel", "score", "(I)V"⟩, 28) := ⟨⟨by decide +kernel, by decide +kernel⟩, List.mem_of_getElem? (i := 564) (by decide +kernel), List.mem_of_getElem? (i := 751) (by decide +kernel), List.mem_of_getElem? (i := 752) (by decide +kernel)⟩
theorem lw_p34 : lw_okq (⟨"NearDeskModel", "scoreOf", "(II)I"⟩, 28) := ⟨⟨by decide +kernel, by decide +kernel⟩, List.mem_of_getElem? (i := 564) (by decide +kernel), List.mem_of_getElem? (i := 755) (by decide +kernel), List.mem_of_getElem? (i := 756) (by decide +kernel)⟩
theorem lw_p35 : lw_okq (⟨"NearDeskModel", "countOf", "(II)I"⟩, 28) := ⟨⟨by decide +kernel, by decide +kernel⟩, List.mem_of_getElem? (i := 564) (by decide +kernel), List.mem_of_getElem? (i := 759) (by decide +kernel), List.mem_of_getElem? (i := 760) (by decide +kernel)⟩
theorem lw_p36 : lw_okq (⟨"NearDeskModel", "best", "(I)I"⟩, 28) := ⟨⟨by decide +kernel, by decide +kernel⟩, List.mem_of_getElem? (i := 564) (by decide +kernel), List.mem_of_getElem? (i := 763) (by decide +kernel), List.mem_of_getElem? (i := 764) (by decide +kernel)⟩
theorem lw_p37 : lw_okq (⟨"NearDeskModel", "placeOf", "(I)I"⟩, 28) := ⟨⟨by decide +kernel, by decide +kernel⟩, List.mem_of_getElem? (i := 564) (by decide +kernel), List.mem_of_getElem? (i := 767) (by decide +kernel), List.mem_of_getElem? (i := 768) (by decide +kernel)⟩
theorem lw_p38 : lw_okq (⟨"NearDeskModel", "right", "()I"⟩, 28) := ⟨⟨by decide +kernel, by decide +kernel⟩, List.mem_of_getElem? (i := 564) (by decide +kernel), List.mem_of_getElem? (i := 791) (by decide +kernel), List.mem_of_getElem? (i := 792) (by decide +kernel)⟩
theorem lw_p39 : lw_okq (⟨"NearDeskModel", "oneSided", "()I"⟩, 28) := ⟨⟨by decide +kernel, by decide +kernel⟩, List.mem_of_getElem? (i := 564) (by decide +kernel), List.mem_of_getElem? (i := 795) (by decide +kernel), List.mem_of_getElem? (i := 796) (by decide +kernel)⟩
theorem lw_p40 : lw_okq (⟨"NearDeskModel", "isNeighbour", "(II)Z"⟩, 28) := ⟨⟨by decide +kernel, by decide +kernel⟩, List.mem_of_getElem? (i := 564) (by decide +kernel), List.mem_of_getElem? (i := 799) (by decide +kernel), List.mem_of_getElem? (i := 800) (by decide +kernel)⟩
theorem lw_p41 : lw_okq (⟨"NearDeskModel", "reached", "()I"⟩, 28) := ⟨⟨by decide +kernel, by decide +kernel⟩, List.mem_of_getElem? (i := 564) (by decide +kernel), List.mem_of_getElem? (i := 803) (by decide +kernel), List.mem_of_getElem? (i := 804) (by decide +kernel)⟩
def lw_privs_3 : List (MethodName × Nat) := [(⟨"NearDeskModel", "aimAsked", "()V"⟩, 28), (⟨"NearDeskModel", "score", "(I)V"⟩, 28), (⟨"NearDeskModel", "scoreOf", "(II)I"⟩, 28), (⟨"NearDeskModel", "countOf", "(II)I"⟩, 28), (⟨"NearDeskModel", "best", "(I)I"⟩, 28), (⟨"NearDeskModel", "placeOf", "(I)I"⟩, 28), (⟨"NearDeskModel", "right", "()I"⟩, 28), (⟨"NearDeskModel", "oneSided", "()I"⟩, 28), (⟨"NearDeskModel", "isNeighbour", "(II)Z"⟩, 28), (⟨"NearDeskModel", "reached", "()I"⟩, 28)]
theorem lw_r3 : ∀ q ∈ lw_privs_3, lw_okq q := List.forall_mem_cons.mpr ⟨lw_p32, List.forall_mem_cons.mpr ⟨lw_p33, List.forall_mem_cons.mpr ⟨lw_p34, List.forall_mem_cons.mpr ⟨lw_p35, List.forall_mem_cons.mpr ⟨lw_p36, List.forall_mem_cons.mpr ⟨lw_p37, List.forall_mem_cons.mpr ⟨lw_p38, List.forall_mem_cons.mpr ⟨lw_p39, List.forall_mem_cons.mpr ⟨lw_p40, List.forall_mem_cons.mpr ⟨lw_p41, fun _ h => absurd h List.not_mem_nil⟩⟩⟩⟩⟩⟩⟩⟩⟩⟩
def lw_privs : List (MethodName × Nat) := lw_privs_1 ++ (lw_privs_2 ++ (lw_privs_3))
def lw_tbl : List Cond := k2_sels lw_privs ++ tables_1
theorem lw_privs_ok : ∀ q ∈ lw_privs, lw_okq q := by
  show ∀ q ∈ lw_privs_1 ++ (lw_privs_2 ++ (lw_privs_3)), lw_okq q
  exact List.forall_mem_append.mpr ⟨lw_r1, List.forall_mem_append.mpr ⟨lw_r2, lw_r3⟩⟩
end
section
def R_Ch : String := "NearDesk$Chooser"
def F_Ch : u_T := fun k => match k with
  | 0 => ("NearDesk$Chooser", "row", "[I", true)
  | 1 => ("NearDesk$Chooser", "size", "I", false)
  | _ => ("NearDesk$Chooser", "taken", "I", false)
def t_Ch : Nat → FieldType := fun k => match k with
  | 0 => .array .int
  | 1 => .int
  | _ => .int
theorem n_Ch : ∀ a, a < 3 → ∀ b, b < 3 → a ≠ b → (F_Ch a).2.1 ≠ (F_Ch b).2.1 := by decide +kernel
theorem t_Ch_ok : ∀ k, k < 3 → parseFieldDescriptor (F_Ch k).2.2.1 = some (t_Ch k) := by decide +kernel
def R_Do : String := "NearDesk$Documents"
def F_Do : u_T := fun k => match k with
  | 0 => ("NearDesk$Documents", "vectors", "[[I", true)
  | 1 => ("NearDesk$Documents", "countsOfWords", "[I", true)
  | 2 => ("NearDesk$Documents", "weights", "[I", true)
  | _ => ("NearDesk$Documents", "live", "I", false)
def t_Do : Nat → FieldType := fun k => match k with
  | 0 => .array (.array .int)
  | 1 => .array .int
  | 2 => .array .int
  | _ => .int
theorem n_Do : ∀ a, a < 4 → ∀ b, b < 4 → a ≠ b → (F_Do a).2.1 ≠ (F_Do b).2.1 := by decide +kernel
theorem t_Do_ok : ∀ k, k < 4 → parseFieldDescriptor (F_Do k).2.2.1 = some (t_Do k) := by decide +kernel
def R_Gr : String := "NearDesk$Graph"
def F_Gr : u_T := fun k => match k with
  | 0 => ("NearDesk$Graph", "links", "LNearDesk$Links;", true)
  | 1 => ("NearDesk$Graph", "walker", "LNearDesk$Walker;", true)
  | 2 => ("NearDesk$Graph", "chooser", "LNearDesk$Chooser;", true)
  | 3 => ("NearDesk$Graph", "candidates", "LNearDesk$Ranking;", true)
  | 4 => ("NearDesk$Graph", "entry", "I", false)
  | 5 => ("NearDesk$Graph", "seenInSearches", "I", false)
  | _ => ("NearDesk$Graph", "seenInEntering", "I", false)
def t_Gr : Nat → FieldType := fun k => match k with
  | 0 => .object "NearDesk$Links"
  | 1 => .object "NearDesk$Walker"
  | 2 => .object "NearDesk$Chooser"
  | 3 => .object "NearDesk$Ranking"
  | 4 => .int
  | 5 => .int
  | _ => .int
theorem n_Gr : ∀ a, a < 7 → ∀ b, b < 7 → a ≠ b → (F_Gr a).2.1 ≠ (F_Gr b).2.1 := by decide +kernel
theorem t_Gr_ok : ∀ k, k < 7 → parseFieldDescriptor (F_Gr k).2.2.1 = some (t_Gr k) := by decide +kernel
def R_Li : String := "NearDesk$Links"
def F_Li : u_T := fun k => match k with
  | 0 => ("NearDesk$Links", "orders", "[I", true)
  | 1 => ("NearDesk$Links", "levels", "[I", true)
  | 2 => ("NearDesk$Links", "degrees", "[I", true)
  | 3 => ("NearDesk$Links", "rows", "[I", true)
  | 4 => ("NearDesk$Links", "queue", "[I", true)
  | _ => ("NearDesk$Links", "size", "I", false)
def t_Li : Nat → FieldType := fun k => match k with
  | 0 => .array .int
  | 1 => .array .int
  | 2 => .array .int
  | 3 => .array .int
  | 4 => .array .int
  | _ => .int
theorem n_Li : ∀ a, a < 6 → ∀ b, b < 6 → a ≠ b → (F_Li a).2.1 ≠ (F_Li b).2.1 := by decide +kernel
theorem t_Li_ok : ∀ k, k < 6 → parseFieldDescriptor (F_Li k).2.2.1 = some (t_Li k) := by decide +kernel
def R_Rk : String := "NearDesk$Ranking"
def F_Rk : u_T := fun k => match k with
  | 0 => ("NearDesk$Ranking", "numbers", "[I", true)
  | 1 => ("NearDesk$Ranking", "values", "[I", true)
  | 2 => ("NearDesk$Ranking", "size", "I", false)
  | 3 => ("NearDesk$Ranking", "room", "I", false)
  | _ => ("NearDesk$Ranking", "greatestFirst", "Z", false)
def t_Rk : Nat → FieldType := fun k => match k with
  | 0 => .array .int
  | 1 => .array .int
  | 2 => .int
  | 3 => .int
  | _ => .boolean
theorem n_Rk : ∀ a, a < 5 → ∀ b, b < 5 → a ≠ b → (F_Rk a).2.1 ≠ (F_Rk b).2.1 := by decide +kernel
theorem t_Rk_ok : ∀ k, k < 5 → parseFieldDescriptor (F_Rk k).2.2.1 = some (t_Rk k) := by decide +kernel
def R_Wa : String := "NearDesk$Walker"
def F_Wa : u_T := fun k => match k with
  | 0 => ("NearDesk$Walker", "held", "LNearDesk$Ranking;", true)
  | 1 => ("NearDesk$Walker", "open", "LNearDesk$Ranking;", true)
  | 2 => ("NearDesk$Walker", "distances", "[I", true)
  | _ => ("NearDesk$Walker", "seen", "I", false)
def t_Wa : Nat → FieldType := fun k => match k with
  | 0 => .object "NearDesk$Ranking"
  | 1 => .object "NearDesk$Ranking"
  | 2 => .array .int
  | _ => .int
theorem n_Wa : ∀ a, a < 4 → ∀ b, b < 4 → a ≠ b → (F_Wa a).2.1 ≠ (F_Wa b).2.1 := by decide +kernel
theorem t_Wa_ok : ∀ k, k < 4 → parseFieldDescriptor (F_Wa k).2.2.1 = some (t_Wa k) := by decide +kernel
def R_Nd : String := "NearDesk"
def F_Nd : u_T := fun k => match k with
  | 0 => ("NearDesk", "documents", "LNearDesk$Documents;", true)
  | 1 => ("NearDesk", "graph", "LNearDesk$Graph;", true)
  | 2 => ("NearDesk", "results", "LNearDesk$Ranking;", true)
  | 3 => ("NearDesk", "scratch", "LNearDesk$Ranking;", true)
  | 4 => ("NearDesk", "asked", "[I", true)
  | _ => ("NearDesk", "points", "[I", true)
def t_Nd : Nat → FieldType := fun k => match k with
  | 0 => .object "NearDesk$Documents"
  | 1 => .object "NearDesk$Graph"
  | 2 => .object "NearDesk$Ranking"
  | 3 => .object "NearDesk$Ranking"
  | 4 => .array .int
  | _ => .array .int
theorem n_Nd : ∀ a, a < 6 → ∀ b, b < 6 → a ≠ b → (F_Nd a).2.1 ≠ (F_Nd b).2.1 := by decide +kernel
theorem t_Nd_ok : ∀ k, k < 6 → parseFieldDescriptor (F_Nd k).2.2.1 = some (t_Nd k) := by decide +kernel
def R_Mo : String := "NearDeskModel"
def F_Mo : u_T := fun k => match k with
  | 0 => ("NearDeskModel", "isNode", "[Z", true)
  | 1 => ("NearDeskModel", "isLive", "[Z", true)
  | 2 => ("NearDeskModel", "vector", "[I", true)
  | 3 => ("NearDeskModel", "words", "[I", true)
  | 4 => ("NearDeskModel", "level", "[I", true)
  | 5 => ("NearDeskModel", "entered", "[I", true)
  | 6 => ("NearDeskModel", "row", "[I", true)
  | 7 => ("NearDeskModel", "rows", "[I", true)
  | 8 => ("NearDeskModel", "entry", "I", false)
  | 9 => ("NearDeskModel", "many", "I", false)
  | 10 => ("NearDeskModel", "aim", "[I", true)
  | 11 => ("NearDeskModel", "asked", "[I", true)
  | 12 => ("NearDeskModel", "seen", "[Z", true)
  | 13 => ("NearDeskModel", "held", "[Z", true)
  | 14 => ("NearDeskModel", "open", "[Z", true)
  | 15 => ("NearDeskModel", "chosen", "[Z", true)
  | 16 => ("NearDeskModel", "here", "[I", true)
  | 17 => ("NearDeskModel", "picked", "[I", true)
  | 18 => ("NearDeskModel", "pool", "[I", true)
  | 19 => ("NearDeskModel", "heres", "I", false)
  | 20 => ("NearDeskModel", "picks", "I", false)
  | 21 => ("NearDeskModel", "pools", "I", false)
  | 22 => ("NearDeskModel", "number", "[I", true)
  | 23 => ("NearDeskModel", "worth", "[I", true)
  | 24 => ("NearDeskModel", "scores", "[I", true)
  | 25 => ("NearDeskModel", "found", "I", false)
  | 26 => ("NearDeskModel", "seenAsking", "J", false)
  | _ => ("NearDeskModel", "seenEntering", "J", false)
def t_Mo : Nat → FieldType := fun k => match k with
  | 0 => .array .boolean
  | 1 => .array .boolean
  | 2 => .array .int
  | 3 => .array .int
  | 4 => .array .int
  | 5 => .array .int
  | 6 => .array .int
  | 7 => .array .int
  | 8 => .int
  | 9 => .int
  | 10 => .array .int
  | 11 => .array .int
  | 12 => .array .boolean
  | 13 => .array .boolean
  | 14 => .array .boolean
  | 15 => .array .boolean
  | 16 => .array .int
  | 17 => .array .int
  | 18 => .array .int
  | 19 => .int
  | 20 => .int
  | 21 => .int
  | 22 => .array .int
  | 23 => .array .int
  | 24 => .array .int
  | 25 => .int
  | 26 => .long
  | _ => .long
theorem n_Mo : ∀ a, a < 28 → ∀ b, b < 28 → a ≠ b → (F_Mo a).2.1 ≠ (F_Mo b).2.1 := by decide +kernel
theorem t_Mo_ok : ∀ k, k < 28 → parseFieldDescriptor (F_Mo k).2.2.1 = some (t_Mo k) := by decide +kernel
def R_La : String := "NearDeskLaw"
def R_In : String := "java/lang/Integer"
abbrev classes : List vw_C := [(R_Ch, F_Ch, 3), (R_Do, F_Do, 4), (R_Gr, F_Gr, 7), (R_Li, F_Li, 6), (R_Rk, F_Rk, 5), (R_Wa, F_Wa, 4), (R_Nd, F_Nd, 6), (R_Mo, F_Mo, 28)]
abbrev b_Nd_init : ByteArray := prog_1_method_1_code
def y_Nd_init : MethodName := ⟨R_Nd, "<init>", "()V"⟩
abbrev b_Do_init : ByteArray := prog_3_method_1_code
def y_Do_init : MethodName := ⟨R_Do, "<init>", "()V"⟩
abbrev b_Gr_init : ByteArray := prog_4_method_1_code
def y_Gr_init : MethodName := ⟨R_Gr, "<init>", "()V"⟩
abbrev b_Li_init : ByteArray := prog_5_method_1_code
def y_Li_init : MethodName := ⟨R_Li, "<init>", "()V"⟩
abbrev b_Wa_init : ByteArray := prog_7_method_1_code
def y_Wa_init : MethodName := ⟨R_Wa, "<init>", "()V"⟩
abbrev b_Rk_init : ByteArray := prog_6_method_1_code
def y_Rk_init : MethodName := ⟨R_Rk, "<init>", "()V"⟩
abbrev b_Ch_init : ByteArray := prog_2_method_1_code
def y_Ch_init : MethodName := ⟨R_Ch, "<init>", "()V"⟩
abbrev b_Nd_put : ByteArray := prog_1_method_2_code
def y_Nd_put : MethodName := ⟨R_Nd, "put", "(IIIII)I"⟩
abbrev b_Nd_isVector : ByteArray := prog_1_method_21_code
def y_Nd_isVector : MethodName := ⟨R_Nd, "isVector", "(IIII)Z"⟩
abbrev b_Nd_isCoordinate : ByteArray := prog_1_method_20_code
def y_Nd_isCoordinate : MethodName := ⟨R_Nd, "isCoordinate", "(I)Z"⟩
abbrev b_Nd_isWithin : ByteArray := prog_1_method_19_code
def y_Nd_isWithin : MethodName := ⟨R_Nd, "isWithin", "(III)Z"⟩
abbrev b_Li_freeNumber : ByteArray := prog_5_method_5_code
def y_Li_freeNumber : MethodName := ⟨R_Li, "freeNumber", "()I"⟩
abbrev b_Do_store : ByteArray := prog_3_method_2_code
def y_Do_store : MethodName := ⟨R_Do, "store", "(IIIIII)V"⟩
abbrev b_Nd_writeVector : ByteArray := prog_1_method_24_code
def y_Nd_writeVector : MethodName := ⟨R_Nd, "writeVector", "([IIIII)V"⟩
abbrev b_Gr_enter : ByteArray := prog_4_method_7_code
def y_Gr_enter : MethodName := ⟨R_Gr, "enter", "(LNearDesk$Documents;I)V"⟩
abbrev b_Li_addNode : ByteArray := prog_5_method_3_code
def y_Li_addNode : MethodName := ⟨R_Li, "addNode", "(I)V"⟩
abbrev b_Li_levelOf : ByteArray := prog_5_method_19_code
def y_Li_levelOf : MethodName := ⟨R_Li, "levelOf", "(I)I"⟩
abbrev b_Li_level : ByteArray := prog_5_method_9_code
def y_Li_level : MethodName := ⟨R_Li, "level", "(I)I"⟩
abbrev b_Do_vector : ByteArray := prog_3_method_6_code
def y_Do_vector : MethodName := ⟨R_Do, "vector", "(I)[I"⟩
abbrev b_Wa_standAt : ByteArray := prog_7_method_2_code
def y_Wa_standAt : MethodName := ⟨R_Wa, "standAt", "(LNearDesk$Documents;[II)V"⟩
abbrev b_Do_measure : ByteArray := prog_3_method_9_code
def y_Do_measure : MethodName := ⟨R_Do, "measure", "([I[I)V"⟩
abbrev b_Nd_distance : ByteArray := prog_1_method_25_code
def y_Nd_distance : MethodName := ⟨R_Nd, "distance", "([I[I)I"⟩
abbrev b_Rk_start : ByteArray := prog_6_method_2_code
def y_Rk_start : MethodName := ⟨R_Rk, "start", "(IZ)V"⟩
abbrev b_Rk_add : ByteArray := prog_6_method_10_code
def y_Rk_add : MethodName := ⟨R_Rk, "add", "(II)Z"⟩
abbrev b_Rk_isFull : ByteArray := prog_6_method_7_code
def y_Rk_isFull : MethodName := ⟨R_Rk, "isFull", "()Z"⟩
abbrev b_Rk_precedes : ByteArray := prog_6_method_12_code
def y_Rk_precedes : MethodName := ⟨R_Rk, "precedes", "(IIII)Z"⟩
abbrev b_Gr_top : ByteArray := prog_4_method_3_code
def y_Gr_top : MethodName := ⟨R_Gr, "top", "()I"⟩
abbrev b_Wa_walk : ByteArray := prog_7_method_5_code
def y_Wa_walk : MethodName := ⟨R_Wa, "walk", "(LNearDesk$Links;II)I"⟩
abbrev b_Wa_begin : ByteArray := prog_7_method_6_code
def y_Wa_begin : MethodName := ⟨R_Wa, "begin", "(I)V"⟩
abbrev b_Rk_size : ByteArray := prog_6_method_4_code
def y_Rk_size : MethodName := ⟨R_Rk, "size", "()I"⟩
abbrev b_Rk_numberAt : ByteArray := prog_6_method_5_code
def y_Rk_numberAt : MethodName := ⟨R_Rk, "numberAt", "(I)I"⟩
abbrev b_Rk_changeRoom : ByteArray := prog_6_method_3_code
def y_Rk_changeRoom : MethodName := ⟨R_Rk, "changeRoom", "(I)V"⟩
abbrev b_Rk_valueAt : ByteArray := prog_6_method_6_code
def y_Rk_valueAt : MethodName := ⟨R_Rk, "valueAt", "(I)I"⟩
abbrev b_Rk_dropFirst : ByteArray := prog_6_method_11_code
def y_Rk_dropFirst : MethodName := ⟨R_Rk, "dropFirst", "()V"⟩
abbrev b_Rk_lastPrecedes : ByteArray := prog_6_method_8_code
def y_Rk_lastPrecedes : MethodName := ⟨R_Rk, "lastPrecedes", "(II)Z"⟩
abbrev b_Wa_lookAround : ByteArray := prog_7_method_7_code
def y_Wa_lookAround : MethodName := ⟨R_Wa, "lookAround", "(LNearDesk$Links;II)V"⟩
abbrev b_Li_degree : ByteArray := prog_5_method_10_code
def y_Li_degree : MethodName := ⟨R_Li, "degree", "(II)I"⟩
abbrev b_Li_linked : ByteArray := prog_5_method_11_code
def y_Li_linked : MethodName := ⟨R_Li, "linked", "(III)I"⟩
abbrev b_Nd_isIn : ByteArray := prog_1_method_23_code
def y_Nd_isIn : MethodName := ⟨R_Nd, "isIn", "(II)Z"⟩
abbrev b_In_bitCount : ByteArray := prog_10_method_49_code
def y_In_bitCount : MethodName := ⟨R_In, "bitCount", "(I)I"⟩
abbrev b_Gr_link : ByteArray := prog_4_method_9_code
def y_Gr_link : MethodName := ⟨R_Gr, "link", "(LNearDesk$Documents;II)V"⟩
abbrev b_Wa_held : ByteArray := prog_7_method_4_code
def y_Wa_held : MethodName := ⟨R_Wa, "held", "()LNearDesk$Ranking;"⟩
abbrev b_Ch_choose : ByteArray := prog_2_method_4_code
def y_Ch_choose : MethodName := ⟨R_Ch, "choose", "(LNearDesk$Documents;LNearDesk$Ranking;I)V"⟩
abbrev b_Ch_isNearestToVector : ByteArray := prog_2_method_6_code
def y_Ch_isNearestToVector : MethodName := ⟨R_Ch, "isNearestToVector", "(LNearDesk$Documents;II)Z"⟩
abbrev b_Ch_take : ByteArray := prog_2_method_5_code
def y_Ch_take : MethodName := ⟨R_Ch, "take", "(I)V"⟩
abbrev b_Li_replace : ByteArray := prog_5_method_14_code
def y_Li_replace : MethodName := ⟨R_Li, "replace", "(IILNearDesk$Chooser;)V"⟩
abbrev b_Ch_size : ByteArray := prog_2_method_2_code
def y_Ch_size : MethodName := ⟨R_Ch, "size", "()I"⟩
abbrev b_Ch_chosen : ByteArray := prog_2_method_3_code
def y_Ch_chosen : MethodName := ⟨R_Ch, "chosen", "(I)I"⟩
abbrev b_Li_append : ByteArray := prog_5_method_13_code
def y_Li_append : MethodName := ⟨R_Li, "append", "(III)V"⟩
abbrev b_Li_most : ByteArray := prog_5_method_12_code
def y_Li_most : MethodName := ⟨R_Li, "most", "(I)I"⟩
abbrev b_Gr_shorten : ByteArray := prog_4_method_10_code
def y_Gr_shorten : MethodName := ⟨R_Gr, "shorten", "(LNearDesk$Documents;II)V"⟩
abbrev b_Nd_remove : ByteArray := prog_1_method_3_code
def y_Nd_remove : MethodName := ⟨R_Nd, "remove", "(I)Z"⟩
abbrev b_Do_retire : ByteArray := prog_3_method_3_code
def y_Do_retire : MethodName := ⟨R_Do, "retire", "(I)Z"⟩
abbrev b_Do_isLive : ByteArray := prog_3_method_4_code
def y_Do_isLive : MethodName := ⟨R_Do, "isLive", "(I)Z"⟩
abbrev b_Nd_isDocumentNumber : ByteArray := prog_1_method_22_code
def y_Nd_isDocumentNumber : MethodName := ⟨R_Nd, "isDocumentNumber", "(I)Z"⟩
abbrev b_Nd_renew : ByteArray := prog_1_method_4_code
def y_Nd_renew : MethodName := ⟨R_Nd, "renew", "()I"⟩
abbrev b_Li_size : ByteArray := prog_5_method_4_code
def y_Li_size : MethodName := ⟨R_Li, "size", "()I"⟩
abbrev b_Do_liveCount : ByteArray := prog_3_method_5_code
def y_Do_liveCount : MethodName := ⟨R_Do, "liveCount", "()I"⟩
abbrev b_Gr_clear : ByteArray := prog_4_method_6_code
def y_Gr_clear : MethodName := ⟨R_Gr, "clear", "()V"⟩
abbrev b_Li_clear : ByteArray := prog_5_method_2_code
def y_Li_clear : MethodName := ⟨R_Li, "clear", "()V"⟩
abbrev b_Nd_ask : ByteArray := prog_1_method_5_code
def y_Nd_ask : MethodName := ⟨R_Nd, "ask", "(IIII)Z"⟩
abbrev b_Nd_near : ByteArray := prog_1_method_6_code
def y_Nd_near : MethodName := ⟨R_Nd, "near", "(II)I"⟩
abbrev b_Nd_searchInto : ByteArray := prog_1_method_14_code
def y_Nd_searchInto : MethodName := ⟨R_Nd, "searchInto", "(LNearDesk$Ranking;I)V"⟩
abbrev b_Gr_search : ByteArray := prog_4_method_8_code
def y_Gr_search : MethodName := ⟨R_Gr, "search", "(LNearDesk$Documents;[II)LNearDesk$Ranking;"⟩
abbrev b_Wa_standNowhere : ByteArray := prog_7_method_3_code
def y_Wa_standNowhere : MethodName := ⟨R_Wa, "standNowhere", "()V"⟩
abbrev b_Nd_exact : ByteArray := prog_1_method_7_code
def y_Nd_exact : MethodName := ⟨R_Nd, "exact", "(I)I"⟩
abbrev b_Do_rankByDistance : ByteArray := prog_3_method_10_code
def y_Do_rankByDistance : MethodName := ⟨R_Do, "rankByDistance", "([ILNearDesk$Ranking;)V"⟩
abbrev b_Nd_match : ByteArray := prog_1_method_8_code
def y_Nd_match : MethodName := ⟨R_Nd, "match", "(II)I"⟩
abbrev b_Do_rankByScore : ByteArray := prog_3_method_11_code
def y_Do_rankByScore : MethodName := ⟨R_Do, "rankByScore", "(ILNearDesk$Ranking;)V"⟩
abbrev b_Do_weighWords : ByteArray := prog_3_method_12_code
def y_Do_weighWords : MethodName := ⟨R_Do, "weighWords", "()V"⟩
abbrev b_Do_liveWith : ByteArray := prog_3_method_13_code
def y_Do_liveWith : MethodName := ⟨R_Do, "liveWith", "(I)I"⟩
abbrev b_Do_countOfWord : ByteArray := prog_3_method_15_code
def y_Do_countOfWord : MethodName := ⟨R_Do, "countOfWord", "(II)I"⟩
abbrev b_Do_score : ByteArray := prog_3_method_14_code
def y_Do_score : MethodName := ⟨R_Do, "score", "(II)I"⟩
abbrev b_Nd_fuse : ByteArray := prog_1_method_9_code
def y_Nd_fuse : MethodName := ⟨R_Nd, "fuse", "(II)I"⟩
abbrev b_Nd_clearPoints : ByteArray := prog_1_method_15_code
def y_Nd_clearPoints : MethodName := ⟨R_Nd, "clearPoints", "()V"⟩
abbrev b_Nd_addPoints : ByteArray := prog_1_method_16_code
def y_Nd_addPoints : MethodName := ⟨R_Nd, "addPoints", "(LNearDesk$Ranking;)V"⟩
abbrev b_Nd_rankByPoints : ByteArray := prog_1_method_17_code
def y_Nd_rankByPoints : MethodName := ⟨R_Nd, "rankByPoints", "(LNearDesk$Ranking;)V"⟩
abbrev b_Nd_found : ByteArray := prog_1_method_10_code
def y_Nd_found : MethodName := ⟨R_Nd, "found", "(II)I"⟩
abbrev b_Nd_node : ByteArray := prog_1_method_11_code
def y_Nd_node : MethodName := ⟨R_Nd, "node", "(II)I"⟩
abbrev b_Li_isNode : ByteArray := prog_5_method_6_code
def y_Li_isNode : MethodName := ⟨R_Li, "isNode", "(I)Z"⟩
abbrev b_Li_isInLayer : ByteArray := prog_5_method_7_code
def y_Li_isInLayer : MethodName := ⟨R_Li, "isInLayer", "(II)Z"⟩
abbrev b_Li_order : ByteArray := prog_5_method_8_code
def y_Li_order : MethodName := ⟨R_Li, "order", "(I)I"⟩
abbrev b_Do_counts : ByteArray := prog_3_method_8_code
def y_Do_counts : MethodName := ⟨R_Do, "counts", "(I)I"⟩
abbrev b_Do_coordinate : ByteArray := prog_3_method_7_code
def y_Do_coordinate : MethodName := ⟨R_Do, "coordinate", "(II)I"⟩
abbrev b_Nd_neighbour : ByteArray := prog_1_method_12_code
def y_Nd_neighbour : MethodName := ⟨R_Nd, "neighbour", "(III)I"⟩
abbrev b_Nd_count : ByteArray := prog_1_method_13_code
def y_Nd_count : MethodName := ⟨R_Nd, "count", "(I)I"⟩
abbrev b_Gr_entry : ByteArray := prog_4_method_2_code
def y_Gr_entry : MethodName := ⟨R_Gr, "entry", "()I"⟩
abbrev b_Gr_seenInSearches : ByteArray := prog_4_method_4_code
def y_Gr_seenInSearches : MethodName := ⟨R_Gr, "seenInSearches", "()I"⟩
abbrev b_Gr_seenInEntering : ByteArray := prog_4_method_5_code
def y_Gr_seenInEntering : MethodName := ⟨R_Gr, "seenInEntering", "()I"⟩
abbrev b_Nd_foundAmongNearest : ByteArray := prog_1_method_18_code
def y_Nd_foundAmongNearest : MethodName := ⟨R_Nd, "foundAmongNearest", "()I"⟩
abbrev b_Rk_holds : ByteArray := prog_6_method_9_code
def y_Rk_holds : MethodName := ⟨R_Rk, "holds", "(I)Z"⟩
abbrev b_Li_oneSidedPairs : ByteArray := prog_5_method_15_code
def y_Li_oneSidedPairs : MethodName := ⟨R_Li, "oneSidedPairs", "()I"⟩
abbrev b_Li_unreturned : ByteArray := prog_5_method_17_code
def y_Li_unreturned : MethodName := ⟨R_Li, "unreturned", "(I)I"⟩
abbrev b_Li_isLinked : ByteArray := prog_5_method_18_code
def y_Li_isLinked : MethodName := ⟨R_Li, "isLinked", "(II)Z"⟩
abbrev b_Li_reachedFrom : ByteArray := prog_5_method_16_code
def y_Li_reachedFrom : MethodName := ⟨R_Li, "reachedFrom", "(I)I"⟩
abbrev b_Mo_init : ByteArray := prog_9_method_1_code
def y_Mo_init : MethodName := ⟨R_Mo, "<init>", "()V"⟩
abbrev b_Mo_put : ByteArray := prog_9_method_17_code
def y_Mo_put : MethodName := ⟨R_Mo, "put", "(IIIII)I"⟩
abbrev b_Mo_in : ByteArray := prog_9_method_2_code
def y_Mo_in : MethodName := ⟨R_Mo, "in", "(III)Z"⟩
abbrev b_Mo_enter : ByteArray := prog_9_method_15_code
def y_Mo_enter : MethodName := ⟨R_Mo, "enter", "(I)V"⟩
abbrev b_Mo_aimAt : ByteArray := prog_9_method_14_code
def y_Mo_aimAt : MethodName := ⟨R_Mo, "aimAt", "(I)V"⟩
abbrev b_Mo_walk : ByteArray := prog_9_method_9_code
def y_Mo_walk : MethodName := ⟨R_Mo, "walk", "(II)I"⟩
abbrev b_Mo_size : ByteArray := prog_9_method_8_code
def y_Mo_size : MethodName := ⟨R_Mo, "size", "([Z)I"⟩
abbrev b_Mo_farthest : ByteArray := prog_9_method_7_code
def y_Mo_farthest : MethodName := ⟨R_Mo, "farthest", "([Z)I"⟩
abbrev b_Mo_isNearer : ByteArray := prog_9_method_5_code
def y_Mo_isNearer : MethodName := ⟨R_Mo, "isNearer", "(II)Z"⟩
abbrev b_Mo_far : ByteArray := prog_9_method_3_code
def y_Mo_far : MethodName := ⟨R_Mo, "far", "(I)I"⟩
abbrev b_Mo_nearest : ByteArray := prog_9_method_6_code
def y_Mo_nearest : MethodName := ⟨R_Mo, "nearest", "([Z)I"⟩
abbrev b_Mo_look : ByteArray := prog_9_method_10_code
def y_Mo_look : MethodName := ⟨R_Mo, "look", "(II)V"⟩
abbrev b_Mo_tie : ByteArray := prog_9_method_16_code
def y_Mo_tie : MethodName := ⟨R_Mo, "tie", "(II)V"⟩
abbrev b_Mo_choose : ByteArray := prog_9_method_11_code
def y_Mo_choose : MethodName := ⟨R_Mo, "choose", "(I)V"⟩
abbrev b_Mo_between : ByteArray := prog_9_method_4_code
def y_Mo_between : MethodName := ⟨R_Mo, "between", "(II)I"⟩
abbrev b_Mo_pick : ByteArray := prog_9_method_12_code
def y_Mo_pick : MethodName := ⟨R_Mo, "pick", "(I)V"⟩
abbrev b_Mo_take : ByteArray := prog_9_method_13_code
def y_Mo_take : MethodName := ⟨R_Mo, "take", "(I)V"⟩
abbrev b_Mo_remove : ByteArray := prog_9_method_18_code
def y_Mo_remove : MethodName := ⟨R_Mo, "remove", "(I)Z"⟩
abbrev b_Mo_renew : ByteArray := prog_9_method_19_code
def y_Mo_renew : MethodName := ⟨R_Mo, "renew", "()I"⟩
abbrev b_Mo_ask : ByteArray := prog_9_method_20_code
def y_Mo_ask : MethodName := ⟨R_Mo, "ask", "(IIII)Z"⟩
abbrev b_Mo_near : ByteArray := prog_9_method_23_code
def y_Mo_near : MethodName := ⟨R_Mo, "near", "(II)I"⟩
abbrev b_Mo_search : ByteArray := prog_9_method_22_code
def y_Mo_search : MethodName := ⟨R_Mo, "search", "(I)V"⟩
abbrev b_Mo_aimAsked : ByteArray := prog_9_method_21_code
def y_Mo_aimAsked : MethodName := ⟨R_Mo, "aimAsked", "()V"⟩
abbrev b_Mo_exact : ByteArray := prog_9_method_24_code
def y_Mo_exact : MethodName := ⟨R_Mo, "exact", "(I)I"⟩
abbrev b_Mo_match : ByteArray := prog_9_method_30_code
def y_Mo_match : MethodName := ⟨R_Mo, "match", "(II)I"⟩
abbrev b_Mo_score : ByteArray := prog_9_method_27_code
def y_Mo_score : MethodName := ⟨R_Mo, "score", "(I)V"⟩
abbrev b_Mo_scoreOf : ByteArray := prog_9_method_26_code
def y_Mo_scoreOf : MethodName := ⟨R_Mo, "scoreOf", "(II)I"⟩
abbrev b_Mo_countOf : ByteArray := prog_9_method_25_code
def y_Mo_countOf : MethodName := ⟨R_Mo, "countOf", "(II)I"⟩
abbrev b_Mo_best : ByteArray := prog_9_method_29_code
def y_Mo_best : MethodName := ⟨R_Mo, "best", "(I)I"⟩
abbrev b_Mo_placeOf : ByteArray := prog_9_method_28_code
def y_Mo_placeOf : MethodName := ⟨R_Mo, "placeOf", "(I)I"⟩
abbrev b_Mo_fuse : ByteArray := prog_9_method_31_code
def y_Mo_fuse : MethodName := ⟨R_Mo, "fuse", "(II)I"⟩
abbrev b_Mo_found : ByteArray := prog_9_method_32_code
def y_Mo_found : MethodName := ⟨R_Mo, "found", "(II)I"⟩
abbrev b_Mo_node : ByteArray := prog_9_method_33_code
def y_Mo_node : MethodName := ⟨R_Mo, "node", "(II)I"⟩
abbrev b_Mo_neighbour : ByteArray := prog_9_method_34_code
def y_Mo_neighbour : MethodName := ⟨R_Mo, "neighbour", "(III)I"⟩
abbrev b_Mo_count : ByteArray := prog_9_method_39_code
def y_Mo_count : MethodName := ⟨R_Mo, "count", "(I)I"⟩
abbrev b_Mo_right : ByteArray := prog_9_method_36_code
def y_Mo_right : MethodName := ⟨R_Mo, "right", "()I"⟩
abbrev b_Mo_oneSided : ByteArray := prog_9_method_37_code
def y_Mo_oneSided : MethodName := ⟨R_Mo, "oneSided", "()I"⟩
abbrev b_Mo_isNeighbour : ByteArray := prog_9_method_35_code
def y_Mo_isNeighbour : MethodName := ⟨R_Mo, "isNeighbour", "(II)Z"⟩
abbrev b_Mo_reached : ByteArray := prog_9_method_38_code
def y_Mo_reached : MethodName := ⟨R_Mo, "reached", "()I"⟩
def hw_G : List Cond := lw_tbl.filter goodWord
theorem hw_in {w : Cond} (i : Nat) (h : lw_tbl[i]? = some w) (g : goodWord w = true) : w ∈ hw_G := List.mem_filter.mpr ⟨List.mem_of_getElem? h, g⟩
def hw_isN (w : Cond) : Bool := match w with
  | .fieldLinkNest _ _ _ _ _ _ => true
  | .methodLinkNest _ _ _ _ => true
  | _ => false
def hw_NW : List Cond := lw_tbl.filter hw_isN
theorem hw_inN {w : Cond} (i : Nat) (h : lw_tbl[i]? = some w) (g : hw_isN w = true) : w ∈ hw_NW := List.mem_filter.mpr ⟨List.mem_of_getElem? h, g⟩
theorem i_Ch : ∀ w ∈ u_ws R_Ch F_Ch 3, w ∈ hw_G := by decide +kernel
theorem i_Do : ∀ w ∈ u_ws R_Do F_Do 4, w ∈ hw_G := by decide +kernel
theorem i_Gr : ∀ w ∈ u_ws R_Gr F_Gr 7, w ∈ hw_G := by decide +kernel
theorem i_Li : ∀ w ∈ u_ws R_Li F_Li 6, w ∈ hw_G := by decide +kernel
theorem i_Rk : ∀ w ∈ u_ws R_Rk F_Rk 5, w ∈ hw_G := by decide +kernel
theorem i_Wa : ∀ w ∈ u_ws R_Wa F_Wa 4, w ∈ hw_G := by decide +kernel
theorem i_Nd : ∀ w ∈ u_ws R_Nd F_Nd 6, w ∈ hw_G := by decide +kernel
theorem i_Mo : ∀ w ∈ u_ws R_Mo F_Mo 28, w ∈ hw_G := by decide +kernel
end
section
theorem hw_good : GoodIn hw_G hw_G := fun w h => ⟨h, good_of_word (List.mem_filter.mp h).2⟩
theorem hw_gc {c : Cond} (h : c ∈ hw_G) : GoodIn hw_G (c :: hw_G) := fun w hw => (List.mem_cons.mp hw).elim (fun e => by subst e; exact hw_good _ h) (fun q => hw_good _ q)
theorem hw_g1 {c : Cond} {ws : List Cond} (h : c ∈ hw_G) (g : GoodIn hw_G ws) : GoodIn hw_G (c :: ws) := fun w hw => (List.mem_cons.mp hw).elim (fun e => by subst e; exact hw_good _ h) (fun q => g _ q)
theorem hw_g2 {a b : Cond} {ws : List Cond} (h1 : a ∈ hw_G) (h2 : b ∈ hw_G) (g : GoodIn hw_G ws) : GoodIn hw_G ([a, b] ++ ws) := hw_g1 h1 (hw_g1 h2 g)
theorem hw_g3 {a b c : Cond} {ws : List Cond} (h1 : a ∈ hw_G) (h2 : b ∈ hw_G) (h3 : c ∈ hw_G) (g : GoodIn hw_G ws) : GoodIn hw_G ([a, b, c] ++ ws) := hw_g1 h1 (hw_g1 h2 (hw_g1 h3 g))
theorem hw_gV {own C : String} {idx : Nat} {y : MethodName} {ws : List Cond} (h : Cond.methodLink own idx y ∈ hw_G) (g : GoodIn hw_G ([.instanceMethod y, .selects C y y, .initialized C] ++ ws)) : GoodIn hw_G (wsV own idx C y ws) := hw_g1 h g
theorem hw_gS {own : String} {idx : Nat} {y : MethodName} {ws : List Cond} (h : Cond.methodLink own idx y ∈ hw_G) (g : GoodIn hw_G ([.static y, .initialized y.cls] ++ ws)) : GoodIn hw_G (va_wsS own idx y ws) := hw_g1 h g
theorem iw_m42 : (Cond.selects "NearDeskModel" ({ cls := "NearDeskModel", name := "reached", desc := "()I" } : MethodName) ({ cls := "NearDeskModel", name := "reached", desc := "()I" } : MethodName)) ∈ hw_G := hw_in 41 (by decide +kernel) rfl
theorem iw_m41 : (Cond.selects "NearDeskModel" ({ cls := "NearDeskModel", name := "isNeighbour", desc := "(II)Z" } : MethodName) ({ cls := "NearDeskModel", name := "isNeighbour", desc := "(II)Z" } : MethodName)) ∈ hw_G := hw_in 40 (by decide +kernel) rfl
theorem iw_m40 : (Cond.selects "NearDeskModel" ({ cls := "NearDeskModel", name := "oneSided", desc := "()I" } : MethodName) ({ cls := "NearDeskModel", name := "oneSided", desc := "()I" } : MethodName)) ∈ hw_G := hw_in 39 (by decide +kernel) rfl
theorem iw_m39 : (Cond.selects "NearDeskModel" ({ cls := "NearDeskModel", name := "right", desc := "()I" } : MethodName) ({ cls := "NearDeskModel", name := "right", desc := "()I" } : MethodName)) ∈ hw_G := hw_in 38 (by decide +kernel) rfl
theorem iw_m38 : (Cond.selects "NearDeskModel" ({ cls := "NearDeskModel", name := "placeOf", desc := "(I)I" } : MethodName) ({ cls := "NearDeskModel", name := "placeOf", desc := "(I)I" } : MethodName)) ∈ hw_G := hw_in 37 (by decide +kernel) rfl
theorem iw_m37 : (Cond.selects "NearDeskModel" ({ cls := "NearDeskModel", name := "best", desc := "(I)I" } : MethodName) ({ cls := "NearDeskModel", name := "best", desc := "(I)I" } : MethodName)) ∈ hw_G := hw_in 36 (by decide +kernel) rfl
theorem iw_m36 : (Cond.selects "NearDeskModel" ({ cls := "NearDeskModel", name := "countOf", desc := "(II)I" } : MethodName) ({ cls := "NearDeskModel", name := "countOf", desc := "(II)I" } : MethodName)) ∈ hw_G := hw_in 35 (by decide +kernel) rfl
theorem iw_m35 : (Cond.selects "NearDeskModel" ({ cls := "NearDeskModel", name := "scoreOf", desc := "(II)I" } : MethodName) ({ cls := "NearDeskModel", name := "scoreOf", desc := "(II)I" } : MethodName)) ∈ hw_G := hw_in 34 (by decide +kernel) rfl
theorem iw_m34 : (Cond.selects "NearDeskModel" ({ cls := "NearDeskModel", name := "score", desc := "(I)V" } : MethodName) ({ cls := "NearDeskModel", name := "score", desc := "(I)V" } : MethodName)) ∈ hw_G := hw_in 33 (by decide +kernel) rfl
theorem iw_m33 : (Cond.selects "NearDeskModel" ({ cls := "NearDeskModel", name := "aimAsked", desc := "()V" } : MethodName) ({ cls := "NearDeskModel", name := "aimAsked", desc := "()V" } : MethodName)) ∈ hw_G := hw_in 32 (by decide +kernel) rfl
theorem iw_m32 : (Cond.selects "NearDeskModel" ({ cls := "NearDeskModel", name := "search", desc := "(I)V" } : MethodName) ({ cls := "NearDeskModel", name := "search", desc := "(I)V" } : MethodName)) ∈ hw_G := hw_in 31 (by decide +kernel) rfl
theorem iw_m31 : (Cond.selects "NearDeskModel" ({ cls := "NearDeskModel", name := "take", desc := "(I)V" } : MethodName) ({ cls := "NearDeskModel", name := "take", desc := "(I)V" } : MethodName)) ∈ hw_G := hw_in 30 (by decide +kernel) rfl
theorem iw_m30 : (Cond.selects "NearDeskModel" ({ cls := "NearDeskModel", name := "pick", desc := "(I)V" } : MethodName) ({ cls := "NearDeskModel", name := "pick", desc := "(I)V" } : MethodName)) ∈ hw_G := hw_in 29 (by decide +kernel) rfl
theorem iw_m29 : (Cond.selects "NearDeskModel" ({ cls := "NearDeskModel", name := "between", desc := "(II)I" } : MethodName) ({ cls := "NearDeskModel", name := "between", desc := "(II)I" } : MethodName)) ∈ hw_G := hw_in 28 (by decide +kernel) rfl
theorem iw_m28 : (Cond.selects "NearDeskModel" ({ cls := "NearDeskModel", name := "choose", desc := "(I)V" } : MethodName) ({ cls := "NearDeskModel", name := "choose", desc := "(I)V" } : MethodName)) ∈ hw_G := hw_in 27 (by decide +kernel) rfl
theorem iw_m27 : (Cond.selects "NearDeskModel" ({ cls := "NearDeskModel", name := "tie", desc := "(II)V" } : MethodName) ({ cls := "NearDeskModel", name := "tie", desc := "(II)V" } : MethodName)) ∈ hw_G := hw_in 26 (by decide +kernel) rfl
theorem iw_m26 : (Cond.selects "NearDeskModel" ({ cls := "NearDeskModel", name := "look", desc := "(II)V" } : MethodName) ({ cls := "NearDeskModel", name := "look", desc := "(II)V" } : MethodName)) ∈ hw_G := hw_in 25 (by decide +kernel) rfl
theorem iw_m25 : (Cond.selects "NearDeskModel" ({ cls := "NearDeskModel", name := "nearest", desc := "([Z)I" } : MethodName) ({ cls := "NearDeskModel", name := "nearest", desc := "([Z)I" } : MethodName)) ∈ hw_G := hw_in 24 (by decide +kernel) rfl
theorem iw_m24 : (Cond.selects "NearDeskModel" ({ cls := "NearDeskModel", name := "far", desc := "(I)I" } : MethodName) ({ cls := "NearDeskModel", name := "far", desc := "(I)I" } : MethodName)) ∈ hw_G := hw_in 23 (by decide +kernel) rfl
theorem iw_m23 : (Cond.selects "NearDeskModel" ({ cls := "NearDeskModel", name := "isNearer", desc := "(II)Z" } : MethodName) ({ cls := "NearDeskModel", name := "isNearer", desc := "(II)Z" } : MethodName)) ∈ hw_G := hw_in 22 (by decide +kernel) rfl
theorem iw_m22 : (Cond.selects "NearDeskModel" ({ cls := "NearDeskModel", name := "farthest", desc := "([Z)I" } : MethodName) ({ cls := "NearDeskModel", name := "farthest", desc := "([Z)I" } : MethodName)) ∈ hw_G := hw_in 21 (by decide +kernel) rfl
theorem iw_m21 : (Cond.selects "NearDeskModel" ({ cls := "NearDeskModel", name := "walk", desc := "(II)I" } : MethodName) ({ cls := "NearDeskModel", name := "walk", desc := "(II)I" } : MethodName)) ∈ hw_G := hw_in 20 (by decide +kernel) rfl
theorem iw_m20 : (Cond.selects "NearDeskModel" ({ cls := "NearDeskModel", name := "aimAt", desc := "(I)V" } : MethodName) ({ cls := "NearDeskModel", name := "aimAt", desc := "(I)V" } : MethodName)) ∈ hw_G := hw_in 19 (by decide +kernel) rfl
theorem iw_m19 : (Cond.selects "NearDeskModel" ({ cls := "NearDeskModel", name := "enter", desc := "(I)V" } : MethodName) ({ cls := "NearDeskModel", name := "enter", desc := "(I)V" } : MethodName)) ∈ hw_G := hw_in 18 (by decide +kernel) rfl
theorem iw_m18 : (Cond.selects "NearDesk$Links" ({ cls := "NearDesk$Links", name := "isLinked", desc := "(II)Z" } : MethodName) ({ cls := "NearDesk$Links", name := "isLinked", desc := "(II)Z" } : MethodName)) ∈ hw_G := hw_in 17 (by decide +kernel) rfl
theorem iw_m17 : (Cond.selects "NearDesk$Links" ({ cls := "NearDesk$Links", name := "unreturned", desc := "(I)I" } : MethodName) ({ cls := "NearDesk$Links", name := "unreturned", desc := "(I)I" } : MethodName)) ∈ hw_G := hw_in 16 (by decide +kernel) rfl
theorem iw_m16 : (Cond.selects "NearDesk" ({ cls := "NearDesk", name := "foundAmongNearest", desc := "()I" } : MethodName) ({ cls := "NearDesk", name := "foundAmongNearest", desc := "()I" } : MethodName)) ∈ hw_G := hw_in 15 (by decide +kernel) rfl
theorem iw_m15 : (Cond.selects "NearDesk" ({ cls := "NearDesk", name := "rankByPoints", desc := "(LNearDesk$Ranking;)V" } : MethodName) ({ cls := "NearDesk", name := "rankByPoints", desc := "(LNearDesk$Ranking;)V" } : MethodName)) ∈ hw_G := hw_in 14 (by decide +kernel) rfl
theorem iw_m14 : (Cond.selects "NearDesk" ({ cls := "NearDesk", name := "addPoints", desc := "(LNearDesk$Ranking;)V" } : MethodName) ({ cls := "NearDesk", name := "addPoints", desc := "(LNearDesk$Ranking;)V" } : MethodName)) ∈ hw_G := hw_in 13 (by decide +kernel) rfl
theorem iw_m13 : (Cond.selects "NearDesk" ({ cls := "NearDesk", name := "clearPoints", desc := "()V" } : MethodName) ({ cls := "NearDesk", name := "clearPoints", desc := "()V" } : MethodName)) ∈ hw_G := hw_in 12 (by decide +kernel) rfl
theorem iw_m12 : (Cond.selects "NearDesk$Documents" ({ cls := "NearDesk$Documents", name := "score", desc := "(II)I" } : MethodName) ({ cls := "NearDesk$Documents", name := "score", desc := "(II)I" } : MethodName)) ∈ hw_G := hw_in 11 (by decide +kernel) rfl
theorem iw_m11 : (Cond.selects "NearDesk$Documents" ({ cls := "NearDesk$Documents", name := "countOfWord", desc := "(II)I" } : MethodName) ({ cls := "NearDesk$Documents", name := "countOfWord", desc := "(II)I" } : MethodName)) ∈ hw_G := hw_in 10 (by decide +kernel) rfl
theorem iw_m10 : (Cond.selects "NearDesk$Documents" ({ cls := "NearDesk$Documents", name := "liveWith", desc := "(I)I" } : MethodName) ({ cls := "NearDesk$Documents", name := "liveWith", desc := "(I)I" } : MethodName)) ∈ hw_G := hw_in 9 (by decide +kernel) rfl
theorem iw_m9 : (Cond.selects "NearDesk$Documents" ({ cls := "NearDesk$Documents", name := "weighWords", desc := "()V" } : MethodName) ({ cls := "NearDesk$Documents", name := "weighWords", desc := "()V" } : MethodName)) ∈ hw_G := hw_in 8 (by decide +kernel) rfl
theorem iw_m8 : (Cond.selects "NearDesk" ({ cls := "NearDesk", name := "searchInto", desc := "(LNearDesk$Ranking;I)V" } : MethodName) ({ cls := "NearDesk", name := "searchInto", desc := "(LNearDesk$Ranking;I)V" } : MethodName)) ∈ hw_G := hw_in 7 (by decide +kernel) rfl
theorem iw_m7 : (Cond.selects "NearDesk$Graph" ({ cls := "NearDesk$Graph", name := "shorten", desc := "(LNearDesk$Documents;II)V" } : MethodName) ({ cls := "NearDesk$Graph", name := "shorten", desc := "(LNearDesk$Documents;II)V" } : MethodName)) ∈ hw_G := hw_in 6 (by decide +kernel) rfl
theorem iw_m6 : (Cond.selects "NearDesk$Chooser" ({ cls := "NearDesk$Chooser", name := "take", desc := "(I)V" } : MethodName) ({ cls := "NearDesk$Chooser", name := "take", desc := "(I)V" } : MethodName)) ∈ hw_G := hw_in 5 (by decide +kernel) rfl
theorem iw_m5 : (Cond.selects "NearDesk$Chooser" ({ cls := "NearDesk$Chooser", name := "isNearestToVector", desc := "(LNearDesk$Documents;II)Z" } : MethodName) ({ cls := "NearDesk$Chooser", name := "isNearestToVector", desc := "(LNearDesk$Documents;II)Z" } : MethodName)) ∈ hw_G := hw_in 4 (by decide +kernel) rfl
theorem iw_m4 : (Cond.selects "NearDesk$Graph" ({ cls := "NearDesk$Graph", name := "link", desc := "(LNearDesk$Documents;II)V" } : MethodName) ({ cls := "NearDesk$Graph", name := "link", desc := "(LNearDesk$Documents;II)V" } : MethodName)) ∈ hw_G := hw_in 3 (by decide +kernel) rfl
theorem iw_m3 : (Cond.selects "NearDesk$Walker" ({ cls := "NearDesk$Walker", name := "lookAround", desc := "(LNearDesk$Links;II)V" } : MethodName) ({ cls := "NearDesk$Walker", name := "lookAround", desc := "(LNearDesk$Links;II)V" } : MethodName)) ∈ hw_G := hw_in 2 (by decide +kernel) rfl
theorem iw_m2 : (Cond.selects "NearDesk$Walker" ({ cls := "NearDesk$Walker", name := "begin", desc := "(I)V" } : MethodName) ({ cls := "NearDesk$Walker", name := "begin", desc := "(I)V" } : MethodName)) ∈ hw_G := hw_in 1 (by decide +kernel) rfl
theorem iw_m1 : (Cond.selects "NearDesk$Ranking" ({ cls := "NearDesk$Ranking", name := "precedes", desc := "(IIII)Z" } : MethodName) ({ cls := "NearDesk$Ranking", name := "precedes", desc := "(IIII)Z" } : MethodName)) ∈ hw_G := hw_in 0 (by decide +kernel) rfl
theorem iw_1 : (Cond.initialized "NearDesk") ∈ hw_G := hw_in 43 (by decide +kernel) rfl
theorem iw_2 : (Cond.initialized "NearDesk$Documents") ∈ hw_G := hw_in 44 (by decide +kernel) rfl
theorem iw_3 : (Cond.initialized "NearDesk$Graph") ∈ hw_G := hw_in 45 (by decide +kernel) rfl
theorem iw_4 : (Cond.initialized "NearDesk$Links") ∈ hw_G := hw_in 46 (by decide +kernel) rfl
theorem iw_5 : (Cond.initialized "NearDesk$Walker") ∈ hw_G := hw_in 47 (by decide +kernel) rfl
theorem iw_6 : (Cond.initialized "NearDesk$Ranking") ∈ hw_G := hw_in 48 (by decide +kernel) rfl
theorem iw_7 : (Cond.initialized "NearDesk$Chooser") ∈ hw_G := hw_in 49 (by decide +kernel) rfl
theorem iw_8 : (Cond.initialized "NearDeskModel") ∈ hw_G := hw_in 50 (by decide +kernel) rfl
theorem iw_10 : (Cond.initialized "java/lang/Integer") ∈ hw_G := hw_in 52 (by decide +kernel) rfl
theorem iw_27 : (Cond.fieldLink "NearDesk$Documents" (11 : Nat) "NearDesk$Documents" "vectors" "[[I") ∈ hw_G := hw_in 69 (by decide +kernel) rfl
theorem iw_28 : (Cond.fieldLink "NearDesk$Documents" (16 : Nat) "NearDesk$Documents" "countsOfWords" "[I") ∈ hw_G := hw_in 70 (by decide +kernel) rfl
theorem iw_29 : (Cond.fieldLink "NearDesk$Documents" (20 : Nat) "NearDesk$Documents" "weights" "[I") ∈ hw_G := hw_in 71 (by decide +kernel) rfl
theorem iw_30 : (Cond.fieldLink "NearDesk$Documents" (27 : Nat) "NearDesk$Documents" "live" "I") ∈ hw_G := hw_in 72 (by decide +kernel) rfl
theorem iw_53 : (Cond.fieldLink "NearDesk$Links" (9 : Nat) "NearDesk$Links" "orders" "[I") ∈ hw_G := hw_in 95 (by decide +kernel) rfl
theorem iw_54 : (Cond.fieldLink "NearDesk$Links" (15 : Nat) "NearDesk$Links" "levels" "[I") ∈ hw_G := hw_in 96 (by decide +kernel) rfl
theorem iw_55 : (Cond.fieldLink "NearDesk$Links" (18 : Nat) "NearDesk$Links" "degrees" "[I") ∈ hw_G := hw_in 97 (by decide +kernel) rfl
theorem iw_56 : (Cond.fieldLink "NearDesk$Links" (21 : Nat) "NearDesk$Links" "rows" "[I") ∈ hw_G := hw_in 98 (by decide +kernel) rfl
theorem iw_57 : (Cond.fieldLink "NearDesk$Links" (24 : Nat) "NearDesk$Links" "queue" "[I") ∈ hw_G := hw_in 99 (by decide +kernel) rfl
theorem iw_58 : (Cond.fieldLink "NearDesk$Links" (27 : Nat) "NearDesk$Links" "size" "I") ∈ hw_G := hw_in 100 (by decide +kernel) rfl
theorem iw_84 : (Cond.fieldLink "NearDesk$Ranking" (9 : Nat) "NearDesk$Ranking" "numbers" "[I") ∈ hw_G := hw_in 126 (by decide +kernel) rfl
theorem iw_85 : (Cond.fieldLink "NearDesk$Ranking" (15 : Nat) "NearDesk$Ranking" "values" "[I") ∈ hw_G := hw_in 127 (by decide +kernel) rfl
theorem iw_86 : (Cond.fieldLink "NearDesk$Ranking" (18 : Nat) "NearDesk$Ranking" "size" "I") ∈ hw_G := hw_in 128 (by decide +kernel) rfl
theorem iw_87 : (Cond.fieldLink "NearDesk$Ranking" (28 : Nat) "NearDesk$Ranking" "room" "I") ∈ hw_G := hw_in 129 (by decide +kernel) rfl
theorem iw_88 : (Cond.fieldLink "NearDesk$Ranking" (31 : Nat) "NearDesk$Ranking" "greatestFirst" "Z") ∈ hw_G := hw_in 130 (by decide +kernel) rfl
theorem iw_100 : (Cond.fieldLink "NearDesk$Walker" (12 : Nat) "NearDesk$Walker" "held" "LNearDesk$Ranking;") ∈ hw_G := hw_in 142 (by decide +kernel) rfl
theorem iw_101 : (Cond.fieldLink "NearDesk$Walker" (18 : Nat) "NearDesk$Walker" "open" "LNearDesk$Ranking;") ∈ hw_G := hw_in 143 (by decide +kernel) rfl
theorem iw_102 : (Cond.fieldLink "NearDesk$Walker" (21 : Nat) "NearDesk$Walker" "distances" "[I") ∈ hw_G := hw_in 144 (by decide +kernel) rfl
theorem iw_103 : (Cond.fieldLink "NearDesk$Walker" (65 : Nat) "NearDesk$Walker" "seen" "I") ∈ hw_G := hw_in 145 (by decide +kernel) rfl
theorem iw_119 : (Cond.fieldLink "NearDesk$Chooser" (9 : Nat) "NearDesk$Chooser" "row" "[I") ∈ hw_G := hw_in 161 (by decide +kernel) rfl
theorem iw_120 : (Cond.fieldLink "NearDesk$Chooser" (15 : Nat) "NearDesk$Chooser" "size" "I") ∈ hw_G := hw_in 162 (by decide +kernel) rfl
theorem iw_121 : (Cond.fieldLink "NearDesk$Chooser" (19 : Nat) "NearDesk$Chooser" "taken" "I") ∈ hw_G := hw_in 163 (by decide +kernel) rfl
theorem iw_131 : (Cond.fieldLink "NearDesk$Graph" (12 : Nat) "NearDesk$Graph" "links" "LNearDesk$Links;") ∈ hw_G := hw_in 173 (by decide +kernel) rfl
theorem iw_133 : (Cond.fieldLink "NearDesk$Graph" (21 : Nat) "NearDesk$Graph" "walker" "LNearDesk$Walker;") ∈ hw_G := hw_in 175 (by decide +kernel) rfl
theorem iw_134 : (Cond.fieldLink "NearDesk$Graph" (28 : Nat) "NearDesk$Graph" "chooser" "LNearDesk$Chooser;") ∈ hw_G := hw_in 176 (by decide +kernel) rfl
theorem iw_135 : (Cond.fieldLink "NearDesk$Graph" (35 : Nat) "NearDesk$Graph" "candidates" "LNearDesk$Ranking;") ∈ hw_G := hw_in 177 (by decide +kernel) rfl
theorem iw_136 : (Cond.fieldLink "NearDesk$Graph" (39 : Nat) "NearDesk$Graph" "entry" "I") ∈ hw_G := hw_in 178 (by decide +kernel) rfl
theorem iw_137 : (Cond.fieldLink "NearDesk$Graph" (47 : Nat) "NearDesk$Graph" "seenInSearches" "I") ∈ hw_G := hw_in 179 (by decide +kernel) rfl
theorem iw_138 : (Cond.fieldLink "NearDesk$Graph" (50 : Nat) "NearDesk$Graph" "seenInEntering" "I") ∈ hw_G := hw_in 180 (by decide +kernel) rfl
theorem iw_156 : (Cond.fieldLink "NearDesk" (12 : Nat) "NearDesk" "documents" "LNearDesk$Documents;") ∈ hw_G := hw_in 198 (by decide +kernel) rfl
theorem iw_157 : (Cond.fieldLink "NearDesk" (19 : Nat) "NearDesk" "graph" "LNearDesk$Graph;") ∈ hw_G := hw_in 199 (by decide +kernel) rfl
theorem iw_158 : (Cond.fieldLink "NearDesk" (26 : Nat) "NearDesk" "results" "LNearDesk$Ranking;") ∈ hw_G := hw_in 200 (by decide +kernel) rfl
theorem iw_159 : (Cond.fieldLink "NearDesk" (30 : Nat) "NearDesk" "scratch" "LNearDesk$Ranking;") ∈ hw_G := hw_in 201 (by decide +kernel) rfl
theorem iw_160 : (Cond.fieldLink "NearDesk" (33 : Nat) "NearDesk" "asked" "[I") ∈ hw_G := hw_in 202 (by decide +kernel) rfl
theorem iw_161 : (Cond.fieldLink "NearDesk" (37 : Nat) "NearDesk" "points" "[I") ∈ hw_G := hw_in 203 (by decide +kernel) rfl
theorem iw_179 : (Cond.methodLink "NearDesk" (40 : Nat) ({ cls := "NearDesk", name := "isVector", desc := "(IIII)Z" } : MethodName)) ∈ hw_G := hw_in 221 (by decide +kernel) rfl
theorem iw_180 : (Cond.static ({ cls := "NearDesk", name := "isVector", desc := "(IIII)Z" } : MethodName)) ∈ hw_G := hw_in 222 (by decide +kernel) rfl
theorem iw_182 : (Cond.methodLink "NearDesk" (184 : Nat) ({ cls := "NearDesk", name := "isCoordinate", desc := "(I)Z" } : MethodName)) ∈ hw_G := hw_in 224 (by decide +kernel) rfl
theorem iw_183 : (Cond.static ({ cls := "NearDesk", name := "isCoordinate", desc := "(I)Z" } : MethodName)) ∈ hw_G := hw_in 225 (by decide +kernel) rfl
theorem iw_185 : (Cond.methodLink "NearDesk" (45 : Nat) ({ cls := "NearDesk", name := "isWithin", desc := "(III)Z" } : MethodName)) ∈ hw_G := hw_in 227 (by decide +kernel) rfl
theorem iw_186 : (Cond.static ({ cls := "NearDesk", name := "isWithin", desc := "(III)Z" } : MethodName)) ∈ hw_G := hw_in 228 (by decide +kernel) rfl
theorem iw_188 : (Cond.constant "NearDesk" (44 : Nat) (16777215 : Int32)) ∈ hw_G := hw_in 230 (by decide +kernel) rfl
theorem iw_189 : (Cond.methodLink "NearDesk" (53 : Nat) ({ cls := "NearDesk$Links", name := "freeNumber", desc := "()I" } : MethodName)) ∈ hw_G := hw_in 231 (by decide +kernel) rfl
theorem iw_190 : (Cond.instanceMethod ({ cls := "NearDesk$Links", name := "freeNumber", desc := "()I" } : MethodName)) ∈ hw_G := hw_in 232 (by decide +kernel) rfl
theorem iw_191 : (Cond.selects "NearDesk$Links" ({ cls := "NearDesk$Links", name := "freeNumber", desc := "()I" } : MethodName) ({ cls := "NearDesk$Links", name := "freeNumber", desc := "()I" } : MethodName)) ∈ hw_G := hw_in 233 (by decide +kernel) rfl
theorem iw_193 : (Cond.methodLink "NearDesk" (59 : Nat) ({ cls := "NearDesk$Documents", name := "store", desc := "(IIIIII)V" } : MethodName)) ∈ hw_G := hw_in 235 (by decide +kernel) rfl
theorem iw_194 : (Cond.instanceMethod ({ cls := "NearDesk$Documents", name := "store", desc := "(IIIIII)V" } : MethodName)) ∈ hw_G := hw_in 236 (by decide +kernel) rfl
theorem iw_195 : (Cond.selects "NearDesk$Documents" ({ cls := "NearDesk$Documents", name := "store", desc := "(IIIIII)V" } : MethodName) ({ cls := "NearDesk$Documents", name := "store", desc := "(IIIIII)V" } : MethodName)) ∈ hw_G := hw_in 237 (by decide +kernel) rfl
theorem iw_198 : (Cond.static ({ cls := "NearDesk", name := "writeVector", desc := "([IIIII)V" } : MethodName)) ∈ hw_G := hw_in 240 (by decide +kernel) rfl
theorem iw_200 : (Cond.methodLink "NearDesk" (63 : Nat) ({ cls := "NearDesk$Graph", name := "enter", desc := "(LNearDesk$Documents;I)V" } : MethodName)) ∈ hw_G := hw_in 242 (by decide +kernel) rfl
theorem iw_201 : (Cond.instanceMethod ({ cls := "NearDesk$Graph", name := "enter", desc := "(LNearDesk$Documents;I)V" } : MethodName)) ∈ hw_G := hw_in 243 (by decide +kernel) rfl
theorem iw_202 : (Cond.selects "NearDesk$Graph" ({ cls := "NearDesk$Graph", name := "enter", desc := "(LNearDesk$Documents;I)V" } : MethodName) ({ cls := "NearDesk$Graph", name := "enter", desc := "(LNearDesk$Documents;I)V" } : MethodName)) ∈ hw_G := hw_in 244 (by decide +kernel) rfl
theorem iw_204 : (Cond.methodLink "NearDesk$Graph" (56 : Nat) ({ cls := "NearDesk$Links", name := "addNode", desc := "(I)V" } : MethodName)) ∈ hw_G := hw_in 246 (by decide +kernel) rfl
theorem iw_205 : (Cond.instanceMethod ({ cls := "NearDesk$Links", name := "addNode", desc := "(I)V" } : MethodName)) ∈ hw_G := hw_in 247 (by decide +kernel) rfl
theorem iw_206 : (Cond.selects "NearDesk$Links" ({ cls := "NearDesk$Links", name := "addNode", desc := "(I)V" } : MethodName) ({ cls := "NearDesk$Links", name := "addNode", desc := "(I)V" } : MethodName)) ∈ hw_G := hw_in 248 (by decide +kernel) rfl
theorem iw_208 : (Cond.methodLink "NearDesk$Links" (31 : Nat) ({ cls := "NearDesk$Links", name := "levelOf", desc := "(I)I" } : MethodName)) ∈ hw_G := hw_in 250 (by decide +kernel) rfl
theorem iw_209 : (Cond.static ({ cls := "NearDesk$Links", name := "levelOf", desc := "(I)I" } : MethodName)) ∈ hw_G := hw_in 251 (by decide +kernel) rfl
theorem iw_211 : (Cond.methodLink "NearDesk$Graph" (43 : Nat) ({ cls := "NearDesk$Links", name := "level", desc := "(I)I" } : MethodName)) ∈ hw_G := hw_in 253 (by decide +kernel) rfl
theorem iw_212 : (Cond.instanceMethod ({ cls := "NearDesk$Links", name := "level", desc := "(I)I" } : MethodName)) ∈ hw_G := hw_in 254 (by decide +kernel) rfl
theorem iw_213 : (Cond.selects "NearDesk$Links" ({ cls := "NearDesk$Links", name := "level", desc := "(I)I" } : MethodName) ({ cls := "NearDesk$Links", name := "level", desc := "(I)I" } : MethodName)) ∈ hw_G := hw_in 255 (by decide +kernel) rfl
theorem iw_215 : (Cond.methodLink "NearDesk$Graph" (60 : Nat) ({ cls := "NearDesk$Documents", name := "vector", desc := "(I)[I" } : MethodName)) ∈ hw_G := hw_in 257 (by decide +kernel) rfl
theorem iw_216 : (Cond.instanceMethod ({ cls := "NearDesk$Documents", name := "vector", desc := "(I)[I" } : MethodName)) ∈ hw_G := hw_in 258 (by decide +kernel) rfl
theorem iw_217 : (Cond.selects "NearDesk$Documents" ({ cls := "NearDesk$Documents", name := "vector", desc := "(I)[I" } : MethodName) ({ cls := "NearDesk$Documents", name := "vector", desc := "(I)[I" } : MethodName)) ∈ hw_G := hw_in 259 (by decide +kernel) rfl
theorem iw_219 : (Cond.methodLink "NearDesk$Graph" (66 : Nat) ({ cls := "NearDesk$Walker", name := "standAt", desc := "(LNearDesk$Documents;[II)V" } : MethodName)) ∈ hw_G := hw_in 261 (by decide +kernel) rfl
theorem iw_220 : (Cond.instanceMethod ({ cls := "NearDesk$Walker", name := "standAt", desc := "(LNearDesk$Documents;[II)V" } : MethodName)) ∈ hw_G := hw_in 262 (by decide +kernel) rfl
theorem iw_221 : (Cond.selects "NearDesk$Walker" ({ cls := "NearDesk$Walker", name := "standAt", desc := "(LNearDesk$Documents;[II)V" } : MethodName) ({ cls := "NearDesk$Walker", name := "standAt", desc := "(LNearDesk$Documents;[II)V" } : MethodName)) ∈ hw_G := hw_in 263 (by decide +kernel) rfl
theorem iw_223 : (Cond.methodLink "NearDesk$Walker" (25 : Nat) ({ cls := "NearDesk$Documents", name := "measure", desc := "([I[I)V" } : MethodName)) ∈ hw_G := hw_in 265 (by decide +kernel) rfl
theorem iw_224 : (Cond.instanceMethod ({ cls := "NearDesk$Documents", name := "measure", desc := "([I[I)V" } : MethodName)) ∈ hw_G := hw_in 266 (by decide +kernel) rfl
theorem iw_225 : (Cond.selects "NearDesk$Documents" ({ cls := "NearDesk$Documents", name := "measure", desc := "([I[I)V" } : MethodName) ({ cls := "NearDesk$Documents", name := "measure", desc := "([I[I)V" } : MethodName)) ∈ hw_G := hw_in 267 (by decide +kernel) rfl
theorem iw_228 : (Cond.static ({ cls := "NearDesk", name := "distance", desc := "([I[I)I" } : MethodName)) ∈ hw_G := hw_in 270 (by decide +kernel) rfl
theorem iw_230 : (Cond.methodLink "NearDesk$Walker" (31 : Nat) ({ cls := "NearDesk$Ranking", name := "start", desc := "(IZ)V" } : MethodName)) ∈ hw_G := hw_in 272 (by decide +kernel) rfl
theorem iw_231 : (Cond.instanceMethod ({ cls := "NearDesk$Ranking", name := "start", desc := "(IZ)V" } : MethodName)) ∈ hw_G := hw_in 273 (by decide +kernel) rfl
theorem iw_232 : (Cond.selects "NearDesk$Ranking" ({ cls := "NearDesk$Ranking", name := "start", desc := "(IZ)V" } : MethodName) ({ cls := "NearDesk$Ranking", name := "start", desc := "(IZ)V" } : MethodName)) ∈ hw_G := hw_in 274 (by decide +kernel) rfl
theorem iw_234 : (Cond.methodLink "NearDesk$Ranking" (22 : Nat) ({ cls := "java/lang/Math", name := "min", desc := "(II)I" } : MethodName)) ∈ hw_G := hw_in 276 (by decide +kernel) rfl
theorem iw_237 : (Cond.methodLink "NearDesk$Walker" (35 : Nat) ({ cls := "NearDesk$Ranking", name := "add", desc := "(II)Z" } : MethodName)) ∈ hw_G := hw_in 279 (by decide +kernel) rfl
theorem iw_238 : (Cond.instanceMethod ({ cls := "NearDesk$Ranking", name := "add", desc := "(II)Z" } : MethodName)) ∈ hw_G := hw_in 280 (by decide +kernel) rfl
theorem iw_239 : (Cond.selects "NearDesk$Ranking" ({ cls := "NearDesk$Ranking", name := "add", desc := "(II)Z" } : MethodName) ({ cls := "NearDesk$Ranking", name := "add", desc := "(II)Z" } : MethodName)) ∈ hw_G := hw_in 281 (by decide +kernel) rfl
theorem iw_241 : (Cond.methodLink "NearDesk$Ranking" (39 : Nat) ({ cls := "NearDesk$Ranking", name := "isFull", desc := "()Z" } : MethodName)) ∈ hw_G := hw_in 283 (by decide +kernel) rfl
theorem iw_242 : (Cond.instanceMethod ({ cls := "NearDesk$Ranking", name := "isFull", desc := "()Z" } : MethodName)) ∈ hw_G := hw_in 284 (by decide +kernel) rfl
theorem iw_243 : (Cond.selects "NearDesk$Ranking" ({ cls := "NearDesk$Ranking", name := "isFull", desc := "()Z" } : MethodName) ({ cls := "NearDesk$Ranking", name := "isFull", desc := "()Z" } : MethodName)) ∈ hw_G := hw_in 285 (by decide +kernel) rfl
theorem iw_245 : (Cond.methodLink "NearDesk$Ranking" (35 : Nat) ({ cls := "NearDesk$Ranking", name := "precedes", desc := "(IIII)Z" } : MethodName)) ∈ hw_G := hw_in 287 (by decide +kernel) rfl
theorem iw_247 : (Cond.instanceMethod ({ cls := "NearDesk$Ranking", name := "precedes", desc := "(IIII)Z" } : MethodName)) ∈ hw_G := hw_in 289 (by decide +kernel) rfl
theorem iw_249 : (Cond.methodLink "NearDesk$Graph" (70 : Nat) ({ cls := "NearDesk$Graph", name := "top", desc := "()I" } : MethodName)) ∈ hw_G := hw_in 291 (by decide +kernel) rfl
theorem iw_250 : (Cond.instanceMethod ({ cls := "NearDesk$Graph", name := "top", desc := "()I" } : MethodName)) ∈ hw_G := hw_in 292 (by decide +kernel) rfl
theorem iw_251 : (Cond.selects "NearDesk$Graph" ({ cls := "NearDesk$Graph", name := "top", desc := "()I" } : MethodName) ({ cls := "NearDesk$Graph", name := "top", desc := "()I" } : MethodName)) ∈ hw_G := hw_in 293 (by decide +kernel) rfl
theorem iw_253 : (Cond.methodLink "NearDesk$Graph" (74 : Nat) ({ cls := "NearDesk$Walker", name := "walk", desc := "(LNearDesk$Links;II)I" } : MethodName)) ∈ hw_G := hw_in 295 (by decide +kernel) rfl
theorem iw_254 : (Cond.instanceMethod ({ cls := "NearDesk$Walker", name := "walk", desc := "(LNearDesk$Links;II)I" } : MethodName)) ∈ hw_G := hw_in 296 (by decide +kernel) rfl
theorem iw_255 : (Cond.selects "NearDesk$Walker" ({ cls := "NearDesk$Walker", name := "walk", desc := "(LNearDesk$Links;II)I" } : MethodName) ({ cls := "NearDesk$Walker", name := "walk", desc := "(LNearDesk$Links;II)I" } : MethodName)) ∈ hw_G := hw_in 297 (by decide +kernel) rfl
theorem iw_257 : (Cond.methodLink "NearDesk$Walker" (39 : Nat) ({ cls := "NearDesk$Walker", name := "begin", desc := "(I)V" } : MethodName)) ∈ hw_G := hw_in 299 (by decide +kernel) rfl
theorem iw_259 : (Cond.instanceMethod ({ cls := "NearDesk$Walker", name := "begin", desc := "(I)V" } : MethodName)) ∈ hw_G := hw_in 301 (by decide +kernel) rfl
theorem iw_261 : (Cond.methodLink "NearDesk$Walker" (43 : Nat) ({ cls := "NearDesk$Ranking", name := "size", desc := "()I" } : MethodName)) ∈ hw_G := hw_in 303 (by decide +kernel) rfl
theorem iw_262 : (Cond.instanceMethod ({ cls := "NearDesk$Ranking", name := "size", desc := "()I" } : MethodName)) ∈ hw_G := hw_in 304 (by decide +kernel) rfl
theorem iw_263 : (Cond.selects "NearDesk$Ranking" ({ cls := "NearDesk$Ranking", name := "size", desc := "()I" } : MethodName) ({ cls := "NearDesk$Ranking", name := "size", desc := "()I" } : MethodName)) ∈ hw_G := hw_in 305 (by decide +kernel) rfl
theorem iw_265 : (Cond.methodLink "NearDesk$Walker" (47 : Nat) ({ cls := "NearDesk$Ranking", name := "numberAt", desc := "(I)I" } : MethodName)) ∈ hw_G := hw_in 307 (by decide +kernel) rfl
theorem iw_266 : (Cond.instanceMethod ({ cls := "NearDesk$Ranking", name := "numberAt", desc := "(I)I" } : MethodName)) ∈ hw_G := hw_in 308 (by decide +kernel) rfl
theorem iw_267 : (Cond.selects "NearDesk$Ranking" ({ cls := "NearDesk$Ranking", name := "numberAt", desc := "(I)I" } : MethodName) ({ cls := "NearDesk$Ranking", name := "numberAt", desc := "(I)I" } : MethodName)) ∈ hw_G := hw_in 309 (by decide +kernel) rfl
theorem iw_269 : (Cond.methodLink "NearDesk$Walker" (74 : Nat) ({ cls := "NearDesk$Ranking", name := "changeRoom", desc := "(I)V" } : MethodName)) ∈ hw_G := hw_in 311 (by decide +kernel) rfl
theorem iw_270 : (Cond.instanceMethod ({ cls := "NearDesk$Ranking", name := "changeRoom", desc := "(I)V" } : MethodName)) ∈ hw_G := hw_in 312 (by decide +kernel) rfl
theorem iw_271 : (Cond.selects "NearDesk$Ranking" ({ cls := "NearDesk$Ranking", name := "changeRoom", desc := "(I)V" } : MethodName) ({ cls := "NearDesk$Ranking", name := "changeRoom", desc := "(I)V" } : MethodName)) ∈ hw_G := hw_in 313 (by decide +kernel) rfl
theorem iw_273 : (Cond.methodLink "NearDesk$Walker" (77 : Nat) ({ cls := "NearDesk$Ranking", name := "valueAt", desc := "(I)I" } : MethodName)) ∈ hw_G := hw_in 315 (by decide +kernel) rfl
theorem iw_274 : (Cond.instanceMethod ({ cls := "NearDesk$Ranking", name := "valueAt", desc := "(I)I" } : MethodName)) ∈ hw_G := hw_in 316 (by decide +kernel) rfl
theorem iw_275 : (Cond.selects "NearDesk$Ranking" ({ cls := "NearDesk$Ranking", name := "valueAt", desc := "(I)I" } : MethodName) ({ cls := "NearDesk$Ranking", name := "valueAt", desc := "(I)I" } : MethodName)) ∈ hw_G := hw_in 317 (by decide +kernel) rfl
theorem iw_277 : (Cond.methodLink "NearDesk$Walker" (51 : Nat) ({ cls := "NearDesk$Ranking", name := "dropFirst", desc := "()V" } : MethodName)) ∈ hw_G := hw_in 319 (by decide +kernel) rfl
theorem iw_278 : (Cond.instanceMethod ({ cls := "NearDesk$Ranking", name := "dropFirst", desc := "()V" } : MethodName)) ∈ hw_G := hw_in 320 (by decide +kernel) rfl
theorem iw_279 : (Cond.selects "NearDesk$Ranking" ({ cls := "NearDesk$Ranking", name := "dropFirst", desc := "()V" } : MethodName) ({ cls := "NearDesk$Ranking", name := "dropFirst", desc := "()V" } : MethodName)) ∈ hw_G := hw_in 321 (by decide +kernel) rfl
theorem iw_281 : (Cond.methodLink "NearDesk$Ranking" (43 : Nat) ({ cls := "java/lang/Math", name := "max", desc := "(II)I" } : MethodName)) ∈ hw_G := hw_in 323 (by decide +kernel) rfl
theorem iw_284 : (Cond.methodLink "NearDesk$Walker" (54 : Nat) ({ cls := "NearDesk$Ranking", name := "isFull", desc := "()Z" } : MethodName)) ∈ hw_G := hw_in 326 (by decide +kernel) rfl
theorem iw_285 : (Cond.methodLink "NearDesk$Walker" (58 : Nat) ({ cls := "NearDesk$Ranking", name := "lastPrecedes", desc := "(II)Z" } : MethodName)) ∈ hw_G := hw_in 327 (by decide +kernel) rfl
theorem iw_286 : (Cond.instanceMethod ({ cls := "NearDesk$Ranking", name := "lastPrecedes", desc := "(II)Z" } : MethodName)) ∈ hw_G := hw_in 328 (by decide +kernel) rfl
theorem iw_287 : (Cond.selects "NearDesk$Ranking" ({ cls := "NearDesk$Ranking", name := "lastPrecedes", desc := "(II)Z" } : MethodName) ({ cls := "NearDesk$Ranking", name := "lastPrecedes", desc := "(II)Z" } : MethodName)) ∈ hw_G := hw_in 329 (by decide +kernel) rfl
theorem iw_289 : (Cond.methodLink "NearDesk$Walker" (61 : Nat) ({ cls := "NearDesk$Walker", name := "lookAround", desc := "(LNearDesk$Links;II)V" } : MethodName)) ∈ hw_G := hw_in 331 (by decide +kernel) rfl
theorem iw_291 : (Cond.instanceMethod ({ cls := "NearDesk$Walker", name := "lookAround", desc := "(LNearDesk$Links;II)V" } : MethodName)) ∈ hw_G := hw_in 333 (by decide +kernel) rfl
theorem iw_293 : (Cond.methodLink "NearDesk$Walker" (80 : Nat) ({ cls := "NearDesk$Links", name := "degree", desc := "(II)I" } : MethodName)) ∈ hw_G := hw_in 335 (by decide +kernel) rfl
theorem iw_294 : (Cond.instanceMethod ({ cls := "NearDesk$Links", name := "degree", desc := "(II)I" } : MethodName)) ∈ hw_G := hw_in 336 (by decide +kernel) rfl
theorem iw_295 : (Cond.selects "NearDesk$Links" ({ cls := "NearDesk$Links", name := "degree", desc := "(II)I" } : MethodName) ({ cls := "NearDesk$Links", name := "degree", desc := "(II)I" } : MethodName)) ∈ hw_G := hw_in 337 (by decide +kernel) rfl
theorem iw_297 : (Cond.methodLink "NearDesk$Walker" (86 : Nat) ({ cls := "NearDesk$Links", name := "linked", desc := "(III)I" } : MethodName)) ∈ hw_G := hw_in 339 (by decide +kernel) rfl
theorem iw_298 : (Cond.instanceMethod ({ cls := "NearDesk$Links", name := "linked", desc := "(III)I" } : MethodName)) ∈ hw_G := hw_in 340 (by decide +kernel) rfl
theorem iw_299 : (Cond.selects "NearDesk$Links" ({ cls := "NearDesk$Links", name := "linked", desc := "(III)I" } : MethodName) ({ cls := "NearDesk$Links", name := "linked", desc := "(III)I" } : MethodName)) ∈ hw_G := hw_in 341 (by decide +kernel) rfl
theorem iw_302 : (Cond.static ({ cls := "NearDesk", name := "isIn", desc := "(II)Z" } : MethodName)) ∈ hw_G := hw_in 344 (by decide +kernel) rfl
theorem iw_304 : (Cond.methodLink "NearDesk$Walker" (69 : Nat) ({ cls := "java/lang/Integer", name := "bitCount", desc := "(I)I" } : MethodName)) ∈ hw_G := hw_in 346 (by decide +kernel) rfl
theorem iw_305 : (Cond.static ({ cls := "java/lang/Integer", name := "bitCount", desc := "(I)I" } : MethodName)) ∈ hw_G := hw_in 347 (by decide +kernel) rfl
theorem iw_307 : (Cond.constant "java/lang/Integer" (265 : Nat) (1431655765 : Int32)) ∈ hw_G := hw_in 349 (by decide +kernel) rfl
theorem iw_308 : (Cond.constant "java/lang/Integer" (266 : Nat) (858993459 : Int32)) ∈ hw_G := hw_in 350 (by decide +kernel) rfl
theorem iw_309 : (Cond.constant "java/lang/Integer" (267 : Nat) (252645135 : Int32)) ∈ hw_G := hw_in 351 (by decide +kernel) rfl
theorem iw_310 : (Cond.methodLink "NearDesk$Graph" (78 : Nat) ({ cls := "NearDesk$Graph", name := "link", desc := "(LNearDesk$Documents;II)V" } : MethodName)) ∈ hw_G := hw_in 352 (by decide +kernel) rfl
theorem iw_312 : (Cond.instanceMethod ({ cls := "NearDesk$Graph", name := "link", desc := "(LNearDesk$Documents;II)V" } : MethodName)) ∈ hw_G := hw_in 354 (by decide +kernel) rfl
theorem iw_314 : (Cond.methodLink "NearDesk$Graph" (85 : Nat) ({ cls := "NearDesk$Walker", name := "held", desc := "()LNearDesk$Ranking;" } : MethodName)) ∈ hw_G := hw_in 356 (by decide +kernel) rfl
theorem iw_315 : (Cond.instanceMethod ({ cls := "NearDesk$Walker", name := "held", desc := "()LNearDesk$Ranking;" } : MethodName)) ∈ hw_G := hw_in 357 (by decide +kernel) rfl
theorem iw_316 : (Cond.selects "NearDesk$Walker" ({ cls := "NearDesk$Walker", name := "held", desc := "()LNearDesk$Ranking;" } : MethodName) ({ cls := "NearDesk$Walker", name := "held", desc := "()LNearDesk$Ranking;" } : MethodName)) ∈ hw_G := hw_in 358 (by decide +kernel) rfl
theorem iw_318 : (Cond.methodLink "NearDesk$Graph" (89 : Nat) ({ cls := "NearDesk$Chooser", name := "choose", desc := "(LNearDesk$Documents;LNearDesk$Ranking;I)V" } : MethodName)) ∈ hw_G := hw_in 360 (by decide +kernel) rfl
theorem iw_319 : (Cond.instanceMethod ({ cls := "NearDesk$Chooser", name := "choose", desc := "(LNearDesk$Documents;LNearDesk$Ranking;I)V" } : MethodName)) ∈ hw_G := hw_in 361 (by decide +kernel) rfl
theorem iw_320 : (Cond.selects "NearDesk$Chooser" ({ cls := "NearDesk$Chooser", name := "choose", desc := "(LNearDesk$Documents;LNearDesk$Ranking;I)V" } : MethodName) ({ cls := "NearDesk$Chooser", name := "choose", desc := "(LNearDesk$Documents;LNearDesk$Ranking;I)V" } : MethodName)) ∈ hw_G := hw_in 362 (by decide +kernel) rfl
theorem iw_322 : (Cond.methodLink "NearDesk$Chooser" (22 : Nat) ({ cls := "NearDesk$Ranking", name := "size", desc := "()I" } : MethodName)) ∈ hw_G := hw_in 364 (by decide +kernel) rfl
theorem iw_323 : (Cond.methodLink "NearDesk$Chooser" (27 : Nat) ({ cls := "NearDesk$Ranking", name := "numberAt", desc := "(I)I" } : MethodName)) ∈ hw_G := hw_in 365 (by decide +kernel) rfl
theorem iw_324 : (Cond.methodLink "NearDesk$Chooser" (31 : Nat) ({ cls := "NearDesk$Ranking", name := "valueAt", desc := "(I)I" } : MethodName)) ∈ hw_G := hw_in 366 (by decide +kernel) rfl
theorem iw_325 : (Cond.methodLink "NearDesk$Chooser" (34 : Nat) ({ cls := "NearDesk$Chooser", name := "isNearestToVector", desc := "(LNearDesk$Documents;II)Z" } : MethodName)) ∈ hw_G := hw_in 367 (by decide +kernel) rfl
theorem iw_327 : (Cond.instanceMethod ({ cls := "NearDesk$Chooser", name := "isNearestToVector", desc := "(LNearDesk$Documents;II)Z" } : MethodName)) ∈ hw_G := hw_in 369 (by decide +kernel) rfl
theorem iw_329 : (Cond.methodLink "NearDesk$Chooser" (46 : Nat) ({ cls := "NearDesk$Documents", name := "vector", desc := "(I)[I" } : MethodName)) ∈ hw_G := hw_in 371 (by decide +kernel) rfl
theorem iw_331 : (Cond.methodLink "NearDesk$Chooser" (38 : Nat) ({ cls := "NearDesk$Chooser", name := "take", desc := "(I)V" } : MethodName)) ∈ hw_G := hw_in 373 (by decide +kernel) rfl
theorem iw_333 : (Cond.instanceMethod ({ cls := "NearDesk$Chooser", name := "take", desc := "(I)V" } : MethodName)) ∈ hw_G := hw_in 375 (by decide +kernel) rfl
theorem iw_336 : (Cond.methodLink "NearDesk$Graph" (93 : Nat) ({ cls := "NearDesk$Links", name := "replace", desc := "(IILNearDesk$Chooser;)V" } : MethodName)) ∈ hw_G := hw_in 378 (by decide +kernel) rfl
theorem iw_337 : (Cond.instanceMethod ({ cls := "NearDesk$Links", name := "replace", desc := "(IILNearDesk$Chooser;)V" } : MethodName)) ∈ hw_G := hw_in 379 (by decide +kernel) rfl
theorem iw_338 : (Cond.selects "NearDesk$Links" ({ cls := "NearDesk$Links", name := "replace", desc := "(IILNearDesk$Chooser;)V" } : MethodName) ({ cls := "NearDesk$Links", name := "replace", desc := "(IILNearDesk$Chooser;)V" } : MethodName)) ∈ hw_G := hw_in 380 (by decide +kernel) rfl
theorem iw_340 : (Cond.methodLink "NearDesk$Links" (46 : Nat) ({ cls := "NearDesk$Chooser", name := "size", desc := "()I" } : MethodName)) ∈ hw_G := hw_in 382 (by decide +kernel) rfl
theorem iw_341 : (Cond.instanceMethod ({ cls := "NearDesk$Chooser", name := "size", desc := "()I" } : MethodName)) ∈ hw_G := hw_in 383 (by decide +kernel) rfl
theorem iw_342 : (Cond.selects "NearDesk$Chooser" ({ cls := "NearDesk$Chooser", name := "size", desc := "()I" } : MethodName) ({ cls := "NearDesk$Chooser", name := "size", desc := "()I" } : MethodName)) ∈ hw_G := hw_in 384 (by decide +kernel) rfl
theorem iw_344 : (Cond.methodLink "NearDesk$Links" (51 : Nat) ({ cls := "NearDesk$Chooser", name := "chosen", desc := "(I)I" } : MethodName)) ∈ hw_G := hw_in 386 (by decide +kernel) rfl
theorem iw_345 : (Cond.instanceMethod ({ cls := "NearDesk$Chooser", name := "chosen", desc := "(I)I" } : MethodName)) ∈ hw_G := hw_in 387 (by decide +kernel) rfl
theorem iw_346 : (Cond.selects "NearDesk$Chooser" ({ cls := "NearDesk$Chooser", name := "chosen", desc := "(I)I" } : MethodName) ({ cls := "NearDesk$Chooser", name := "chosen", desc := "(I)I" } : MethodName)) ∈ hw_G := hw_in 388 (by decide +kernel) rfl
theorem iw_348 : (Cond.methodLink "NearDesk$Links" (54 : Nat) ({ cls := "NearDesk$Links", name := "append", desc := "(III)V" } : MethodName)) ∈ hw_G := hw_in 390 (by decide +kernel) rfl
theorem iw_349 : (Cond.instanceMethod ({ cls := "NearDesk$Links", name := "append", desc := "(III)V" } : MethodName)) ∈ hw_G := hw_in 391 (by decide +kernel) rfl
theorem iw_350 : (Cond.selects "NearDesk$Links" ({ cls := "NearDesk$Links", name := "append", desc := "(III)V" } : MethodName) ({ cls := "NearDesk$Links", name := "append", desc := "(III)V" } : MethodName)) ∈ hw_G := hw_in 392 (by decide +kernel) rfl
theorem iw_352 : (Cond.methodLink "NearDesk$Graph" (97 : Nat) ({ cls := "NearDesk$Links", name := "degree", desc := "(II)I" } : MethodName)) ∈ hw_G := hw_in 394 (by decide +kernel) rfl
theorem iw_353 : (Cond.methodLink "NearDesk$Graph" (101 : Nat) ({ cls := "NearDesk$Links", name := "linked", desc := "(III)I" } : MethodName)) ∈ hw_G := hw_in 395 (by decide +kernel) rfl
theorem iw_354 : (Cond.methodLink "NearDesk$Graph" (105 : Nat) ({ cls := "NearDesk$Links", name := "append", desc := "(III)V" } : MethodName)) ∈ hw_G := hw_in 396 (by decide +kernel) rfl
theorem iw_355 : (Cond.methodLink "NearDesk$Graph" (109 : Nat) ({ cls := "NearDesk$Links", name := "most", desc := "(I)I" } : MethodName)) ∈ hw_G := hw_in 397 (by decide +kernel) rfl
theorem iw_356 : (Cond.instanceMethod ({ cls := "NearDesk$Links", name := "most", desc := "(I)I" } : MethodName)) ∈ hw_G := hw_in 398 (by decide +kernel) rfl
theorem iw_357 : (Cond.selects "NearDesk$Links" ({ cls := "NearDesk$Links", name := "most", desc := "(I)I" } : MethodName) ({ cls := "NearDesk$Links", name := "most", desc := "(I)I" } : MethodName)) ∈ hw_G := hw_in 399 (by decide +kernel) rfl
theorem iw_359 : (Cond.methodLink "NearDesk$Graph" (112 : Nat) ({ cls := "NearDesk$Graph", name := "shorten", desc := "(LNearDesk$Documents;II)V" } : MethodName)) ∈ hw_G := hw_in 401 (by decide +kernel) rfl
theorem iw_361 : (Cond.instanceMethod ({ cls := "NearDesk$Graph", name := "shorten", desc := "(LNearDesk$Documents;II)V" } : MethodName)) ∈ hw_G := hw_in 403 (by decide +kernel) rfl
theorem iw_363 : (Cond.methodLink "NearDesk$Graph" (115 : Nat) ({ cls := "NearDesk$Ranking", name := "start", desc := "(IZ)V" } : MethodName)) ∈ hw_G := hw_in 405 (by decide +kernel) rfl
theorem iw_365 : (Cond.methodLink "NearDesk$Graph" (123 : Nat) ({ cls := "NearDesk$Ranking", name := "add", desc := "(II)Z" } : MethodName)) ∈ hw_G := hw_in 407 (by decide +kernel) rfl
theorem iw_370 : (Cond.methodLink "NearDesk" (67 : Nat) ({ cls := "NearDesk$Documents", name := "retire", desc := "(I)Z" } : MethodName)) ∈ hw_G := hw_in 412 (by decide +kernel) rfl
theorem iw_371 : (Cond.instanceMethod ({ cls := "NearDesk$Documents", name := "retire", desc := "(I)Z" } : MethodName)) ∈ hw_G := hw_in 413 (by decide +kernel) rfl
theorem iw_372 : (Cond.selects "NearDesk$Documents" ({ cls := "NearDesk$Documents", name := "retire", desc := "(I)Z" } : MethodName) ({ cls := "NearDesk$Documents", name := "retire", desc := "(I)Z" } : MethodName)) ∈ hw_G := hw_in 414 (by decide +kernel) rfl
theorem iw_374 : (Cond.methodLink "NearDesk$Documents" (31 : Nat) ({ cls := "NearDesk$Documents", name := "isLive", desc := "(I)Z" } : MethodName)) ∈ hw_G := hw_in 416 (by decide +kernel) rfl
theorem iw_375 : (Cond.instanceMethod ({ cls := "NearDesk$Documents", name := "isLive", desc := "(I)Z" } : MethodName)) ∈ hw_G := hw_in 417 (by decide +kernel) rfl
theorem iw_376 : (Cond.selects "NearDesk$Documents" ({ cls := "NearDesk$Documents", name := "isLive", desc := "(I)Z" } : MethodName) ({ cls := "NearDesk$Documents", name := "isLive", desc := "(I)Z" } : MethodName)) ∈ hw_G := hw_in 418 (by decide +kernel) rfl
theorem iw_379 : (Cond.static ({ cls := "NearDesk", name := "isDocumentNumber", desc := "(I)Z" } : MethodName)) ∈ hw_G := hw_in 421 (by decide +kernel) rfl
theorem iw_386 : (Cond.methodLink "NearDesk" (71 : Nat) ({ cls := "NearDesk$Links", name := "size", desc := "()I" } : MethodName)) ∈ hw_G := hw_in 428 (by decide +kernel) rfl
theorem iw_387 : (Cond.instanceMethod ({ cls := "NearDesk$Links", name := "size", desc := "()I" } : MethodName)) ∈ hw_G := hw_in 429 (by decide +kernel) rfl
theorem iw_388 : (Cond.selects "NearDesk$Links" ({ cls := "NearDesk$Links", name := "size", desc := "()I" } : MethodName) ({ cls := "NearDesk$Links", name := "size", desc := "()I" } : MethodName)) ∈ hw_G := hw_in 430 (by decide +kernel) rfl
theorem iw_390 : (Cond.methodLink "NearDesk" (74 : Nat) ({ cls := "NearDesk$Documents", name := "liveCount", desc := "()I" } : MethodName)) ∈ hw_G := hw_in 432 (by decide +kernel) rfl
theorem iw_391 : (Cond.instanceMethod ({ cls := "NearDesk$Documents", name := "liveCount", desc := "()I" } : MethodName)) ∈ hw_G := hw_in 433 (by decide +kernel) rfl
theorem iw_392 : (Cond.selects "NearDesk$Documents" ({ cls := "NearDesk$Documents", name := "liveCount", desc := "()I" } : MethodName) ({ cls := "NearDesk$Documents", name := "liveCount", desc := "()I" } : MethodName)) ∈ hw_G := hw_in 434 (by decide +kernel) rfl
theorem iw_394 : (Cond.methodLink "NearDesk$Documents" (42 : Nat) ({ cls := "java/lang/Integer", name := "bitCount", desc := "(I)I" } : MethodName)) ∈ hw_G := hw_in 436 (by decide +kernel) rfl
theorem iw_395 : (Cond.methodLink "NearDesk" (77 : Nat) ({ cls := "NearDesk$Graph", name := "clear", desc := "()V" } : MethodName)) ∈ hw_G := hw_in 437 (by decide +kernel) rfl
theorem iw_396 : (Cond.instanceMethod ({ cls := "NearDesk$Graph", name := "clear", desc := "()V" } : MethodName)) ∈ hw_G := hw_in 438 (by decide +kernel) rfl
theorem iw_397 : (Cond.selects "NearDesk$Graph" ({ cls := "NearDesk$Graph", name := "clear", desc := "()V" } : MethodName) ({ cls := "NearDesk$Graph", name := "clear", desc := "()V" } : MethodName)) ∈ hw_G := hw_in 439 (by decide +kernel) rfl
theorem iw_399 : (Cond.methodLink "NearDesk$Graph" (53 : Nat) ({ cls := "NearDesk$Links", name := "clear", desc := "()V" } : MethodName)) ∈ hw_G := hw_in 441 (by decide +kernel) rfl
theorem iw_400 : (Cond.instanceMethod ({ cls := "NearDesk$Links", name := "clear", desc := "()V" } : MethodName)) ∈ hw_G := hw_in 442 (by decide +kernel) rfl
theorem iw_401 : (Cond.selects "NearDesk$Links" ({ cls := "NearDesk$Links", name := "clear", desc := "()V" } : MethodName) ({ cls := "NearDesk$Links", name := "clear", desc := "()V" } : MethodName)) ∈ hw_G := hw_in 443 (by decide +kernel) rfl
theorem iw_403 : (Cond.methodLink "NearDesk" (80 : Nat) ({ cls := "NearDesk$Documents", name := "isLive", desc := "(I)Z" } : MethodName)) ∈ hw_G := hw_in 445 (by decide +kernel) rfl
theorem iw_408 : (Cond.methodLink "NearDesk" (83 : Nat) ({ cls := "NearDesk", name := "writeVector", desc := "([IIIII)V" } : MethodName)) ∈ hw_G := hw_in 450 (by decide +kernel) rfl
theorem iw_413 : (Cond.methodLink "NearDesk" (87 : Nat) ({ cls := "NearDesk$Ranking", name := "start", desc := "(IZ)V" } : MethodName)) ∈ hw_G := hw_in 455 (by decide +kernel) rfl
theorem iw_414 : (Cond.methodLink "NearDesk" (91 : Nat) ({ cls := "java/lang/Math", name := "max", desc := "(II)I" } : MethodName)) ∈ hw_G := hw_in 456 (by decide +kernel) rfl
theorem iw_415 : (Cond.methodLink "NearDesk" (97 : Nat) ({ cls := "NearDesk", name := "searchInto", desc := "(LNearDesk$Ranking;I)V" } : MethodName)) ∈ hw_G := hw_in 457 (by decide +kernel) rfl
theorem iw_417 : (Cond.instanceMethod ({ cls := "NearDesk", name := "searchInto", desc := "(LNearDesk$Ranking;I)V" } : MethodName)) ∈ hw_G := hw_in 459 (by decide +kernel) rfl
theorem iw_419 : (Cond.methodLink "NearDesk" (174 : Nat) ({ cls := "NearDesk$Graph", name := "search", desc := "(LNearDesk$Documents;[II)LNearDesk$Ranking;" } : MethodName)) ∈ hw_G := hw_in 461 (by decide +kernel) rfl
theorem iw_420 : (Cond.instanceMethod ({ cls := "NearDesk$Graph", name := "search", desc := "(LNearDesk$Documents;[II)LNearDesk$Ranking;" } : MethodName)) ∈ hw_G := hw_in 462 (by decide +kernel) rfl
theorem iw_421 : (Cond.selects "NearDesk$Graph" ({ cls := "NearDesk$Graph", name := "search", desc := "(LNearDesk$Documents;[II)LNearDesk$Ranking;" } : MethodName) ({ cls := "NearDesk$Graph", name := "search", desc := "(LNearDesk$Documents;[II)LNearDesk$Ranking;" } : MethodName)) ∈ hw_G := hw_in 463 (by decide +kernel) rfl
theorem iw_423 : (Cond.methodLink "NearDesk$Graph" (82 : Nat) ({ cls := "NearDesk$Walker", name := "standNowhere", desc := "()V" } : MethodName)) ∈ hw_G := hw_in 465 (by decide +kernel) rfl
theorem iw_424 : (Cond.instanceMethod ({ cls := "NearDesk$Walker", name := "standNowhere", desc := "()V" } : MethodName)) ∈ hw_G := hw_in 466 (by decide +kernel) rfl
theorem iw_425 : (Cond.selects "NearDesk$Walker" ({ cls := "NearDesk$Walker", name := "standNowhere", desc := "()V" } : MethodName) ({ cls := "NearDesk$Walker", name := "standNowhere", desc := "()V" } : MethodName)) ∈ hw_G := hw_in 467 (by decide +kernel) rfl
theorem iw_427 : (Cond.methodLink "NearDesk" (101 : Nat) ({ cls := "NearDesk$Ranking", name := "size", desc := "()I" } : MethodName)) ∈ hw_G := hw_in 469 (by decide +kernel) rfl
theorem iw_428 : (Cond.methodLink "NearDesk" (120 : Nat) ({ cls := "NearDesk$Ranking", name := "numberAt", desc := "(I)I" } : MethodName)) ∈ hw_G := hw_in 470 (by decide +kernel) rfl
theorem iw_429 : (Cond.methodLink "NearDesk" (124 : Nat) ({ cls := "NearDesk$Ranking", name := "valueAt", desc := "(I)I" } : MethodName)) ∈ hw_G := hw_in 471 (by decide +kernel) rfl
theorem iw_430 : (Cond.methodLink "NearDesk" (178 : Nat) ({ cls := "NearDesk$Ranking", name := "add", desc := "(II)Z" } : MethodName)) ∈ hw_G := hw_in 472 (by decide +kernel) rfl
theorem iw_435 : (Cond.methodLink "NearDesk" (102 : Nat) ({ cls := "NearDesk$Documents", name := "rankByDistance", desc := "([ILNearDesk$Ranking;)V" } : MethodName)) ∈ hw_G := hw_in 477 (by decide +kernel) rfl
theorem iw_436 : (Cond.instanceMethod ({ cls := "NearDesk$Documents", name := "rankByDistance", desc := "([ILNearDesk$Ranking;)V" } : MethodName)) ∈ hw_G := hw_in 478 (by decide +kernel) rfl
theorem iw_437 : (Cond.selects "NearDesk$Documents" ({ cls := "NearDesk$Documents", name := "rankByDistance", desc := "([ILNearDesk$Ranking;)V" } : MethodName) ({ cls := "NearDesk$Documents", name := "rankByDistance", desc := "([ILNearDesk$Ranking;)V" } : MethodName)) ∈ hw_G := hw_in 479 (by decide +kernel) rfl
theorem iw_439 : (Cond.methodLink "NearDesk$Documents" (52 : Nat) ({ cls := "NearDesk$Ranking", name := "add", desc := "(II)Z" } : MethodName)) ∈ hw_G := hw_in 481 (by decide +kernel) rfl
theorem iw_444 : (Cond.methodLink "NearDesk" (106 : Nat) ({ cls := "NearDesk$Documents", name := "rankByScore", desc := "(ILNearDesk$Ranking;)V" } : MethodName)) ∈ hw_G := hw_in 486 (by decide +kernel) rfl
theorem iw_445 : (Cond.instanceMethod ({ cls := "NearDesk$Documents", name := "rankByScore", desc := "(ILNearDesk$Ranking;)V" } : MethodName)) ∈ hw_G := hw_in 487 (by decide +kernel) rfl
theorem iw_446 : (Cond.selects "NearDesk$Documents" ({ cls := "NearDesk$Documents", name := "rankByScore", desc := "(ILNearDesk$Ranking;)V" } : MethodName) ({ cls := "NearDesk$Documents", name := "rankByScore", desc := "(ILNearDesk$Ranking;)V" } : MethodName)) ∈ hw_G := hw_in 488 (by decide +kernel) rfl
theorem iw_448 : (Cond.methodLink "NearDesk$Documents" (57 : Nat) ({ cls := "NearDesk$Documents", name := "weighWords", desc := "()V" } : MethodName)) ∈ hw_G := hw_in 490 (by decide +kernel) rfl
theorem iw_450 : (Cond.instanceMethod ({ cls := "NearDesk$Documents", name := "weighWords", desc := "()V" } : MethodName)) ∈ hw_G := hw_in 492 (by decide +kernel) rfl
theorem iw_452 : (Cond.methodLink "NearDesk$Documents" (64 : Nat) ({ cls := "NearDesk$Documents", name := "liveWith", desc := "(I)I" } : MethodName)) ∈ hw_G := hw_in 494 (by decide +kernel) rfl
theorem iw_454 : (Cond.instanceMethod ({ cls := "NearDesk$Documents", name := "liveWith", desc := "(I)I" } : MethodName)) ∈ hw_G := hw_in 496 (by decide +kernel) rfl
theorem iw_456 : (Cond.methodLink "NearDesk$Documents" (71 : Nat) ({ cls := "NearDesk$Documents", name := "countOfWord", desc := "(II)I" } : MethodName)) ∈ hw_G := hw_in 498 (by decide +kernel) rfl
theorem iw_458 : (Cond.instanceMethod ({ cls := "NearDesk$Documents", name := "countOfWord", desc := "(II)I" } : MethodName)) ∈ hw_G := hw_in 500 (by decide +kernel) rfl
theorem iw_460 : (Cond.methodLink "NearDesk$Documents" (67 : Nat) ({ cls := "NearDesk$Documents", name := "liveCount", desc := "()I" } : MethodName)) ∈ hw_G := hw_in 502 (by decide +kernel) rfl
theorem iw_461 : (Cond.methodLink "NearDesk$Documents" (60 : Nat) ({ cls := "NearDesk$Documents", name := "score", desc := "(II)I" } : MethodName)) ∈ hw_G := hw_in 503 (by decide +kernel) rfl
theorem iw_463 : (Cond.instanceMethod ({ cls := "NearDesk$Documents", name := "score", desc := "(II)I" } : MethodName)) ∈ hw_G := hw_in 505 (by decide +kernel) rfl
theorem iw_469 : (Cond.methodLink "NearDesk" (110 : Nat) ({ cls := "NearDesk", name := "clearPoints", desc := "()V" } : MethodName)) ∈ hw_G := hw_in 511 (by decide +kernel) rfl
theorem iw_471 : (Cond.instanceMethod ({ cls := "NearDesk", name := "clearPoints", desc := "()V" } : MethodName)) ∈ hw_G := hw_in 513 (by decide +kernel) rfl
theorem iw_473 : (Cond.methodLink "NearDesk" (113 : Nat) ({ cls := "NearDesk", name := "addPoints", desc := "(LNearDesk$Ranking;)V" } : MethodName)) ∈ hw_G := hw_in 515 (by decide +kernel) rfl
theorem iw_475 : (Cond.instanceMethod ({ cls := "NearDesk", name := "addPoints", desc := "(LNearDesk$Ranking;)V" } : MethodName)) ∈ hw_G := hw_in 517 (by decide +kernel) rfl
theorem iw_477 : (Cond.methodLink "NearDesk" (117 : Nat) ({ cls := "NearDesk", name := "rankByPoints", desc := "(LNearDesk$Ranking;)V" } : MethodName)) ∈ hw_G := hw_in 519 (by decide +kernel) rfl
theorem iw_479 : (Cond.instanceMethod ({ cls := "NearDesk", name := "rankByPoints", desc := "(LNearDesk$Ranking;)V" } : MethodName)) ∈ hw_G := hw_in 521 (by decide +kernel) rfl
theorem iw_489 : (Cond.methodLink "NearDesk" (127 : Nat) ({ cls := "NearDesk$Links", name := "isNode", desc := "(I)Z" } : MethodName)) ∈ hw_G := hw_in 531 (by decide +kernel) rfl
theorem iw_490 : (Cond.instanceMethod ({ cls := "NearDesk$Links", name := "isNode", desc := "(I)Z" } : MethodName)) ∈ hw_G := hw_in 532 (by decide +kernel) rfl
theorem iw_491 : (Cond.selects "NearDesk$Links" ({ cls := "NearDesk$Links", name := "isNode", desc := "(I)Z" } : MethodName) ({ cls := "NearDesk$Links", name := "isNode", desc := "(I)Z" } : MethodName)) ∈ hw_G := hw_in 533 (by decide +kernel) rfl
theorem iw_494 : (Cond.methodLink "NearDesk" (130 : Nat) ({ cls := "NearDesk$Links", name := "isInLayer", desc := "(II)Z" } : MethodName)) ∈ hw_G := hw_in 536 (by decide +kernel) rfl
theorem iw_495 : (Cond.instanceMethod ({ cls := "NearDesk$Links", name := "isInLayer", desc := "(II)Z" } : MethodName)) ∈ hw_G := hw_in 537 (by decide +kernel) rfl
theorem iw_496 : (Cond.selects "NearDesk$Links" ({ cls := "NearDesk$Links", name := "isInLayer", desc := "(II)Z" } : MethodName) ({ cls := "NearDesk$Links", name := "isInLayer", desc := "(II)Z" } : MethodName)) ∈ hw_G := hw_in 538 (by decide +kernel) rfl
theorem iw_498 : (Cond.methodLink "NearDesk$Links" (39 : Nat) ({ cls := "NearDesk$Links", name := "isNode", desc := "(I)Z" } : MethodName)) ∈ hw_G := hw_in 540 (by decide +kernel) rfl
theorem iw_500 : (Cond.methodLink "NearDesk" (134 : Nat) ({ cls := "NearDesk$Links", name := "degree", desc := "(II)I" } : MethodName)) ∈ hw_G := hw_in 542 (by decide +kernel) rfl
theorem iw_501 : (Cond.methodLink "NearDesk" (137 : Nat) ({ cls := "NearDesk$Links", name := "level", desc := "(I)I" } : MethodName)) ∈ hw_G := hw_in 543 (by decide +kernel) rfl
theorem iw_502 : (Cond.methodLink "NearDesk" (140 : Nat) ({ cls := "NearDesk$Links", name := "order", desc := "(I)I" } : MethodName)) ∈ hw_G := hw_in 544 (by decide +kernel) rfl
theorem iw_503 : (Cond.instanceMethod ({ cls := "NearDesk$Links", name := "order", desc := "(I)I" } : MethodName)) ∈ hw_G := hw_in 545 (by decide +kernel) rfl
theorem iw_504 : (Cond.selects "NearDesk$Links" ({ cls := "NearDesk$Links", name := "order", desc := "(I)I" } : MethodName) ({ cls := "NearDesk$Links", name := "order", desc := "(I)I" } : MethodName)) ∈ hw_G := hw_in 546 (by decide +kernel) rfl
theorem iw_506 : (Cond.methodLink "NearDesk" (143 : Nat) ({ cls := "NearDesk$Documents", name := "counts", desc := "(I)I" } : MethodName)) ∈ hw_G := hw_in 548 (by decide +kernel) rfl
theorem iw_507 : (Cond.instanceMethod ({ cls := "NearDesk$Documents", name := "counts", desc := "(I)I" } : MethodName)) ∈ hw_G := hw_in 549 (by decide +kernel) rfl
theorem iw_508 : (Cond.selects "NearDesk$Documents" ({ cls := "NearDesk$Documents", name := "counts", desc := "(I)I" } : MethodName) ({ cls := "NearDesk$Documents", name := "counts", desc := "(I)I" } : MethodName)) ∈ hw_G := hw_in 550 (by decide +kernel) rfl
theorem iw_510 : (Cond.methodLink "NearDesk" (146 : Nat) ({ cls := "NearDesk$Documents", name := "coordinate", desc := "(II)I" } : MethodName)) ∈ hw_G := hw_in 552 (by decide +kernel) rfl
theorem iw_511 : (Cond.instanceMethod ({ cls := "NearDesk$Documents", name := "coordinate", desc := "(II)I" } : MethodName)) ∈ hw_G := hw_in 553 (by decide +kernel) rfl
theorem iw_512 : (Cond.selects "NearDesk$Documents" ({ cls := "NearDesk$Documents", name := "coordinate", desc := "(II)I" } : MethodName) ({ cls := "NearDesk$Documents", name := "coordinate", desc := "(II)I" } : MethodName)) ∈ hw_G := hw_in 554 (by decide +kernel) rfl
theorem iw_518 : (Cond.methodLink "NearDesk" (149 : Nat) ({ cls := "NearDesk$Links", name := "linked", desc := "(III)I" } : MethodName)) ∈ hw_G := hw_in 560 (by decide +kernel) rfl
theorem iw_523 : (Cond.methodLink "NearDesk" (153 : Nat) ({ cls := "NearDesk$Graph", name := "entry", desc := "()I" } : MethodName)) ∈ hw_G := hw_in 565 (by decide +kernel) rfl
theorem iw_524 : (Cond.instanceMethod ({ cls := "NearDesk$Graph", name := "entry", desc := "()I" } : MethodName)) ∈ hw_G := hw_in 566 (by decide +kernel) rfl
theorem iw_525 : (Cond.selects "NearDesk$Graph" ({ cls := "NearDesk$Graph", name := "entry", desc := "()I" } : MethodName) ({ cls := "NearDesk$Graph", name := "entry", desc := "()I" } : MethodName)) ∈ hw_G := hw_in 567 (by decide +kernel) rfl
theorem iw_527 : (Cond.methodLink "NearDesk" (156 : Nat) ({ cls := "NearDesk$Graph", name := "top", desc := "()I" } : MethodName)) ∈ hw_G := hw_in 569 (by decide +kernel) rfl
theorem iw_528 : (Cond.methodLink "NearDesk" (159 : Nat) ({ cls := "NearDesk$Graph", name := "seenInSearches", desc := "()I" } : MethodName)) ∈ hw_G := hw_in 570 (by decide +kernel) rfl
theorem iw_529 : (Cond.instanceMethod ({ cls := "NearDesk$Graph", name := "seenInSearches", desc := "()I" } : MethodName)) ∈ hw_G := hw_in 571 (by decide +kernel) rfl
theorem iw_530 : (Cond.selects "NearDesk$Graph" ({ cls := "NearDesk$Graph", name := "seenInSearches", desc := "()I" } : MethodName) ({ cls := "NearDesk$Graph", name := "seenInSearches", desc := "()I" } : MethodName)) ∈ hw_G := hw_in 572 (by decide +kernel) rfl
theorem iw_532 : (Cond.methodLink "NearDesk" (162 : Nat) ({ cls := "NearDesk$Graph", name := "seenInEntering", desc := "()I" } : MethodName)) ∈ hw_G := hw_in 574 (by decide +kernel) rfl
theorem iw_533 : (Cond.instanceMethod ({ cls := "NearDesk$Graph", name := "seenInEntering", desc := "()I" } : MethodName)) ∈ hw_G := hw_in 575 (by decide +kernel) rfl
theorem iw_534 : (Cond.selects "NearDesk$Graph" ({ cls := "NearDesk$Graph", name := "seenInEntering", desc := "()I" } : MethodName) ({ cls := "NearDesk$Graph", name := "seenInEntering", desc := "()I" } : MethodName)) ∈ hw_G := hw_in 576 (by decide +kernel) rfl
theorem iw_536 : (Cond.methodLink "NearDesk" (165 : Nat) ({ cls := "NearDesk", name := "foundAmongNearest", desc := "()I" } : MethodName)) ∈ hw_G := hw_in 578 (by decide +kernel) rfl
theorem iw_538 : (Cond.instanceMethod ({ cls := "NearDesk", name := "foundAmongNearest", desc := "()I" } : MethodName)) ∈ hw_G := hw_in 580 (by decide +kernel) rfl
theorem iw_540 : (Cond.methodLink "NearDesk" (181 : Nat) ({ cls := "NearDesk$Ranking", name := "holds", desc := "(I)Z" } : MethodName)) ∈ hw_G := hw_in 582 (by decide +kernel) rfl
theorem iw_541 : (Cond.instanceMethod ({ cls := "NearDesk$Ranking", name := "holds", desc := "(I)Z" } : MethodName)) ∈ hw_G := hw_in 583 (by decide +kernel) rfl
theorem iw_542 : (Cond.selects "NearDesk$Ranking" ({ cls := "NearDesk$Ranking", name := "holds", desc := "(I)Z" } : MethodName) ({ cls := "NearDesk$Ranking", name := "holds", desc := "(I)Z" } : MethodName)) ∈ hw_G := hw_in 584 (by decide +kernel) rfl
theorem iw_544 : (Cond.methodLink "NearDesk" (168 : Nat) ({ cls := "NearDesk$Links", name := "oneSidedPairs", desc := "()I" } : MethodName)) ∈ hw_G := hw_in 586 (by decide +kernel) rfl
theorem iw_545 : (Cond.instanceMethod ({ cls := "NearDesk$Links", name := "oneSidedPairs", desc := "()I" } : MethodName)) ∈ hw_G := hw_in 587 (by decide +kernel) rfl
theorem iw_546 : (Cond.selects "NearDesk$Links" ({ cls := "NearDesk$Links", name := "oneSidedPairs", desc := "()I" } : MethodName) ({ cls := "NearDesk$Links", name := "oneSidedPairs", desc := "()I" } : MethodName)) ∈ hw_G := hw_in 588 (by decide +kernel) rfl
theorem iw_548 : (Cond.methodLink "NearDesk$Links" (58 : Nat) ({ cls := "NearDesk$Links", name := "unreturned", desc := "(I)I" } : MethodName)) ∈ hw_G := hw_in 590 (by decide +kernel) rfl
theorem iw_550 : (Cond.instanceMethod ({ cls := "NearDesk$Links", name := "unreturned", desc := "(I)I" } : MethodName)) ∈ hw_G := hw_in 592 (by decide +kernel) rfl
theorem iw_552 : (Cond.methodLink "NearDesk$Links" (61 : Nat) ({ cls := "NearDesk$Links", name := "degree", desc := "(II)I" } : MethodName)) ∈ hw_G := hw_in 594 (by decide +kernel) rfl
theorem iw_553 : (Cond.methodLink "NearDesk$Links" (65 : Nat) ({ cls := "NearDesk$Links", name := "linked", desc := "(III)I" } : MethodName)) ∈ hw_G := hw_in 595 (by decide +kernel) rfl
theorem iw_554 : (Cond.methodLink "NearDesk$Links" (73 : Nat) ({ cls := "NearDesk$Links", name := "isLinked", desc := "(II)Z" } : MethodName)) ∈ hw_G := hw_in 596 (by decide +kernel) rfl
theorem iw_556 : (Cond.instanceMethod ({ cls := "NearDesk$Links", name := "isLinked", desc := "(II)Z" } : MethodName)) ∈ hw_G := hw_in 598 (by decide +kernel) rfl
theorem iw_558 : (Cond.methodLink "NearDesk" (171 : Nat) ({ cls := "NearDesk$Links", name := "reachedFrom", desc := "(I)I" } : MethodName)) ∈ hw_G := hw_in 600 (by decide +kernel) rfl
theorem iw_559 : (Cond.instanceMethod ({ cls := "NearDesk$Links", name := "reachedFrom", desc := "(I)I" } : MethodName)) ∈ hw_G := hw_in 601 (by decide +kernel) rfl
theorem iw_560 : (Cond.selects "NearDesk$Links" ({ cls := "NearDesk$Links", name := "reachedFrom", desc := "(I)I" } : MethodName) ({ cls := "NearDesk$Links", name := "reachedFrom", desc := "(I)I" } : MethodName)) ∈ hw_G := hw_in 602 (by decide +kernel) rfl
theorem iw_569 : (Cond.fieldLink "NearDeskModel" (7 : Nat) "NearDeskModel" "isNode" "[Z") ∈ hw_G := hw_in 611 (by decide +kernel) rfl
theorem iw_570 : (Cond.fieldLink "NearDeskModel" (13 : Nat) "NearDeskModel" "isLive" "[Z") ∈ hw_G := hw_in 612 (by decide +kernel) rfl
theorem iw_571 : (Cond.fieldLink "NearDeskModel" (16 : Nat) "NearDeskModel" "vector" "[I") ∈ hw_G := hw_in 613 (by decide +kernel) rfl
theorem iw_572 : (Cond.fieldLink "NearDeskModel" (20 : Nat) "NearDeskModel" "words" "[I") ∈ hw_G := hw_in 614 (by decide +kernel) rfl
theorem iw_573 : (Cond.fieldLink "NearDeskModel" (23 : Nat) "NearDeskModel" "level" "[I") ∈ hw_G := hw_in 615 (by decide +kernel) rfl
theorem iw_574 : (Cond.fieldLink "NearDeskModel" (26 : Nat) "NearDeskModel" "entered" "[I") ∈ hw_G := hw_in 616 (by decide +kernel) rfl
theorem iw_575 : (Cond.fieldLink "NearDeskModel" (29 : Nat) "NearDeskModel" "row" "[I") ∈ hw_G := hw_in 617 (by decide +kernel) rfl
theorem iw_576 : (Cond.fieldLink "NearDeskModel" (32 : Nat) "NearDeskModel" "rows" "[I") ∈ hw_G := hw_in 618 (by decide +kernel) rfl
theorem iw_577 : (Cond.fieldLink "NearDeskModel" (35 : Nat) "NearDeskModel" "entry" "I") ∈ hw_G := hw_in 619 (by decide +kernel) rfl
theorem iw_578 : (Cond.fieldLink "NearDeskModel" (114 : Nat) "NearDeskModel" "many" "I") ∈ hw_G := hw_in 620 (by decide +kernel) rfl
theorem iw_579 : (Cond.fieldLink "NearDeskModel" (39 : Nat) "NearDeskModel" "aim" "[I") ∈ hw_G := hw_in 621 (by decide +kernel) rfl
theorem iw_580 : (Cond.fieldLink "NearDeskModel" (42 : Nat) "NearDeskModel" "asked" "[I") ∈ hw_G := hw_in 622 (by decide +kernel) rfl
theorem iw_581 : (Cond.fieldLink "NearDeskModel" (45 : Nat) "NearDeskModel" "seen" "[Z") ∈ hw_G := hw_in 623 (by decide +kernel) rfl
theorem iw_582 : (Cond.fieldLink "NearDeskModel" (48 : Nat) "NearDeskModel" "held" "[Z") ∈ hw_G := hw_in 624 (by decide +kernel) rfl
theorem iw_583 : (Cond.fieldLink "NearDeskModel" (51 : Nat) "NearDeskModel" "open" "[Z") ∈ hw_G := hw_in 625 (by decide +kernel) rfl
theorem iw_584 : (Cond.fieldLink "NearDeskModel" (54 : Nat) "NearDeskModel" "chosen" "[Z") ∈ hw_G := hw_in 626 (by decide +kernel) rfl
theorem iw_585 : (Cond.fieldLink "NearDeskModel" (57 : Nat) "NearDeskModel" "here" "[I") ∈ hw_G := hw_in 627 (by decide +kernel) rfl
theorem iw_586 : (Cond.fieldLink "NearDeskModel" (60 : Nat) "NearDeskModel" "picked" "[I") ∈ hw_G := hw_in 628 (by decide +kernel) rfl
theorem iw_587 : (Cond.fieldLink "NearDeskModel" (63 : Nat) "NearDeskModel" "pool" "[I") ∈ hw_G := hw_in 629 (by decide +kernel) rfl
theorem iw_588 : (Cond.fieldLink "NearDeskModel" (83 : Nat) "NearDeskModel" "heres" "I") ∈ hw_G := hw_in 630 (by decide +kernel) rfl
theorem iw_589 : (Cond.fieldLink "NearDeskModel" (103 : Nat) "NearDeskModel" "picks" "I") ∈ hw_G := hw_in 631 (by decide +kernel) rfl
theorem iw_590 : (Cond.fieldLink "NearDeskModel" (100 : Nat) "NearDeskModel" "pools" "I") ∈ hw_G := hw_in 632 (by decide +kernel) rfl
theorem iw_591 : (Cond.fieldLink "NearDeskModel" (66 : Nat) "NearDeskModel" "number" "[I") ∈ hw_G := hw_in 633 (by decide +kernel) rfl
theorem iw_592 : (Cond.fieldLink "NearDeskModel" (69 : Nat) "NearDeskModel" "worth" "[I") ∈ hw_G := hw_in 634 (by decide +kernel) rfl
theorem iw_593 : (Cond.fieldLink "NearDeskModel" (72 : Nat) "NearDeskModel" "scores" "[I") ∈ hw_G := hw_in 635 (by decide +kernel) rfl
theorem iw_594 : (Cond.fieldLink "NearDeskModel" (153 : Nat) "NearDeskModel" "found" "I") ∈ hw_G := hw_in 636 (by decide +kernel) rfl
theorem iw_595 : (Cond.fieldLink "NearDeskModel" (147 : Nat) "NearDeskModel" "seenAsking" "J") ∈ hw_G := hw_in 637 (by decide +kernel) rfl
theorem iw_596 : (Cond.fieldLink "NearDeskModel" (120 : Nat) "NearDeskModel" "seenEntering" "J") ∈ hw_G := hw_in 638 (by decide +kernel) rfl
theorem iw_659 : (Cond.methodLink "NearDeskModel" (136 : Nat) ({ cls := "NearDeskModel", name := "in", desc := "(III)Z" } : MethodName)) ∈ hw_G := hw_in 701 (by decide +kernel) rfl
theorem iw_660 : (Cond.static ({ cls := "NearDeskModel", name := "in", desc := "(III)Z" } : MethodName)) ∈ hw_G := hw_in 702 (by decide +kernel) rfl
theorem iw_662 : (Cond.constant "NearDeskModel" (140 : Nat) (16777215 : Int32)) ∈ hw_G := hw_in 704 (by decide +kernel) rfl
theorem iw_663 : (Cond.methodLink "NearDeskModel" (141 : Nat) ({ cls := "NearDeskModel", name := "enter", desc := "(I)V" } : MethodName)) ∈ hw_G := hw_in 705 (by decide +kernel) rfl
theorem iw_665 : (Cond.instanceMethod ({ cls := "NearDeskModel", name := "enter", desc := "(I)V" } : MethodName)) ∈ hw_G := hw_in 707 (by decide +kernel) rfl
theorem iw_667 : (Cond.methodLink "NearDeskModel" (117 : Nat) ({ cls := "NearDeskModel", name := "aimAt", desc := "(I)V" } : MethodName)) ∈ hw_G := hw_in 709 (by decide +kernel) rfl
theorem iw_669 : (Cond.instanceMethod ({ cls := "NearDeskModel", name := "aimAt", desc := "(I)V" } : MethodName)) ∈ hw_G := hw_in 711 (by decide +kernel) rfl
theorem iw_671 : (Cond.methodLink "NearDeskModel" (124 : Nat) ({ cls := "NearDeskModel", name := "walk", desc := "(II)I" } : MethodName)) ∈ hw_G := hw_in 713 (by decide +kernel) rfl
theorem iw_673 : (Cond.instanceMethod ({ cls := "NearDeskModel", name := "walk", desc := "(II)I" } : MethodName)) ∈ hw_G := hw_in 715 (by decide +kernel) rfl
theorem iw_675 : (Cond.methodLink "NearDeskModel" (86 : Nat) ({ cls := "NearDeskModel", name := "size", desc := "([Z)I" } : MethodName)) ∈ hw_G := hw_in 717 (by decide +kernel) rfl
theorem iw_676 : (Cond.static ({ cls := "NearDeskModel", name := "size", desc := "([Z)I" } : MethodName)) ∈ hw_G := hw_in 718 (by decide +kernel) rfl
theorem iw_678 : (Cond.methodLink "NearDeskModel" (90 : Nat) ({ cls := "NearDeskModel", name := "farthest", desc := "([Z)I" } : MethodName)) ∈ hw_G := hw_in 720 (by decide +kernel) rfl
theorem iw_680 : (Cond.instanceMethod ({ cls := "NearDeskModel", name := "farthest", desc := "([Z)I" } : MethodName)) ∈ hw_G := hw_in 722 (by decide +kernel) rfl
theorem iw_682 : (Cond.methodLink "NearDeskModel" (79 : Nat) ({ cls := "NearDeskModel", name := "isNearer", desc := "(II)Z" } : MethodName)) ∈ hw_G := hw_in 724 (by decide +kernel) rfl
theorem iw_684 : (Cond.instanceMethod ({ cls := "NearDeskModel", name := "isNearer", desc := "(II)Z" } : MethodName)) ∈ hw_G := hw_in 726 (by decide +kernel) rfl
theorem iw_686 : (Cond.methodLink "NearDeskModel" (75 : Nat) ({ cls := "NearDeskModel", name := "far", desc := "(I)I" } : MethodName)) ∈ hw_G := hw_in 728 (by decide +kernel) rfl
theorem iw_688 : (Cond.instanceMethod ({ cls := "NearDeskModel", name := "far", desc := "(I)I" } : MethodName)) ∈ hw_G := hw_in 730 (by decide +kernel) rfl
theorem iw_690 : (Cond.methodLink "NearDeskModel" (93 : Nat) ({ cls := "NearDeskModel", name := "nearest", desc := "([Z)I" } : MethodName)) ∈ hw_G := hw_in 732 (by decide +kernel) rfl
theorem iw_692 : (Cond.instanceMethod ({ cls := "NearDeskModel", name := "nearest", desc := "([Z)I" } : MethodName)) ∈ hw_G := hw_in 734 (by decide +kernel) rfl
theorem iw_694 : (Cond.methodLink "NearDeskModel" (96 : Nat) ({ cls := "NearDeskModel", name := "look", desc := "(II)V" } : MethodName)) ∈ hw_G := hw_in 736 (by decide +kernel) rfl
theorem iw_696 : (Cond.instanceMethod ({ cls := "NearDeskModel", name := "look", desc := "(II)V" } : MethodName)) ∈ hw_G := hw_in 738 (by decide +kernel) rfl
theorem iw_698 : (Cond.methodLink "NearDeskModel" (127 : Nat) ({ cls := "NearDeskModel", name := "tie", desc := "(II)V" } : MethodName)) ∈ hw_G := hw_in 740 (by decide +kernel) rfl
theorem iw_700 : (Cond.instanceMethod ({ cls := "NearDeskModel", name := "tie", desc := "(II)V" } : MethodName)) ∈ hw_G := hw_in 742 (by decide +kernel) rfl
theorem iw_702 : (Cond.methodLink "NearDeskModel" (130 : Nat) ({ cls := "NearDeskModel", name := "choose", desc := "(I)V" } : MethodName)) ∈ hw_G := hw_in 744 (by decide +kernel) rfl
theorem iw_704 : (Cond.instanceMethod ({ cls := "NearDeskModel", name := "choose", desc := "(I)V" } : MethodName)) ∈ hw_G := hw_in 746 (by decide +kernel) rfl
theorem iw_706 : (Cond.methodLink "NearDeskModel" (106 : Nat) ({ cls := "NearDeskModel", name := "between", desc := "(II)I" } : MethodName)) ∈ hw_G := hw_in 748 (by decide +kernel) rfl
theorem iw_708 : (Cond.instanceMethod ({ cls := "NearDeskModel", name := "between", desc := "(II)I" } : MethodName)) ∈ hw_G := hw_in 750 (by decide +kernel) rfl
theorem iw_710 : (Cond.methodLink "NearDeskModel" (110 : Nat) ({ cls := "NearDeskModel", name := "pick", desc := "(I)V" } : MethodName)) ∈ hw_G := hw_in 752 (by decide +kernel) rfl
theorem iw_712 : (Cond.instanceMethod ({ cls := "NearDeskModel", name := "pick", desc := "(I)V" } : MethodName)) ∈ hw_G := hw_in 754 (by decide +kernel) rfl
theorem iw_714 : (Cond.methodLink "NearDeskModel" (133 : Nat) ({ cls := "NearDeskModel", name := "take", desc := "(I)V" } : MethodName)) ∈ hw_G := hw_in 756 (by decide +kernel) rfl
theorem iw_716 : (Cond.instanceMethod ({ cls := "NearDeskModel", name := "take", desc := "(I)V" } : MethodName)) ∈ hw_G := hw_in 758 (by decide +kernel) rfl
theorem iw_734 : (Cond.methodLink "NearDeskModel" (150 : Nat) ({ cls := "NearDeskModel", name := "search", desc := "(I)V" } : MethodName)) ∈ hw_G := hw_in 776 (by decide +kernel) rfl
theorem iw_736 : (Cond.instanceMethod ({ cls := "NearDeskModel", name := "search", desc := "(I)V" } : MethodName)) ∈ hw_G := hw_in 778 (by decide +kernel) rfl
theorem iw_738 : (Cond.methodLink "NearDeskModel" (144 : Nat) ({ cls := "NearDeskModel", name := "aimAsked", desc := "()V" } : MethodName)) ∈ hw_G := hw_in 780 (by decide +kernel) rfl
theorem iw_740 : (Cond.instanceMethod ({ cls := "NearDeskModel", name := "aimAsked", desc := "()V" } : MethodName)) ∈ hw_G := hw_in 782 (by decide +kernel) rfl
theorem iw_750 : (Cond.methodLink "NearDeskModel" (165 : Nat) ({ cls := "NearDeskModel", name := "score", desc := "(I)V" } : MethodName)) ∈ hw_G := hw_in 792 (by decide +kernel) rfl
theorem iw_752 : (Cond.instanceMethod ({ cls := "NearDeskModel", name := "score", desc := "(I)V" } : MethodName)) ∈ hw_G := hw_in 794 (by decide +kernel) rfl
theorem iw_754 : (Cond.methodLink "NearDeskModel" (159 : Nat) ({ cls := "NearDeskModel", name := "scoreOf", desc := "(II)I" } : MethodName)) ∈ hw_G := hw_in 796 (by decide +kernel) rfl
theorem iw_756 : (Cond.instanceMethod ({ cls := "NearDeskModel", name := "scoreOf", desc := "(II)I" } : MethodName)) ∈ hw_G := hw_in 798 (by decide +kernel) rfl
theorem iw_758 : (Cond.methodLink "NearDeskModel" (156 : Nat) ({ cls := "NearDeskModel", name := "countOf", desc := "(II)I" } : MethodName)) ∈ hw_G := hw_in 800 (by decide +kernel) rfl
theorem iw_760 : (Cond.instanceMethod ({ cls := "NearDeskModel", name := "countOf", desc := "(II)I" } : MethodName)) ∈ hw_G := hw_in 802 (by decide +kernel) rfl
theorem iw_762 : (Cond.methodLink "NearDeskModel" (168 : Nat) ({ cls := "NearDeskModel", name := "best", desc := "(I)I" } : MethodName)) ∈ hw_G := hw_in 804 (by decide +kernel) rfl
theorem iw_764 : (Cond.instanceMethod ({ cls := "NearDeskModel", name := "best", desc := "(I)I" } : MethodName)) ∈ hw_G := hw_in 806 (by decide +kernel) rfl
theorem iw_766 : (Cond.methodLink "NearDeskModel" (162 : Nat) ({ cls := "NearDeskModel", name := "placeOf", desc := "(I)I" } : MethodName)) ∈ hw_G := hw_in 808 (by decide +kernel) rfl
theorem iw_768 : (Cond.instanceMethod ({ cls := "NearDeskModel", name := "placeOf", desc := "(I)I" } : MethodName)) ∈ hw_G := hw_in 810 (by decide +kernel) rfl
theorem iw_790 : (Cond.methodLink "NearDeskModel" (174 : Nat) ({ cls := "NearDeskModel", name := "right", desc := "()I" } : MethodName)) ∈ hw_G := hw_in 832 (by decide +kernel) rfl
theorem iw_792 : (Cond.instanceMethod ({ cls := "NearDeskModel", name := "right", desc := "()I" } : MethodName)) ∈ hw_G := hw_in 834 (by decide +kernel) rfl
theorem iw_794 : (Cond.methodLink "NearDeskModel" (178 : Nat) ({ cls := "NearDeskModel", name := "oneSided", desc := "()I" } : MethodName)) ∈ hw_G := hw_in 836 (by decide +kernel) rfl
theorem iw_796 : (Cond.instanceMethod ({ cls := "NearDeskModel", name := "oneSided", desc := "()I" } : MethodName)) ∈ hw_G := hw_in 838 (by decide +kernel) rfl
theorem iw_798 : (Cond.methodLink "NearDeskModel" (171 : Nat) ({ cls := "NearDeskModel", name := "isNeighbour", desc := "(II)Z" } : MethodName)) ∈ hw_G := hw_in 840 (by decide +kernel) rfl
theorem iw_800 : (Cond.instanceMethod ({ cls := "NearDeskModel", name := "isNeighbour", desc := "(II)Z" } : MethodName)) ∈ hw_G := hw_in 842 (by decide +kernel) rfl
theorem iw_802 : (Cond.methodLink "NearDeskModel" (181 : Nat) ({ cls := "NearDeskModel", name := "reached", desc := "()I" } : MethodName)) ∈ hw_G := hw_in 844 (by decide +kernel) rfl
theorem iw_804 : (Cond.instanceMethod ({ cls := "NearDeskModel", name := "reached", desc := "()I" } : MethodName)) ∈ hw_G := hw_in 846 (by decide +kernel) rfl
theorem in_132 : (Cond.fieldLinkNest "NearDesk" (49 : Nat) "NearDesk$Graph" "links" "LNearDesk$Links;" "NearDesk") ∈ hw_NW := hw_inN 174 (by decide +kernel) rfl
theorem in_197 : (Cond.methodLinkNest "NearDesk$Documents" (23 : Nat) ({ cls := "NearDesk", name := "writeVector", desc := "([IIIII)V" } : MethodName) "NearDesk") ∈ hw_NW := hw_inN 239 (by decide +kernel) rfl
theorem in_227 : (Cond.methodLinkNest "NearDesk$Documents" (48 : Nat) ({ cls := "NearDesk", name := "distance", desc := "([I[I)I" } : MethodName) "NearDesk") ∈ hw_NW := hw_inN 269 (by decide +kernel) rfl
theorem in_301 : (Cond.methodLinkNest "NearDesk$Walker" (90 : Nat) ({ cls := "NearDesk", name := "isIn", desc := "(II)Z" } : MethodName) "NearDesk") ∈ hw_NW := hw_inN 343 (by decide +kernel) rfl
theorem in_330 : (Cond.methodLinkNest "NearDesk$Chooser" (52 : Nat) ({ cls := "NearDesk", name := "distance", desc := "([I[I)I" } : MethodName) "NearDesk") ∈ hw_NW := hw_inN 372 (by decide +kernel) rfl
theorem in_335 : (Cond.methodLinkNest "NearDesk$Chooser" (42 : Nat) ({ cls := "NearDesk", name := "isIn", desc := "(II)Z" } : MethodName) "NearDesk") ∈ hw_NW := hw_inN 377 (by decide +kernel) rfl
theorem in_364 : (Cond.methodLinkNest "NearDesk$Graph" (119 : Nat) ({ cls := "NearDesk", name := "distance", desc := "([I[I)I" } : MethodName) "NearDesk") ∈ hw_NW := hw_inN 406 (by decide +kernel) rfl
theorem in_378 : (Cond.methodLinkNest "NearDesk$Documents" (35 : Nat) ({ cls := "NearDesk", name := "isDocumentNumber", desc := "(I)Z" } : MethodName) "NearDesk") ∈ hw_NW := hw_inN 420 (by decide +kernel) rfl
theorem in_381 : (Cond.methodLinkNest "NearDesk$Documents" (38 : Nat) ({ cls := "NearDesk", name := "isIn", desc := "(II)Z" } : MethodName) "NearDesk") ∈ hw_NW := hw_inN 423 (by decide +kernel) rfl
theorem in_493 : (Cond.methodLinkNest "NearDesk$Links" (35 : Nat) ({ cls := "NearDesk", name := "isDocumentNumber", desc := "(I)Z" } : MethodName) "NearDesk") ∈ hw_NW := hw_inN 535 (by decide +kernel) rfl
theorem in_499 : (Cond.methodLinkNest "NearDesk$Links" (42 : Nat) ({ cls := "NearDesk", name := "isWithin", desc := "(III)Z" } : MethodName) "NearDesk") ∈ hw_NW := hw_inN 541 (by decide +kernel) rfl
theorem in_562 : (Cond.methodLinkNest "NearDesk$Links" (69 : Nat) ({ cls := "NearDesk", name := "isIn", desc := "(II)Z" } : MethodName) "NearDesk") ∈ hw_NW := hw_inN 604 (by decide +kernel) rfl
theorem ic_Ch_choose : Cond.code y_Ch_choose b_Ch_choose 6 none ∈ hw_G := hw_in 363 (by decide +kernel) rfl
theorem gy_Ch_choose : GoodIn hw_G ([.instanceMethod y_Ch_choose, .selects R_Ch y_Ch_choose y_Ch_choose, .initialized R_Ch] ++ (.code y_Ch_choose b_Ch_choose 6 none :: hw_G)) := hw_g3 iw_319 iw_320 iw_7 (hw_gc ic_Ch_choose)
theorem ic_Ch_chosen : Cond.code y_Ch_chosen b_Ch_chosen 2 (some .int) ∈ hw_G := hw_in 389 (by decide +kernel) rfl
theorem gy_Ch_chosen : GoodIn hw_G ([.instanceMethod y_Ch_chosen, .selects R_Ch y_Ch_chosen y_Ch_chosen, .initialized R_Ch] ++ (.code y_Ch_chosen b_Ch_chosen 2 (some .int) :: hw_G)) := hw_g3 iw_345 iw_346 iw_7 (hw_gc ic_Ch_chosen)
theorem ic_Ch_isNearestToVector : Cond.code y_Ch_isNearestToVector b_Ch_isNearestToVector 5 (some .boolean) ∈ hw_G := hw_in 370 (by decide +kernel) rfl
theorem gy_Ch_isNearestToVector : GoodIn hw_G ([.instanceMethod y_Ch_isNearestToVector, .selects R_Ch y_Ch_isNearestToVector y_Ch_isNearestToVector, .initialized R_Ch] ++ (.code y_Ch_isNearestToVector b_Ch_isNearestToVector 5 (some .boolean) :: hw_G)) := hw_g3 iw_327 iw_m5 iw_7 (hw_gc ic_Ch_isNearestToVector)
theorem ic_Ch_size : Cond.code y_Ch_size b_Ch_size 1 (some .int) ∈ hw_G := hw_in 385 (by decide +kernel) rfl
theorem gy_Ch_size : GoodIn hw_G ([.instanceMethod y_Ch_size, .selects R_Ch y_Ch_size y_Ch_size, .initialized R_Ch] ++ (.code y_Ch_size b_Ch_size 1 (some .int) :: hw_G)) := hw_g3 iw_341 iw_342 iw_7 (hw_gc ic_Ch_size)
theorem ic_Ch_take : Cond.code y_Ch_take b_Ch_take 2 none ∈ hw_G := hw_in 376 (by decide +kernel) rfl
theorem gy_Ch_take : GoodIn hw_G ([.instanceMethod y_Ch_take, .selects R_Ch y_Ch_take y_Ch_take, .initialized R_Ch] ++ (.code y_Ch_take b_Ch_take 2 none :: hw_G)) := hw_g3 iw_333 iw_m6 iw_7 (hw_gc ic_Ch_take)
theorem ic_Do_coordinate : Cond.code y_Do_coordinate b_Do_coordinate 3 (some .int) ∈ hw_G := hw_in 555 (by decide +kernel) rfl
theorem gy_Do_coordinate : GoodIn hw_G ([.instanceMethod y_Do_coordinate, .selects R_Do y_Do_coordinate y_Do_coordinate, .initialized R_Do] ++ (.code y_Do_coordinate b_Do_coordinate 3 (some .int) :: hw_G)) := hw_g3 iw_511 iw_512 iw_2 (hw_gc ic_Do_coordinate)
theorem ic_Do_countOfWord : Cond.code y_Do_countOfWord b_Do_countOfWord 3 (some .int) ∈ hw_G := hw_in 501 (by decide +kernel) rfl
theorem gy_Do_countOfWord : GoodIn hw_G ([.instanceMethod y_Do_countOfWord, .selects R_Do y_Do_countOfWord y_Do_countOfWord, .initialized R_Do] ++ (.code y_Do_countOfWord b_Do_countOfWord 3 (some .int) :: hw_G)) := hw_g3 iw_458 iw_m11 iw_2 (hw_gc ic_Do_countOfWord)
theorem ic_Do_counts : Cond.code y_Do_counts b_Do_counts 2 (some .int) ∈ hw_G := hw_in 551 (by decide +kernel) rfl
theorem gy_Do_counts : GoodIn hw_G ([.instanceMethod y_Do_counts, .selects R_Do y_Do_counts y_Do_counts, .initialized R_Do] ++ (.code y_Do_counts b_Do_counts 2 (some .int) :: hw_G)) := hw_g3 iw_507 iw_508 iw_2 (hw_gc ic_Do_counts)
theorem ic_Do_isLive : Cond.code y_Do_isLive b_Do_isLive 2 (some .boolean) ∈ hw_G := hw_in 419 (by decide +kernel) rfl
theorem gy_Do_isLive : GoodIn hw_G ([.instanceMethod y_Do_isLive, .selects R_Do y_Do_isLive y_Do_isLive, .initialized R_Do] ++ (.code y_Do_isLive b_Do_isLive 2 (some .boolean) :: hw_G)) := hw_g3 iw_375 iw_376 iw_2 (hw_gc ic_Do_isLive)
theorem ic_Do_liveCount : Cond.code y_Do_liveCount b_Do_liveCount 1 (some .int) ∈ hw_G := hw_in 435 (by decide +kernel) rfl
theorem gy_Do_liveCount : GoodIn hw_G ([.instanceMethod y_Do_liveCount, .selects R_Do y_Do_liveCount y_Do_liveCount, .initialized R_Do] ++ (.code y_Do_liveCount b_Do_liveCount 1 (some .int) :: hw_G)) := hw_g3 iw_391 iw_392 iw_2 (hw_gc ic_Do_liveCount)
theorem ic_Do_liveWith : Cond.code y_Do_liveWith b_Do_liveWith 4 (some .int) ∈ hw_G := hw_in 497 (by decide +kernel) rfl
theorem gy_Do_liveWith : GoodIn hw_G ([.instanceMethod y_Do_liveWith, .selects R_Do y_Do_liveWith y_Do_liveWith, .initialized R_Do] ++ (.code y_Do_liveWith b_Do_liveWith 4 (some .int) :: hw_G)) := hw_g3 iw_454 iw_m10 iw_2 (hw_gc ic_Do_liveWith)
theorem ic_Do_measure : Cond.code y_Do_measure b_Do_measure 4 none ∈ hw_G := hw_in 268 (by decide +kernel) rfl
theorem gy_Do_measure : GoodIn hw_G ([.instanceMethod y_Do_measure, .selects R_Do y_Do_measure y_Do_measure, .initialized R_Do] ++ (.code y_Do_measure b_Do_measure 4 none :: hw_G)) := hw_g3 iw_224 iw_225 iw_2 (hw_gc ic_Do_measure)
theorem ic_Do_rankByDistance : Cond.code y_Do_rankByDistance b_Do_rankByDistance 4 none ∈ hw_G := hw_in 480 (by decide +kernel) rfl
theorem gy_Do_rankByDistance : GoodIn hw_G ([.instanceMethod y_Do_rankByDistance, .selects R_Do y_Do_rankByDistance y_Do_rankByDistance, .initialized R_Do] ++ (.code y_Do_rankByDistance b_Do_rankByDistance 4 none :: hw_G)) := hw_g3 iw_436 iw_437 iw_2 (hw_gc ic_Do_rankByDistance)
theorem ic_Do_rankByScore : Cond.code y_Do_rankByScore b_Do_rankByScore 5 none ∈ hw_G := hw_in 489 (by decide +kernel) rfl
theorem gy_Do_rankByScore : GoodIn hw_G ([.instanceMethod y_Do_rankByScore, .selects R_Do y_Do_rankByScore y_Do_rankByScore, .initialized R_Do] ++ (.code y_Do_rankByScore b_Do_rankByScore 5 none :: hw_G)) := hw_g3 iw_445 iw_446 iw_2 (hw_gc ic_Do_rankByScore)
theorem ic_Do_retire : Cond.code y_Do_retire b_Do_retire 2 (some .boolean) ∈ hw_G := hw_in 415 (by decide +kernel) rfl
theorem gy_Do_retire : GoodIn hw_G ([.instanceMethod y_Do_retire, .selects R_Do y_Do_retire y_Do_retire, .initialized R_Do] ++ (.code y_Do_retire b_Do_retire 2 (some .boolean) :: hw_G)) := hw_g3 iw_371 iw_372 iw_2 (hw_gc ic_Do_retire)
theorem ic_Do_score : Cond.code y_Do_score b_Do_score 6 (some .int) ∈ hw_G := hw_in 506 (by decide +kernel) rfl
theorem gy_Do_score : GoodIn hw_G ([.instanceMethod y_Do_score, .selects R_Do y_Do_score y_Do_score, .initialized R_Do] ++ (.code y_Do_score b_Do_score 6 (some .int) :: hw_G)) := hw_g3 iw_463 iw_m12 iw_2 (hw_gc ic_Do_score)
theorem ic_Do_store : Cond.code y_Do_store b_Do_store 7 none ∈ hw_G := hw_in 238 (by decide +kernel) rfl
theorem gy_Do_store : GoodIn hw_G ([.instanceMethod y_Do_store, .selects R_Do y_Do_store y_Do_store, .initialized R_Do] ++ (.code y_Do_store b_Do_store 7 none :: hw_G)) := hw_g3 iw_194 iw_195 iw_2 (hw_gc ic_Do_store)
theorem ic_Do_vector : Cond.code y_Do_vector b_Do_vector 2 (some (.array .int)) ∈ hw_G := hw_in 260 (by decide +kernel) rfl
theorem gy_Do_vector : GoodIn hw_G ([.instanceMethod y_Do_vector, .selects R_Do y_Do_vector y_Do_vector, .initialized R_Do] ++ (.code y_Do_vector b_Do_vector 2 (some (.array .int)) :: hw_G)) := hw_g3 iw_216 iw_217 iw_2 (hw_gc ic_Do_vector)
theorem ic_Do_weighWords : Cond.code y_Do_weighWords b_Do_weighWords 3 none ∈ hw_G := hw_in 493 (by decide +kernel) rfl
theorem gy_Do_weighWords : GoodIn hw_G ([.instanceMethod y_Do_weighWords, .selects R_Do y_Do_weighWords y_Do_weighWords, .initialized R_Do] ++ (.code y_Do_weighWords b_Do_weighWords 3 none :: hw_G)) := hw_g3 iw_450 iw_m9 iw_2 (hw_gc ic_Do_weighWords)
theorem ic_Gr_clear : Cond.code y_Gr_clear b_Gr_clear 1 none ∈ hw_G := hw_in 440 (by decide +kernel) rfl
theorem gy_Gr_clear : GoodIn hw_G ([.instanceMethod y_Gr_clear, .selects R_Gr y_Gr_clear y_Gr_clear, .initialized R_Gr] ++ (.code y_Gr_clear b_Gr_clear 1 none :: hw_G)) := hw_g3 iw_396 iw_397 iw_3 (hw_gc ic_Gr_clear)
theorem ic_Gr_enter : Cond.code y_Gr_enter b_Gr_enter 6 none ∈ hw_G := hw_in 245 (by decide +kernel) rfl
theorem gy_Gr_enter : GoodIn hw_G ([.instanceMethod y_Gr_enter, .selects R_Gr y_Gr_enter y_Gr_enter, .initialized R_Gr] ++ (.code y_Gr_enter b_Gr_enter 6 none :: hw_G)) := hw_g3 iw_201 iw_202 iw_3 (hw_gc ic_Gr_enter)
theorem ic_Gr_entry : Cond.code y_Gr_entry b_Gr_entry 1 (some .int) ∈ hw_G := hw_in 568 (by decide +kernel) rfl
theorem gy_Gr_entry : GoodIn hw_G ([.instanceMethod y_Gr_entry, .selects R_Gr y_Gr_entry y_Gr_entry, .initialized R_Gr] ++ (.code y_Gr_entry b_Gr_entry 1 (some .int) :: hw_G)) := hw_g3 iw_524 iw_525 iw_3 (hw_gc ic_Gr_entry)
theorem ic_Gr_link : Cond.code y_Gr_link b_Gr_link 6 none ∈ hw_G := hw_in 355 (by decide +kernel) rfl
theorem gy_Gr_link : GoodIn hw_G ([.instanceMethod y_Gr_link, .selects R_Gr y_Gr_link y_Gr_link, .initialized R_Gr] ++ (.code y_Gr_link b_Gr_link 6 none :: hw_G)) := hw_g3 iw_312 iw_m4 iw_3 (hw_gc ic_Gr_link)
theorem ic_Gr_search : Cond.code y_Gr_search b_Gr_search 5 (some (.object "NearDesk$Ranking")) ∈ hw_G := hw_in 464 (by decide +kernel) rfl
theorem gy_Gr_search : GoodIn hw_G ([.instanceMethod y_Gr_search, .selects R_Gr y_Gr_search y_Gr_search, .initialized R_Gr] ++ (.code y_Gr_search b_Gr_search 5 (some (.object "NearDesk$Ranking")) :: hw_G)) := hw_g3 iw_420 iw_421 iw_3 (hw_gc ic_Gr_search)
theorem ic_Gr_seenInEntering : Cond.code y_Gr_seenInEntering b_Gr_seenInEntering 1 (some .int) ∈ hw_G := hw_in 577 (by decide +kernel) rfl
theorem gy_Gr_seenInEntering : GoodIn hw_G ([.instanceMethod y_Gr_seenInEntering, .selects R_Gr y_Gr_seenInEntering y_Gr_seenInEntering, .initialized R_Gr] ++ (.code y_Gr_seenInEntering b_Gr_seenInEntering 1 (some .int) :: hw_G)) := hw_g3 iw_533 iw_534 iw_3 (hw_gc ic_Gr_seenInEntering)
theorem ic_Gr_seenInSearches : Cond.code y_Gr_seenInSearches b_Gr_seenInSearches 1 (some .int) ∈ hw_G := hw_in 573 (by decide +kernel) rfl
theorem gy_Gr_seenInSearches : GoodIn hw_G ([.instanceMethod y_Gr_seenInSearches, .selects R_Gr y_Gr_seenInSearches y_Gr_seenInSearches, .initialized R_Gr] ++ (.code y_Gr_seenInSearches b_Gr_seenInSearches 1 (some .int) :: hw_G)) := hw_g3 iw_529 iw_530 iw_3 (hw_gc ic_Gr_seenInSearches)
theorem ic_Gr_shorten : Cond.code y_Gr_shorten b_Gr_shorten 6 none ∈ hw_G := hw_in 404 (by decide +kernel) rfl
theorem gy_Gr_shorten : GoodIn hw_G ([.instanceMethod y_Gr_shorten, .selects R_Gr y_Gr_shorten y_Gr_shorten, .initialized R_Gr] ++ (.code y_Gr_shorten b_Gr_shorten 6 none :: hw_G)) := hw_g3 iw_361 iw_m7 iw_3 (hw_gc ic_Gr_shorten)
theorem ic_Gr_top : Cond.code y_Gr_top b_Gr_top 1 (some .int) ∈ hw_G := hw_in 294 (by decide +kernel) rfl
theorem gy_Gr_top : GoodIn hw_G ([.instanceMethod y_Gr_top, .selects R_Gr y_Gr_top y_Gr_top, .initialized R_Gr] ++ (.code y_Gr_top b_Gr_top 1 (some .int) :: hw_G)) := hw_g3 iw_250 iw_251 iw_3 (hw_gc ic_Gr_top)
theorem ic_In_bitCount : Cond.code y_In_bitCount b_In_bitCount 1 (some .int) ∈ hw_G := hw_in 348 (by decide +kernel) rfl
theorem gs_In_bitCount : GoodIn hw_G ([.static y_In_bitCount, .initialized R_In] ++ (.code y_In_bitCount b_In_bitCount 1 (some .int) :: hw_G)) := hw_g2 iw_305 iw_10 (hw_gc ic_In_bitCount)
theorem ic_Li_addNode : Cond.code y_Li_addNode b_Li_addNode 3 none ∈ hw_G := hw_in 249 (by decide +kernel) rfl
theorem gy_Li_addNode : GoodIn hw_G ([.instanceMethod y_Li_addNode, .selects R_Li y_Li_addNode y_Li_addNode, .initialized R_Li] ++ (.code y_Li_addNode b_Li_addNode 3 none :: hw_G)) := hw_g3 iw_205 iw_206 iw_4 (hw_gc ic_Li_addNode)
theorem ic_Li_append : Cond.code y_Li_append b_Li_append 5 none ∈ hw_G := hw_in 393 (by decide +kernel) rfl
theorem gy_Li_append : GoodIn hw_G ([.instanceMethod y_Li_append, .selects R_Li y_Li_append y_Li_append, .initialized R_Li] ++ (.code y_Li_append b_Li_append 5 none :: hw_G)) := hw_g3 iw_349 iw_350 iw_4 (hw_gc ic_Li_append)
theorem ic_Li_clear : Cond.code y_Li_clear b_Li_clear 2 none ∈ hw_G := hw_in 444 (by decide +kernel) rfl
theorem gy_Li_clear : GoodIn hw_G ([.instanceMethod y_Li_clear, .selects R_Li y_Li_clear y_Li_clear, .initialized R_Li] ++ (.code y_Li_clear b_Li_clear 2 none :: hw_G)) := hw_g3 iw_400 iw_401 iw_4 (hw_gc ic_Li_clear)
theorem ic_Li_degree : Cond.code y_Li_degree b_Li_degree 3 (some .int) ∈ hw_G := hw_in 338 (by decide +kernel) rfl
theorem gy_Li_degree : GoodIn hw_G ([.instanceMethod y_Li_degree, .selects R_Li y_Li_degree y_Li_degree, .initialized R_Li] ++ (.code y_Li_degree b_Li_degree 3 (some .int) :: hw_G)) := hw_g3 iw_294 iw_295 iw_4 (hw_gc ic_Li_degree)
theorem ic_Li_freeNumber : Cond.code y_Li_freeNumber b_Li_freeNumber 2 (some .int) ∈ hw_G := hw_in 234 (by decide +kernel) rfl
theorem gy_Li_freeNumber : GoodIn hw_G ([.instanceMethod y_Li_freeNumber, .selects R_Li y_Li_freeNumber y_Li_freeNumber, .initialized R_Li] ++ (.code y_Li_freeNumber b_Li_freeNumber 2 (some .int) :: hw_G)) := hw_g3 iw_190 iw_191 iw_4 (hw_gc ic_Li_freeNumber)
theorem ic_Li_isInLayer : Cond.code y_Li_isInLayer b_Li_isInLayer 3 (some .boolean) ∈ hw_G := hw_in 539 (by decide +kernel) rfl
theorem gy_Li_isInLayer : GoodIn hw_G ([.instanceMethod y_Li_isInLayer, .selects R_Li y_Li_isInLayer y_Li_isInLayer, .initialized R_Li] ++ (.code y_Li_isInLayer b_Li_isInLayer 3 (some .boolean) :: hw_G)) := hw_g3 iw_495 iw_496 iw_4 (hw_gc ic_Li_isInLayer)
theorem ic_Li_isLinked : Cond.code y_Li_isLinked b_Li_isLinked 4 (some .boolean) ∈ hw_G := hw_in 599 (by decide +kernel) rfl
theorem gy_Li_isLinked : GoodIn hw_G ([.instanceMethod y_Li_isLinked, .selects R_Li y_Li_isLinked y_Li_isLinked, .initialized R_Li] ++ (.code y_Li_isLinked b_Li_isLinked 4 (some .boolean) :: hw_G)) := hw_g3 iw_556 iw_m18 iw_4 (hw_gc ic_Li_isLinked)
theorem ic_Li_isNode : Cond.code y_Li_isNode b_Li_isNode 2 (some .boolean) ∈ hw_G := hw_in 534 (by decide +kernel) rfl
theorem gy_Li_isNode : GoodIn hw_G ([.instanceMethod y_Li_isNode, .selects R_Li y_Li_isNode y_Li_isNode, .initialized R_Li] ++ (.code y_Li_isNode b_Li_isNode 2 (some .boolean) :: hw_G)) := hw_g3 iw_490 iw_491 iw_4 (hw_gc ic_Li_isNode)
theorem ic_Li_level : Cond.code y_Li_level b_Li_level 2 (some .int) ∈ hw_G := hw_in 256 (by decide +kernel) rfl
theorem gy_Li_level : GoodIn hw_G ([.instanceMethod y_Li_level, .selects R_Li y_Li_level y_Li_level, .initialized R_Li] ++ (.code y_Li_level b_Li_level 2 (some .int) :: hw_G)) := hw_g3 iw_212 iw_213 iw_4 (hw_gc ic_Li_level)
theorem ic_Li_levelOf : Cond.code y_Li_levelOf b_Li_levelOf 3 (some .int) ∈ hw_G := hw_in 252 (by decide +kernel) rfl
theorem gs_Li_levelOf : GoodIn hw_G ([.static y_Li_levelOf, .initialized R_Li] ++ (.code y_Li_levelOf b_Li_levelOf 3 (some .int) :: hw_G)) := hw_g2 iw_209 iw_4 (hw_gc ic_Li_levelOf)
theorem ic_Li_linked : Cond.code y_Li_linked b_Li_linked 4 (some .int) ∈ hw_G := hw_in 342 (by decide +kernel) rfl
theorem gy_Li_linked : GoodIn hw_G ([.instanceMethod y_Li_linked, .selects R_Li y_Li_linked y_Li_linked, .initialized R_Li] ++ (.code y_Li_linked b_Li_linked 4 (some .int) :: hw_G)) := hw_g3 iw_298 iw_299 iw_4 (hw_gc ic_Li_linked)
theorem ic_Li_most : Cond.code y_Li_most b_Li_most 2 (some .int) ∈ hw_G := hw_in 400 (by decide +kernel) rfl
theorem gy_Li_most : GoodIn hw_G ([.instanceMethod y_Li_most, .selects R_Li y_Li_most y_Li_most, .initialized R_Li] ++ (.code y_Li_most b_Li_most 2 (some .int) :: hw_G)) := hw_g3 iw_356 iw_357 iw_4 (hw_gc ic_Li_most)
theorem ic_Li_oneSidedPairs : Cond.code y_Li_oneSidedPairs b_Li_oneSidedPairs 3 (some .int) ∈ hw_G := hw_in 589 (by decide +kernel) rfl
theorem gy_Li_oneSidedPairs : GoodIn hw_G ([.instanceMethod y_Li_oneSidedPairs, .selects R_Li y_Li_oneSidedPairs y_Li_oneSidedPairs, .initialized R_Li] ++ (.code y_Li_oneSidedPairs b_Li_oneSidedPairs 3 (some .int) :: hw_G)) := hw_g3 iw_545 iw_546 iw_4 (hw_gc ic_Li_oneSidedPairs)
theorem ic_Li_order : Cond.code y_Li_order b_Li_order 2 (some .int) ∈ hw_G := hw_in 547 (by decide +kernel) rfl
theorem gy_Li_order : GoodIn hw_G ([.instanceMethod y_Li_order, .selects R_Li y_Li_order y_Li_order, .initialized R_Li] ++ (.code y_Li_order b_Li_order 2 (some .int) :: hw_G)) := hw_g3 iw_503 iw_504 iw_4 (hw_gc ic_Li_order)
theorem ic_Li_reachedFrom : Cond.code y_Li_reachedFrom b_Li_reachedFrom 7 (some .int) ∈ hw_G := hw_in 603 (by decide +kernel) rfl
theorem gy_Li_reachedFrom : GoodIn hw_G ([.instanceMethod y_Li_reachedFrom, .selects R_Li y_Li_reachedFrom y_Li_reachedFrom, .initialized R_Li] ++ (.code y_Li_reachedFrom b_Li_reachedFrom 7 (some .int) :: hw_G)) := hw_g3 iw_559 iw_560 iw_4 (hw_gc ic_Li_reachedFrom)
theorem ic_Li_replace : Cond.code y_Li_replace b_Li_replace 5 none ∈ hw_G := hw_in 381 (by decide +kernel) rfl
theorem gy_Li_replace : GoodIn hw_G ([.instanceMethod y_Li_replace, .selects R_Li y_Li_replace y_Li_replace, .initialized R_Li] ++ (.code y_Li_replace b_Li_replace 5 none :: hw_G)) := hw_g3 iw_337 iw_338 iw_4 (hw_gc ic_Li_replace)
theorem ic_Li_size : Cond.code y_Li_size b_Li_size 1 (some .int) ∈ hw_G := hw_in 431 (by decide +kernel) rfl
theorem gy_Li_size : GoodIn hw_G ([.instanceMethod y_Li_size, .selects R_Li y_Li_size y_Li_size, .initialized R_Li] ++ (.code y_Li_size b_Li_size 1 (some .int) :: hw_G)) := hw_g3 iw_387 iw_388 iw_4 (hw_gc ic_Li_size)
theorem ic_Li_unreturned : Cond.code y_Li_unreturned b_Li_unreturned 4 (some .int) ∈ hw_G := hw_in 593 (by decide +kernel) rfl
theorem gy_Li_unreturned : GoodIn hw_G ([.instanceMethod y_Li_unreturned, .selects R_Li y_Li_unreturned y_Li_unreturned, .initialized R_Li] ++ (.code y_Li_unreturned b_Li_unreturned 4 (some .int) :: hw_G)) := hw_g3 iw_550 iw_m17 iw_4 (hw_gc ic_Li_unreturned)
theorem ic_Mo_aimAsked : Cond.code y_Mo_aimAsked b_Mo_aimAsked 2 none ∈ hw_G := hw_in 783 (by decide +kernel) rfl
theorem gy_Mo_aimAsked : GoodIn hw_G ([.instanceMethod y_Mo_aimAsked, .selects R_Mo y_Mo_aimAsked y_Mo_aimAsked, .initialized R_Mo] ++ (.code y_Mo_aimAsked b_Mo_aimAsked 2 none :: hw_G)) := hw_g3 iw_740 iw_m33 iw_8 (hw_gc ic_Mo_aimAsked)
theorem ic_Mo_aimAt : Cond.code y_Mo_aimAt b_Mo_aimAt 3 none ∈ hw_G := hw_in 712 (by decide +kernel) rfl
theorem gy_Mo_aimAt : GoodIn hw_G ([.instanceMethod y_Mo_aimAt, .selects R_Mo y_Mo_aimAt y_Mo_aimAt, .initialized R_Mo] ++ (.code y_Mo_aimAt b_Mo_aimAt 3 none :: hw_G)) := hw_g3 iw_669 iw_m20 iw_8 (hw_gc ic_Mo_aimAt)
theorem ic_Mo_best : Cond.code y_Mo_best b_Mo_best 4 (some .int) ∈ hw_G := hw_in 807 (by decide +kernel) rfl
theorem gy_Mo_best : GoodIn hw_G ([.instanceMethod y_Mo_best, .selects R_Mo y_Mo_best y_Mo_best, .initialized R_Mo] ++ (.code y_Mo_best b_Mo_best 4 (some .int) :: hw_G)) := hw_g3 iw_764 iw_m37 iw_8 (hw_gc ic_Mo_best)
theorem ic_Mo_between : Cond.code y_Mo_between b_Mo_between 5 (some .int) ∈ hw_G := hw_in 751 (by decide +kernel) rfl
theorem gy_Mo_between : GoodIn hw_G ([.instanceMethod y_Mo_between, .selects R_Mo y_Mo_between y_Mo_between, .initialized R_Mo] ++ (.code y_Mo_between b_Mo_between 5 (some .int) :: hw_G)) := hw_g3 iw_708 iw_m29 iw_8 (hw_gc ic_Mo_between)
theorem ic_Mo_choose : Cond.code y_Mo_choose b_Mo_choose 6 none ∈ hw_G := hw_in 747 (by decide +kernel) rfl
theorem gy_Mo_choose : GoodIn hw_G ([.instanceMethod y_Mo_choose, .selects R_Mo y_Mo_choose y_Mo_choose, .initialized R_Mo] ++ (.code y_Mo_choose b_Mo_choose 6 none :: hw_G)) := hw_g3 iw_704 iw_m28 iw_8 (hw_gc ic_Mo_choose)
theorem ic_Mo_countOf : Cond.code y_Mo_countOf b_Mo_countOf 3 (some .int) ∈ hw_G := hw_in 803 (by decide +kernel) rfl
theorem gy_Mo_countOf : GoodIn hw_G ([.instanceMethod y_Mo_countOf, .selects R_Mo y_Mo_countOf y_Mo_countOf, .initialized R_Mo] ++ (.code y_Mo_countOf b_Mo_countOf 3 (some .int) :: hw_G)) := hw_g3 iw_760 iw_m36 iw_8 (hw_gc ic_Mo_countOf)
theorem ic_Mo_enter : Cond.code y_Mo_enter b_Mo_enter 5 none ∈ hw_G := hw_in 708 (by decide +kernel) rfl
theorem gy_Mo_enter : GoodIn hw_G ([.instanceMethod y_Mo_enter, .selects R_Mo y_Mo_enter y_Mo_enter, .initialized R_Mo] ++ (.code y_Mo_enter b_Mo_enter 5 none :: hw_G)) := hw_g3 iw_665 iw_m19 iw_8 (hw_gc ic_Mo_enter)
theorem ic_Mo_far : Cond.code y_Mo_far b_Mo_far 4 (some .int) ∈ hw_G := hw_in 731 (by decide +kernel) rfl
theorem gy_Mo_far : GoodIn hw_G ([.instanceMethod y_Mo_far, .selects R_Mo y_Mo_far y_Mo_far, .initialized R_Mo] ++ (.code y_Mo_far b_Mo_far 4 (some .int) :: hw_G)) := hw_g3 iw_688 iw_m24 iw_8 (hw_gc ic_Mo_far)
theorem ic_Mo_farthest : Cond.code y_Mo_farthest b_Mo_farthest 4 (some .int) ∈ hw_G := hw_in 723 (by decide +kernel) rfl
theorem gy_Mo_farthest : GoodIn hw_G ([.instanceMethod y_Mo_farthest, .selects R_Mo y_Mo_farthest y_Mo_farthest, .initialized R_Mo] ++ (.code y_Mo_farthest b_Mo_farthest 4 (some .int) :: hw_G)) := hw_g3 iw_680 iw_m22 iw_8 (hw_gc ic_Mo_farthest)
theorem ic_Mo_in : Cond.code y_Mo_in b_Mo_in 3 (some .boolean) ∈ hw_G := hw_in 703 (by decide +kernel) rfl
theorem gs_Mo_in : GoodIn hw_G ([.static y_Mo_in, .initialized R_Mo] ++ (.code y_Mo_in b_Mo_in 3 (some .boolean) :: hw_G)) := hw_g2 iw_660 iw_8 (hw_gc ic_Mo_in)
theorem ic_Mo_isNearer : Cond.code y_Mo_isNearer b_Mo_isNearer 3 (some .boolean) ∈ hw_G := hw_in 727 (by decide +kernel) rfl
theorem gy_Mo_isNearer : GoodIn hw_G ([.instanceMethod y_Mo_isNearer, .selects R_Mo y_Mo_isNearer y_Mo_isNearer, .initialized R_Mo] ++ (.code y_Mo_isNearer b_Mo_isNearer 3 (some .boolean) :: hw_G)) := hw_g3 iw_684 iw_m23 iw_8 (hw_gc ic_Mo_isNearer)
theorem ic_Mo_isNeighbour : Cond.code y_Mo_isNeighbour b_Mo_isNeighbour 4 (some .boolean) ∈ hw_G := hw_in 843 (by decide +kernel) rfl
theorem gy_Mo_isNeighbour : GoodIn hw_G ([.instanceMethod y_Mo_isNeighbour, .selects R_Mo y_Mo_isNeighbour y_Mo_isNeighbour, .initialized R_Mo] ++ (.code y_Mo_isNeighbour b_Mo_isNeighbour 4 (some .boolean) :: hw_G)) := hw_g3 iw_800 iw_m41 iw_8 (hw_gc ic_Mo_isNeighbour)
theorem ic_Mo_look : Cond.code y_Mo_look b_Mo_look 3 none ∈ hw_G := hw_in 739 (by decide +kernel) rfl
theorem gy_Mo_look : GoodIn hw_G ([.instanceMethod y_Mo_look, .selects R_Mo y_Mo_look y_Mo_look, .initialized R_Mo] ++ (.code y_Mo_look b_Mo_look 3 none :: hw_G)) := hw_g3 iw_696 iw_m26 iw_8 (hw_gc ic_Mo_look)
theorem ic_Mo_nearest : Cond.code y_Mo_nearest b_Mo_nearest 4 (some .int) ∈ hw_G := hw_in 735 (by decide +kernel) rfl
theorem gy_Mo_nearest : GoodIn hw_G ([.instanceMethod y_Mo_nearest, .selects R_Mo y_Mo_nearest y_Mo_nearest, .initialized R_Mo] ++ (.code y_Mo_nearest b_Mo_nearest 4 (some .int) :: hw_G)) := hw_g3 iw_692 iw_m25 iw_8 (hw_gc ic_Mo_nearest)
theorem ic_Mo_oneSided : Cond.code y_Mo_oneSided b_Mo_oneSided 4 (some .int) ∈ hw_G := hw_in 839 (by decide +kernel) rfl
theorem gy_Mo_oneSided : GoodIn hw_G ([.instanceMethod y_Mo_oneSided, .selects R_Mo y_Mo_oneSided y_Mo_oneSided, .initialized R_Mo] ++ (.code y_Mo_oneSided b_Mo_oneSided 4 (some .int) :: hw_G)) := hw_g3 iw_796 iw_m40 iw_8 (hw_gc ic_Mo_oneSided)
theorem ic_Mo_pick : Cond.code y_Mo_pick b_Mo_pick 2 none ∈ hw_G := hw_in 755 (by decide +kernel) rfl
theorem gy_Mo_pick : GoodIn hw_G ([.instanceMethod y_Mo_pick, .selects R_Mo y_Mo_pick y_Mo_pick, .initialized R_Mo] ++ (.code y_Mo_pick b_Mo_pick 2 none :: hw_G)) := hw_g3 iw_712 iw_m30 iw_8 (hw_gc ic_Mo_pick)
theorem ic_Mo_placeOf : Cond.code y_Mo_placeOf b_Mo_placeOf 4 (some .int) ∈ hw_G := hw_in 811 (by decide +kernel) rfl
theorem gy_Mo_placeOf : GoodIn hw_G ([.instanceMethod y_Mo_placeOf, .selects R_Mo y_Mo_placeOf y_Mo_placeOf, .initialized R_Mo] ++ (.code y_Mo_placeOf b_Mo_placeOf 4 (some .int) :: hw_G)) := hw_g3 iw_768 iw_m38 iw_8 (hw_gc ic_Mo_placeOf)
theorem ic_Mo_reached : Cond.code y_Mo_reached b_Mo_reached 4 (some .int) ∈ hw_G := hw_in 847 (by decide +kernel) rfl
theorem gy_Mo_reached : GoodIn hw_G ([.instanceMethod y_Mo_reached, .selects R_Mo y_Mo_reached y_Mo_reached, .initialized R_Mo] ++ (.code y_Mo_reached b_Mo_reached 4 (some .int) :: hw_G)) := hw_g3 iw_804 iw_m42 iw_8 (hw_gc ic_Mo_reached)
theorem ic_Mo_right : Cond.code y_Mo_right b_Mo_right 5 (some .int) ∈ hw_G := hw_in 835 (by decide +kernel) rfl
theorem gy_Mo_right : GoodIn hw_G ([.instanceMethod y_Mo_right, .selects R_Mo y_Mo_right y_Mo_right, .initialized R_Mo] ++ (.code y_Mo_right b_Mo_right 5 (some .int) :: hw_G)) := hw_g3 iw_792 iw_m39 iw_8 (hw_gc ic_Mo_right)
theorem ic_Mo_score : Cond.code y_Mo_score b_Mo_score 3 none ∈ hw_G := hw_in 795 (by decide +kernel) rfl
theorem gy_Mo_score : GoodIn hw_G ([.instanceMethod y_Mo_score, .selects R_Mo y_Mo_score y_Mo_score, .initialized R_Mo] ++ (.code y_Mo_score b_Mo_score 3 none :: hw_G)) := hw_g3 iw_752 iw_m34 iw_8 (hw_gc ic_Mo_score)
theorem ic_Mo_scoreOf : Cond.code y_Mo_scoreOf b_Mo_scoreOf 9 (some .int) ∈ hw_G := hw_in 799 (by decide +kernel) rfl
theorem gy_Mo_scoreOf : GoodIn hw_G ([.instanceMethod y_Mo_scoreOf, .selects R_Mo y_Mo_scoreOf y_Mo_scoreOf, .initialized R_Mo] ++ (.code y_Mo_scoreOf b_Mo_scoreOf 9 (some .int) :: hw_G)) := hw_g3 iw_756 iw_m35 iw_8 (hw_gc ic_Mo_scoreOf)
theorem ic_Mo_search : Cond.code y_Mo_search b_Mo_search 4 none ∈ hw_G := hw_in 779 (by decide +kernel) rfl
theorem gy_Mo_search : GoodIn hw_G ([.instanceMethod y_Mo_search, .selects R_Mo y_Mo_search y_Mo_search, .initialized R_Mo] ++ (.code y_Mo_search b_Mo_search 4 none :: hw_G)) := hw_g3 iw_736 iw_m32 iw_8 (hw_gc ic_Mo_search)
theorem ic_Mo_size : Cond.code y_Mo_size b_Mo_size 3 (some .int) ∈ hw_G := hw_in 719 (by decide +kernel) rfl
theorem gs_Mo_size : GoodIn hw_G ([.static y_Mo_size, .initialized R_Mo] ++ (.code y_Mo_size b_Mo_size 3 (some .int) :: hw_G)) := hw_g2 iw_676 iw_8 (hw_gc ic_Mo_size)
theorem ic_Mo_take : Cond.code y_Mo_take b_Mo_take 3 none ∈ hw_G := hw_in 759 (by decide +kernel) rfl
theorem gy_Mo_take : GoodIn hw_G ([.instanceMethod y_Mo_take, .selects R_Mo y_Mo_take y_Mo_take, .initialized R_Mo] ++ (.code y_Mo_take b_Mo_take 3 none :: hw_G)) := hw_g3 iw_716 iw_m31 iw_8 (hw_gc ic_Mo_take)
theorem ic_Mo_tie : Cond.code y_Mo_tie b_Mo_tie 8 none ∈ hw_G := hw_in 743 (by decide +kernel) rfl
theorem gy_Mo_tie : GoodIn hw_G ([.instanceMethod y_Mo_tie, .selects R_Mo y_Mo_tie y_Mo_tie, .initialized R_Mo] ++ (.code y_Mo_tie b_Mo_tie 8 none :: hw_G)) := hw_g3 iw_700 iw_m27 iw_8 (hw_gc ic_Mo_tie)
theorem ic_Mo_walk : Cond.code y_Mo_walk b_Mo_walk 7 (some .int) ∈ hw_G := hw_in 716 (by decide +kernel) rfl
theorem gy_Mo_walk : GoodIn hw_G ([.instanceMethod y_Mo_walk, .selects R_Mo y_Mo_walk y_Mo_walk, .initialized R_Mo] ++ (.code y_Mo_walk b_Mo_walk 7 (some .int) :: hw_G)) := hw_g3 iw_673 iw_m21 iw_8 (hw_gc ic_Mo_walk)
theorem ic_Nd_addPoints : Cond.code y_Nd_addPoints b_Nd_addPoints 3 none ∈ hw_G := hw_in 518 (by decide +kernel) rfl
theorem gy_Nd_addPoints : GoodIn hw_G ([.instanceMethod y_Nd_addPoints, .selects R_Nd y_Nd_addPoints y_Nd_addPoints, .initialized R_Nd] ++ (.code y_Nd_addPoints b_Nd_addPoints 3 none :: hw_G)) := hw_g3 iw_475 iw_m14 iw_1 (hw_gc ic_Nd_addPoints)
theorem ic_Nd_clearPoints : Cond.code y_Nd_clearPoints b_Nd_clearPoints 2 none ∈ hw_G := hw_in 514 (by decide +kernel) rfl
theorem gy_Nd_clearPoints : GoodIn hw_G ([.instanceMethod y_Nd_clearPoints, .selects R_Nd y_Nd_clearPoints y_Nd_clearPoints, .initialized R_Nd] ++ (.code y_Nd_clearPoints b_Nd_clearPoints 2 none :: hw_G)) := hw_g3 iw_471 iw_m13 iw_1 (hw_gc ic_Nd_clearPoints)
theorem ic_Nd_distance : Cond.code y_Nd_distance b_Nd_distance 5 (some .int) ∈ hw_G := hw_in 271 (by decide +kernel) rfl
theorem gs_Nd_distance : GoodIn hw_G ([.static y_Nd_distance, .initialized R_Nd] ++ (.code y_Nd_distance b_Nd_distance 5 (some .int) :: hw_G)) := hw_g2 iw_228 iw_1 (hw_gc ic_Nd_distance)
theorem ic_Nd_foundAmongNearest : Cond.code y_Nd_foundAmongNearest b_Nd_foundAmongNearest 3 (some .int) ∈ hw_G := hw_in 581 (by decide +kernel) rfl
theorem gy_Nd_foundAmongNearest : GoodIn hw_G ([.instanceMethod y_Nd_foundAmongNearest, .selects R_Nd y_Nd_foundAmongNearest y_Nd_foundAmongNearest, .initialized R_Nd] ++ (.code y_Nd_foundAmongNearest b_Nd_foundAmongNearest 3 (some .int) :: hw_G)) := hw_g3 iw_538 iw_m16 iw_1 (hw_gc ic_Nd_foundAmongNearest)
theorem ic_Nd_isCoordinate : Cond.code y_Nd_isCoordinate b_Nd_isCoordinate 1 (some .boolean) ∈ hw_G := hw_in 226 (by decide +kernel) rfl
theorem gs_Nd_isCoordinate : GoodIn hw_G ([.static y_Nd_isCoordinate, .initialized R_Nd] ++ (.code y_Nd_isCoordinate b_Nd_isCoordinate 1 (some .boolean) :: hw_G)) := hw_g2 iw_183 iw_1 (hw_gc ic_Nd_isCoordinate)
theorem ic_Nd_isDocumentNumber : Cond.code y_Nd_isDocumentNumber b_Nd_isDocumentNumber 1 (some .boolean) ∈ hw_G := hw_in 422 (by decide +kernel) rfl
theorem gs_Nd_isDocumentNumber : GoodIn hw_G ([.static y_Nd_isDocumentNumber, .initialized R_Nd] ++ (.code y_Nd_isDocumentNumber b_Nd_isDocumentNumber 1 (some .boolean) :: hw_G)) := hw_g2 iw_379 iw_1 (hw_gc ic_Nd_isDocumentNumber)
theorem ic_Nd_isIn : Cond.code y_Nd_isIn b_Nd_isIn 2 (some .boolean) ∈ hw_G := hw_in 345 (by decide +kernel) rfl
theorem gs_Nd_isIn : GoodIn hw_G ([.static y_Nd_isIn, .initialized R_Nd] ++ (.code y_Nd_isIn b_Nd_isIn 2 (some .boolean) :: hw_G)) := hw_g2 iw_302 iw_1 (hw_gc ic_Nd_isIn)
theorem ic_Nd_isVector : Cond.code y_Nd_isVector b_Nd_isVector 4 (some .boolean) ∈ hw_G := hw_in 223 (by decide +kernel) rfl
theorem gs_Nd_isVector : GoodIn hw_G ([.static y_Nd_isVector, .initialized R_Nd] ++ (.code y_Nd_isVector b_Nd_isVector 4 (some .boolean) :: hw_G)) := hw_g2 iw_180 iw_1 (hw_gc ic_Nd_isVector)
theorem ic_Nd_isWithin : Cond.code y_Nd_isWithin b_Nd_isWithin 3 (some .boolean) ∈ hw_G := hw_in 229 (by decide +kernel) rfl
theorem gs_Nd_isWithin : GoodIn hw_G ([.static y_Nd_isWithin, .initialized R_Nd] ++ (.code y_Nd_isWithin b_Nd_isWithin 3 (some .boolean) :: hw_G)) := hw_g2 iw_186 iw_1 (hw_gc ic_Nd_isWithin)
theorem ic_Nd_rankByPoints : Cond.code y_Nd_rankByPoints b_Nd_rankByPoints 3 none ∈ hw_G := hw_in 522 (by decide +kernel) rfl
theorem gy_Nd_rankByPoints : GoodIn hw_G ([.instanceMethod y_Nd_rankByPoints, .selects R_Nd y_Nd_rankByPoints y_Nd_rankByPoints, .initialized R_Nd] ++ (.code y_Nd_rankByPoints b_Nd_rankByPoints 3 none :: hw_G)) := hw_g3 iw_479 iw_m15 iw_1 (hw_gc ic_Nd_rankByPoints)
theorem ic_Nd_searchInto : Cond.code y_Nd_searchInto b_Nd_searchInto 6 none ∈ hw_G := hw_in 460 (by decide +kernel) rfl
theorem gy_Nd_searchInto : GoodIn hw_G ([.instanceMethod y_Nd_searchInto, .selects R_Nd y_Nd_searchInto y_Nd_searchInto, .initialized R_Nd] ++ (.code y_Nd_searchInto b_Nd_searchInto 6 none :: hw_G)) := hw_g3 iw_417 iw_m8 iw_1 (hw_gc ic_Nd_searchInto)
theorem ic_Nd_writeVector : Cond.code y_Nd_writeVector b_Nd_writeVector 5 none ∈ hw_G := hw_in 241 (by decide +kernel) rfl
theorem gs_Nd_writeVector : GoodIn hw_G ([.static y_Nd_writeVector, .initialized R_Nd] ++ (.code y_Nd_writeVector b_Nd_writeVector 5 none :: hw_G)) := hw_g2 iw_198 iw_1 (hw_gc ic_Nd_writeVector)
theorem ic_Rk_add : Cond.code y_Rk_add b_Rk_add 4 (some .boolean) ∈ hw_G := hw_in 282 (by decide +kernel) rfl
theorem gy_Rk_add : GoodIn hw_G ([.instanceMethod y_Rk_add, .selects R_Rk y_Rk_add y_Rk_add, .initialized R_Rk] ++ (.code y_Rk_add b_Rk_add 4 (some .boolean) :: hw_G)) := hw_g3 iw_238 iw_239 iw_6 (hw_gc ic_Rk_add)
theorem ic_Rk_changeRoom : Cond.code y_Rk_changeRoom b_Rk_changeRoom 2 none ∈ hw_G := hw_in 314 (by decide +kernel) rfl
theorem gy_Rk_changeRoom : GoodIn hw_G ([.instanceMethod y_Rk_changeRoom, .selects R_Rk y_Rk_changeRoom y_Rk_changeRoom, .initialized R_Rk] ++ (.code y_Rk_changeRoom b_Rk_changeRoom 2 none :: hw_G)) := hw_g3 iw_270 iw_271 iw_6 (hw_gc ic_Rk_changeRoom)
theorem ic_Rk_dropFirst : Cond.code y_Rk_dropFirst b_Rk_dropFirst 2 none ∈ hw_G := hw_in 322 (by decide +kernel) rfl
theorem gy_Rk_dropFirst : GoodIn hw_G ([.instanceMethod y_Rk_dropFirst, .selects R_Rk y_Rk_dropFirst y_Rk_dropFirst, .initialized R_Rk] ++ (.code y_Rk_dropFirst b_Rk_dropFirst 2 none :: hw_G)) := hw_g3 iw_278 iw_279 iw_6 (hw_gc ic_Rk_dropFirst)
theorem ic_Rk_holds : Cond.code y_Rk_holds b_Rk_holds 3 (some .boolean) ∈ hw_G := hw_in 585 (by decide +kernel) rfl
theorem gy_Rk_holds : GoodIn hw_G ([.instanceMethod y_Rk_holds, .selects R_Rk y_Rk_holds y_Rk_holds, .initialized R_Rk] ++ (.code y_Rk_holds b_Rk_holds 3 (some .boolean) :: hw_G)) := hw_g3 iw_541 iw_542 iw_6 (hw_gc ic_Rk_holds)
theorem ic_Rk_isFull : Cond.code y_Rk_isFull b_Rk_isFull 1 (some .boolean) ∈ hw_G := hw_in 286 (by decide +kernel) rfl
theorem gy_Rk_isFull : GoodIn hw_G ([.instanceMethod y_Rk_isFull, .selects R_Rk y_Rk_isFull y_Rk_isFull, .initialized R_Rk] ++ (.code y_Rk_isFull b_Rk_isFull 1 (some .boolean) :: hw_G)) := hw_g3 iw_242 iw_243 iw_6 (hw_gc ic_Rk_isFull)
theorem ic_Rk_lastPrecedes : Cond.code y_Rk_lastPrecedes b_Rk_lastPrecedes 3 (some .boolean) ∈ hw_G := hw_in 330 (by decide +kernel) rfl
theorem gy_Rk_lastPrecedes : GoodIn hw_G ([.instanceMethod y_Rk_lastPrecedes, .selects R_Rk y_Rk_lastPrecedes y_Rk_lastPrecedes, .initialized R_Rk] ++ (.code y_Rk_lastPrecedes b_Rk_lastPrecedes 3 (some .boolean) :: hw_G)) := hw_g3 iw_286 iw_287 iw_6 (hw_gc ic_Rk_lastPrecedes)
theorem ic_Rk_numberAt : Cond.code y_Rk_numberAt b_Rk_numberAt 2 (some .int) ∈ hw_G := hw_in 310 (by decide +kernel) rfl
theorem gy_Rk_numberAt : GoodIn hw_G ([.instanceMethod y_Rk_numberAt, .selects R_Rk y_Rk_numberAt y_Rk_numberAt, .initialized R_Rk] ++ (.code y_Rk_numberAt b_Rk_numberAt 2 (some .int) :: hw_G)) := hw_g3 iw_266 iw_267 iw_6 (hw_gc ic_Rk_numberAt)
theorem ic_Rk_precedes : Cond.code y_Rk_precedes b_Rk_precedes 5 (some .boolean) ∈ hw_G := hw_in 290 (by decide +kernel) rfl
theorem gy_Rk_precedes : GoodIn hw_G ([.instanceMethod y_Rk_precedes, .selects R_Rk y_Rk_precedes y_Rk_precedes, .initialized R_Rk] ++ (.code y_Rk_precedes b_Rk_precedes 5 (some .boolean) :: hw_G)) := hw_g3 iw_247 iw_m1 iw_6 (hw_gc ic_Rk_precedes)
theorem ic_Rk_size : Cond.code y_Rk_size b_Rk_size 1 (some .int) ∈ hw_G := hw_in 306 (by decide +kernel) rfl
theorem gy_Rk_size : GoodIn hw_G ([.instanceMethod y_Rk_size, .selects R_Rk y_Rk_size y_Rk_size, .initialized R_Rk] ++ (.code y_Rk_size b_Rk_size 1 (some .int) :: hw_G)) := hw_g3 iw_262 iw_263 iw_6 (hw_gc ic_Rk_size)
theorem ic_Rk_start : Cond.code y_Rk_start b_Rk_start 3 none ∈ hw_G := hw_in 275 (by decide +kernel) rfl
theorem gy_Rk_start : GoodIn hw_G ([.instanceMethod y_Rk_start, .selects R_Rk y_Rk_start y_Rk_start, .initialized R_Rk] ++ (.code y_Rk_start b_Rk_start 3 none :: hw_G)) := hw_g3 iw_231 iw_232 iw_6 (hw_gc ic_Rk_start)
theorem ic_Rk_valueAt : Cond.code y_Rk_valueAt b_Rk_valueAt 2 (some .int) ∈ hw_G := hw_in 318 (by decide +kernel) rfl
theorem gy_Rk_valueAt : GoodIn hw_G ([.instanceMethod y_Rk_valueAt, .selects R_Rk y_Rk_valueAt y_Rk_valueAt, .initialized R_Rk] ++ (.code y_Rk_valueAt b_Rk_valueAt 2 (some .int) :: hw_G)) := hw_g3 iw_274 iw_275 iw_6 (hw_gc ic_Rk_valueAt)
theorem ic_Wa_begin : Cond.code y_Wa_begin b_Wa_begin 3 none ∈ hw_G := hw_in 302 (by decide +kernel) rfl
theorem gy_Wa_begin : GoodIn hw_G ([.instanceMethod y_Wa_begin, .selects R_Wa y_Wa_begin y_Wa_begin, .initialized R_Wa] ++ (.code y_Wa_begin b_Wa_begin 3 none :: hw_G)) := hw_g3 iw_259 iw_m2 iw_5 (hw_gc ic_Wa_begin)
theorem ic_Wa_held : Cond.code y_Wa_held b_Wa_held 1 (some (.object "NearDesk$Ranking")) ∈ hw_G := hw_in 359 (by decide +kernel) rfl
theorem gy_Wa_held : GoodIn hw_G ([.instanceMethod y_Wa_held, .selects R_Wa y_Wa_held y_Wa_held, .initialized R_Wa] ++ (.code y_Wa_held b_Wa_held 1 (some (.object "NearDesk$Ranking")) :: hw_G)) := hw_g3 iw_315 iw_316 iw_5 (hw_gc ic_Wa_held)
theorem ic_Wa_lookAround : Cond.code y_Wa_lookAround b_Wa_lookAround 6 none ∈ hw_G := hw_in 334 (by decide +kernel) rfl
theorem gy_Wa_lookAround : GoodIn hw_G ([.instanceMethod y_Wa_lookAround, .selects R_Wa y_Wa_lookAround y_Wa_lookAround, .initialized R_Wa] ++ (.code y_Wa_lookAround b_Wa_lookAround 6 none :: hw_G)) := hw_g3 iw_291 iw_m3 iw_5 (hw_gc ic_Wa_lookAround)
theorem ic_Wa_standAt : Cond.code y_Wa_standAt b_Wa_standAt 4 none ∈ hw_G := hw_in 264 (by decide +kernel) rfl
theorem gy_Wa_standAt : GoodIn hw_G ([.instanceMethod y_Wa_standAt, .selects R_Wa y_Wa_standAt y_Wa_standAt, .initialized R_Wa] ++ (.code y_Wa_standAt b_Wa_standAt 4 none :: hw_G)) := hw_g3 iw_220 iw_221 iw_5 (hw_gc ic_Wa_standAt)
theorem ic_Wa_standNowhere : Cond.code y_Wa_standNowhere b_Wa_standNowhere 1 none ∈ hw_G := hw_in 468 (by decide +kernel) rfl
theorem gy_Wa_standNowhere : GoodIn hw_G ([.instanceMethod y_Wa_standNowhere, .selects R_Wa y_Wa_standNowhere y_Wa_standNowhere, .initialized R_Wa] ++ (.code y_Wa_standNowhere b_Wa_standNowhere 1 none :: hw_G)) := hw_g3 iw_424 iw_425 iw_5 (hw_gc ic_Wa_standNowhere)
theorem ic_Wa_walk : Cond.code y_Wa_walk b_Wa_walk 6 (some .int) ∈ hw_G := hw_in 298 (by decide +kernel) rfl
theorem gy_Wa_walk : GoodIn hw_G ([.instanceMethod y_Wa_walk, .selects R_Wa y_Wa_walk y_Wa_walk, .initialized R_Wa] ++ (.code y_Wa_walk b_Wa_walk 6 (some .int) :: hw_G)) := hw_g3 iw_254 iw_255 iw_5 (hw_gc ic_Wa_walk)
theorem iw_max_static : Cond.static Lib.Math.max.name ∈ hw_G := hw_in 324 (by decide +kernel) rfl
theorem iw_max_code : Cond.code Lib.Math.max.name Lib.Math.max.code 2 (some .int) ∈ hw_G := hw_in 325 (by decide +kernel) rfl
theorem iw_min_static : Cond.static Lib.Math.min.name ∈ hw_G := hw_in 277 (by decide +kernel) rfl
theorem iw_min_code : Cond.code Lib.Math.min.name Lib.Math.min.code 2 (some .int) ∈ hw_G := hw_in 278 (by decide +kernel) rfl
theorem iw_math_init : Cond.initialized "java/lang/Math" ∈ hw_G := hw_in 51 (by decide +kernel) rfl
end
section
/-! PURE: the shapes of the functional images -/
def g_at {α : Type} (i : Int32) (n : Nat) (k : Option α) : Option α := if i < 0 ∨ n ≤ i.toNatClampNeg then none else k
theorem g_atE {α : Type} {i : Int32} {n : Nat} {k : Option α} {r : α} (h : g_at i n k = some r) : vp_in i n ∧ k = some r := by
  unfold g_at at h
  by_cases c : i < 0 ∨ n ≤ i.toNatClampNeg
  · rw [if_pos c] at h; cases h
  · rw [if_neg c] at h; exact ⟨c, h⟩
theorem g_inLt {i : Int32} {n : Nat} (h : vp_in i n) : i.toNatClampNeg < n := Nat.not_le.mp fun q => h (Or.inr q)
def g_dv {α : Type} (y : Int32) (k : Option α) : Option α := if y = 0 then none else k
theorem g_dvE {α : Type} {y : Int32} {k : Option α} {r : α} (h : g_dv y k = some r) : ¬ y = 0 ∧ k = some r := by
  unfold g_dv at h
  by_cases c : y = 0
  · rw [if_pos c] at h; cases h
  · rw [if_neg c] at h; exact ⟨c, h⟩
def g_bl {α : Type} (v : Int32) (k : Option α) : Option α := if v = 0 ∨ v = 1 then k else none
theorem g_blE {α : Type} {v : Int32} {k : Option α} {r : α} (h : g_bl v k = some r) : (v = 0 ∨ v = 1) ∧ k = some r := by
  unfold g_bl at h
  by_cases c : v = 0 ∨ v = 1
  · rw [if_pos c] at h; exact ⟨c, h⟩
  · rw [if_neg c] at h; cases h
theorem g_zn {v : Int32} (h : v = 0 ∨ v = 1) : narrow .boolean (.int v) = .int v := by
  rcases h with rfl | rfl <;> rfl
theorem g_bd {α β : Type} {o : Option α} {k : α → Option β} {r : β} (h : o.bind k = some r) : ∃ p, o = some p ∧ k p = some r := Option.bind_eq_some_iff.mp h
/-! THE WORLD: a list of cells, each known by its place; addresses are 'ad place' -/
theorem hs_up {D : va_G} {cl : List vw_C} {A : Nat → Prop} {ws : va_W} {H : Heap} {q : Nat} {e0 e : Nat × va_E} (hP : va_P D cl (ws.set q e) H) (hD : va_D A (ws.set q e)) (m : ws[q]? = some e0) : ∃ w1 : va_W, va_P D cl w1 H ∧ va_D A w1 ∧ (∀ j : Nat, j ≠ q → w1[j]? = ws[j]?) ∧ w1[q]? = some e :=
  ⟨ws.set q e, hP, hD, fun _ h => List.getElem?_set_ne (Ne.symm h), List.getElem?_set_self (List.getElem?_eq_some_iff.mp m).1⟩
end
section
/-- rows of numbers: the outer array at place k, row j at place k + 1 + j -/
def wc_grid (cI cG : ClassId) (ad : Nat → Nat) (k n w : Nat) (g : Nat → Nat → Int32) (ws : va_W) : Prop := ws[k]? = some (ad k, .inl (cG, n, .inr (.inr (.inr (.inr (fun j => some (ad (k + 1 + j)))))))) ∧ ∀ j : Nat, j < n → ws[k + 1 + j]? = some (ad (k + 1 + j), .inl (cI, w, .inl (g j)))
theorem wc_grid.fr {cI cG : ClassId} {ad : Nat → Nat} {k n w : Nat} {g : Nat → Nat → Int32} {ws ws2 : va_W} (q : wc_grid cI cG ad k n w g ws) (f : ∀ j : Nat, k ≤ j → j < k + n + 1 → ws2[j]? = ws[j]?) : wc_grid cI cG ad k n w g ws2 :=
  ⟨(f _ (by omega) (by omega)).trans q.1, fun j hj => (f _ (by omega) (by omega)).trans (q.2 j hj)⟩
theorem wc_grid.set {cI cG : ClassId} {ad : Nat → Nat} {k n w i : Nat} {g : Nat → Nat → Int32} {r : Nat → Int32} {ws ws2 : va_W} (q : wc_grid cI cG ad k n w g ws) (hi : i < n) (hr : ws2[k + 1 + i]? = some (ad (k + 1 + i), .inl (cI, w, .inl r))) (f : ∀ j : Nat, j ≠ k + 1 + i → ws2[j]? = ws[j]?) : wc_grid cI cG ad k n w (va_up g i r) ws2 := by
  refine ⟨(f _ (by omega)).trans q.1, fun j hj => ?_⟩
  by_cases h : j = i
  · subst h
    rw [va_up_self]
    exact hr
  · rw [va_up_ne g _ h]
    exact (f _ (by omega)).trans (q.2 j hj)
abbrev T_Rk : Type := (Nat → Int32) × (Nat → Int32) × Int32 × Int32 × Int32
def wc_Rk (cI cG cZ : ClassId) (ad : Nat → Nat) (k : Nat) (x : T_Rk) (ws : va_W) : Prop := ws[k]? = some (ad k, .inr (4, [.ref (ad (k + 1)), .ref (ad (k + 2)), .int x.2.2.1, .int x.2.2.2.1, .int x.2.2.2.2])) ∧ ws[k + 1]? = some (ad (k + 1), .inl (cI, 30, .inl x.1)) ∧ ws[k + 2]? = some (ad (k + 2), .inl (cI, 30, .inl x.2.1))
theorem wc_Rk.fr {cI cG cZ : ClassId} {ad : Nat → Nat} {k : Nat} {x : T_Rk} {ws ws2 : va_W} (q : wc_Rk cI cG cZ ad k x ws) (f : ∀ j : Nat, k ≤ j → j < k + 3 → ws2[j]? = ws[j]?) : wc_Rk cI cG cZ ad k x ws2 := by
  obtain ⟨m0, m1, m2⟩ := q
  exact ⟨(f _ (by omega) (by omega)).trans m0, (f _ (by omega) (by omega)).trans m1, (f _ (by omega) (by omega)).trans m2⟩
abbrev T_Ch : Type := (Nat → Int32) × Int32 × Int32
def wc_Ch (cI cG cZ : ClassId) (ad : Nat → Nat) (k : Nat) (x : T_Ch) (ws : va_W) : Prop := ws[k]? = some (ad k, .inr (0, [.ref (ad (k + 1)), .int x.2.1, .int x.2.2])) ∧ ws[k + 1]? = some (ad (k + 1), .inl (cI, 30, .inl x.1))
theorem wc_Ch.fr {cI cG cZ : ClassId} {ad : Nat → Nat} {k : Nat} {x : T_Ch} {ws ws2 : va_W} (q : wc_Ch cI cG cZ ad k x ws) (f : ∀ j : Nat, k ≤ j → j < k + 2 → ws2[j]? = ws[j]?) : wc_Ch cI cG cZ ad k x ws2 := by
  obtain ⟨m0, m1⟩ := q
  exact ⟨(f _ (by omega) (by omega)).trans m0, (f _ (by omega) (by omega)).trans m1⟩
abbrev T_Do : Type := (Nat → Nat → Int32) × (Nat → Int32) × (Nat → Int32) × Int32
def wc_Do (cI cG cZ : ClassId) (ad : Nat → Nat) (k : Nat) (x : T_Do) (ws : va_W) : Prop := ws[k]? = some (ad k, .inr (1, [.ref (ad (k + 1)), .ref (ad (k + 32)), .ref (ad (k + 33)), .int x.2.2.2])) ∧ wc_grid cI cG ad (k + 1) 30 4 x.1 ws ∧ ws[k + 32]? = some (ad (k + 32), .inl (cI, 30, .inl x.2.1)) ∧ ws[k + 33]? = some (ad (k + 33), .inl (cI, 8, .inl x.2.2.1))
theorem wc_Do.fr {cI cG cZ : ClassId} {ad : Nat → Nat} {k : Nat} {x : T_Do} {ws ws2 : va_W} (q : wc_Do cI cG cZ ad k x ws) (f : ∀ j : Nat, k ≤ j → j < k + 34 → ws2[j]? = ws[j]?) : wc_Do cI cG cZ ad k x ws2 := by
  obtain ⟨m0, m1, m32, m33⟩ := q
  exact ⟨(f _ (by omega) (by omega)).trans m0, m1.fr (fun j h1 h2 => f j (by omega) (by omega)), (f _ (by omega) (by omega)).trans m32, (f _ (by omega) (by omega)).trans m33⟩
abbrev T_Li : Type := (Nat → Int32) × (Nat → Int32) × (Nat → Int32) × (Nat → Int32) × (Nat → Int32) × Int32
def wc_Li (cI cG cZ : ClassId) (ad : Nat → Nat) (k : Nat) (x : T_Li) (ws : va_W) : Prop := ws[k]? = some (ad k, .inr (3, [.ref (ad (k + 1)), .ref (ad (k + 2)), .ref (ad (k + 3)), .ref (ad (k + 4)), .ref (ad (k + 5)), .int x.2.2.2.2.2])) ∧ ws[k + 1]? = some (ad (k + 1), .inl (cI, 30, .inl x.1)) ∧ ws[k + 2]? = some (ad (k + 2), .inl (cI, 30, .inl x.2.1)) ∧ ws[k + 3]? = some (ad (k + 3), .inl (cI, 120, .inl x.2.2.1)) ∧ ws[k + 4]? = some (ad (k + 4), .inl (cI, 840, .inl x.2.2.2.1)) ∧ ws[k + 5]? = some (ad (k + 5), .inl (cI, 30, .inl x.2.2.2.2.1))
theorem wc_Li.fr {cI cG cZ : ClassId} {ad : Nat → Nat} {k : Nat} {x : T_Li} {ws ws2 : va_W} (q : wc_Li cI cG cZ ad k x ws) (f : ∀ j : Nat, k ≤ j → j < k + 6 → ws2[j]? = ws[j]?) : wc_Li cI cG cZ ad k x ws2 := by
  obtain ⟨m0, m1, m2, m3, m4, m5⟩ := q
  exact ⟨(f _ (by omega) (by omega)).trans m0, (f _ (by omega) (by omega)).trans m1, (f _ (by omega) (by omega)).trans m2, (f _ (by omega) (by omega)).trans m3, (f _ (by omega) (by omega)).trans m4, (f _ (by omega) (by omega)).trans m5⟩
abbrev T_Wa : Type := T_Rk × T_Rk × (Nat → Int32) × Int32
def wc_Wa (cI cG cZ : ClassId) (ad : Nat → Nat) (k : Nat) (x : T_Wa) (ws : va_W) : Prop := ws[k]? = some (ad k, .inr (5, [.ref (ad (k + 1)), .ref (ad (k + 4)), .ref (ad (k + 7)), .int x.2.2.2])) ∧ wc_Rk cI cG cZ ad (k + 1) x.1 ws ∧ wc_Rk cI cG cZ ad (k + 4) x.2.1 ws ∧ ws[k + 7]? = some (ad (k + 7), .inl (cI, 30, .inl x.2.2.1))
theorem wc_Wa.fr {cI cG cZ : ClassId} {ad : Nat → Nat} {k : Nat} {x : T_Wa} {ws ws2 : va_W} (q : wc_Wa cI cG cZ ad k x ws) (f : ∀ j : Nat, k ≤ j → j < k + 8 → ws2[j]? = ws[j]?) : wc_Wa cI cG cZ ad k x ws2 := by
  obtain ⟨m0, m1, m4, m7⟩ := q
  exact ⟨(f _ (by omega) (by omega)).trans m0, m1.fr (fun j h1 h2 => f j (by omega) (by omega)), m4.fr (fun j h1 h2 => f j (by omega) (by omega)), (f _ (by omega) (by omega)).trans m7⟩
abbrev T_Gr : Type := T_Li × T_Wa × T_Ch × T_Rk × Int32 × Int32 × Int32
def wc_Gr (cI cG cZ : ClassId) (ad : Nat → Nat) (k : Nat) (x : T_Gr) (ws : va_W) : Prop := ws[k]? = some (ad k, .inr (2, [.ref (ad (k + 1)), .ref (ad (k + 7)), .ref (ad (k + 15)), .ref (ad (k + 17)), .int x.2.2.2.2.1, .int x.2.2.2.2.2.1, .int x.2.2.2.2.2.2])) ∧ wc_Li cI cG cZ ad (k + 1) x.1 ws ∧ wc_Wa cI cG cZ ad (k + 7) x.2.1 ws ∧ wc_Ch cI cG cZ ad (k + 15) x.2.2.1 ws ∧ wc_Rk cI cG cZ ad (k + 17) x.2.2.2.1 ws
theorem wc_Gr.fr {cI cG cZ : ClassId} {ad : Nat → Nat} {k : Nat} {x : T_Gr} {ws ws2 : va_W} (q : wc_Gr cI cG cZ ad k x ws) (f : ∀ j : Nat, k ≤ j → j < k + 20 → ws2[j]? = ws[j]?) : wc_Gr cI cG cZ ad k x ws2 := by
  obtain ⟨m0, m1, m7, m15, m17⟩ := q
  exact ⟨(f _ (by omega) (by omega)).trans m0, m1.fr (fun j h1 h2 => f j (by omega) (by omega)), m7.fr (fun j h1 h2 => f j (by omega) (by omega)), m15.fr (fun j h1 h2 => f j (by omega) (by omega)), m17.fr (fun j h1 h2 => f j (by omega) (by omega))⟩
abbrev T_Nd : Type := T_Do × T_Gr × T_Rk × T_Rk × (Nat → Int32) × (Nat → Int32)
def wc_Nd (cI cG cZ : ClassId) (ad : Nat → Nat) (k : Nat) (x : T_Nd) (ws : va_W) : Prop := ws[k]? = some (ad k, .inr (6, [.ref (ad (k + 1)), .ref (ad (k + 35)), .ref (ad (k + 55)), .ref (ad (k + 58)), .ref (ad (k + 61)), .ref (ad (k + 62))])) ∧ wc_Do cI cG cZ ad (k + 1) x.1 ws ∧ wc_Gr cI cG cZ ad (k + 35) x.2.1 ws ∧ wc_Rk cI cG cZ ad (k + 55) x.2.2.1 ws ∧ wc_Rk cI cG cZ ad (k + 58) x.2.2.2.1 ws ∧ ws[k + 61]? = some (ad (k + 61), .inl (cI, 4, .inl x.2.2.2.2.1)) ∧ ws[k + 62]? = some (ad (k + 62), .inl (cI, 30, .inl x.2.2.2.2.2))
theorem wc_Nd.fr {cI cG cZ : ClassId} {ad : Nat → Nat} {k : Nat} {x : T_Nd} {ws ws2 : va_W} (q : wc_Nd cI cG cZ ad k x ws) (f : ∀ j : Nat, k ≤ j → j < k + 63 → ws2[j]? = ws[j]?) : wc_Nd cI cG cZ ad k x ws2 := by
  obtain ⟨m0, m1, m35, m55, m58, m61, m62⟩ := q
  exact ⟨(f _ (by omega) (by omega)).trans m0, m1.fr (fun j h1 h2 => f j (by omega) (by omega)), m35.fr (fun j h1 h2 => f j (by omega) (by omega)), m55.fr (fun j h1 h2 => f j (by omega) (by omega)), m58.fr (fun j h1 h2 => f j (by omega) (by omega)), (f _ (by omega) (by omega)).trans m61, (f _ (by omega) (by omega)).trans m62⟩
abbrev T_Mo : Type := (Nat → Int32) × (Nat → Int32) × (Nat → Int32) × (Nat → Int32) × (Nat → Int32) × (Nat → Int32) × (Nat → Int32) × (Nat → Int32) × Int32 × Int32 × (Nat → Int32) × (Nat → Int32) × (Nat → Int32) × (Nat → Int32) × (Nat → Int32) × (Nat → Int32) × (Nat → Int32) × (Nat → Int32) × (Nat → Int32) × Int32 × Int32 × Int32 × (Nat → Int32) × (Nat → Int32) × (Nat → Int32) × Int32 × Int64 × Int64
def wc_Mo (cI cG cZ : ClassId) (ad : Nat → Nat) (k : Nat) (x : T_Mo) (ws : va_W) : Prop := ws[k]? = some (ad k, .inr (7, [.ref (ad (k + 1)), .ref (ad (k + 2)), .ref (ad (k + 3)), .ref (ad (k + 4)), .ref (ad (k + 5)), .ref (ad (k + 6)), .ref (ad (k + 7)), .ref (ad (k + 8)), .int x.2.2.2.2.2.2.2.2.1, .int x.2.2.2.2.2.2.2.2.2.1, .ref (ad (k + 9)), .ref (ad (k + 10)), .ref (ad (k + 11)), .ref (ad (k + 12)), .ref (ad (k + 13)), .ref (ad (k + 14)), .ref (ad (k + 15)), .ref (ad (k + 16)), .ref (ad (k + 17)), .int x.2.2.2.2.2.2.2.2.2.2.2.2.2.2.2.2.2.2.2.1, .int x.2.2.2.2.2.2.2.2.2.2.2.2.2.2.2.2.2.2.2.2.1, .int x.2.2.2.2.2.2.2.2.2.2.2.2.2.2.2.2.2.2.2.2.2.1, .ref (ad (k + 18)), .ref (ad (k + 19)), .ref (ad (k + 20)), .int x.2.2.2.2.2.2.2.2.2.2.2.2.2.2.2.2.2.2.2.2.2.2.2.2.2.1, .long x.2.2.2.2.2.2.2.2.2.2.2.2.2.2.2.2.2.2.2.2.2.2.2.2.2.2.1, .long x.2.2.2.2.2.2.2.2.2.2.2.2.2.2.2.2.2.2.2.2.2.2.2.2.2.2.2])) ∧ ws[k + 1]? = some (ad (k + 1), .inl (cZ, 30, .inl x.1)) ∧ ws[k + 2]? = some (ad (k + 2), .inl (cZ, 30, .inl x.2.1)) ∧ ws[k + 3]? = some (ad (k + 3), .inl (cI, 120, .inl x.2.2.1)) ∧ ws[k + 4]? = some (ad (k + 4), .inl (cI, 30, .inl x.2.2.2.1)) ∧ ws[k + 5]? = some (ad (k + 5), .inl (cI, 30, .inl x.2.2.2.2.1)) ∧ ws[k + 6]? = some (ad (k + 6), .inl (cI, 30, .inl x.2.2.2.2.2.1)) ∧ ws[k + 7]? = some (ad (k + 7), .inl (cI, 840, .inl x.2.2.2.2.2.2.1)) ∧ ws[k + 8]? = some (ad (k + 8), .inl (cI, 120, .inl x.2.2.2.2.2.2.2.1)) ∧ ws[k + 9]? = some (ad (k + 9), .inl (cI, 4, .inl x.2.2.2.2.2.2.2.2.2.2.1)) ∧ ws[k + 10]? = some (ad (k + 10), .inl (cI, 4, .inl x.2.2.2.2.2.2.2.2.2.2.2.1)) ∧ ws[k + 11]? = some (ad (k + 11), .inl (cZ, 30, .inl x.2.2.2.2.2.2.2.2.2.2.2.2.1)) ∧ ws[k + 12]? = some (ad (k + 12), .inl (cZ, 30, .inl x.2.2.2.2.2.2.2.2.2.2.2.2.2.1)) ∧ ws[k + 13]? = some (ad (k + 13), .inl (cZ, 30, .inl x.2.2.2.2.2.2.2.2.2.2.2.2.2.2.1)) ∧ ws[k + 14]? = some (ad (k + 14), .inl (cZ, 30, .inl x.2.2.2.2.2.2.2.2.2.2.2.2.2.2.2.1)) ∧ ws[k + 15]? = some (ad (k + 15), .inl (cI, 30, .inl x.2.2.2.2.2.2.2.2.2.2.2.2.2.2.2.2.1)) ∧ ws[k + 16]? = some (ad (k + 16), .inl (cI, 8, .inl x.2.2.2.2.2.2.2.2.2.2.2.2.2.2.2.2.2.1)) ∧ ws[k + 17]? = some (ad (k + 17), .inl (cI, 30, .inl x.2.2.2.2.2.2.2.2.2.2.2.2.2.2.2.2.2.2.1)) ∧ ws[k + 18]? = some (ad (k + 18), .inl (cI, 30, .inl x.2.2.2.2.2.2.2.2.2.2.2.2.2.2.2.2.2.2.2.2.2.2.1)) ∧ ws[k + 19]? = some (ad (k + 19), .inl (cI, 30, .inl x.2.2.2.2.2.2.2.2.2.2.2.2.2.2.2.2.2.2.2.2.2.2.2.1)) ∧ ws[k + 20]? = some (ad (k + 20), .inl (cI, 30, .inl x.2.2.2.2.2.2.2.2.2.2.2.2.2.2.2.2.2.2.2.2.2.2.2.2.1))
theorem wc_Mo.fr {cI cG cZ : ClassId} {ad : Nat → Nat} {k : Nat} {x : T_Mo} {ws ws2 : va_W} (q : wc_Mo cI cG cZ ad k x ws) (f : ∀ j : Nat, k ≤ j → j < k + 21 → ws2[j]? = ws[j]?) : wc_Mo cI cG cZ ad k x ws2 := by
  obtain ⟨m0, m1, m2, m3, m4, m5, m6, m7, m8, m9, m10, m11, m12, m13, m14, m15, m16, m17, m18, m19, m20⟩ := q
  exact ⟨(f _ (by omega) (by omega)).trans m0, (f _ (by omega) (by omega)).trans m1, (f _ (by omega) (by omega)).trans m2, (f _ (by omega) (by omega)).trans m3, (f _ (by omega) (by omega)).trans m4, (f _ (by omega) (by omega)).trans m5, (f _ (by omega) (by omega)).trans m6, (f _ (by omega) (by omega)).trans m7, (f _ (by omega) (by omega)).trans m8, (f _ (by omega) (by omega)).trans m9, (f _ (by omega) (by omega)).trans m10, (f _ (by omega) (by omega)).trans m11, (f _ (by omega) (by omega)).trans m12, (f _ (by omega) (by omega)).trans m13, (f _ (by omega) (by omega)).trans m14, (f _ (by omega) (by omega)).trans m15, (f _ (by omega) (by omega)).trans m16, (f _ (by omega) (by omega)).trans m17, (f _ (by omega) (by omega)).trans m18, (f _ (by omega) (by omega)).trans m19, (f _ (by omega) (by omega)).trans m20⟩
end
section
/-! CONTRACTS over the world by places -/
def hw_C (p : Program) (s : State) (m : MethodId) (meth : Method) (c : Code) (cc : ByteArray) (nL : Nat) (args : Array Value) (own : String) (ret : Option FieldType) : Prop := p.tables.exec = Jvm.exec ∧ c.code = cc ∧ meth.sig.returnType = ret ∧ c.maxLocals = nL ∧ s.vm.findClass own = some m.cls ∧ (∀ w ∈ hw_G, w.before args s = true) ∧ meth.locks = false
def hw_N (U : State) : Prop := ∀ w ∈ hw_NW, va_Nw w U
theorem hw_isN_on {w : Cond} (h : hw_isN w = true) : w.onTables = true := by
  cases w <;> first | rfl | (exfalso; simp [hw_isN] at h; done)
theorem hw_isN_warm {w : Cond} (h : hw_isN w = true) {s U : State} (hW : s.WarmedH U.vm) (hZ : va_Nw w s) : va_Nw w U := by
  cases w <;> first | exact va_Nw.warmF hW hZ | exact va_Nw.warmM hW hZ | (exfalso; simp [hw_isN] at h; done)
theorem hw_NW_is : ∀ w ∈ hw_NW, hw_isN w = true := fun _ h => (List.mem_filter.mp h).2
theorem hw_N.warm {s U : State} (h : hw_N s) (hW : s.WarmedH U.vm) : hw_N U := fun w hw => hw_isN_warm (hw_NW_is w hw) hW (h w hw)
def hw_B (D : va_G) (B : Nat) (w1 : va_W) (t : State) : Prop := va_P D classes w1 t.heap ∧ va_D (fun q : Nat => B ≤ q) w1
def hw_Br (D : va_G) (B a0 : Nat) (w1 : va_W) (a : Nat) (t : State) : Prop := a = a0 ∧ va_P D classes w1 t.heap ∧ va_D (fun q : Nat => B ≤ q) w1
def hw_U (D : va_G) (cI cG cZ : ClassId) (B : Nat) (w0 : va_W) (U : State) : Prop := va_P D classes w0 U.heap ∧ va_D (fun q : Nat => B ≤ q) w0 ∧ va_K D classes [(cI, .int), (cG, .array .int), (cZ, .boolean)] U ∧ hw_N U
theorem hw_blind {D : va_G} {cI cG cZ : ClassId} {B : Nat} {w0 : va_W} {av : List Value} : FrameBlind (va_Pc av (hw_U D cI cG cZ B w0)) := fun a U g mk q => ⟨q.1, q.2.1, q.2.2.1, va_K.moved (u := U) (U := U.calling g mk a) (Vm.Alike.refl U.vm) q.2.2.2.1, fun w h => va_Nw.same (u := U) (U := U.calling g mk a) (hw_isN_on (hw_NW_is w h)) rfl (q.2.2.2.2 w h)⟩
section HWC
variable {p : Program} {l : Launch} {e : Env} {R : Room} {s : State} {m : MethodId} {args : Array Value} {below : List Frame} {meth : Method} {c : Code} {H : Heap} {locs : List Loc} {Q : State → Prop}
variable {pc : Nat} {ls : Array Slot} {rest st0 : List Value} {a : Array Value} {H0 : Heap} {D : va_G} {B : Nat} {w0 : va_W} {cI cG cZ : ClassId}
theorem hw_go {av : List Value} (hP : va_P D classes w0 H) (hD : va_D (fun q : Nat => B ≤ q) w0) (hK : va_K D classes [(cI, .int), (cG, .array .int), (cZ, .boolean)] s) (hN : hw_N s) : ∀ U : State, U.heap = H → s.WarmedH U.vm → va_Pc av (hw_U D cI cG cZ B w0) av.toArray U := fun U hU hW => ⟨rfl, by rw [hU]; exact hP, hD, va_K.moved hW.alike hK, hN.warm hW⟩
theorem hw_ci {r0 : Int32} {PP : va_W → Prop} (hr : va_Run p l e R s m args below meth c H locs 0 0 0 0 (F0 m pc ls st0) rest (va_Qi (fun (r1 : Int32) (w1 : va_W) => r1 = r0 ∧ PP w1) (hw_B D B) (fun q : Nat => B ≤ q) a) (fun q : Nat => B ≤ q)) (hS : va_S (fun q : Nat => B ≤ q) H0 H locs)
    (kk : ∀ (w1 : va_W) (H1 : Heap) (locs1 : List Loc), va_P D classes w1 H1 → va_D (fun q : Nat => B ≤ q) w1 → va_S (fun q : Nat => B ≤ q) H0 H1 locs1 → PP w1 → W p l e R s m args below meth c H1 locs1 0 0 Q (F0 m (pc + 3) ls (.int r0 :: rest))) : W p l e R s m args below meth c H locs 0 0 Q (F0 m pc ls st0) := by
  refine va_calli hr hS (fun q _ h => h) (fun q h => h) (fun r u t H1 locs1 ht hvm hpost hB hz hk hS1 => ?_)
  obtain ⟨h1, hpp⟩ := hpost
  subst h1
  exact kk u H1 locs1 (by rw [← ht]; exact hB.1) hB.2 hS1 hpp
theorem hw_ci0 {r0 : Int32} (hr : va_Run p l e R s m args below meth c H locs 0 0 0 0 (F0 m pc ls st0) rest (va_Qi (fun (r1 : Int32) (w1 : va_W) => r1 = r0 ∧ w1 = w0) (hw_B D B) (fun q : Nat => B ≤ q) a) (fun q : Nat => B ≤ q)) (hS : va_S (fun q : Nat => B ≤ q) H0 H locs)
    (kk : ∀ (H1 : Heap) (locs1 : List Loc), va_P D classes w0 H1 → va_D (fun q : Nat => B ≤ q) w0 → va_S (fun q : Nat => B ≤ q) H0 H1 locs1 → W p l e R s m args below meth c H1 locs1 0 0 Q (F0 m (pc + 3) ls (.int r0 :: rest))) : W p l e R s m args below meth c H locs 0 0 Q (F0 m pc ls st0) :=
  hw_ci (PP := fun w1 => w1 = w0) hr hS (fun w1 H1 locs1 hP hD hS1 e => by subst e; exact kk H1 locs1 hP hD hS1)
theorem hw_cv {PP : va_W → Prop} (hr : va_Run p l e R s m args below meth c H locs 0 0 0 0 (F0 m pc ls st0) rest (va_Qv (fun (w1 : va_W) => PP w1) (hw_B D B) (fun q : Nat => B ≤ q) a) (fun q : Nat => B ≤ q)) (hS : va_S (fun q : Nat => B ≤ q) H0 H locs)
    (kk : ∀ (w1 : va_W) (H1 : Heap) (locs1 : List Loc), va_P D classes w1 H1 → va_D (fun q : Nat => B ≤ q) w1 → va_S (fun q : Nat => B ≤ q) H0 H1 locs1 → PP w1 → W p l e R s m args below meth c H1 locs1 0 0 Q (F0 m (pc + 3) ls rest)) : W p l e R s m args below meth c H locs 0 0 Q (F0 m pc ls st0) :=
  va_callv hr hS (fun q _ h => h) (fun q h => h) (fun u t H1 locs1 ht hvm hpost hB hz hk hS1 => kk u H1 locs1 (by rw [← ht]; exact hB.1) hB.2 hS1 hpost)
theorem hw_cr {a0 : Nat} {PP : va_W → Prop} (hr : va_Run p l e R s m args below meth c H locs 0 0 0 0 (F0 m pc ls st0) rest (va_Qr (fun (w1 : va_W) => PP w1) (hw_Br D B a0) (fun q : Nat => B ≤ q) a) (fun q : Nat => B ≤ q)) (hS : va_S (fun q : Nat => B ≤ q) H0 H locs)
    (kk : ∀ (w1 : va_W) (H1 : Heap) (locs1 : List Loc), va_P D classes w1 H1 → va_D (fun q : Nat => B ≤ q) w1 → va_S (fun q : Nat => B ≤ q) H0 H1 locs1 → PP w1 → W p l e R s m args below meth c H1 locs1 0 0 Q (F0 m (pc + 3) ls (.ref a0 :: rest))) : W p l e R s m args below meth c H locs 0 0 Q (F0 m pc ls st0) := by
  refine va_callr hr hS (fun q _ h => h) (fun q h => h) (fun u a1 t H1 locs1 ht hvm hpost hB hz hk hS1 => ?_)
  obtain ⟨h1, hB1, hB2⟩ := hB
  subst h1
  exact kk u H1 locs1 (by rw [← ht]; exact hB1) hB2 hS1 hpost
theorem hw_cr0 {a0 : Nat} (hr : va_Run p l e R s m args below meth c H locs 0 0 0 0 (F0 m pc ls st0) rest (va_Qr (fun (w1 : va_W) => w1 = w0) (hw_Br D B a0) (fun q : Nat => B ≤ q) a) (fun q : Nat => B ≤ q)) (hS : va_S (fun q : Nat => B ≤ q) H0 H locs)
    (kk : ∀ (H1 : Heap) (locs1 : List Loc), va_P D classes w0 H1 → va_D (fun q : Nat => B ≤ q) w0 → va_S (fun q : Nat => B ≤ q) H0 H1 locs1 → W p l e R s m args below meth c H1 locs1 0 0 Q (F0 m (pc + 3) ls (.ref a0 :: rest))) : W p l e R s m args below meth c H locs 0 0 Q (F0 m pc ls st0) :=
  hw_cr (PP := fun w1 => w1 = w0) hr hS (fun w1 H1 locs1 hP hD hS1 e => by subst e; exact kk H1 locs1 hP hD hS1)
variable {cc : ByteArray} {cells slots : Nat}
theorem hw_aald {cl : List vw_C} {tys : List (ClassId × FieldType)} {ws : va_W} {b : Nat} (hexec : p.tables.exec = Jvm.exec) (hb : c.code = cc) (hK : va_K D cl tys s) (hP : va_P D cl ws H) (q0 t0 : Nat) {cA : ClassId} {n : Nat} {f : Nat → Option Nat} {ty : FieldType} (ha : ws[q0]? = some (b, .inl (cA, n, .inr (.inr (.inr (.inr f)))))) (ht : tys[t0]? = some (cA, ty)) (hty : ty.isReference = true) {i : Int32} (hin : vp_in i n) (hdg : decode cc pc = .ok (.aaload, 1)) {r : Nat} (hr : f i.toNatClampNeg = some r)
    (kk : W p l e R s m args below meth c H locs cells slots Q (F0 m (pc + 1) ls (.ref r :: rest))) : W p l e R s m args below meth c H locs cells slots Q (F0 m pc ls (.int i :: .ref b :: rest)) := by
  have hlt : i.toNatClampNeg < n := Nat.not_le.mp fun q => hin (Or.inr q)
  exact W.aald (v := .ref r) hexec hb (hP q0 _ ha) ((hK.2 t0 _ ht).1 n (fun j => va_rf (f j))) hty (fun q => by cases q) (by show ¬ (i < 0 ∨ (arrV _ _ _).slots.size ≤ _); rw [arrV_size]; exact hin) (by show (arrV _ _ _).slots[_]? = _; rw [arrV_read _ _ hlt, hr]; rfl) rfl rfl hdg kk
end HWC
end
section
theorem d_Nd_isVector_0 : decode b_Nd_isVector 0 = .ok (.iload_n 0, 1) := by decide +kernel
theorem d_Nd_isVector_1 : decode b_Nd_isVector 1 = .ok (.invokestatic 184, 3) := by decide +kernel
theorem d_Nd_isVector_4 : decode b_Nd_isVector 4 = .ok (.ifCond .eq 28, 3) := by decide +kernel
theorem d_Nd_isVector_7 : decode b_Nd_isVector 7 = .ok (.iload_n 1, 1) := by decide +kernel
theorem d_Nd_isVector_8 : decode b_Nd_isVector 8 = .ok (.invokestatic 184, 3) := by decide +kernel
theorem d_Nd_isVector_11 : decode b_Nd_isVector 11 = .ok (.ifCond .eq 21, 3) := by decide +kernel
theorem d_Nd_isVector_14 : decode b_Nd_isVector 14 = .ok (.iload_n 2, 1) := by decide +kernel
theorem d_Nd_isVector_15 : decode b_Nd_isVector 15 = .ok (.invokestatic 184, 3) := by decide +kernel
theorem d_Nd_isVector_18 : decode b_Nd_isVector 18 = .ok (.ifCond .eq 14, 3) := by decide +kernel
theorem d_Nd_isVector_21 : decode b_Nd_isVector 21 = .ok (.iload_n 3, 1) := by decide +kernel
theorem d_Nd_isVector_22 : decode b_Nd_isVector 22 = .ok (.invokestatic 184, 3) := by decide +kernel
theorem d_Nd_isVector_25 : decode b_Nd_isVector 25 = .ok (.ifCond .eq 7, 3) := by decide +kernel
theorem d_Nd_isVector_28 : decode b_Nd_isVector 28 = .ok (.iconst 1, 1) := by decide +kernel
theorem d_Nd_isVector_29 : decode b_Nd_isVector 29 = .ok (.goto 4, 3) := by decide +kernel
theorem d_Nd_isVector_32 : decode b_Nd_isVector 32 = .ok (.iconst 0, 1) := by decide +kernel
theorem d_Nd_isVector_33 : decode b_Nd_isVector 33 = .ok (.ireturn, 1) := by decide +kernel
theorem d_Nd_isCoordinate_0 : decode b_Nd_isCoordinate 0 = .ok (.iload_n 0, 1) := by decide +kernel
theorem d_Nd_isCoordinate_1 : decode b_Nd_isCoordinate 1 = .ok (.iconst 0, 1) := by decide +kernel
theorem d_Nd_isCoordinate_2 : decode b_Nd_isCoordinate 2 = .ok (.bipush 99, 2) := by decide +kernel
theorem d_Nd_isCoordinate_4 : decode b_Nd_isCoordinate 4 = .ok (.invokestatic 45, 3) := by decide +kernel
theorem d_Nd_isCoordinate_7 : decode b_Nd_isCoordinate 7 = .ok (.ireturn, 1) := by decide +kernel
theorem d_Nd_isWithin_0 : decode b_Nd_isWithin 0 = .ok (.iload_n 0, 1) := by decide +kernel
theorem d_Nd_isWithin_1 : decode b_Nd_isWithin 1 = .ok (.iload_n 1, 1) := by decide +kernel
theorem d_Nd_isWithin_2 : decode b_Nd_isWithin 2 = .ok (.if_icmp .lt 12, 3) := by decide +kernel
theorem d_Nd_isWithin_5 : decode b_Nd_isWithin 5 = .ok (.iload_n 0, 1) := by decide +kernel
theorem d_Nd_isWithin_6 : decode b_Nd_isWithin 6 = .ok (.iload_n 2, 1) := by decide +kernel
theorem d_Nd_isWithin_7 : decode b_Nd_isWithin 7 = .ok (.if_icmp .gt 7, 3) := by decide +kernel
theorem d_Nd_isWithin_10 : decode b_Nd_isWithin 10 = .ok (.iconst 1, 1) := by decide +kernel
theorem d_Nd_isWithin_11 : decode b_Nd_isWithin 11 = .ok (.goto 4, 3) := by decide +kernel
theorem d_Nd_isWithin_14 : decode b_Nd_isWithin 14 = .ok (.iconst 0, 1) := by decide +kernel
theorem d_Nd_isWithin_15 : decode b_Nd_isWithin 15 = .ok (.ireturn, 1) := by decide +kernel
theorem d_Nd_writeVector_0 : decode b_Nd_writeVector 0 = .ok (.aload_n 0, 1) := by decide +kernel
theorem d_Nd_writeVector_1 : decode b_Nd_writeVector 1 = .ok (.iconst 0, 1) := by decide +kernel
theorem d_Nd_writeVector_2 : decode b_Nd_writeVector 2 = .ok (.iload_n 1, 1) := by decide +kernel
theorem d_Nd_writeVector_3 : decode b_Nd_writeVector 3 = .ok (.iastore, 1) := by decide +kernel
theorem d_Nd_writeVector_4 : decode b_Nd_writeVector 4 = .ok (.aload_n 0, 1) := by decide +kernel
theorem d_Nd_writeVector_5 : decode b_Nd_writeVector 5 = .ok (.iconst 1, 1) := by decide +kernel
theorem d_Nd_writeVector_6 : decode b_Nd_writeVector 6 = .ok (.iload_n 2, 1) := by decide +kernel
theorem d_Nd_writeVector_7 : decode b_Nd_writeVector 7 = .ok (.iastore, 1) := by decide +kernel
theorem d_Nd_writeVector_8 : decode b_Nd_writeVector 8 = .ok (.aload_n 0, 1) := by decide +kernel
theorem d_Nd_writeVector_9 : decode b_Nd_writeVector 9 = .ok (.iconst 2, 1) := by decide +kernel
theorem d_Nd_writeVector_10 : decode b_Nd_writeVector 10 = .ok (.iload_n 3, 1) := by decide +kernel
theorem d_Nd_writeVector_11 : decode b_Nd_writeVector 11 = .ok (.iastore, 1) := by decide +kernel
theorem d_Nd_writeVector_12 : decode b_Nd_writeVector 12 = .ok (.aload_n 0, 1) := by decide +kernel
theorem d_Nd_writeVector_13 : decode b_Nd_writeVector 13 = .ok (.iconst 3, 1) := by decide +kernel
theorem d_Nd_writeVector_14 : decode b_Nd_writeVector 14 = .ok (.iload 4, 2) := by decide +kernel
theorem d_Nd_writeVector_16 : decode b_Nd_writeVector 16 = .ok (.iastore, 1) := by decide +kernel
theorem d_Nd_writeVector_17 : decode b_Nd_writeVector 17 = .ok (.return_, 1) := by decide +kernel
theorem d_Nd_distance_0 : decode b_Nd_distance 0 = .ok (.iconst 0, 1) := by decide +kernel
theorem d_Nd_distance_1 : decode b_Nd_distance 1 = .ok (.istore_n 2, 1) := by decide +kernel
theorem d_Nd_distance_2 : decode b_Nd_distance 2 = .ok (.iconst 0, 1) := by decide +kernel
theorem d_Nd_distance_3 : decode b_Nd_distance 3 = .ok (.istore_n 3, 1) := by decide +kernel
theorem d_Nd_distance_4 : decode b_Nd_distance 4 = .ok (.iload_n 3, 1) := by decide +kernel
theorem d_Nd_distance_5 : decode b_Nd_distance 5 = .ok (.iconst 4, 1) := by decide +kernel
theorem d_Nd_distance_6 : decode b_Nd_distance 6 = .ok (.if_icmp .ge 26, 3) := by decide +kernel
theorem d_Nd_distance_9 : decode b_Nd_distance 9 = .ok (.aload_n 0, 1) := by decide +kernel
theorem d_Nd_distance_10 : decode b_Nd_distance 10 = .ok (.iload_n 3, 1) := by decide +kernel
theorem d_Nd_distance_11 : decode b_Nd_distance 11 = .ok (.iaload, 1) := by decide +kernel
theorem d_Nd_distance_12 : decode b_Nd_distance 12 = .ok (.aload_n 1, 1) := by decide +kernel
theorem d_Nd_distance_13 : decode b_Nd_distance 13 = .ok (.iload_n 3, 1) := by decide +kernel
theorem d_Nd_distance_14 : decode b_Nd_distance 14 = .ok (.iaload, 1) := by decide +kernel
theorem d_Nd_distance_15 : decode b_Nd_distance 15 = .ok (.isub, 1) := by decide +kernel
theorem d_Nd_distance_16 : decode b_Nd_distance 16 = .ok (.istore 4, 2) := by decide +kernel
theorem d_Nd_distance_18 : decode b_Nd_distance 18 = .ok (.iload_n 2, 1) := by decide +kernel
theorem d_Nd_distance_19 : decode b_Nd_distance 19 = .ok (.iload 4, 2) := by decide +kernel
theorem d_Nd_distance_21 : decode b_Nd_distance 21 = .ok (.iload 4, 2) := by decide +kernel
theorem d_Nd_distance_23 : decode b_Nd_distance 23 = .ok (.imul, 1) := by decide +kernel
theorem d_Nd_distance_24 : decode b_Nd_distance 24 = .ok (.iadd, 1) := by decide +kernel
theorem d_Nd_distance_25 : decode b_Nd_distance 25 = .ok (.istore_n 2, 1) := by decide +kernel
theorem d_Nd_distance_26 : decode b_Nd_distance 26 = .ok (.iinc 3 1, 3) := by decide +kernel
theorem d_Nd_distance_29 : decode b_Nd_distance 29 = .ok (.goto (-25), 3) := by decide +kernel
theorem d_Nd_distance_32 : decode b_Nd_distance 32 = .ok (.iload_n 2, 1) := by decide +kernel
theorem d_Nd_distance_33 : decode b_Nd_distance 33 = .ok (.ireturn, 1) := by decide +kernel
theorem d_Nd_isIn_0 : decode b_Nd_isIn 0 = .ok (.iload_n 0, 1) := by decide +kernel
theorem d_Nd_isIn_1 : decode b_Nd_isIn 1 = .ok (.iload_n 1, 1) := by decide +kernel
theorem d_Nd_isIn_2 : decode b_Nd_isIn 2 = .ok (.ishr, 1) := by decide +kernel
theorem d_Nd_isIn_3 : decode b_Nd_isIn 3 = .ok (.iconst 1, 1) := by decide +kernel
theorem d_Nd_isIn_4 : decode b_Nd_isIn 4 = .ok (.iand, 1) := by decide +kernel
theorem d_Nd_isIn_5 : decode b_Nd_isIn 5 = .ok (.ifCond .eq 7, 3) := by decide +kernel
theorem d_Nd_isIn_8 : decode b_Nd_isIn 8 = .ok (.iconst 1, 1) := by decide +kernel
theorem d_Nd_isIn_9 : decode b_Nd_isIn 9 = .ok (.goto 4, 3) := by decide +kernel
theorem d_Nd_isIn_12 : decode b_Nd_isIn 12 = .ok (.iconst 0, 1) := by decide +kernel
theorem d_Nd_isIn_13 : decode b_Nd_isIn 13 = .ok (.ireturn, 1) := by decide +kernel
theorem d_In_bitCount_0 : decode b_In_bitCount 0 = .ok (.iload_n 0, 1) := by decide +kernel
theorem d_In_bitCount_1 : decode b_In_bitCount 1 = .ok (.iload_n 0, 1) := by decide +kernel
theorem d_In_bitCount_2 : decode b_In_bitCount 2 = .ok (.iconst 1, 1) := by decide +kernel
theorem d_In_bitCount_3 : decode b_In_bitCount 3 = .ok (.iushr, 1) := by decide +kernel
theorem d_In_bitCount_4 : decode b_In_bitCount 4 = .ok (.ldc_w 265, 3) := by decide +kernel
theorem d_In_bitCount_7 : decode b_In_bitCount 7 = .ok (.iand, 1) := by decide +kernel
theorem d_In_bitCount_8 : decode b_In_bitCount 8 = .ok (.isub, 1) := by decide +kernel
theorem d_In_bitCount_9 : decode b_In_bitCount 9 = .ok (.istore_n 0, 1) := by decide +kernel
theorem d_In_bitCount_10 : decode b_In_bitCount 10 = .ok (.iload_n 0, 1) := by decide +kernel
theorem d_In_bitCount_11 : decode b_In_bitCount 11 = .ok (.ldc_w 266, 3) := by decide +kernel
theorem d_In_bitCount_14 : decode b_In_bitCount 14 = .ok (.iand, 1) := by decide +kernel
theorem d_In_bitCount_15 : decode b_In_bitCount 15 = .ok (.iload_n 0, 1) := by decide +kernel
theorem d_In_bitCount_16 : decode b_In_bitCount 16 = .ok (.iconst 2, 1) := by decide +kernel
theorem d_In_bitCount_17 : decode b_In_bitCount 17 = .ok (.iushr, 1) := by decide +kernel
theorem d_In_bitCount_18 : decode b_In_bitCount 18 = .ok (.ldc_w 266, 3) := by decide +kernel
theorem d_In_bitCount_21 : decode b_In_bitCount 21 = .ok (.iand, 1) := by decide +kernel
theorem d_In_bitCount_22 : decode b_In_bitCount 22 = .ok (.iadd, 1) := by decide +kernel
theorem d_In_bitCount_23 : decode b_In_bitCount 23 = .ok (.istore_n 0, 1) := by decide +kernel
theorem d_In_bitCount_24 : decode b_In_bitCount 24 = .ok (.iload_n 0, 1) := by decide +kernel
theorem d_In_bitCount_25 : decode b_In_bitCount 25 = .ok (.iload_n 0, 1) := by decide +kernel
theorem d_In_bitCount_26 : decode b_In_bitCount 26 = .ok (.iconst 4, 1) := by decide +kernel
theorem d_In_bitCount_27 : decode b_In_bitCount 27 = .ok (.iushr, 1) := by decide +kernel
theorem d_In_bitCount_28 : decode b_In_bitCount 28 = .ok (.iadd, 1) := by decide +kernel
theorem d_In_bitCount_29 : decode b_In_bitCount 29 = .ok (.ldc_w 267, 3) := by decide +kernel
theorem d_In_bitCount_32 : decode b_In_bitCount 32 = .ok (.iand, 1) := by decide +kernel
theorem d_In_bitCount_33 : decode b_In_bitCount 33 = .ok (.istore_n 0, 1) := by decide +kernel
theorem d_In_bitCount_34 : decode b_In_bitCount 34 = .ok (.iload_n 0, 1) := by decide +kernel
theorem d_In_bitCount_35 : decode b_In_bitCount 35 = .ok (.iload_n 0, 1) := by decide +kernel
theorem d_In_bitCount_36 : decode b_In_bitCount 36 = .ok (.bipush 8, 2) := by decide +kernel
theorem d_In_bitCount_38 : decode b_In_bitCount 38 = .ok (.iushr, 1) := by decide +kernel
theorem d_In_bitCount_39 : decode b_In_bitCount 39 = .ok (.iadd, 1) := by decide +kernel
theorem d_In_bitCount_40 : decode b_In_bitCount 40 = .ok (.istore_n 0, 1) := by decide +kernel
theorem d_In_bitCount_41 : decode b_In_bitCount 41 = .ok (.iload_n 0, 1) := by decide +kernel
theorem d_In_bitCount_42 : decode b_In_bitCount 42 = .ok (.iload_n 0, 1) := by decide +kernel
theorem d_In_bitCount_43 : decode b_In_bitCount 43 = .ok (.bipush 16, 2) := by decide +kernel
theorem d_In_bitCount_45 : decode b_In_bitCount 45 = .ok (.iushr, 1) := by decide +kernel
theorem d_In_bitCount_46 : decode b_In_bitCount 46 = .ok (.iadd, 1) := by decide +kernel
theorem d_In_bitCount_47 : decode b_In_bitCount 47 = .ok (.istore_n 0, 1) := by decide +kernel
theorem d_In_bitCount_48 : decode b_In_bitCount 48 = .ok (.iload_n 0, 1) := by decide +kernel
theorem d_In_bitCount_49 : decode b_In_bitCount 49 = .ok (.bipush 63, 2) := by decide +kernel
theorem d_In_bitCount_51 : decode b_In_bitCount 51 = .ok (.iand, 1) := by decide +kernel
theorem d_In_bitCount_52 : decode b_In_bitCount 52 = .ok (.ireturn, 1) := by decide +kernel
theorem d_Nd_isDocumentNumber_0 : decode b_Nd_isDocumentNumber 0 = .ok (.iload_n 0, 1) := by decide +kernel
theorem d_Nd_isDocumentNumber_1 : decode b_Nd_isDocumentNumber 1 = .ok (.iconst 0, 1) := by decide +kernel
theorem d_Nd_isDocumentNumber_2 : decode b_Nd_isDocumentNumber 2 = .ok (.bipush 29, 2) := by decide +kernel
theorem d_Nd_isDocumentNumber_4 : decode b_Nd_isDocumentNumber 4 = .ok (.invokestatic 45, 3) := by decide +kernel
theorem d_Nd_isDocumentNumber_7 : decode b_Nd_isDocumentNumber 7 = .ok (.ireturn, 1) := by decide +kernel
end
section
theorem d_Rk_start_0 : decode b_Rk_start 0 = .ok (.aload_n 0, 1) := by decide +kernel
theorem d_Rk_start_1 : decode b_Rk_start 1 = .ok (.iconst 0, 1) := by decide +kernel
theorem d_Rk_start_2 : decode b_Rk_start 2 = .ok (.putfield 18, 3) := by decide +kernel
theorem d_Rk_start_5 : decode b_Rk_start 5 = .ok (.aload_n 0, 1) := by decide +kernel
theorem d_Rk_start_6 : decode b_Rk_start 6 = .ok (.iload_n 1, 1) := by decide +kernel
theorem d_Rk_start_7 : decode b_Rk_start 7 = .ok (.bipush 30, 2) := by decide +kernel
theorem d_Rk_start_9 : decode b_Rk_start 9 = .ok (.invokestatic 22, 3) := by decide +kernel
theorem d_Rk_start_12 : decode b_Rk_start 12 = .ok (.putfield 28, 3) := by decide +kernel
theorem d_Rk_start_15 : decode b_Rk_start 15 = .ok (.aload_n 0, 1) := by decide +kernel
theorem d_Rk_start_16 : decode b_Rk_start 16 = .ok (.iload_n 2, 1) := by decide +kernel
theorem d_Rk_start_17 : decode b_Rk_start 17 = .ok (.iconst 1, 1) := by decide +kernel
theorem d_Rk_start_18 : decode b_Rk_start 18 = .ok (.if_icmp .ne 7, 3) := by decide +kernel
theorem d_Rk_start_21 : decode b_Rk_start 21 = .ok (.iconst 1, 1) := by decide +kernel
theorem d_Rk_start_22 : decode b_Rk_start 22 = .ok (.goto 4, 3) := by decide +kernel
theorem d_Rk_start_25 : decode b_Rk_start 25 = .ok (.iconst 0, 1) := by decide +kernel
theorem d_Rk_start_26 : decode b_Rk_start 26 = .ok (.putfield 31, 3) := by decide +kernel
theorem d_Rk_start_29 : decode b_Rk_start 29 = .ok (.return_, 1) := by decide +kernel
theorem d_Rk_add_0 : decode b_Rk_add 0 = .ok (.aload_n 0, 1) := by decide +kernel
theorem d_Rk_add_1 : decode b_Rk_add 1 = .ok (.invokevirtual 39, 3) := by decide +kernel
theorem d_Rk_add_4 : decode b_Rk_add 4 = .ok (.ifCond .eq 53, 3) := by decide +kernel
theorem d_Rk_add_7 : decode b_Rk_add 7 = .ok (.aload_n 0, 1) := by decide +kernel
theorem d_Rk_add_8 : decode b_Rk_add 8 = .ok (.getfield 18, 3) := by decide +kernel
theorem d_Rk_add_11 : decode b_Rk_add 11 = .ok (.ifCond .eq 34, 3) := by decide +kernel
theorem d_Rk_add_14 : decode b_Rk_add 14 = .ok (.aload_n 0, 1) := by decide +kernel
theorem d_Rk_add_15 : decode b_Rk_add 15 = .ok (.iload_n 1, 1) := by decide +kernel
theorem d_Rk_add_16 : decode b_Rk_add 16 = .ok (.iload_n 2, 1) := by decide +kernel
theorem d_Rk_add_17 : decode b_Rk_add 17 = .ok (.aload_n 0, 1) := by decide +kernel
theorem d_Rk_add_18 : decode b_Rk_add 18 = .ok (.getfield 9, 3) := by decide +kernel
theorem d_Rk_add_21 : decode b_Rk_add 21 = .ok (.aload_n 0, 1) := by decide +kernel
theorem d_Rk_add_22 : decode b_Rk_add 22 = .ok (.getfield 18, 3) := by decide +kernel
theorem d_Rk_add_25 : decode b_Rk_add 25 = .ok (.iconst 1, 1) := by decide +kernel
theorem d_Rk_add_26 : decode b_Rk_add 26 = .ok (.isub, 1) := by decide +kernel
theorem d_Rk_add_27 : decode b_Rk_add 27 = .ok (.iaload, 1) := by decide +kernel
theorem d_Rk_add_28 : decode b_Rk_add 28 = .ok (.aload_n 0, 1) := by decide +kernel
theorem d_Rk_add_29 : decode b_Rk_add 29 = .ok (.getfield 15, 3) := by decide +kernel
theorem d_Rk_add_32 : decode b_Rk_add 32 = .ok (.aload_n 0, 1) := by decide +kernel
theorem d_Rk_add_33 : decode b_Rk_add 33 = .ok (.getfield 18, 3) := by decide +kernel
theorem d_Rk_add_36 : decode b_Rk_add 36 = .ok (.iconst 1, 1) := by decide +kernel
theorem d_Rk_add_37 : decode b_Rk_add 37 = .ok (.isub, 1) := by decide +kernel
theorem d_Rk_add_38 : decode b_Rk_add 38 = .ok (.iaload, 1) := by decide +kernel
theorem d_Rk_add_39 : decode b_Rk_add 39 = .ok (.invokevirtual 35, 3) := by decide +kernel
theorem d_Rk_add_42 : decode b_Rk_add 42 = .ok (.ifCond .ne 5, 3) := by decide +kernel
theorem d_Rk_add_45 : decode b_Rk_add 45 = .ok (.iconst 0, 1) := by decide +kernel
theorem d_Rk_add_46 : decode b_Rk_add 46 = .ok (.ireturn, 1) := by decide +kernel
theorem d_Rk_add_47 : decode b_Rk_add 47 = .ok (.aload_n 0, 1) := by decide +kernel
theorem d_Rk_add_48 : decode b_Rk_add 48 = .ok (.dup, 1) := by decide +kernel
theorem d_Rk_add_49 : decode b_Rk_add 49 = .ok (.getfield 18, 3) := by decide +kernel
theorem d_Rk_add_52 : decode b_Rk_add 52 = .ok (.iconst 1, 1) := by decide +kernel
theorem d_Rk_add_53 : decode b_Rk_add 53 = .ok (.isub, 1) := by decide +kernel
theorem d_Rk_add_54 : decode b_Rk_add 54 = .ok (.putfield 18, 3) := by decide +kernel
theorem d_Rk_add_57 : decode b_Rk_add 57 = .ok (.aload_n 0, 1) := by decide +kernel
theorem d_Rk_add_58 : decode b_Rk_add 58 = .ok (.getfield 18, 3) := by decide +kernel
theorem d_Rk_add_61 : decode b_Rk_add 61 = .ok (.istore_n 3, 1) := by decide +kernel
theorem d_Rk_add_62 : decode b_Rk_add 62 = .ok (.iload_n 3, 1) := by decide +kernel
theorem d_Rk_add_63 : decode b_Rk_add 63 = .ok (.ifCond .le 62, 3) := by decide +kernel
theorem d_Rk_add_66 : decode b_Rk_add 66 = .ok (.aload_n 0, 1) := by decide +kernel
theorem d_Rk_add_67 : decode b_Rk_add 67 = .ok (.iload_n 1, 1) := by decide +kernel
theorem d_Rk_add_68 : decode b_Rk_add 68 = .ok (.iload_n 2, 1) := by decide +kernel
theorem d_Rk_add_69 : decode b_Rk_add 69 = .ok (.aload_n 0, 1) := by decide +kernel
theorem d_Rk_add_70 : decode b_Rk_add 70 = .ok (.getfield 9, 3) := by decide +kernel
theorem d_Rk_add_73 : decode b_Rk_add 73 = .ok (.iload_n 3, 1) := by decide +kernel
theorem d_Rk_add_74 : decode b_Rk_add 74 = .ok (.iconst 1, 1) := by decide +kernel
theorem d_Rk_add_75 : decode b_Rk_add 75 = .ok (.isub, 1) := by decide +kernel
theorem d_Rk_add_76 : decode b_Rk_add 76 = .ok (.iaload, 1) := by decide +kernel
theorem d_Rk_add_77 : decode b_Rk_add 77 = .ok (.aload_n 0, 1) := by decide +kernel
theorem d_Rk_add_78 : decode b_Rk_add 78 = .ok (.getfield 15, 3) := by decide +kernel
theorem d_Rk_add_81 : decode b_Rk_add 81 = .ok (.iload_n 3, 1) := by decide +kernel
theorem d_Rk_add_82 : decode b_Rk_add 82 = .ok (.iconst 1, 1) := by decide +kernel
theorem d_Rk_add_83 : decode b_Rk_add 83 = .ok (.isub, 1) := by decide +kernel
theorem d_Rk_add_84 : decode b_Rk_add 84 = .ok (.iaload, 1) := by decide +kernel
theorem d_Rk_add_85 : decode b_Rk_add 85 = .ok (.invokevirtual 35, 3) := by decide +kernel
theorem d_Rk_add_88 : decode b_Rk_add 88 = .ok (.ifCond .eq 37, 3) := by decide +kernel
theorem d_Rk_add_91 : decode b_Rk_add 91 = .ok (.aload_n 0, 1) := by decide +kernel
theorem d_Rk_add_92 : decode b_Rk_add 92 = .ok (.getfield 9, 3) := by decide +kernel
theorem d_Rk_add_95 : decode b_Rk_add 95 = .ok (.iload_n 3, 1) := by decide +kernel
theorem d_Rk_add_96 : decode b_Rk_add 96 = .ok (.aload_n 0, 1) := by decide +kernel
theorem d_Rk_add_97 : decode b_Rk_add 97 = .ok (.getfield 9, 3) := by decide +kernel
theorem d_Rk_add_100 : decode b_Rk_add 100 = .ok (.iload_n 3, 1) := by decide +kernel
theorem d_Rk_add_101 : decode b_Rk_add 101 = .ok (.iconst 1, 1) := by decide +kernel
theorem d_Rk_add_102 : decode b_Rk_add 102 = .ok (.isub, 1) := by decide +kernel
theorem d_Rk_add_103 : decode b_Rk_add 103 = .ok (.iaload, 1) := by decide +kernel
theorem d_Rk_add_104 : decode b_Rk_add 104 = .ok (.iastore, 1) := by decide +kernel
theorem d_Rk_add_105 : decode b_Rk_add 105 = .ok (.aload_n 0, 1) := by decide +kernel
theorem d_Rk_add_106 : decode b_Rk_add 106 = .ok (.getfield 15, 3) := by decide +kernel
theorem d_Rk_add_109 : decode b_Rk_add 109 = .ok (.iload_n 3, 1) := by decide +kernel
theorem d_Rk_add_110 : decode b_Rk_add 110 = .ok (.aload_n 0, 1) := by decide +kernel
theorem d_Rk_add_111 : decode b_Rk_add 111 = .ok (.getfield 15, 3) := by decide +kernel
theorem d_Rk_add_114 : decode b_Rk_add 114 = .ok (.iload_n 3, 1) := by decide +kernel
theorem d_Rk_add_115 : decode b_Rk_add 115 = .ok (.iconst 1, 1) := by decide +kernel
theorem d_Rk_add_116 : decode b_Rk_add 116 = .ok (.isub, 1) := by decide +kernel
theorem d_Rk_add_117 : decode b_Rk_add 117 = .ok (.iaload, 1) := by decide +kernel
theorem d_Rk_add_118 : decode b_Rk_add 118 = .ok (.iastore, 1) := by decide +kernel
theorem d_Rk_add_119 : decode b_Rk_add 119 = .ok (.iinc 3 (-1), 3) := by decide +kernel
theorem d_Rk_add_122 : decode b_Rk_add 122 = .ok (.goto (-60), 3) := by decide +kernel
theorem d_Rk_add_125 : decode b_Rk_add 125 = .ok (.aload_n 0, 1) := by decide +kernel
theorem d_Rk_add_126 : decode b_Rk_add 126 = .ok (.getfield 9, 3) := by decide +kernel
theorem d_Rk_add_129 : decode b_Rk_add 129 = .ok (.iload_n 3, 1) := by decide +kernel
theorem d_Rk_add_130 : decode b_Rk_add 130 = .ok (.iload_n 1, 1) := by decide +kernel
theorem d_Rk_add_131 : decode b_Rk_add 131 = .ok (.iastore, 1) := by decide +kernel
theorem d_Rk_add_132 : decode b_Rk_add 132 = .ok (.aload_n 0, 1) := by decide +kernel
theorem d_Rk_add_133 : decode b_Rk_add 133 = .ok (.getfield 15, 3) := by decide +kernel
theorem d_Rk_add_136 : decode b_Rk_add 136 = .ok (.iload_n 3, 1) := by decide +kernel
theorem d_Rk_add_137 : decode b_Rk_add 137 = .ok (.iload_n 2, 1) := by decide +kernel
theorem d_Rk_add_138 : decode b_Rk_add 138 = .ok (.iastore, 1) := by decide +kernel
theorem d_Rk_add_139 : decode b_Rk_add 139 = .ok (.aload_n 0, 1) := by decide +kernel
theorem d_Rk_add_140 : decode b_Rk_add 140 = .ok (.dup, 1) := by decide +kernel
theorem d_Rk_add_141 : decode b_Rk_add 141 = .ok (.getfield 18, 3) := by decide +kernel
theorem d_Rk_add_144 : decode b_Rk_add 144 = .ok (.iconst 1, 1) := by decide +kernel
theorem d_Rk_add_145 : decode b_Rk_add 145 = .ok (.iadd, 1) := by decide +kernel
theorem d_Rk_add_146 : decode b_Rk_add 146 = .ok (.putfield 18, 3) := by decide +kernel
theorem d_Rk_add_149 : decode b_Rk_add 149 = .ok (.iconst 1, 1) := by decide +kernel
theorem d_Rk_add_150 : decode b_Rk_add 150 = .ok (.ireturn, 1) := by decide +kernel
theorem d_Rk_isFull_0 : decode b_Rk_isFull 0 = .ok (.aload_n 0, 1) := by decide +kernel
theorem d_Rk_isFull_1 : decode b_Rk_isFull 1 = .ok (.getfield 18, 3) := by decide +kernel
theorem d_Rk_isFull_4 : decode b_Rk_isFull 4 = .ok (.aload_n 0, 1) := by decide +kernel
theorem d_Rk_isFull_5 : decode b_Rk_isFull 5 = .ok (.getfield 28, 3) := by decide +kernel
theorem d_Rk_isFull_8 : decode b_Rk_isFull 8 = .ok (.if_icmp .lt 7, 3) := by decide +kernel
theorem d_Rk_isFull_11 : decode b_Rk_isFull 11 = .ok (.iconst 1, 1) := by decide +kernel
theorem d_Rk_isFull_12 : decode b_Rk_isFull 12 = .ok (.goto 4, 3) := by decide +kernel
theorem d_Rk_isFull_15 : decode b_Rk_isFull 15 = .ok (.iconst 0, 1) := by decide +kernel
theorem d_Rk_isFull_16 : decode b_Rk_isFull 16 = .ok (.ireturn, 1) := by decide +kernel
theorem d_Rk_precedes_0 : decode b_Rk_precedes 0 = .ok (.iload_n 2, 1) := by decide +kernel
theorem d_Rk_precedes_1 : decode b_Rk_precedes 1 = .ok (.iload 4, 2) := by decide +kernel
theorem d_Rk_precedes_3 : decode b_Rk_precedes 3 = .ok (.if_icmp .eq 27, 3) := by decide +kernel
theorem d_Rk_precedes_6 : decode b_Rk_precedes 6 = .ok (.aload_n 0, 1) := by decide +kernel
theorem d_Rk_precedes_7 : decode b_Rk_precedes 7 = .ok (.getfield 31, 3) := by decide +kernel
theorem d_Rk_precedes_10 : decode b_Rk_precedes 10 = .ok (.iload_n 2, 1) := by decide +kernel
theorem d_Rk_precedes_11 : decode b_Rk_precedes 11 = .ok (.iload 4, 2) := by decide +kernel
theorem d_Rk_precedes_13 : decode b_Rk_precedes 13 = .ok (.if_icmp .le 7, 3) := by decide +kernel
theorem d_Rk_precedes_16 : decode b_Rk_precedes 16 = .ok (.iconst 1, 1) := by decide +kernel
theorem d_Rk_precedes_17 : decode b_Rk_precedes 17 = .ok (.goto 4, 3) := by decide +kernel
theorem d_Rk_precedes_20 : decode b_Rk_precedes 20 = .ok (.iconst 0, 1) := by decide +kernel
theorem d_Rk_precedes_21 : decode b_Rk_precedes 21 = .ok (.if_icmp .ne 7, 3) := by decide +kernel
theorem d_Rk_precedes_24 : decode b_Rk_precedes 24 = .ok (.iconst 1, 1) := by decide +kernel
theorem d_Rk_precedes_25 : decode b_Rk_precedes 25 = .ok (.goto 4, 3) := by decide +kernel
theorem d_Rk_precedes_28 : decode b_Rk_precedes 28 = .ok (.iconst 0, 1) := by decide +kernel
theorem d_Rk_precedes_29 : decode b_Rk_precedes 29 = .ok (.ireturn, 1) := by decide +kernel
theorem d_Rk_precedes_30 : decode b_Rk_precedes 30 = .ok (.iload_n 1, 1) := by decide +kernel
theorem d_Rk_precedes_31 : decode b_Rk_precedes 31 = .ok (.iload_n 3, 1) := by decide +kernel
theorem d_Rk_precedes_32 : decode b_Rk_precedes 32 = .ok (.if_icmp .ge 7, 3) := by decide +kernel
theorem d_Rk_precedes_35 : decode b_Rk_precedes 35 = .ok (.iconst 1, 1) := by decide +kernel
theorem d_Rk_precedes_36 : decode b_Rk_precedes 36 = .ok (.goto 4, 3) := by decide +kernel
theorem d_Rk_precedes_39 : decode b_Rk_precedes 39 = .ok (.iconst 0, 1) := by decide +kernel
theorem d_Rk_precedes_40 : decode b_Rk_precedes 40 = .ok (.ireturn, 1) := by decide +kernel
theorem d_Rk_size_0 : decode b_Rk_size 0 = .ok (.aload_n 0, 1) := by decide +kernel
theorem d_Rk_size_1 : decode b_Rk_size 1 = .ok (.getfield 18, 3) := by decide +kernel
theorem d_Rk_size_4 : decode b_Rk_size 4 = .ok (.ireturn, 1) := by decide +kernel
theorem d_Rk_numberAt_0 : decode b_Rk_numberAt 0 = .ok (.aload_n 0, 1) := by decide +kernel
theorem d_Rk_numberAt_1 : decode b_Rk_numberAt 1 = .ok (.getfield 9, 3) := by decide +kernel
theorem d_Rk_numberAt_4 : decode b_Rk_numberAt 4 = .ok (.iload_n 1, 1) := by decide +kernel
theorem d_Rk_numberAt_5 : decode b_Rk_numberAt 5 = .ok (.iaload, 1) := by decide +kernel
theorem d_Rk_numberAt_6 : decode b_Rk_numberAt 6 = .ok (.ireturn, 1) := by decide +kernel
theorem d_Rk_changeRoom_0 : decode b_Rk_changeRoom 0 = .ok (.aload_n 0, 1) := by decide +kernel
theorem d_Rk_changeRoom_1 : decode b_Rk_changeRoom 1 = .ok (.iload_n 1, 1) := by decide +kernel
theorem d_Rk_changeRoom_2 : decode b_Rk_changeRoom 2 = .ok (.bipush 30, 2) := by decide +kernel
theorem d_Rk_changeRoom_4 : decode b_Rk_changeRoom 4 = .ok (.invokestatic 22, 3) := by decide +kernel
theorem d_Rk_changeRoom_7 : decode b_Rk_changeRoom 7 = .ok (.putfield 28, 3) := by decide +kernel
theorem d_Rk_changeRoom_10 : decode b_Rk_changeRoom 10 = .ok (.aload_n 0, 1) := by decide +kernel
theorem d_Rk_changeRoom_11 : decode b_Rk_changeRoom 11 = .ok (.aload_n 0, 1) := by decide +kernel
theorem d_Rk_changeRoom_12 : decode b_Rk_changeRoom 12 = .ok (.getfield 18, 3) := by decide +kernel
theorem d_Rk_changeRoom_15 : decode b_Rk_changeRoom 15 = .ok (.aload_n 0, 1) := by decide +kernel
theorem d_Rk_changeRoom_16 : decode b_Rk_changeRoom 16 = .ok (.getfield 28, 3) := by decide +kernel
theorem d_Rk_changeRoom_19 : decode b_Rk_changeRoom 19 = .ok (.invokestatic 22, 3) := by decide +kernel
theorem d_Rk_changeRoom_22 : decode b_Rk_changeRoom 22 = .ok (.putfield 18, 3) := by decide +kernel
theorem d_Rk_changeRoom_25 : decode b_Rk_changeRoom 25 = .ok (.return_, 1) := by decide +kernel
theorem d_Rk_valueAt_0 : decode b_Rk_valueAt 0 = .ok (.aload_n 0, 1) := by decide +kernel
theorem d_Rk_valueAt_1 : decode b_Rk_valueAt 1 = .ok (.getfield 15, 3) := by decide +kernel
theorem d_Rk_valueAt_4 : decode b_Rk_valueAt 4 = .ok (.iload_n 1, 1) := by decide +kernel
theorem d_Rk_valueAt_5 : decode b_Rk_valueAt 5 = .ok (.iaload, 1) := by decide +kernel
theorem d_Rk_valueAt_6 : decode b_Rk_valueAt 6 = .ok (.ireturn, 1) := by decide +kernel
theorem d_Rk_dropFirst_0 : decode b_Rk_dropFirst 0 = .ok (.iconst 1, 1) := by decide +kernel
theorem d_Rk_dropFirst_1 : decode b_Rk_dropFirst 1 = .ok (.istore_n 1, 1) := by decide +kernel
theorem d_Rk_dropFirst_2 : decode b_Rk_dropFirst 2 = .ok (.iload_n 1, 1) := by decide +kernel
theorem d_Rk_dropFirst_3 : decode b_Rk_dropFirst 3 = .ok (.aload_n 0, 1) := by decide +kernel
theorem d_Rk_dropFirst_4 : decode b_Rk_dropFirst 4 = .ok (.getfield 18, 3) := by decide +kernel
theorem d_Rk_dropFirst_7 : decode b_Rk_dropFirst 7 = .ok (.if_icmp .ge 37, 3) := by decide +kernel
theorem d_Rk_dropFirst_10 : decode b_Rk_dropFirst 10 = .ok (.aload_n 0, 1) := by decide +kernel
theorem d_Rk_dropFirst_11 : decode b_Rk_dropFirst 11 = .ok (.getfield 9, 3) := by decide +kernel
theorem d_Rk_dropFirst_14 : decode b_Rk_dropFirst 14 = .ok (.iload_n 1, 1) := by decide +kernel
theorem d_Rk_dropFirst_15 : decode b_Rk_dropFirst 15 = .ok (.iconst 1, 1) := by decide +kernel
theorem d_Rk_dropFirst_16 : decode b_Rk_dropFirst 16 = .ok (.isub, 1) := by decide +kernel
theorem d_Rk_dropFirst_17 : decode b_Rk_dropFirst 17 = .ok (.aload_n 0, 1) := by decide +kernel
theorem d_Rk_dropFirst_18 : decode b_Rk_dropFirst 18 = .ok (.getfield 9, 3) := by decide +kernel
theorem d_Rk_dropFirst_21 : decode b_Rk_dropFirst 21 = .ok (.iload_n 1, 1) := by decide +kernel
theorem d_Rk_dropFirst_22 : decode b_Rk_dropFirst 22 = .ok (.iaload, 1) := by decide +kernel
theorem d_Rk_dropFirst_23 : decode b_Rk_dropFirst 23 = .ok (.iastore, 1) := by decide +kernel
theorem d_Rk_dropFirst_24 : decode b_Rk_dropFirst 24 = .ok (.aload_n 0, 1) := by decide +kernel
theorem d_Rk_dropFirst_25 : decode b_Rk_dropFirst 25 = .ok (.getfield 15, 3) := by decide +kernel
theorem d_Rk_dropFirst_28 : decode b_Rk_dropFirst 28 = .ok (.iload_n 1, 1) := by decide +kernel
theorem d_Rk_dropFirst_29 : decode b_Rk_dropFirst 29 = .ok (.iconst 1, 1) := by decide +kernel
theorem d_Rk_dropFirst_30 : decode b_Rk_dropFirst 30 = .ok (.isub, 1) := by decide +kernel
theorem d_Rk_dropFirst_31 : decode b_Rk_dropFirst 31 = .ok (.aload_n 0, 1) := by decide +kernel
theorem d_Rk_dropFirst_32 : decode b_Rk_dropFirst 32 = .ok (.getfield 15, 3) := by decide +kernel
theorem d_Rk_dropFirst_35 : decode b_Rk_dropFirst 35 = .ok (.iload_n 1, 1) := by decide +kernel
theorem d_Rk_dropFirst_36 : decode b_Rk_dropFirst 36 = .ok (.iaload, 1) := by decide +kernel
theorem d_Rk_dropFirst_37 : decode b_Rk_dropFirst 37 = .ok (.iastore, 1) := by decide +kernel
theorem d_Rk_dropFirst_38 : decode b_Rk_dropFirst 38 = .ok (.iinc 1 1, 3) := by decide +kernel
theorem d_Rk_dropFirst_41 : decode b_Rk_dropFirst 41 = .ok (.goto (-39), 3) := by decide +kernel
theorem d_Rk_dropFirst_44 : decode b_Rk_dropFirst 44 = .ok (.aload_n 0, 1) := by decide +kernel
theorem d_Rk_dropFirst_45 : decode b_Rk_dropFirst 45 = .ok (.iconst 0, 1) := by decide +kernel
theorem d_Rk_dropFirst_46 : decode b_Rk_dropFirst 46 = .ok (.aload_n 0, 1) := by decide +kernel
theorem d_Rk_dropFirst_47 : decode b_Rk_dropFirst 47 = .ok (.getfield 18, 3) := by decide +kernel
theorem d_Rk_dropFirst_50 : decode b_Rk_dropFirst 50 = .ok (.iconst 1, 1) := by decide +kernel
theorem d_Rk_dropFirst_51 : decode b_Rk_dropFirst 51 = .ok (.isub, 1) := by decide +kernel
theorem d_Rk_dropFirst_52 : decode b_Rk_dropFirst 52 = .ok (.invokestatic 43, 3) := by decide +kernel
theorem d_Rk_dropFirst_55 : decode b_Rk_dropFirst 55 = .ok (.putfield 18, 3) := by decide +kernel
theorem d_Rk_dropFirst_58 : decode b_Rk_dropFirst 58 = .ok (.return_, 1) := by decide +kernel
theorem d_Rk_lastPrecedes_0 : decode b_Rk_lastPrecedes 0 = .ok (.aload_n 0, 1) := by decide +kernel
theorem d_Rk_lastPrecedes_1 : decode b_Rk_lastPrecedes 1 = .ok (.getfield 18, 3) := by decide +kernel
theorem d_Rk_lastPrecedes_4 : decode b_Rk_lastPrecedes 4 = .ok (.ifCond .le 38, 3) := by decide +kernel
theorem d_Rk_lastPrecedes_7 : decode b_Rk_lastPrecedes 7 = .ok (.aload_n 0, 1) := by decide +kernel
theorem d_Rk_lastPrecedes_8 : decode b_Rk_lastPrecedes 8 = .ok (.aload_n 0, 1) := by decide +kernel
theorem d_Rk_lastPrecedes_9 : decode b_Rk_lastPrecedes 9 = .ok (.getfield 9, 3) := by decide +kernel
theorem d_Rk_lastPrecedes_12 : decode b_Rk_lastPrecedes 12 = .ok (.aload_n 0, 1) := by decide +kernel
theorem d_Rk_lastPrecedes_13 : decode b_Rk_lastPrecedes 13 = .ok (.getfield 18, 3) := by decide +kernel
theorem d_Rk_lastPrecedes_16 : decode b_Rk_lastPrecedes 16 = .ok (.iconst 1, 1) := by decide +kernel
theorem d_Rk_lastPrecedes_17 : decode b_Rk_lastPrecedes 17 = .ok (.isub, 1) := by decide +kernel
theorem d_Rk_lastPrecedes_18 : decode b_Rk_lastPrecedes 18 = .ok (.iaload, 1) := by decide +kernel
theorem d_Rk_lastPrecedes_19 : decode b_Rk_lastPrecedes 19 = .ok (.aload_n 0, 1) := by decide +kernel
theorem d_Rk_lastPrecedes_20 : decode b_Rk_lastPrecedes 20 = .ok (.getfield 15, 3) := by decide +kernel
theorem d_Rk_lastPrecedes_23 : decode b_Rk_lastPrecedes 23 = .ok (.aload_n 0, 1) := by decide +kernel
theorem d_Rk_lastPrecedes_24 : decode b_Rk_lastPrecedes 24 = .ok (.getfield 18, 3) := by decide +kernel
theorem d_Rk_lastPrecedes_27 : decode b_Rk_lastPrecedes 27 = .ok (.iconst 1, 1) := by decide +kernel
theorem d_Rk_lastPrecedes_28 : decode b_Rk_lastPrecedes 28 = .ok (.isub, 1) := by decide +kernel
theorem d_Rk_lastPrecedes_29 : decode b_Rk_lastPrecedes 29 = .ok (.iaload, 1) := by decide +kernel
theorem d_Rk_lastPrecedes_30 : decode b_Rk_lastPrecedes 30 = .ok (.iload_n 1, 1) := by decide +kernel
theorem d_Rk_lastPrecedes_31 : decode b_Rk_lastPrecedes 31 = .ok (.iload_n 2, 1) := by decide +kernel
theorem d_Rk_lastPrecedes_32 : decode b_Rk_lastPrecedes 32 = .ok (.invokevirtual 35, 3) := by decide +kernel
theorem d_Rk_lastPrecedes_35 : decode b_Rk_lastPrecedes 35 = .ok (.ifCond .eq 7, 3) := by decide +kernel
theorem d_Rk_lastPrecedes_38 : decode b_Rk_lastPrecedes 38 = .ok (.iconst 1, 1) := by decide +kernel
theorem d_Rk_lastPrecedes_39 : decode b_Rk_lastPrecedes 39 = .ok (.goto 4, 3) := by decide +kernel
theorem d_Rk_lastPrecedes_42 : decode b_Rk_lastPrecedes 42 = .ok (.iconst 0, 1) := by decide +kernel
theorem d_Rk_lastPrecedes_43 : decode b_Rk_lastPrecedes 43 = .ok (.ireturn, 1) := by decide +kernel
theorem d_Rk_holds_0 : decode b_Rk_holds 0 = .ok (.iconst 0, 1) := by decide +kernel
theorem d_Rk_holds_1 : decode b_Rk_holds 1 = .ok (.istore_n 2, 1) := by decide +kernel
theorem d_Rk_holds_2 : decode b_Rk_holds 2 = .ok (.iload_n 2, 1) := by decide +kernel
theorem d_Rk_holds_3 : decode b_Rk_holds 3 = .ok (.aload_n 0, 1) := by decide +kernel
theorem d_Rk_holds_4 : decode b_Rk_holds 4 = .ok (.getfield 18, 3) := by decide +kernel
theorem d_Rk_holds_7 : decode b_Rk_holds 7 = .ok (.if_icmp .ge 21, 3) := by decide +kernel
theorem d_Rk_holds_10 : decode b_Rk_holds 10 = .ok (.aload_n 0, 1) := by decide +kernel
theorem d_Rk_holds_11 : decode b_Rk_holds 11 = .ok (.getfield 9, 3) := by decide +kernel
theorem d_Rk_holds_14 : decode b_Rk_holds 14 = .ok (.iload_n 2, 1) := by decide +kernel
theorem d_Rk_holds_15 : decode b_Rk_holds 15 = .ok (.iaload, 1) := by decide +kernel
theorem d_Rk_holds_16 : decode b_Rk_holds 16 = .ok (.iload_n 1, 1) := by decide +kernel
theorem d_Rk_holds_17 : decode b_Rk_holds 17 = .ok (.if_icmp .ne 5, 3) := by decide +kernel
theorem d_Rk_holds_20 : decode b_Rk_holds 20 = .ok (.iconst 1, 1) := by decide +kernel
theorem d_Rk_holds_21 : decode b_Rk_holds 21 = .ok (.ireturn, 1) := by decide +kernel
theorem d_Rk_holds_22 : decode b_Rk_holds 22 = .ok (.iinc 2 1, 3) := by decide +kernel
theorem d_Rk_holds_25 : decode b_Rk_holds 25 = .ok (.goto (-23), 3) := by decide +kernel
theorem d_Rk_holds_28 : decode b_Rk_holds 28 = .ok (.iconst 0, 1) := by decide +kernel
theorem d_Rk_holds_29 : decode b_Rk_holds 29 = .ok (.ireturn, 1) := by decide +kernel
end
section
theorem d_Do_store_0 : decode b_Do_store 0 = .ok (.aload_n 0, 1) := by decide +kernel
theorem d_Do_store_1 : decode b_Do_store 1 = .ok (.getfield 11, 3) := by decide +kernel
theorem d_Do_store_4 : decode b_Do_store 4 = .ok (.iload_n 1, 1) := by decide +kernel
theorem d_Do_store_5 : decode b_Do_store 5 = .ok (.aaload, 1) := by decide +kernel
theorem d_Do_store_6 : decode b_Do_store 6 = .ok (.iload_n 2, 1) := by decide +kernel
theorem d_Do_store_7 : decode b_Do_store 7 = .ok (.iload_n 3, 1) := by decide +kernel
theorem d_Do_store_8 : decode b_Do_store 8 = .ok (.iload 4, 2) := by decide +kernel
theorem d_Do_store_10 : decode b_Do_store 10 = .ok (.iload 5, 2) := by decide +kernel
theorem d_Do_store_12 : decode b_Do_store 12 = .ok (.invokestatic 23, 3) := by decide +kernel
theorem d_Do_store_15 : decode b_Do_store 15 = .ok (.aload_n 0, 1) := by decide +kernel
theorem d_Do_store_16 : decode b_Do_store 16 = .ok (.getfield 16, 3) := by decide +kernel
theorem d_Do_store_19 : decode b_Do_store 19 = .ok (.iload_n 1, 1) := by decide +kernel
theorem d_Do_store_20 : decode b_Do_store 20 = .ok (.iload 6, 2) := by decide +kernel
theorem d_Do_store_22 : decode b_Do_store 22 = .ok (.iastore, 1) := by decide +kernel
theorem d_Do_store_23 : decode b_Do_store 23 = .ok (.aload_n 0, 1) := by decide +kernel
theorem d_Do_store_24 : decode b_Do_store 24 = .ok (.dup, 1) := by decide +kernel
theorem d_Do_store_25 : decode b_Do_store 25 = .ok (.getfield 27, 3) := by decide +kernel
theorem d_Do_store_28 : decode b_Do_store 28 = .ok (.iconst 1, 1) := by decide +kernel
theorem d_Do_store_29 : decode b_Do_store 29 = .ok (.iload_n 1, 1) := by decide +kernel
theorem d_Do_store_30 : decode b_Do_store 30 = .ok (.ishl, 1) := by decide +kernel
theorem d_Do_store_31 : decode b_Do_store 31 = .ok (.ior, 1) := by decide +kernel
theorem d_Do_store_32 : decode b_Do_store 32 = .ok (.putfield 27, 3) := by decide +kernel
theorem d_Do_store_35 : decode b_Do_store 35 = .ok (.return_, 1) := by decide +kernel
theorem d_Do_vector_0 : decode b_Do_vector 0 = .ok (.aload_n 0, 1) := by decide +kernel
theorem d_Do_vector_1 : decode b_Do_vector 1 = .ok (.getfield 11, 3) := by decide +kernel
theorem d_Do_vector_4 : decode b_Do_vector 4 = .ok (.iload_n 1, 1) := by decide +kernel
theorem d_Do_vector_5 : decode b_Do_vector 5 = .ok (.aaload, 1) := by decide +kernel
theorem d_Do_vector_6 : decode b_Do_vector 6 = .ok (.areturn, 1) := by decide +kernel
theorem d_Do_measure_0 : decode b_Do_measure 0 = .ok (.iconst 0, 1) := by decide +kernel
theorem d_Do_measure_1 : decode b_Do_measure 1 = .ok (.istore_n 3, 1) := by decide +kernel
theorem d_Do_measure_2 : decode b_Do_measure 2 = .ok (.iload_n 3, 1) := by decide +kernel
theorem d_Do_measure_3 : decode b_Do_measure 3 = .ok (.bipush 30, 2) := by decide +kernel
theorem d_Do_measure_5 : decode b_Do_measure 5 = .ok (.if_icmp .ge 22, 3) := by decide +kernel
theorem d_Do_measure_8 : decode b_Do_measure 8 = .ok (.aload_n 2, 1) := by decide +kernel
theorem d_Do_measure_9 : decode b_Do_measure 9 = .ok (.iload_n 3, 1) := by decide +kernel
theorem d_Do_measure_10 : decode b_Do_measure 10 = .ok (.aload_n 1, 1) := by decide +kernel
theorem d_Do_measure_11 : decode b_Do_measure 11 = .ok (.aload_n 0, 1) := by decide +kernel
theorem d_Do_measure_12 : decode b_Do_measure 12 = .ok (.getfield 11, 3) := by decide +kernel
theorem d_Do_measure_15 : decode b_Do_measure 15 = .ok (.iload_n 3, 1) := by decide +kernel
theorem d_Do_measure_16 : decode b_Do_measure 16 = .ok (.aaload, 1) := by decide +kernel
theorem d_Do_measure_17 : decode b_Do_measure 17 = .ok (.invokestatic 48, 3) := by decide +kernel
theorem d_Do_measure_20 : decode b_Do_measure 20 = .ok (.iastore, 1) := by decide +kernel
theorem d_Do_measure_21 : decode b_Do_measure 21 = .ok (.iinc 3 1, 3) := by decide +kernel
theorem d_Do_measure_24 : decode b_Do_measure 24 = .ok (.goto (-22), 3) := by decide +kernel
theorem d_Do_measure_27 : decode b_Do_measure 27 = .ok (.return_, 1) := by decide +kernel
theorem d_Do_retire_0 : decode b_Do_retire 0 = .ok (.aload_n 0, 1) := by decide +kernel
theorem d_Do_retire_1 : decode b_Do_retire 1 = .ok (.iload_n 1, 1) := by decide +kernel
theorem d_Do_retire_2 : decode b_Do_retire 2 = .ok (.invokevirtual 31, 3) := by decide +kernel
theorem d_Do_retire_5 : decode b_Do_retire 5 = .ok (.ifCond .ne 5, 3) := by decide +kernel
theorem d_Do_retire_8 : decode b_Do_retire 8 = .ok (.iconst 0, 1) := by decide +kernel
theorem d_Do_retire_9 : decode b_Do_retire 9 = .ok (.ireturn, 1) := by decide +kernel
theorem d_Do_retire_10 : decode b_Do_retire 10 = .ok (.aload_n 0, 1) := by decide +kernel
theorem d_Do_retire_11 : decode b_Do_retire 11 = .ok (.dup, 1) := by decide +kernel
theorem d_Do_retire_12 : decode b_Do_retire 12 = .ok (.getfield 27, 3) := by decide +kernel
theorem d_Do_retire_15 : decode b_Do_retire 15 = .ok (.iconst 1, 1) := by decide +kernel
theorem d_Do_retire_16 : decode b_Do_retire 16 = .ok (.iload_n 1, 1) := by decide +kernel
theorem d_Do_retire_17 : decode b_Do_retire 17 = .ok (.ishl, 1) := by decide +kernel
theorem d_Do_retire_18 : decode b_Do_retire 18 = .ok (.iconst (-1), 1) := by decide +kernel
theorem d_Do_retire_19 : decode b_Do_retire 19 = .ok (.ixor, 1) := by decide +kernel
theorem d_Do_retire_20 : decode b_Do_retire 20 = .ok (.iand, 1) := by decide +kernel
theorem d_Do_retire_21 : decode b_Do_retire 21 = .ok (.putfield 27, 3) := by decide +kernel
theorem d_Do_retire_24 : decode b_Do_retire 24 = .ok (.iconst 1, 1) := by decide +kernel
theorem d_Do_retire_25 : decode b_Do_retire 25 = .ok (.ireturn, 1) := by decide +kernel
theorem d_Do_isLive_0 : decode b_Do_isLive 0 = .ok (.iload_n 1, 1) := by decide +kernel
theorem d_Do_isLive_1 : decode b_Do_isLive 1 = .ok (.invokestatic 35, 3) := by decide +kernel
theorem d_Do_isLive_4 : decode b_Do_isLive 4 = .ok (.ifCond .eq 18, 3) := by decide +kernel
theorem d_Do_isLive_7 : decode b_Do_isLive 7 = .ok (.aload_n 0, 1) := by decide +kernel
theorem d_Do_isLive_8 : decode b_Do_isLive 8 = .ok (.getfield 27, 3) := by decide +kernel
theorem d_Do_isLive_11 : decode b_Do_isLive 11 = .ok (.iload_n 1, 1) := by decide +kernel
theorem d_Do_isLive_12 : decode b_Do_isLive 12 = .ok (.invokestatic 38, 3) := by decide +kernel
theorem d_Do_isLive_15 : decode b_Do_isLive 15 = .ok (.ifCond .eq 7, 3) := by decide +kernel
theorem d_Do_isLive_18 : decode b_Do_isLive 18 = .ok (.iconst 1, 1) := by decide +kernel
theorem d_Do_isLive_19 : decode b_Do_isLive 19 = .ok (.goto 4, 3) := by decide +kernel
theorem d_Do_isLive_22 : decode b_Do_isLive 22 = .ok (.iconst 0, 1) := by decide +kernel
theorem d_Do_isLive_23 : decode b_Do_isLive 23 = .ok (.ireturn, 1) := by decide +kernel
theorem d_Do_liveCount_0 : decode b_Do_liveCount 0 = .ok (.aload_n 0, 1) := by decide +kernel
theorem d_Do_liveCount_1 : decode b_Do_liveCount 1 = .ok (.getfield 27, 3) := by decide +kernel
theorem d_Do_liveCount_4 : decode b_Do_liveCount 4 = .ok (.invokestatic 42, 3) := by decide +kernel
theorem d_Do_liveCount_7 : decode b_Do_liveCount 7 = .ok (.ireturn, 1) := by decide +kernel
theorem d_Do_rankByDistance_0 : decode b_Do_rankByDistance 0 = .ok (.iconst 0, 1) := by decide +kernel
theorem d_Do_rankByDistance_1 : decode b_Do_rankByDistance 1 = .ok (.istore_n 3, 1) := by decide +kernel
theorem d_Do_rankByDistance_2 : decode b_Do_rankByDistance 2 = .ok (.iload_n 3, 1) := by decide +kernel
theorem d_Do_rankByDistance_3 : decode b_Do_rankByDistance 3 = .ok (.bipush 30, 2) := by decide +kernel
theorem d_Do_rankByDistance_5 : decode b_Do_rankByDistance 5 = .ok (.if_icmp .ge 33, 3) := by decide +kernel
theorem d_Do_rankByDistance_8 : decode b_Do_rankByDistance 8 = .ok (.aload_n 0, 1) := by decide +kernel
theorem d_Do_rankByDistance_9 : decode b_Do_rankByDistance 9 = .ok (.iload_n 3, 1) := by decide +kernel
theorem d_Do_rankByDistance_10 : decode b_Do_rankByDistance 10 = .ok (.invokevirtual 31, 3) := by decide +kernel
theorem d_Do_rankByDistance_13 : decode b_Do_rankByDistance 13 = .ok (.ifCond .eq 19, 3) := by decide +kernel
theorem d_Do_rankByDistance_16 : decode b_Do_rankByDistance 16 = .ok (.aload_n 2, 1) := by decide +kernel
theorem d_Do_rankByDistance_17 : decode b_Do_rankByDistance 17 = .ok (.iload_n 3, 1) := by decide +kernel
theorem d_Do_rankByDistance_18 : decode b_Do_rankByDistance 18 = .ok (.aload_n 1, 1) := by decide +kernel
theorem d_Do_rankByDistance_19 : decode b_Do_rankByDistance 19 = .ok (.aload_n 0, 1) := by decide +kernel
theorem d_Do_rankByDistance_20 : decode b_Do_rankByDistance 20 = .ok (.getfield 11, 3) := by decide +kernel
theorem d_Do_rankByDistance_23 : decode b_Do_rankByDistance 23 = .ok (.iload_n 3, 1) := by decide +kernel
theorem d_Do_rankByDistance_24 : decode b_Do_rankByDistance 24 = .ok (.aaload, 1) := by decide +kernel
theorem d_Do_rankByDistance_25 : decode b_Do_rankByDistance 25 = .ok (.invokestatic 48, 3) := by decide +kernel
theorem d_Do_rankByDistance_28 : decode b_Do_rankByDistance 28 = .ok (.invokevirtual 52, 3) := by decide +kernel
theorem d_Do_rankByDistance_31 : decode b_Do_rankByDistance 31 = .ok (.pop, 1) := by decide +kernel
theorem d_Do_rankByDistance_32 : decode b_Do_rankByDistance 32 = .ok (.iinc 3 1, 3) := by decide +kernel
theorem d_Do_rankByDistance_35 : decode b_Do_rankByDistance 35 = .ok (.goto (-33), 3) := by decide +kernel
theorem d_Do_rankByDistance_38 : decode b_Do_rankByDistance 38 = .ok (.return_, 1) := by decide +kernel
theorem d_Do_rankByScore_0 : decode b_Do_rankByScore 0 = .ok (.aload_n 0, 1) := by decide +kernel
theorem d_Do_rankByScore_1 : decode b_Do_rankByScore 1 = .ok (.invokevirtual 57, 3) := by decide +kernel
theorem d_Do_rankByScore_4 : decode b_Do_rankByScore 4 = .ok (.iconst 0, 1) := by decide +kernel
theorem d_Do_rankByScore_5 : decode b_Do_rankByScore 5 = .ok (.istore_n 3, 1) := by decide +kernel
theorem d_Do_rankByScore_6 : decode b_Do_rankByScore 6 = .ok (.iload_n 3, 1) := by decide +kernel
theorem d_Do_rankByScore_7 : decode b_Do_rankByScore 7 = .ok (.bipush 30, 2) := by decide +kernel
theorem d_Do_rankByScore_9 : decode b_Do_rankByScore 9 = .ok (.if_icmp .ge 42, 3) := by decide +kernel
theorem d_Do_rankByScore_12 : decode b_Do_rankByScore 12 = .ok (.aload_n 0, 1) := by decide +kernel
theorem d_Do_rankByScore_13 : decode b_Do_rankByScore 13 = .ok (.iload_n 3, 1) := by decide +kernel
theorem d_Do_rankByScore_14 : decode b_Do_rankByScore 14 = .ok (.invokevirtual 31, 3) := by decide +kernel
theorem d_Do_rankByScore_17 : decode b_Do_rankByScore 17 = .ok (.ifCond .eq 12, 3) := by decide +kernel
theorem d_Do_rankByScore_20 : decode b_Do_rankByScore 20 = .ok (.aload_n 0, 1) := by decide +kernel
theorem d_Do_rankByScore_21 : decode b_Do_rankByScore 21 = .ok (.iload_n 3, 1) := by decide +kernel
theorem d_Do_rankByScore_22 : decode b_Do_rankByScore 22 = .ok (.iload_n 1, 1) := by decide +kernel
theorem d_Do_rankByScore_23 : decode b_Do_rankByScore 23 = .ok (.invokevirtual 60, 3) := by decide +kernel
theorem d_Do_rankByScore_26 : decode b_Do_rankByScore 26 = .ok (.goto 4, 3) := by decide +kernel
theorem d_Do_rankByScore_29 : decode b_Do_rankByScore 29 = .ok (.iconst 0, 1) := by decide +kernel
theorem d_Do_rankByScore_30 : decode b_Do_rankByScore 30 = .ok (.istore 4, 2) := by decide +kernel
theorem d_Do_rankByScore_32 : decode b_Do_rankByScore 32 = .ok (.iload 4, 2) := by decide +kernel
theorem d_Do_rankByScore_34 : decode b_Do_rankByScore 34 = .ok (.ifCond .le 11, 3) := by decide +kernel
theorem d_Do_rankByScore_37 : decode b_Do_rankByScore 37 = .ok (.aload_n 2, 1) := by decide +kernel
theorem d_Do_rankByScore_38 : decode b_Do_rankByScore 38 = .ok (.iload_n 3, 1) := by decide +kernel
theorem d_Do_rankByScore_39 : decode b_Do_rankByScore 39 = .ok (.iload 4, 2) := by decide +kernel
theorem d_Do_rankByScore_41 : decode b_Do_rankByScore 41 = .ok (.invokevirtual 52, 3) := by decide +kernel
theorem d_Do_rankByScore_44 : decode b_Do_rankByScore 44 = .ok (.pop, 1) := by decide +kernel
theorem d_Do_rankByScore_45 : decode b_Do_rankByScore 45 = .ok (.iinc 3 1, 3) := by decide +kernel
theorem d_Do_rankByScore_48 : decode b_Do_rankByScore 48 = .ok (.goto (-42), 3) := by decide +kernel
theorem d_Do_rankByScore_51 : decode b_Do_rankByScore 51 = .ok (.return_, 1) := by decide +kernel
theorem d_Do_weighWords_0 : decode b_Do_weighWords 0 = .ok (.iconst 0, 1) := by decide +kernel
theorem d_Do_weighWords_1 : decode b_Do_weighWords 1 = .ok (.istore_n 1, 1) := by decide +kernel
theorem d_Do_weighWords_2 : decode b_Do_weighWords 2 = .ok (.iload_n 1, 1) := by decide +kernel
theorem d_Do_weighWords_3 : decode b_Do_weighWords 3 = .ok (.bipush 8, 2) := by decide +kernel
theorem d_Do_weighWords_5 : decode b_Do_weighWords 5 = .ok (.if_icmp .ge 37, 3) := by decide +kernel
theorem d_Do_weighWords_8 : decode b_Do_weighWords 8 = .ok (.aload_n 0, 1) := by decide +kernel
theorem d_Do_weighWords_9 : decode b_Do_weighWords 9 = .ok (.iload_n 1, 1) := by decide +kernel
theorem d_Do_weighWords_10 : decode b_Do_weighWords 10 = .ok (.invokevirtual 64, 3) := by decide +kernel
theorem d_Do_weighWords_13 : decode b_Do_weighWords 13 = .ok (.istore_n 2, 1) := by decide +kernel
theorem d_Do_weighWords_14 : decode b_Do_weighWords 14 = .ok (.aload_n 0, 1) := by decide +kernel
theorem d_Do_weighWords_15 : decode b_Do_weighWords 15 = .ok (.getfield 20, 3) := by decide +kernel
theorem d_Do_weighWords_18 : decode b_Do_weighWords 18 = .ok (.iload_n 1, 1) := by decide +kernel
theorem d_Do_weighWords_19 : decode b_Do_weighWords 19 = .ok (.iload_n 2, 1) := by decide +kernel
theorem d_Do_weighWords_20 : decode b_Do_weighWords 20 = .ok (.ifCond .le 14, 3) := by decide +kernel
theorem d_Do_weighWords_23 : decode b_Do_weighWords 23 = .ok (.iconst 1, 1) := by decide +kernel
theorem d_Do_weighWords_24 : decode b_Do_weighWords 24 = .ok (.aload_n 0, 1) := by decide +kernel
theorem d_Do_weighWords_25 : decode b_Do_weighWords 25 = .ok (.invokevirtual 67, 3) := by decide +kernel
theorem d_Do_weighWords_28 : decode b_Do_weighWords 28 = .ok (.iload_n 2, 1) := by decide +kernel
theorem d_Do_weighWords_29 : decode b_Do_weighWords 29 = .ok (.idiv, 1) := by decide +kernel
theorem d_Do_weighWords_30 : decode b_Do_weighWords 30 = .ok (.iadd, 1) := by decide +kernel
theorem d_Do_weighWords_31 : decode b_Do_weighWords 31 = .ok (.goto 4, 3) := by decide +kernel
theorem d_Do_weighWords_34 : decode b_Do_weighWords 34 = .ok (.iconst 0, 1) := by decide +kernel
theorem d_Do_weighWords_35 : decode b_Do_weighWords 35 = .ok (.iastore, 1) := by decide +kernel
theorem d_Do_weighWords_36 : decode b_Do_weighWords 36 = .ok (.iinc 1 1, 3) := by decide +kernel
theorem d_Do_weighWords_39 : decode b_Do_weighWords 39 = .ok (.goto (-37), 3) := by decide +kernel
theorem d_Do_weighWords_42 : decode b_Do_weighWords 42 = .ok (.return_, 1) := by decide +kernel
theorem d_Do_liveWith_0 : decode b_Do_liveWith 0 = .ok (.iconst 0, 1) := by decide +kernel
theorem d_Do_liveWith_1 : decode b_Do_liveWith 1 = .ok (.istore_n 2, 1) := by decide +kernel
theorem d_Do_liveWith_2 : decode b_Do_liveWith 2 = .ok (.iconst 0, 1) := by decide +kernel
theorem d_Do_liveWith_3 : decode b_Do_liveWith 3 = .ok (.istore_n 3, 1) := by decide +kernel
theorem d_Do_liveWith_4 : decode b_Do_liveWith 4 = .ok (.iload_n 3, 1) := by decide +kernel
theorem d_Do_liveWith_5 : decode b_Do_liveWith 5 = .ok (.bipush 30, 2) := by decide +kernel
theorem d_Do_liveWith_7 : decode b_Do_liveWith 7 = .ok (.if_icmp .ge 29, 3) := by decide +kernel
theorem d_Do_liveWith_10 : decode b_Do_liveWith 10 = .ok (.aload_n 0, 1) := by decide +kernel
theorem d_Do_liveWith_11 : decode b_Do_liveWith 11 = .ok (.iload_n 3, 1) := by decide +kernel
theorem d_Do_liveWith_12 : decode b_Do_liveWith 12 = .ok (.invokevirtual 31, 3) := by decide +kernel
theorem d_Do_liveWith_15 : decode b_Do_liveWith 15 = .ok (.ifCond .eq 15, 3) := by decide +kernel
theorem d_Do_liveWith_18 : decode b_Do_liveWith 18 = .ok (.aload_n 0, 1) := by decide +kernel
theorem d_Do_liveWith_19 : decode b_Do_liveWith 19 = .ok (.iload_n 3, 1) := by decide +kernel
theorem d_Do_liveWith_20 : decode b_Do_liveWith 20 = .ok (.iload_n 1, 1) := by decide +kernel
theorem d_Do_liveWith_21 : decode b_Do_liveWith 21 = .ok (.invokevirtual 71, 3) := by decide +kernel
theorem d_Do_liveWith_24 : decode b_Do_liveWith 24 = .ok (.ifCond .le 6, 3) := by decide +kernel
theorem d_Do_liveWith_27 : decode b_Do_liveWith 27 = .ok (.iinc 2 1, 3) := by decide +kernel
theorem d_Do_liveWith_30 : decode b_Do_liveWith 30 = .ok (.iinc 3 1, 3) := by decide +kernel
theorem d_Do_liveWith_33 : decode b_Do_liveWith 33 = .ok (.goto (-29), 3) := by decide +kernel
theorem d_Do_liveWith_36 : decode b_Do_liveWith 36 = .ok (.iload_n 2, 1) := by decide +kernel
theorem d_Do_liveWith_37 : decode b_Do_liveWith 37 = .ok (.ireturn, 1) := by decide +kernel
theorem d_Do_countOfWord_0 : decode b_Do_countOfWord 0 = .ok (.aload_n 0, 1) := by decide +kernel
theorem d_Do_countOfWord_1 : decode b_Do_countOfWord 1 = .ok (.getfield 16, 3) := by decide +kernel
theorem d_Do_countOfWord_4 : decode b_Do_countOfWord 4 = .ok (.iload_n 1, 1) := by decide +kernel
theorem d_Do_countOfWord_5 : decode b_Do_countOfWord 5 = .ok (.iaload, 1) := by decide +kernel
theorem d_Do_countOfWord_6 : decode b_Do_countOfWord 6 = .ok (.iconst 3, 1) := by decide +kernel
theorem d_Do_countOfWord_7 : decode b_Do_countOfWord 7 = .ok (.iload_n 2, 1) := by decide +kernel
theorem d_Do_countOfWord_8 : decode b_Do_countOfWord 8 = .ok (.imul, 1) := by decide +kernel
theorem d_Do_countOfWord_9 : decode b_Do_countOfWord 9 = .ok (.ishr, 1) := by decide +kernel
theorem d_Do_countOfWord_10 : decode b_Do_countOfWord 10 = .ok (.bipush 7, 2) := by decide +kernel
theorem d_Do_countOfWord_12 : decode b_Do_countOfWord 12 = .ok (.iand, 1) := by decide +kernel
theorem d_Do_countOfWord_13 : decode b_Do_countOfWord 13 = .ok (.ireturn, 1) := by decide +kernel
theorem d_Do_score_0 : decode b_Do_score 0 = .ok (.iconst 0, 1) := by decide +kernel
theorem d_Do_score_1 : decode b_Do_score 1 = .ok (.istore_n 3, 1) := by decide +kernel
theorem d_Do_score_2 : decode b_Do_score 2 = .ok (.iconst 0, 1) := by decide +kernel
theorem d_Do_score_3 : decode b_Do_score 3 = .ok (.istore 4, 2) := by decide +kernel
theorem d_Do_score_5 : decode b_Do_score 5 = .ok (.iload 4, 2) := by decide +kernel
theorem d_Do_score_7 : decode b_Do_score 7 = .ok (.bipush 8, 2) := by decide +kernel
theorem d_Do_score_9 : decode b_Do_score 9 = .ok (.if_icmp .ge 48, 3) := by decide +kernel
theorem d_Do_score_12 : decode b_Do_score 12 = .ok (.iload_n 2, 1) := by decide +kernel
theorem d_Do_score_13 : decode b_Do_score 13 = .ok (.iload 4, 2) := by decide +kernel
theorem d_Do_score_15 : decode b_Do_score 15 = .ok (.invokestatic 38, 3) := by decide +kernel
theorem d_Do_score_18 : decode b_Do_score 18 = .ok (.ifCond .eq 33, 3) := by decide +kernel
theorem d_Do_score_21 : decode b_Do_score 21 = .ok (.aload_n 0, 1) := by decide +kernel
theorem d_Do_score_22 : decode b_Do_score 22 = .ok (.iload_n 1, 1) := by decide +kernel
theorem d_Do_score_23 : decode b_Do_score 23 = .ok (.iload 4, 2) := by decide +kernel
theorem d_Do_score_25 : decode b_Do_score 25 = .ok (.invokevirtual 71, 3) := by decide +kernel
theorem d_Do_score_28 : decode b_Do_score 28 = .ok (.istore 5, 2) := by decide +kernel
theorem d_Do_score_30 : decode b_Do_score 30 = .ok (.iload_n 3, 1) := by decide +kernel
theorem d_Do_score_31 : decode b_Do_score 31 = .ok (.bipush 100, 2) := by decide +kernel
theorem d_Do_score_33 : decode b_Do_score 33 = .ok (.iload 5, 2) := by decide +kernel
theorem d_Do_score_35 : decode b_Do_score 35 = .ok (.imul, 1) := by decide +kernel
theorem d_Do_score_36 : decode b_Do_score 36 = .ok (.iload 5, 2) := by decide +kernel
theorem d_Do_score_38 : decode b_Do_score 38 = .ok (.iconst 1, 1) := by decide +kernel
theorem d_Do_score_39 : decode b_Do_score 39 = .ok (.iadd, 1) := by decide +kernel
theorem d_Do_score_40 : decode b_Do_score 40 = .ok (.idiv, 1) := by decide +kernel
theorem d_Do_score_41 : decode b_Do_score 41 = .ok (.aload_n 0, 1) := by decide +kernel
theorem d_Do_score_42 : decode b_Do_score 42 = .ok (.getfield 20, 3) := by decide +kernel
theorem d_Do_score_45 : decode b_Do_score 45 = .ok (.iload 4, 2) := by decide +kernel
theorem d_Do_score_47 : decode b_Do_score 47 = .ok (.iaload, 1) := by decide +kernel
theorem d_Do_score_48 : decode b_Do_score 48 = .ok (.imul, 1) := by decide +kernel
theorem d_Do_score_49 : decode b_Do_score 49 = .ok (.iadd, 1) := by decide +kernel
theorem d_Do_score_50 : decode b_Do_score 50 = .ok (.istore_n 3, 1) := by decide +kernel
theorem d_Do_score_51 : decode b_Do_score 51 = .ok (.iinc 4 1, 3) := by decide +kernel
theorem d_Do_score_54 : decode b_Do_score 54 = .ok (.goto (-49), 3) := by decide +kernel
theorem d_Do_score_57 : decode b_Do_score 57 = .ok (.iload_n 3, 1) := by decide +kernel
theorem d_Do_score_58 : decode b_Do_score 58 = .ok (.ireturn, 1) := by decide +kernel
theorem d_Do_counts_0 : decode b_Do_counts 0 = .ok (.aload_n 0, 1) := by decide +kernel
theorem d_Do_counts_1 : decode b_Do_counts 1 = .ok (.getfield 16, 3) := by decide +kernel
theorem d_Do_counts_4 : decode b_Do_counts 4 = .ok (.iload_n 1, 1) := by decide +kernel
theorem d_Do_counts_5 : decode b_Do_counts 5 = .ok (.iaload, 1) := by decide +kernel
theorem d_Do_counts_6 : decode b_Do_counts 6 = .ok (.ireturn, 1) := by decide +kernel
theorem d_Do_coordinate_0 : decode b_Do_coordinate 0 = .ok (.aload_n 0, 1) := by decide +kernel
theorem d_Do_coordinate_1 : decode b_Do_coordinate 1 = .ok (.getfield 11, 3) := by decide +kernel
theorem d_Do_coordinate_4 : decode b_Do_coordinate 4 = .ok (.iload_n 1, 1) := by decide +kernel
theorem d_Do_coordinate_5 : decode b_Do_coordinate 5 = .ok (.aaload, 1) := by decide +kernel
theorem d_Do_coordinate_6 : decode b_Do_coordinate 6 = .ok (.iload_n 2, 1) := by decide +kernel
theorem d_Do_coordinate_7 : decode b_Do_coordinate 7 = .ok (.iaload, 1) := by decide +kernel
theorem d_Do_coordinate_8 : decode b_Do_coordinate 8 = .ok (.ireturn, 1) := by decide +kernel
end
section
theorem d_Ch_choose_0 : decode b_Ch_choose 0 = .ok (.aload_n 0, 1) := by decide +kernel
theorem d_Ch_choose_1 : decode b_Ch_choose 1 = .ok (.iconst 0, 1) := by decide +kernel
theorem d_Ch_choose_2 : decode b_Ch_choose 2 = .ok (.putfield 15, 3) := by decide +kernel
theorem d_Ch_choose_5 : decode b_Ch_choose 5 = .ok (.aload_n 0, 1) := by decide +kernel
theorem d_Ch_choose_6 : decode b_Ch_choose 6 = .ok (.iconst 0, 1) := by decide +kernel
theorem d_Ch_choose_7 : decode b_Ch_choose 7 = .ok (.putfield 19, 3) := by decide +kernel
theorem d_Ch_choose_10 : decode b_Ch_choose 10 = .ok (.iconst 0, 1) := by decide +kernel
theorem d_Ch_choose_11 : decode b_Ch_choose 11 = .ok (.istore 4, 2) := by decide +kernel
theorem d_Ch_choose_13 : decode b_Ch_choose 13 = .ok (.iload 4, 2) := by decide +kernel
theorem d_Ch_choose_15 : decode b_Ch_choose 15 = .ok (.aload_n 2, 1) := by decide +kernel
theorem d_Ch_choose_16 : decode b_Ch_choose 16 = .ok (.invokevirtual 22, 3) := by decide +kernel
theorem d_Ch_choose_19 : decode b_Ch_choose 19 = .ok (.if_icmp .ge 47, 3) := by decide +kernel
theorem d_Ch_choose_22 : decode b_Ch_choose 22 = .ok (.aload_n 0, 1) := by decide +kernel
theorem d_Ch_choose_23 : decode b_Ch_choose 23 = .ok (.getfield 15, 3) := by decide +kernel
theorem d_Ch_choose_26 : decode b_Ch_choose 26 = .ok (.iload_n 3, 1) := by decide +kernel
theorem d_Ch_choose_27 : decode b_Ch_choose 27 = .ok (.if_icmp .ge 39, 3) := by decide +kernel
theorem d_Ch_choose_30 : decode b_Ch_choose 30 = .ok (.aload_n 2, 1) := by decide +kernel
theorem d_Ch_choose_31 : decode b_Ch_choose 31 = .ok (.iload 4, 2) := by decide +kernel
theorem d_Ch_choose_33 : decode b_Ch_choose 33 = .ok (.invokevirtual 27, 3) := by decide +kernel
theorem d_Ch_choose_36 : decode b_Ch_choose 36 = .ok (.istore 5, 2) := by decide +kernel
theorem d_Ch_choose_38 : decode b_Ch_choose 38 = .ok (.aload_n 0, 1) := by decide +kernel
theorem d_Ch_choose_39 : decode b_Ch_choose 39 = .ok (.aload_n 1, 1) := by decide +kernel
theorem d_Ch_choose_40 : decode b_Ch_choose 40 = .ok (.iload 5, 2) := by decide +kernel
theorem d_Ch_choose_42 : decode b_Ch_choose 42 = .ok (.aload_n 2, 1) := by decide +kernel
theorem d_Ch_choose_43 : decode b_Ch_choose 43 = .ok (.iload 4, 2) := by decide +kernel
theorem d_Ch_choose_45 : decode b_Ch_choose 45 = .ok (.invokevirtual 31, 3) := by decide +kernel
theorem d_Ch_choose_48 : decode b_Ch_choose 48 = .ok (.invokevirtual 34, 3) := by decide +kernel
theorem d_Ch_choose_51 : decode b_Ch_choose 51 = .ok (.ifCond .eq 9, 3) := by decide +kernel
theorem d_Ch_choose_54 : decode b_Ch_choose 54 = .ok (.aload_n 0, 1) := by decide +kernel
theorem d_Ch_choose_55 : decode b_Ch_choose 55 = .ok (.iload 5, 2) := by decide +kernel
theorem d_Ch_choose_57 : decode b_Ch_choose 57 = .ok (.invokevirtual 38, 3) := by decide +kernel
theorem d_Ch_choose_60 : decode b_Ch_choose 60 = .ok (.iinc 4 1, 3) := by decide +kernel
theorem d_Ch_choose_63 : decode b_Ch_choose 63 = .ok (.goto (-50), 3) := by decide +kernel
theorem d_Ch_choose_66 : decode b_Ch_choose 66 = .ok (.iconst 0, 1) := by decide +kernel
theorem d_Ch_choose_67 : decode b_Ch_choose 67 = .ok (.istore 4, 2) := by decide +kernel
theorem d_Ch_choose_69 : decode b_Ch_choose 69 = .ok (.iload 4, 2) := by decide +kernel
theorem d_Ch_choose_71 : decode b_Ch_choose 71 = .ok (.aload_n 2, 1) := by decide +kernel
theorem d_Ch_choose_72 : decode b_Ch_choose 72 = .ok (.invokevirtual 22, 3) := by decide +kernel
theorem d_Ch_choose_75 : decode b_Ch_choose 75 = .ok (.if_icmp .ge 43, 3) := by decide +kernel
theorem d_Ch_choose_78 : decode b_Ch_choose 78 = .ok (.aload_n 0, 1) := by decide +kernel
theorem d_Ch_choose_79 : decode b_Ch_choose 79 = .ok (.getfield 15, 3) := by decide +kernel
theorem d_Ch_choose_82 : decode b_Ch_choose 82 = .ok (.iload_n 3, 1) := by decide +kernel
theorem d_Ch_choose_83 : decode b_Ch_choose 83 = .ok (.if_icmp .ge 35, 3) := by decide +kernel
theorem d_Ch_choose_86 : decode b_Ch_choose 86 = .ok (.aload_n 2, 1) := by decide +kernel
theorem d_Ch_choose_87 : decode b_Ch_choose 87 = .ok (.iload 4, 2) := by decide +kernel
theorem d_Ch_choose_89 : decode b_Ch_choose 89 = .ok (.invokevirtual 27, 3) := by decide +kernel
theorem d_Ch_choose_92 : decode b_Ch_choose 92 = .ok (.istore 5, 2) := by decide +kernel
theorem d_Ch_choose_94 : decode b_Ch_choose 94 = .ok (.aload_n 0, 1) := by decide +kernel
theorem d_Ch_choose_95 : decode b_Ch_choose 95 = .ok (.getfield 19, 3) := by decide +kernel
theorem d_Ch_choose_98 : decode b_Ch_choose 98 = .ok (.iload 5, 2) := by decide +kernel
theorem d_Ch_choose_100 : decode b_Ch_choose 100 = .ok (.invokestatic 42, 3) := by decide +kernel
theorem d_Ch_choose_103 : decode b_Ch_choose 103 = .ok (.ifCond .ne 9, 3) := by decide +kernel
theorem d_Ch_choose_106 : decode b_Ch_choose 106 = .ok (.aload_n 0, 1) := by decide +kernel
theorem d_Ch_choose_107 : decode b_Ch_choose 107 = .ok (.iload 5, 2) := by decide +kernel
theorem d_Ch_choose_109 : decode b_Ch_choose 109 = .ok (.invokevirtual 38, 3) := by decide +kernel
theorem d_Ch_choose_112 : decode b_Ch_choose 112 = .ok (.iinc 4 1, 3) := by decide +kernel
theorem d_Ch_choose_115 : decode b_Ch_choose 115 = .ok (.goto (-46), 3) := by decide +kernel
theorem d_Ch_choose_118 : decode b_Ch_choose 118 = .ok (.return_, 1) := by decide +kernel
theorem d_Ch_isNearestToVector_0 : decode b_Ch_isNearestToVector 0 = .ok (.iconst 0, 1) := by decide +kernel
theorem d_Ch_isNearestToVector_1 : decode b_Ch_isNearestToVector 1 = .ok (.istore 4, 2) := by decide +kernel
theorem d_Ch_isNearestToVector_3 : decode b_Ch_isNearestToVector 3 = .ok (.iload 4, 2) := by decide +kernel
theorem d_Ch_isNearestToVector_5 : decode b_Ch_isNearestToVector 5 = .ok (.aload_n 0, 1) := by decide +kernel
theorem d_Ch_isNearestToVector_6 : decode b_Ch_isNearestToVector 6 = .ok (.getfield 15, 3) := by decide +kernel
theorem d_Ch_isNearestToVector_9 : decode b_Ch_isNearestToVector 9 = .ok (.if_icmp .ge 34, 3) := by decide +kernel
theorem d_Ch_isNearestToVector_12 : decode b_Ch_isNearestToVector 12 = .ok (.iload_n 3, 1) := by decide +kernel
theorem d_Ch_isNearestToVector_13 : decode b_Ch_isNearestToVector 13 = .ok (.aload_n 1, 1) := by decide +kernel
theorem d_Ch_isNearestToVector_14 : decode b_Ch_isNearestToVector 14 = .ok (.iload_n 2, 1) := by decide +kernel
theorem d_Ch_isNearestToVector_15 : decode b_Ch_isNearestToVector 15 = .ok (.invokevirtual 46, 3) := by decide +kernel
theorem d_Ch_isNearestToVector_18 : decode b_Ch_isNearestToVector 18 = .ok (.aload_n 1, 1) := by decide +kernel
theorem d_Ch_isNearestToVector_19 : decode b_Ch_isNearestToVector 19 = .ok (.aload_n 0, 1) := by decide +kernel
theorem d_Ch_isNearestToVector_20 : decode b_Ch_isNearestToVector 20 = .ok (.getfield 9, 3) := by decide +kernel
theorem d_Ch_isNearestToVector_23 : decode b_Ch_isNearestToVector 23 = .ok (.iload 4, 2) := by decide +kernel
theorem d_Ch_isNearestToVector_25 : decode b_Ch_isNearestToVector 25 = .ok (.iaload, 1) := by decide +kernel
theorem d_Ch_isNearestToVector_26 : decode b_Ch_isNearestToVector 26 = .ok (.invokevirtual 46, 3) := by decide +kernel
theorem d_Ch_isNearestToVector_29 : decode b_Ch_isNearestToVector 29 = .ok (.invokestatic 52, 3) := by decide +kernel
theorem d_Ch_isNearestToVector_32 : decode b_Ch_isNearestToVector 32 = .ok (.if_icmp .lt 5, 3) := by decide +kernel
theorem d_Ch_isNearestToVector_35 : decode b_Ch_isNearestToVector 35 = .ok (.iconst 0, 1) := by decide +kernel
theorem d_Ch_isNearestToVector_36 : decode b_Ch_isNearestToVector 36 = .ok (.ireturn, 1) := by decide +kernel
theorem d_Ch_isNearestToVector_37 : decode b_Ch_isNearestToVector 37 = .ok (.iinc 4 1, 3) := by decide +kernel
theorem d_Ch_isNearestToVector_40 : decode b_Ch_isNearestToVector 40 = .ok (.goto (-37), 3) := by decide +kernel
theorem d_Ch_isNearestToVector_43 : decode b_Ch_isNearestToVector 43 = .ok (.iconst 1, 1) := by decide +kernel
theorem d_Ch_isNearestToVector_44 : decode b_Ch_isNearestToVector 44 = .ok (.ireturn, 1) := by decide +kernel
theorem d_Ch_take_0 : decode b_Ch_take 0 = .ok (.aload_n 0, 1) := by decide +kernel
theorem d_Ch_take_1 : decode b_Ch_take 1 = .ok (.getfield 9, 3) := by decide +kernel
theorem d_Ch_take_4 : decode b_Ch_take 4 = .ok (.aload_n 0, 1) := by decide +kernel
theorem d_Ch_take_5 : decode b_Ch_take 5 = .ok (.getfield 15, 3) := by decide +kernel
theorem d_Ch_take_8 : decode b_Ch_take 8 = .ok (.iload_n 1, 1) := by decide +kernel
theorem d_Ch_take_9 : decode b_Ch_take 9 = .ok (.iastore, 1) := by decide +kernel
theorem d_Ch_take_10 : decode b_Ch_take 10 = .ok (.aload_n 0, 1) := by decide +kernel
theorem d_Ch_take_11 : decode b_Ch_take 11 = .ok (.dup, 1) := by decide +kernel
theorem d_Ch_take_12 : decode b_Ch_take 12 = .ok (.getfield 15, 3) := by decide +kernel
theorem d_Ch_take_15 : decode b_Ch_take 15 = .ok (.iconst 1, 1) := by decide +kernel
theorem d_Ch_take_16 : decode b_Ch_take 16 = .ok (.iadd, 1) := by decide +kernel
theorem d_Ch_take_17 : decode b_Ch_take 17 = .ok (.putfield 15, 3) := by decide +kernel
theorem d_Ch_take_20 : decode b_Ch_take 20 = .ok (.aload_n 0, 1) := by decide +kernel
theorem d_Ch_take_21 : decode b_Ch_take 21 = .ok (.dup, 1) := by decide +kernel
theorem d_Ch_take_22 : decode b_Ch_take 22 = .ok (.getfield 19, 3) := by decide +kernel
theorem d_Ch_take_25 : decode b_Ch_take 25 = .ok (.iconst 1, 1) := by decide +kernel
theorem d_Ch_take_26 : decode b_Ch_take 26 = .ok (.iload_n 1, 1) := by decide +kernel
theorem d_Ch_take_27 : decode b_Ch_take 27 = .ok (.ishl, 1) := by decide +kernel
theorem d_Ch_take_28 : decode b_Ch_take 28 = .ok (.ior, 1) := by decide +kernel
theorem d_Ch_take_29 : decode b_Ch_take 29 = .ok (.putfield 19, 3) := by decide +kernel
theorem d_Ch_take_32 : decode b_Ch_take 32 = .ok (.return_, 1) := by decide +kernel
theorem d_Ch_size_0 : decode b_Ch_size 0 = .ok (.aload_n 0, 1) := by decide +kernel
theorem d_Ch_size_1 : decode b_Ch_size 1 = .ok (.getfield 15, 3) := by decide +kernel
theorem d_Ch_size_4 : decode b_Ch_size 4 = .ok (.ireturn, 1) := by decide +kernel
theorem d_Ch_chosen_0 : decode b_Ch_chosen 0 = .ok (.aload_n 0, 1) := by decide +kernel
theorem d_Ch_chosen_1 : decode b_Ch_chosen 1 = .ok (.getfield 9, 3) := by decide +kernel
theorem d_Ch_chosen_4 : decode b_Ch_chosen 4 = .ok (.iload_n 1, 1) := by decide +kernel
theorem d_Ch_chosen_5 : decode b_Ch_chosen 5 = .ok (.iaload, 1) := by decide +kernel
theorem d_Ch_chosen_6 : decode b_Ch_chosen 6 = .ok (.ireturn, 1) := by decide +kernel
end
section
def f_Nd_isWithin (N : Nat) (a0 : Int32) (a1 : Int32) (a2 : Int32) : Option (Int32) := (if a0 < a1 then (some 0) else (if a2 < a0 then (some 0) else (some 1)))
def f_Nd_isCoordinate (N : Nat) (a0 : Int32) : Option (Int32) := ((f_Nd_isWithin N a0 0 99).bind fun p1 => (g_bl p1 (some p1)))
def f_Nd_isVector (N : Nat) (a0 : Int32) (a1 : Int32) (a2 : Int32) (a3 : Int32) : Option (Int32) := ((f_Nd_isCoordinate N a0).bind fun p1 => (if p1 = 0 then (some 0) else ((f_Nd_isCoordinate N a1).bind fun p3 => (if p3 = 0 then (some 0) else ((f_Nd_isCoordinate N a2).bind fun p5 => (if p5 = 0 then (some 0) else ((f_Nd_isCoordinate N a3).bind fun p7 => (if p7 = 0 then (some 0) else (some 1)))))))))
def f_Nd_writeVector (N : Nat) (x0_0 : (Nat → Int32)) (a1 : Int32) (a2 : Int32) (a3 : Int32) (a4 : Int32) : Option ((Nat → Int32)) := (g_at 0 4 (g_at 1 4 (g_at 2 4 (g_at 3 4 (some (upd (upd (upd (upd x0_0 (0 : Int32).toNatClampNeg a1) (1 : Int32).toNatClampNeg a2) (2 : Int32).toNatClampNeg a3) (3 : Int32).toNatClampNeg a4))))))
def f_Nd_distance_4 (N : Nat) (x0_0 : (Nat → Int32)) (x1_0 : (Nat → Int32)) : Nat → Int32 → Int32 → Option (Int32)
  | 0, _, _ => none
  | n + 1, v2, v3 => (if 4 ≤ v3 then (some v2) else (g_at v3 4 (g_at v3 4 (f_Nd_distance_4 N x0_0 x1_0 n (v2 + (((x0_0 v3.toNatClampNeg) - (x1_0 v3.toNatClampNeg)) * ((x0_0 v3.toNatClampNeg) - (x1_0 v3.toNatClampNeg)))) (v3 + 1)))))
def f_Nd_distance (N : Nat) (x0_0 : (Nat → Int32)) (x1_0 : (Nat → Int32)) : Option (Int32) := (f_Nd_distance_4 N x0_0 x1_0 N 0 0)
def f_Nd_isIn (N : Nat) (a0 : Int32) (a1 : Int32) : Option (Int32) := (if ((a0 >>> (a1 &&& 31)) &&& 1) = 0 then (some 0) else (some 1))
def f_In_bitCount (N : Nat) (a0 : Int32) : Option (Int32) := (some ((((((((a0 - (((a0.toUInt32 >>> ((1 : Int32).toUInt32 &&& Int32.toUInt32 31)).toInt32) &&& 1431655765)) &&& 858993459) + ((((a0 - (((a0.toUInt32 >>> ((1 : Int32).toUInt32 &&& Int32.toUInt32 31)).toInt32) &&& 1431655765)).toUInt32 >>> ((2 : Int32).toUInt32 &&& Int32.toUInt32 31)).toInt32) &&& 858993459)) + (((((a0 - (((a0.toUInt32 >>> ((1 : Int32).toUInt32 &&& Int32.toUInt32 31)).toInt32) &&& 1431655765)) &&& 858993459) + ((((a0 - (((a0.toUInt32 >>> ((1 : Int32).toUInt32 &&& Int32.toUInt32 31)).toInt32) &&& 1431655765)).toUInt32 >>> ((2 : Int32).toUInt32 &&& Int32.toUInt32 31)).toInt32) &&& 858993459)).toUInt32 >>> ((4 : Int32).toUInt32 &&& Int32.toUInt32 31)).toInt32)) &&& 252645135) + (((((((a0 - (((a0.toUInt32 >>> ((1 : Int32).toUInt32 &&& Int32.toUInt32 31)).toInt32) &&& 1431655765)) &&& 858993459) + ((((a0 - (((a0.toUInt32 >>> ((1 : Int32).toUInt32 &&& Int32.toUInt32 31)).toInt32) &&& 1431655765)).toUInt32 >>> ((2 : Int32).toUInt32 &&& Int32.toUInt32 31)).toInt32) &&& 858993459)) + (((((a0 - (((a0.toUInt32 >>> ((1 : Int32).toUInt32 &&& Int32.toUInt32 31)).toInt32) &&& 1431655765)) &&& 858993459) + ((((a0 - (((a0.toUInt32 >>> ((1 : Int32).toUInt32 &&& Int32.toUInt32 31)).toInt32) &&& 1431655765)).toUInt32 >>> ((2 : Int32).toUInt32 &&& Int32.toUInt32 31)).toInt32) &&& 858993459)).toUInt32 >>> ((4 : Int32).toUInt32 &&& Int32.toUInt32 31)).toInt32)) &&& 252645135).toUInt32 >>> ((8 : Int32).toUInt32 &&& Int32.toUInt32 31)).toInt32)) + ((((((((a0 - (((a0.toUInt32 >>> ((1 : Int32).toUInt32 &&& Int32.toUInt32 31)).toInt32) &&& 1431655765)) &&& 858993459) + ((((a0 - (((a0.toUInt32 >>> ((1 : Int32).toUInt32 &&& Int32.toUInt32 31)).toInt32) &&& 1431655765)).toUInt32 >>> ((2 : Int32).toUInt32 &&& Int32.toUInt32 31)).toInt32) &&& 858993459)) + (((((a0 - (((a0.toUInt32 >>> ((1 : Int32).toUInt32 &&& Int32.toUInt32 31)).toInt32) &&& 1431655765)) &&& 858993459) + ((((a0 - (((a0.toUInt32 >>> ((1 : Int32).toUInt32 &&& Int32.toUInt32 31)).toInt32) &&& 1431655765)).toUInt32 >>> ((2 : Int32).toUInt32 &&& Int32.toUInt32 31)).toInt32) &&& 858993459)).toUInt32 >>> ((4 : Int32).toUInt32 &&& Int32.toUInt32 31)).toInt32)) &&& 252645135) + (((((((a0 - (((a0.toUInt32 >>> ((1 : Int32).toUInt32 &&& Int32.toUInt32 31)).toInt32) &&& 1431655765)) &&& 858993459) + ((((a0 - (((a0.toUInt32 >>> ((1 : Int32).toUInt32 &&& Int32.toUInt32 31)).toInt32) &&& 1431655765)).toUInt32 >>> ((2 : Int32).toUInt32 &&& Int32.toUInt32 31)).toInt32) &&& 858993459)) + (((((a0 - (((a0.toUInt32 >>> ((1 : Int32).toUInt32 &&& Int32.toUInt32 31)).toInt32) &&& 1431655765)) &&& 858993459) + ((((a0 - (((a0.toUInt32 >>> ((1 : Int32).toUInt32 &&& Int32.toUInt32 31)).toInt32) &&& 1431655765)).toUInt32 >>> ((2 : Int32).toUInt32 &&& Int32.toUInt32 31)).toInt32) &&& 858993459)).toUInt32 >>> ((4 : Int32).toUInt32 &&& Int32.toUInt32 31)).toInt32)) &&& 252645135).toUInt32 >>> ((8 : Int32).toUInt32 &&& Int32.toUInt32 31)).toInt32)).toUInt32 >>> ((16 : Int32).toUInt32 &&& Int32.toUInt32 31)).toInt32)) &&& 63))
def f_Nd_isDocumentNumber (N : Nat) (a0 : Int32) : Option (Int32) := ((f_Nd_isWithin N a0 0 29).bind fun p1 => (g_bl p1 (some p1)))
end
section
def f_Rk_start (N : Nat) (a1 : Int32) (a2 : Int32) : Option (Int32 × Int32 × Int32) := (if a2 = 1 then (some (0, if 30 < a1 then 30 else a1, 1)) else (some (0, if 30 < a1 then 30 else a1, 0)))
def f_Rk_isFull (N : Nat) (x0_2 : Int32) (x0_3 : Int32) : Option (Int32) := (if x0_2 < x0_3 then (some 0) else (some 1))
def f_Rk_precedes (N : Nat) (x0_4 : Int32) (a1 : Int32) (a2 : Int32) (a3 : Int32) (a4 : Int32) : Option (Int32) := (if a2 = a4 then (if a3 ≤ a1 then (some 0) else (some 1)) else (if a2 ≤ a4 then (if x0_4 = 0 then (some 1) else (some 0)) else (if x0_4 = 1 then (some 1) else (some 0))))
def f_Rk_add_62 (N : Nat) (x0_4 : Int32) (a1 : Int32) (a2 : Int32) : Nat → (Nat → Int32) → (Nat → Int32) → Int32 → Int32 → Option (Int32 × (Nat → Int32) × (Nat → Int32) × Int32)
  | 0, _, _, _, _ => none
  | n + 1, vak0_1, vak0_2, vfk0_0_2, v3 => (if v3 ≤ 0 then (g_at v3 30 (g_at v3 30 (some (1, upd vak0_1 v3.toNatClampNeg a1, upd vak0_2 v3.toNatClampNeg a2, vfk0_0_2 + 1)))) else (g_at (v3 - 1) 30 (g_at (v3 - 1) 30 ((f_Rk_precedes N x0_4 a1 a2 (vak0_1 (v3 - 1).toNatClampNeg) (vak0_2 (v3 - 1).toNatClampNeg)).bind fun p17 => (if p17 = 0 then (g_at v3 30 (g_at v3 30 (some (1, upd vak0_1 v3.toNatClampNeg a1, upd vak0_2 v3.toNatClampNeg a2, vfk0_0_2 + 1)))) else (g_at (v3 - 1) 30 (g_at v3 30 (g_at (v3 - 1) 30 (g_at v3 30 (f_Rk_add_62 N x0_4 a1 a2 n (upd vak0_1 v3.toNatClampNeg (vak0_1 (v3 - 1).toNatClampNeg)) (upd vak0_2 v3.toNatClampNeg (vak0_2 (v3 - 1).toNatClampNeg)) vfk0_0_2 (v3 + (-1))))))))))))
def f_Rk_add (N : Nat) (x0_0 : (Nat → Int32)) (x0_1 : (Nat → Int32)) (x0_2 : Int32) (x0_3 : Int32) (x0_4 : Int32) (a1 : Int32) (a2 : Int32) : Option (Int32 × (Nat → Int32) × (Nat → Int32) × Int32) := ((f_Rk_isFull N x0_2 x0_3).bind fun p1 => (if p1 = 0 then (f_Rk_add_62 N x0_4 a1 a2 N x0_0 x0_1 x0_2 x0_2) else (if x0_2 = 0 then (some (0, x0_0, x0_1, x0_2)) else (g_at (x0_2 - 1) 30 (g_at (x0_2 - 1) 30 ((f_Rk_precedes N x0_4 a1 a2 (x0_0 (x0_2 - 1).toNatClampNeg) (x0_1 (x0_2 - 1).toNatClampNeg)).bind fun p6 => (if p6 = 0 then (some (0, x0_0, x0_1, x0_2)) else (f_Rk_add_62 N x0_4 a1 a2 N x0_0 x0_1 (x0_2 - 1) (x0_2 - 1)))))))))
def f_Rk_size (N : Nat) (x0_2 : Int32) : Option (Int32) := (some x0_2)
def f_Rk_numberAt (N : Nat) (x0_0 : (Nat → Int32)) (a1 : Int32) : Option (Int32) := (g_at a1 30 (some (x0_0 a1.toNatClampNeg)))
def f_Rk_changeRoom (N : Nat) (x0_2 : Int32) (a1 : Int32) : Option (Int32 × Int32) := (some (if (if 30 < a1 then 30 else a1) < x0_2 then if 30 < a1 then 30 else a1 else x0_2, if 30 < a1 then 30 else a1))
def f_Rk_valueAt (N : Nat) (x0_1 : (Nat → Int32)) (a1 : Int32) : Option (Int32) := (g_at a1 30 (some (x0_1 a1.toNatClampNeg)))
def f_Rk_dropFirst_2 (N : Nat) (x0_2 : Int32) : Nat → (Nat → Int32) → (Nat → Int32) → Int32 → Option ((Nat → Int32) × (Nat → Int32) × Int32)
  | 0, _, _, _ => none
  | n + 1, vak0_1, vak0_2, v1 => (if x0_2 ≤ v1 then (some (vak0_1, vak0_2, if 0 < (x0_2 - 1) then x0_2 - 1 else 0)) else (g_at v1 30 (g_at (v1 - 1) 30 (g_at v1 30 (g_at (v1 - 1) 30 (f_Rk_dropFirst_2 N x0_2 n (upd vak0_1 (v1 - 1).toNatClampNeg (vak0_1 v1.toNatClampNeg)) (upd vak0_2 (v1 - 1).toNatClampNeg (vak0_2 v1.toNatClampNeg)) (v1 + 1)))))))
def f_Rk_dropFirst (N : Nat) (x0_0 : (Nat → Int32)) (x0_1 : (Nat → Int32)) (x0_2 : Int32) : Option ((Nat → Int32) × (Nat → Int32) × Int32) := (f_Rk_dropFirst_2 N x0_2 N x0_0 x0_1 1)
def f_Rk_lastPrecedes (N : Nat) (x0_0 : (Nat → Int32)) (x0_1 : (Nat → Int32)) (x0_2 : Int32) (x0_4 : Int32) (a1 : Int32) (a2 : Int32) : Option (Int32) := (if x0_2 ≤ 0 then (some 0) else (g_at (x0_2 - 1) 30 (g_at (x0_2 - 1) 30 ((f_Rk_precedes N x0_4 (x0_0 (x0_2 - 1).toNatClampNeg) (x0_1 (x0_2 - 1).toNatClampNeg) a1 a2).bind fun p4 => (if p4 = 0 then (some 0) else (some 1))))))
def f_Rk_holds_2 (N : Nat) (x0_0 : (Nat → Int32)) (x0_2 : Int32) (a1 : Int32) : Nat → Int32 → Option (Int32)
  | 0, _ => none
  | n + 1, v2 => (if x0_2 ≤ v2 then (some 0) else (g_at v2 30 (if (x0_0 v2.toNatClampNeg) = a1 then (some 1) else (f_Rk_holds_2 N x0_0 x0_2 a1 n (v2 + 1)))))
def f_Rk_holds (N : Nat) (x0_0 : (Nat → Int32)) (x0_2 : Int32) (a1 : Int32) : Option (Int32) := (f_Rk_holds_2 N x0_0 x0_2 a1 N 0)
end
section
def f_Do_store (N : Nat) (x0_0 : (Nat → Nat → Int32)) (x0_1 : (Nat → Int32)) (x0_3 : Int32) (a1 : Int32) (a2 : Int32) (a3 : Int32) (a4 : Int32) (a5 : Int32) (a6 : Int32) : Option ((Nat → Nat → Int32) × (Nat → Int32) × Int32) := (g_at a1 30 ((f_Nd_writeVector N (x0_0 a1.toNatClampNeg) a2 a3 a4 a5).bind fun p2 => (g_at a1 30 (some (va_up x0_0 a1.toNatClampNeg p2, upd x0_1 a1.toNatClampNeg a6, x0_3 ||| (1 <<< (a1 &&& 31)))))))
def f_Do_vector (N : Nat) (a1 : Int32) : Option (Unit) := (g_at a1 30 (some ()))
def f_Do_measure_2 (N : Nat) (x0_0 : (Nat → Nat → Int32)) (x1_0 : (Nat → Int32)) : Nat → (Nat → Int32) → Int32 → Option ((Nat → Int32))
  | 0, _, _ => none
  | n + 1, vak2_0, v3 => (if 30 ≤ v3 then (some vak2_0) else (g_at v3 30 ((f_Nd_distance N x1_0 (x0_0 v3.toNatClampNeg)).bind fun p3 => (g_at v3 30 (f_Do_measure_2 N x0_0 x1_0 n (upd vak2_0 v3.toNatClampNeg p3) (v3 + 1))))))
def f_Do_measure (N : Nat) (x0_0 : (Nat → Nat → Int32)) (x1_0 : (Nat → Int32)) (x2_0 : (Nat → Int32)) : Option ((Nat → Int32)) := (f_Do_measure_2 N x0_0 x1_0 N x2_0 0)
def f_Do_isLive (N : Nat) (x0_3 : Int32) (a1 : Int32) : Option (Int32) := ((f_Nd_isDocumentNumber N a1).bind fun p1 => (if p1 = 0 then (some 0) else ((f_Nd_isIn N x0_3 a1).bind fun p3 => (if p3 = 0 then (some 0) else (some 1)))))
def f_Do_retire (N : Nat) (x0_3 : Int32) (a1 : Int32) : Option (Int32 × Int32) := ((f_Do_isLive N x0_3 a1).bind fun p1 => (if p1 = 0 then (some (0, x0_3)) else (some (1, x0_3 &&& ((1 <<< (a1 &&& 31)) ^^^ (-1))))))
def f_Do_liveCount (N : Nat) (x0_3 : Int32) : Option (Int32) := ((f_In_bitCount N x0_3).bind fun p1 => (some p1))
def f_Do_rankByDistance_2 (N : Nat) (x0_0 : (Nat → Nat → Int32)) (x0_3 : Int32) (x1_0 : (Nat → Int32)) : Nat → T_Rk → Int32 → Option ((Nat → Int32) × (Nat → Int32) × Int32 × Int32 × Int32)
  | 0, _, _ => none
  | n + 1, vbk2_0, v3 => (if 30 ≤ v3 then (some (vbk2_0.1, vbk2_0.2.1, vbk2_0.2.2.1, vbk2_0.2.2.2.1, vbk2_0.2.2.2.2)) else ((f_Do_isLive N x0_3 v3).bind fun p2 => (if p2 = 0 then (f_Do_rankByDistance_2 N x0_0 x0_3 x1_0 n vbk2_0 (v3 + 1)) else (g_at v3 30 ((f_Nd_distance N x1_0 (x0_0 v3.toNatClampNeg)).bind fun p5 => ((f_Rk_add N vbk2_0.1 vbk2_0.2.1 vbk2_0.2.2.1 vbk2_0.2.2.2.1 vbk2_0.2.2.2.2 v3 p5).bind fun p6 => (f_Do_rankByDistance_2 N x0_0 x0_3 x1_0 n (p6.2.1, p6.2.2.1, p6.2.2.2, vbk2_0.2.2.2.1, vbk2_0.2.2.2.2) (v3 + 1))))))))
def f_Do_rankByDistance (N : Nat) (x0_0 : (Nat → Nat → Int32)) (x0_3 : Int32) (x1_0 : (Nat → Int32)) (x2_0 : (Nat → Int32)) (x2_1 : (Nat → Int32)) (x2_2 : Int32) (x2_3 : Int32) (x2_4 : Int32) : Option ((Nat → Int32) × (Nat → Int32) × Int32 × Int32 × Int32) := (f_Do_rankByDistance_2 N x0_0 x0_3 x1_0 N (x2_0, x2_1, x2_2, x2_3, x2_4) 0)
def f_Do_countOfWord (N : Nat) (x0_1 : (Nat → Int32)) (a1 : Int32) (a2 : Int32) : Option (Int32) := (g_at a1 30 (some (((x0_1 a1.toNatClampNeg) >>> ((3 * a2) &&& 31)) &&& 7)))
def f_Do_liveWith_4 (N : Nat) (x0_1 : (Nat → Int32)) (x0_3 : Int32) (a1 : Int32) : Nat → Int32 → Int32 → Option (Int32)
  | 0, _, _ => none
  | n + 1, v2, v3 => (if 30 ≤ v3 then (some v2) else ((f_Do_isLive N x0_3 v3).bind fun p2 => (if p2 = 0 then (f_Do_liveWith_4 N x0_1 x0_3 a1 n v2 (v3 + 1)) else ((f_Do_countOfWord N x0_1 v3 a1).bind fun p4 => (if p4 ≤ 0 then (f_Do_liveWith_4 N x0_1 x0_3 a1 n v2 (v3 + 1)) else (f_Do_liveWith_4 N x0_1 x0_3 a1 n (v2 + 1) (v3 + 1)))))))
def f_Do_liveWith (N : Nat) (x0_1 : (Nat → Int32)) (x0_3 : Int32) (a1 : Int32) : Option (Int32) := (f_Do_liveWith_4 N x0_1 x0_3 a1 N 0 0)
def f_Do_weighWords_2 (N : Nat) (x0_1 : (Nat → Int32)) (x0_3 : Int32) : Nat → (Nat → Int32) → Int32 → Option ((Nat → Int32))
  | 0, _, _ => none
  | n + 1, vak0_33, v1 => (if 8 ≤ v1 then (some vak0_33) else ((f_Do_liveWith N x0_1 x0_3 v1).bind fun p2 => (if p2 ≤ 0 then (g_at v1 8 (f_Do_weighWords_2 N x0_1 x0_3 n (upd vak0_33 v1.toNatClampNeg 0) (v1 + 1))) else ((f_Do_liveCount N x0_3).bind fun p6 => (g_dv p2 (g_at v1 8 (f_Do_weighWords_2 N x0_1 x0_3 n (upd vak0_33 v1.toNatClampNeg (1 + (p6 / p2))) (v1 + 1))))))))
def f_Do_weighWords (N : Nat) (x0_1 : (Nat → Int32)) (x0_2 : (Nat → Int32)) (x0_3 : Int32) : Option ((Nat → Int32)) := (f_Do_weighWords_2 N x0_1 x0_3 N x0_2 0)
def f_Do_score_5 (N : Nat) (x0_1 : (Nat → Int32)) (x0_2 : (Nat → Int32)) (a1 : Int32) (a2 : Int32) : Nat → Int32 → Int32 → Option (Int32)
  | 0, _, _ => none
  | n + 1, v3, v4 => (if 8 ≤ v4 then (some v3) else ((f_Nd_isIn N a2 v4).bind fun p2 => (if p2 = 0 then (f_Do_score_5 N x0_1 x0_2 a1 a2 n v3 (v4 + 1)) else ((f_Do_countOfWord N x0_1 a1 v4).bind fun p4 => (g_dv (p4 + 1) (g_at v4 8 (f_Do_score_5 N x0_1 x0_2 a1 a2 n (v3 + (((100 * p4) / (p4 + 1)) * (x0_2 v4.toNatClampNeg))) (v4 + 1))))))))
def f_Do_score (N : Nat) (x0_1 : (Nat → Int32)) (x0_2 : (Nat → Int32)) (a1 : Int32) (a2 : Int32) : Option (Int32) := (f_Do_score_5 N x0_1 x0_2 a1 a2 N 0 0)
def f_Do_rankByScore_6 (N : Nat) (x0_1 : (Nat → Int32)) (x0_3 : Int32) (a1 : Int32) (p1 : (Nat → Int32)) : Nat → T_Rk → Int32 → Option ((Nat → Int32) × (Nat → Int32) × (Nat → Int32) × Int32 × Int32 × Int32)
  | 0, _, _ => none
  | n + 1, vbk1_0, v3 => (if 30 ≤ v3 then (some (p1, vbk1_0.1, vbk1_0.2.1, vbk1_0.2.2.1, vbk1_0.2.2.2.1, vbk1_0.2.2.2.2)) else ((f_Do_isLive N x0_3 v3).bind fun p4 => (if p4 = 0 then (f_Do_rankByScore_6 N x0_1 x0_3 a1 p1 n vbk1_0 (v3 + 1)) else ((f_Do_score N x0_1 p1 v3 a1).bind fun p7 => (if p7 ≤ 0 then (f_Do_rankByScore_6 N x0_1 x0_3 a1 p1 n vbk1_0 (v3 + 1)) else ((f_Rk_add N vbk1_0.1 vbk1_0.2.1 vbk1_0.2.2.1 vbk1_0.2.2.2.1 vbk1_0.2.2.2.2 v3 p7).bind fun p9 => (f_Do_rankByScore_6 N x0_1 x0_3 a1 p1 n (p9.2.1, p9.2.2.1, p9.2.2.2, vbk1_0.2.2.2.1, vbk1_0.2.2.2.2) (v3 + 1))))))))
def f_Do_rankByScore (N : Nat) (x0_1 : (Nat → Int32)) (x0_2 : (Nat → Int32)) (x0_3 : Int32) (x1_0 : (Nat → Int32)) (x1_1 : (Nat → Int32)) (x1_2 : Int32) (x1_3 : Int32) (x1_4 : Int32) (a1 : Int32) : Option ((Nat → Int32) × (Nat → Int32) × (Nat → Int32) × Int32 × Int32 × Int32) := ((f_Do_weighWords N x0_1 x0_2 x0_3).bind fun p1 => (f_Do_rankByScore_6 N x0_1 x0_3 a1 p1 N (x1_0, x1_1, x1_2, x1_3, x1_4) 0))
def f_Do_counts (N : Nat) (x0_1 : (Nat → Int32)) (a1 : Int32) : Option (Int32) := (g_at a1 30 (some (x0_1 a1.toNatClampNeg)))
def f_Do_coordinate (N : Nat) (x0_0 : (Nat → Nat → Int32)) (a1 : Int32) (a2 : Int32) : Option (Int32) := (g_at a1 30 (g_at a2 4 (some ((x0_0 a1.toNatClampNeg) a2.toNatClampNeg))))
end
section
def f_Ch_isNearestToVector_3 (N : Nat) (x0_0 : (Nat → Int32)) (x0_1 : Int32) (x1_0 : (Nat → Nat → Int32)) (a2 : Int32) (a3 : Int32) : Nat → Int32 → Option (Int32)
  | 0, _ => none
  | n + 1, v4 => (if x0_1 ≤ v4 then (some 1) else ((f_Do_vector N a2).bind fun p2 => (g_at v4 30 ((f_Do_vector N (x0_0 v4.toNatClampNeg)).bind fun p5 => ((f_Nd_distance N (x1_0 a2.toNatClampNeg) (x1_0 (x0_0 v4.toNatClampNeg).toNatClampNeg)).bind fun p7 => (if a3 < p7 then (f_Ch_isNearestToVector_3 N x0_0 x0_1 x1_0 a2 a3 n (v4 + 1)) else (some 0)))))))
def f_Ch_isNearestToVector (N : Nat) (x0_0 : (Nat → Int32)) (x0_1 : Int32) (x1_0 : (Nat → Nat → Int32)) (a2 : Int32) (a3 : Int32) : Option (Int32) := (f_Ch_isNearestToVector_3 N x0_0 x0_1 x1_0 a2 a3 N 0)
def f_Ch_take (N : Nat) (x0_0 : (Nat → Int32)) (x0_1 : Int32) (x0_2 : Int32) (a1 : Int32) : Option ((Nat → Int32) × Int32 × Int32) := (g_at x0_1 30 (some (upd x0_0 x0_1.toNatClampNeg a1, x0_1 + 1, x0_2 ||| (1 <<< (a1 &&& 31)))))
def f_Ch_choose_69 (N : Nat) (x2_0 : (Nat → Int32)) (x2_2 : Int32) (a3 : Int32) : Nat → (Nat → Int32) → Int32 → Int32 → Int32 → Option ((Nat → Int32) × Int32 × Int32)
  | 0, _, _, _, _ => none
  | n + 1, vak0_1, vfk0_0_1, vfk0_0_2, v4 => ((f_Rk_size N x2_2).bind fun p12 => (if p12 ≤ v4 then (some (vak0_1, vfk0_0_1, vfk0_0_2)) else (if a3 ≤ vfk0_0_1 then (some (vak0_1, vfk0_0_1, vfk0_0_2)) else ((f_Rk_numberAt N x2_0 v4).bind fun p15 => ((f_Nd_isIn N vfk0_0_2 p15).bind fun p16 => (if p16 = 0 then ((f_Ch_take N vak0_1 vfk0_0_1 vfk0_0_2 p15).bind fun p18 => (f_Ch_choose_69 N x2_0 x2_2 a3 n p18.1 p18.2.1 p18.2.2 (v4 + 1))) else (f_Ch_choose_69 N x2_0 x2_2 a3 n vak0_1 vfk0_0_1 vfk0_0_2 (v4 + 1))))))))
def f_Ch_choose_13 (N : Nat) (x1_0 : (Nat → Nat → Int32)) (x2_0 : (Nat → Int32)) (x2_1 : (Nat → Int32)) (x2_2 : Int32) (a3 : Int32) : Nat → (Nat → Int32) → Int32 → Int32 → Int32 → Option ((Nat → Int32) × Int32 × Int32)
  | 0, _, _, _, _ => none
  | n + 1, vak0_1, vfk0_0_1, vfk0_0_2, v4 => ((f_Rk_size N x2_2).bind fun p3 => (if p3 ≤ v4 then (f_Ch_choose_69 N x2_0 x2_2 a3 N vak0_1 vfk0_0_1 vfk0_0_2 0) else (if a3 ≤ vfk0_0_1 then (f_Ch_choose_69 N x2_0 x2_2 a3 N vak0_1 vfk0_0_1 vfk0_0_2 0) else ((f_Rk_numberAt N x2_0 v4).bind fun p6 => ((f_Rk_valueAt N x2_1 v4).bind fun p7 => ((f_Ch_isNearestToVector N vak0_1 vfk0_0_1 x1_0 p6 p7).bind fun p8 => (if p8 = 0 then (f_Ch_choose_13 N x1_0 x2_0 x2_1 x2_2 a3 n vak0_1 vfk0_0_1 vfk0_0_2 (v4 + 1)) else ((f_Ch_take N vak0_1 vfk0_0_1 vfk0_0_2 p6).bind fun p10 => (f_Ch_choose_13 N x1_0 x2_0 x2_1 x2_2 a3 n p10.1 p10.2.1 p10.2.2 (v4 + 1))))))))))
def f_Ch_choose (N : Nat) (x0_0 : (Nat → Int32)) (x1_0 : (Nat → Nat → Int32)) (x2_0 : (Nat → Int32)) (x2_1 : (Nat → Int32)) (x2_2 : Int32) (a3 : Int32) : Option ((Nat → Int32) × Int32 × Int32) := (f_Ch_choose_13 N x1_0 x2_0 x2_1 x2_2 a3 N x0_0 0 0 0)
def f_Ch_size (N : Nat) (x0_1 : Int32) : Option (Int32) := (some x0_1)
def f_Ch_chosen (N : Nat) (x0_0 : (Nat → Int32)) (a1 : Int32) : Option (Int32) := (g_at a1 30 (some (x0_0 a1.toNatClampNeg)))
end
section
set_option maxHeartbeats 4000000 in
set_option maxRecDepth 100000 in
theorem c_Nd_isWithin (l : Launch) (D : va_G) (cI cG cZ : ClassId) (ad : Nat → Nat) (B : Nat) (w0 : va_W) (N : Nat) (a0 : Int32) (a1 : Int32) (a2 : Int32) (r : Int32) (hf : f_Nd_isWithin N a0 a1 a2 = some r) : Met l y_Nd_isWithin (.code y_Nd_isWithin b_Nd_isWithin 3 (some .boolean) :: hw_G) ({ frames := 0, cells := 0, slots := 0, locals := 0 } : Room) (va_Pc [.int a0, .int a1, .int a2] (hw_U D cI cG cZ B w0)) (va_Qi (fun (r1 : Int32) (w1 : va_W) => r1 = r ∧ w1 = w0) (hw_B D B) (fun q : Nat => B ≤ q)) 0 0 (fun q : Nat => B ≤ q) := by
  refine Met.ofW (cc := b_Nd_isWithin) (maxL := 3) (ret := (some .boolean)) (by decide) rfl ?_
  intro p e s m args below meth c s₁ Bd hml hv
  obtain ⟨rfl, hP, hD, hK, hN⟩ := hv
  have C0 : hw_C p s m meth c b_Nd_isWithin 3 _ R_Nd (some .boolean) := ⟨Bd.exec, Bd.bytes, Bd.returns, hml, findClass_of_methodNamed Bd.named, fun w h => atoms_spec (ws := .code y_Nd_isWithin b_Nd_isWithin 3 (some .boolean) :: hw_G) Bd.pre w (List.mem_cons_of_mem _ h), Bd.notSynchronized⟩
  obtain ⟨hx, hb, hr, -, hown, hts, hlocks⟩ := id C0
  have hS : va_S (fun q : Nat => B ≤ q) s.heap s.heap [] := va_S.rf
  have fr : w0 = w0 := rfl
  have hl := lv_entry ([.int a0, .int a1, .int a2]) (n := 3) (Nat.le_of_ble_eq_true rfl)
  rw [lg_entry_eq]
  generalize (lg_sl ([.int a0, .int a1, .int a2]) ++ List.replicate (3 - (lg_sl ([.int a0, .int a1, .int a2])).length) Slot.unset).toArray = ls at hl ⊢
  have hl : lv_has ls 3 [(0, .int a0), (1, .int a1), (2, .int a2)] := hl
  unfold f_Nd_isWithin at hf
  refine lv_iload_n hx hb d_Nd_isWithin_0 rfl (lv_at hl 0 rfl) ?_
  refine lv_iload_n hx hb d_Nd_isWithin_1 rfl (lv_at hl 1 rfl) ?_
  refine lv_icmp_lt (tgt := 14) hx hb d_Nd_isWithin_2 (by decide) (fun c1 => ?_) (fun c1 => ?_)
  · rw [if_pos c1] at hf
    refine lv_iconst (v := 0) hx hb d_Nd_isWithin_14 (by decide) ?_
    have e0 := Option.some.inj hf
    exact W.zret (v := 0) hx hb hr (by decide) (fun t ht hW => ⟨⟨0, w0, rfl, ⟨e0, fr⟩, by rw [ht]; exact hP, hD⟩, hS.F ht⟩) hS.2.2 d_Nd_isWithin_15
  · rw [if_neg c1] at hf
    refine lv_iload_n hx hb d_Nd_isWithin_5 rfl (lv_at hl 0 rfl) ?_
    refine lv_iload_n hx hb d_Nd_isWithin_6 rfl (lv_at hl 2 rfl) ?_
    refine lv_icmp_gt (tgt := 14) hx hb d_Nd_isWithin_7 (by decide) (fun c2 => ?_) (fun c2 => ?_)
    · rw [if_pos c2] at hf
      refine lv_iconst (v := 0) hx hb d_Nd_isWithin_14 (by decide) ?_
      have e0 := Option.some.inj hf
      exact W.zret (v := 0) hx hb hr (by decide) (fun t ht hW => ⟨⟨0, w0, rfl, ⟨e0, fr⟩, by rw [ht]; exact hP, hD⟩, hS.F ht⟩) hS.2.2 d_Nd_isWithin_15
    · rw [if_neg c2] at hf
      refine lv_iconst (v := 1) hx hb d_Nd_isWithin_10 (by decide) ?_
      refine lv_goto (tgt := 15) hx hb d_Nd_isWithin_11 (by decide) ?_
      have e0 := Option.some.inj hf
      exact W.zret (v := 1) hx hb hr (by decide) (fun t ht hW => ⟨⟨1, w0, rfl, ⟨e0, fr⟩, by rw [ht]; exact hP, hD⟩, hS.F ht⟩) hS.2.2 d_Nd_isWithin_15
set_option maxHeartbeats 4000000 in
set_option maxRecDepth 100000 in
theorem c_Nd_isCoordinate (l : Launch) (D : va_G) (cI cG cZ : ClassId) (ad : Nat → Nat) (B : Nat) (w0 : va_W) (N : Nat) (a0 : Int32) (r : Int32) (hf : f_Nd_isCoordinate N a0 = some r) : Met l y_Nd_isCoordinate (.code y_Nd_isCoordinate b_Nd_isCoordinate 1 (some .boolean) :: hw_G) ({ frames := 1, cells := 0, slots := 0, locals := 22 } : Room) (va_Pc [.int a0] (hw_U D cI cG cZ B w0)) (va_Qi (fun (r1 : Int32) (w1 : va_W) => r1 = r ∧ w1 = w0) (hw_B D B) (fun q : Nat => B ≤ q)) 0 0 (fun q : Nat => B ≤ q) := by
  refine Met.ofW (cc := b_Nd_isCoordinate) (maxL := 1) (ret := (some .boolean)) (by decide) rfl ?_
  intro p e s m args below meth c s₁ Bd hml hv
  obtain ⟨rfl, hP, hD, hK, hN⟩ := hv
  have C0 : hw_C p s m meth c b_Nd_isCoordinate 1 _ R_Nd (some .boolean) := ⟨Bd.exec, Bd.bytes, Bd.returns, hml, findClass_of_methodNamed Bd.named, fun w h => atoms_spec (ws := .code y_Nd_isCoordinate b_Nd_isCoordinate 1 (some .boolean) :: hw_G) Bd.pre w (List.mem_cons_of_mem _ h), Bd.notSynchronized⟩
  obtain ⟨hx, hb, hr, -, hown, hts, hlocks⟩ := id C0
  have hS : va_S (fun q : Nat => B ≤ q) s.heap s.heap [] := va_S.rf
  have fr : w0 = w0 := rfl
  have hl := lv_entry ([.int a0]) (n := 1) (Nat.le_of_ble_eq_true rfl)
  rw [lg_entry_eq]
  generalize (lg_sl ([.int a0]) ++ List.replicate (1 - (lg_sl ([.int a0])).length) Slot.unset).toArray = ls at hl ⊢
  have hl : lv_has ls 1 [(0, .int a0)] := hl
  unfold f_Nd_isCoordinate at hf
  refine lv_iload_n hx hb d_Nd_isCoordinate_0 rfl (lv_at hl 0 rfl) ?_
  refine lv_iconst (v := 0) hx hb d_Nd_isCoordinate_1 (by decide) ?_
  refine lv_bipush (v := 99) hx hb d_Nd_isCoordinate_2 (by decide) ?_
  obtain ⟨p1, hp1, hf⟩ := g_bd hf
  refine hw_ci0 (va_runS (As := [.int a0, .int 0, .int 99]) (rest := []) ⟨hx, hb, hml, hown, hts⟩ (c_Nd_isWithin l D cI cG cZ ad B w0 N a0 0 99 p1 hp1) (va_cwS 3 hts (hw_gS iw_185 gs_Nd_isWithin) rfl rfl rfl (by decide +kernel) ⟨Nat.le_of_ble_eq_true rfl, Nat.le_of_ble_eq_true rfl⟩) ⟨hw_blind, hw_go hP hD hK hN⟩ rfl rfl hl.1 rfl (lv_room (Nat.le_of_ble_eq_true rfl)) d_Nd_isCoordinate_4 ⟨Nat.zero_le _, Nat.zero_le _⟩) hS (fun H locs hP hD hS => ?_)
  obtain ⟨z2, hf⟩ := g_blE hf
  have e0 := Option.some.inj hf
  exact W.zret (v := p1) hx hb hr (g_zn z2) (fun t ht hW => ⟨⟨p1, w0, rfl, ⟨e0, fr⟩, by rw [ht]; exact hP, hD⟩, hS.F ht⟩) hS.2.2 d_Nd_isCoordinate_7
set_option maxHeartbeats 4000000 in
set_option maxRecDepth 100000 in
theorem c_Nd_isVector (l : Launch) (D : va_G) (cI cG cZ : ClassId) (ad : Nat → Nat) (B : Nat) (w0 : va_W) (N : Nat) (a0 : Int32) (a1 : Int32) (a2 : Int32) (a3 : Int32) (r : Int32) (hf : f_Nd_isVector N a0 a1 a2 a3 = some r) : Met l y_Nd_isVector (.code y_Nd_isVector b_Nd_isVector 4 (some .boolean) :: hw_G) ({ frames := 2, cells := 0, slots := 0, locals := 42 } : Room) (va_Pc [.int a0, .int a1, .int a2, .int a3] (hw_U D cI cG cZ B w0)) (va_Qi (fun (r1 : Int32) (w1 : va_W) => r1 = r ∧ w1 = w0) (hw_B D B) (fun q : Nat => B ≤ q)) 0 0 (fun q : Nat => B ≤ q) := by
  refine Met.ofW (cc := b_Nd_isVector) (maxL := 4) (ret := (some .boolean)) (by decide) rfl ?_
  intro p e s m args below meth c s₁ Bd hml hv
  obtain ⟨rfl, hP, hD, hK, hN⟩ := hv
  have C0 : hw_C p s m meth c b_Nd_isVector 4 _ R_Nd (some .boolean) := ⟨Bd.exec, Bd.bytes, Bd.returns, hml, findClass_of_methodNamed Bd.named, fun w h => atoms_spec (ws := .code y_Nd_isVector b_Nd_isVector 4 (some .boolean) :: hw_G) Bd.pre w (List.mem_cons_of_mem _ h), Bd.notSynchronized⟩
  obtain ⟨hx, hb, hr, -, hown, hts, hlocks⟩ := id C0
  have hS : va_S (fun q : Nat => B ≤ q) s.heap s.heap [] := va_S.rf
  have fr : w0 = w0 := rfl
  have hl := lv_entry ([.int a0, .int a1, .int a2, .int a3]) (n := 4) (Nat.le_of_ble_eq_true rfl)
  rw [lg_entry_eq]
  generalize (lg_sl ([.int a0, .int a1, .int a2, .int a3]) ++ List.replicate (4 - (lg_sl ([.int a0, .int a1, .int a2, .int a3])).length) Slot.unset).toArray = ls at hl ⊢
  have hl : lv_has ls 4 [(0, .int a0), (1, .int a1), (2, .int a2), (3, .int a3)] := hl
  unfold f_Nd_isVector at hf
  refine lv_iload_n hx hb d_Nd_isVector_0 rfl (lv_at hl 0 rfl) ?_
  obtain ⟨p1, hp1, hf⟩ := g_bd hf
  refine hw_ci0 (va_runS (As := [.int a0]) (rest := []) ⟨hx, hb, hml, hown, hts⟩ (c_Nd_isCoordinate l D cI cG cZ ad B w0 N a0 p1 hp1) (va_cwS 1 hts (hw_gS iw_182 gs_Nd_isCoordinate) rfl rfl rfl (by decide +kernel) ⟨Nat.le_of_ble_eq_true rfl, Nat.le_of_ble_eq_true rfl⟩) ⟨hw_blind, hw_go hP hD hK hN⟩ rfl rfl hl.1 rfl (lv_room (Nat.le_of_ble_eq_true rfl)) d_Nd_isVector_1 ⟨Nat.zero_le _, Nat.zero_le _⟩) hS (fun H locs hP hD hS => ?_)
  refine lv_if_eq (tgt := 32) hx hb d_Nd_isVector_4 (by decide) (fun c2 => ?_) (fun c2 => ?_)
  · rw [if_pos c2] at hf
    refine lv_iconst (v := 0) hx hb d_Nd_isVector_32 (by decide) ?_
    have e0 := Option.some.inj hf
    exact W.zret (v := 0) hx hb hr (by decide) (fun t ht hW => ⟨⟨0, w0, rfl, ⟨e0, fr⟩, by rw [ht]; exact hP, hD⟩, hS.F ht⟩) hS.2.2 d_Nd_isVector_33
  · rw [if_neg c2] at hf
    refine lv_iload_n hx hb d_Nd_isVector_7 rfl (lv_at hl 1 rfl) ?_
    obtain ⟨p3, hp3, hf⟩ := g_bd hf
    refine hw_ci0 (va_runS (As := [.int a1]) (rest := []) ⟨hx, hb, hml, hown, hts⟩ (c_Nd_isCoordinate l D cI cG cZ ad B w0 N a1 p3 hp3) (va_cwS 1 hts (hw_gS iw_182 gs_Nd_isCoordinate) rfl rfl rfl (by decide +kernel) ⟨Nat.le_of_ble_eq_true rfl, Nat.le_of_ble_eq_true rfl⟩) ⟨hw_blind, hw_go hP hD hK hN⟩ rfl rfl hl.1 rfl (lv_room (Nat.le_of_ble_eq_true rfl)) d_Nd_isVector_8 ⟨Nat.zero_le _, Nat.zero_le _⟩) hS (fun H locs hP hD hS => ?_)
    refine lv_if_eq (tgt := 32) hx hb d_Nd_isVector_11 (by decide) (fun c4 => ?_) (fun c4 => ?_)
    · rw [if_pos c4] at hf
      refine lv_iconst (v := 0) hx hb d_Nd_isVector_32 (by decide) ?_
      have e0 := Option.some.inj hf
      exact W.zret (v := 0) hx hb hr (by decide) (fun t ht hW => ⟨⟨0, w0, rfl, ⟨e0, fr⟩, by rw [ht]; exact hP, hD⟩, hS.F ht⟩) hS.2.2 d_Nd_isVector_33
    · rw [if_neg c4] at hf
      refine lv_iload_n hx hb d_Nd_isVector_14 rfl (lv_at hl 2 rfl) ?_
      obtain ⟨p5, hp5, hf⟩ := g_bd hf
      refine hw_ci0 (va_runS (As := [.int a2]) (rest := []) ⟨hx, hb, hml, hown, hts⟩ (c_Nd_isCoordinate l D cI cG cZ ad B w0 N a2 p5 hp5) (va_cwS 1 hts (hw_gS iw_182 gs_Nd_isCoordinate) rfl rfl rfl (by decide +kernel) ⟨Nat.le_of_ble_eq_true rfl, Nat.le_of_ble_eq_true rfl⟩) ⟨hw_blind, hw_go hP hD hK hN⟩ rfl rfl hl.1 rfl (lv_room (Nat.le_of_ble_eq_true rfl)) d_Nd_isVector_15 ⟨Nat.zero_le _, Nat.zero_le _⟩) hS (fun H locs hP hD hS => ?_)
      refine lv_if_eq (tgt := 32) hx hb d_Nd_isVector_18 (by decide) (fun c6 => ?_) (fun c6 => ?_)
      · rw [if_pos c6] at hf
        refine lv_iconst (v := 0) hx hb d_Nd_isVector_32 (by decide) ?_
        have e0 := Option.some.inj hf
        exact W.zret (v := 0) hx hb hr (by decide) (fun t ht hW => ⟨⟨0, w0, rfl, ⟨e0, fr⟩, by rw [ht]; exact hP, hD⟩, hS.F ht⟩) hS.2.2 d_Nd_isVector_33
      · rw [if_neg c6] at hf
        refine lv_iload_n hx hb d_Nd_isVector_21 rfl (lv_at hl 3 rfl) ?_
        obtain ⟨p7, hp7, hf⟩ := g_bd hf
        refine hw_ci0 (va_runS (As := [.int a3]) (rest := []) ⟨hx, hb, hml, hown, hts⟩ (c_Nd_isCoordinate l D cI cG cZ ad B w0 N a3 p7 hp7) (va_cwS 1 hts (hw_gS iw_182 gs_Nd_isCoordinate) rfl rfl rfl (by decide +kernel) ⟨Nat.le_of_ble_eq_true rfl, Nat.le_of_ble_eq_true rfl⟩) ⟨hw_blind, hw_go hP hD hK hN⟩ rfl rfl hl.1 rfl (lv_room (Nat.le_of_ble_eq_true rfl)) d_Nd_isVector_22 ⟨Nat.zero_le _, Nat.zero_le _⟩) hS (fun H locs hP hD hS => ?_)
        refine lv_if_eq (tgt := 32) hx hb d_Nd_isVector_25 (by decide) (fun c8 => ?_) (fun c8 => ?_)
        · rw [if_pos c8] at hf
          refine lv_iconst (v := 0) hx hb d_Nd_isVector_32 (by decide) ?_
          have e0 := Option.some.inj hf
          exact W.zret (v := 0) hx hb hr (by decide) (fun t ht hW => ⟨⟨0, w0, rfl, ⟨e0, fr⟩, by rw [ht]; exact hP, hD⟩, hS.F ht⟩) hS.2.2 d_Nd_isVector_33
        · rw [if_neg c8] at hf
          refine lv_iconst (v := 1) hx hb d_Nd_isVector_28 (by decide) ?_
          refine lv_goto (tgt := 33) hx hb d_Nd_isVector_29 (by decide) ?_
          have e0 := Option.some.inj hf
          exact W.zret (v := 1) hx hb hr (by decide) (fun t ht hW => ⟨⟨1, w0, rfl, ⟨e0, fr⟩, by rw [ht]; exact hP, hD⟩, hS.F ht⟩) hS.2.2 d_Nd_isVector_33
set_option maxHeartbeats 4000000 in
set_option maxRecDepth 100000 in
theorem c_Nd_writeVector (l : Launch) (D : va_G) (cI cG cZ : ClassId) (ad : Nat → Nat) (B : Nat) (w0 : va_W) (N : Nat) (k0 : Nat) (x0_0 : (Nat → Int32)) (a1 : Int32) (a2 : Int32) (a3 : Int32) (a4 : Int32) (y0_0 : (Nat → Int32)) (hf : f_Nd_writeVector N x0_0 a1 a2 a3 a4 = some y0_0) (mk0_0 : w0[k0]? = some (ad k0, .inl (cI, 4, .inl x0_0))) : Met l y_Nd_writeVector (.code y_Nd_writeVector b_Nd_writeVector 5 none :: hw_G) ({ frames := 0, cells := 0, slots := 0, locals := 0 } : Room) (va_Pc [.ref (ad k0), .int a1, .int a2, .int a3, .int a4] (hw_U D cI cG cZ B w0)) (va_Qv (fun (w1 : va_W) => w1[k0]? = some (ad k0, .inl (cI, 4, .inl y0_0)) ∧ (∀ j : Nat, (j < k0 ∨ k0 + 1 ≤ j) → w1[j]? = w0[j]?)) (hw_B D B) (fun q : Nat => B ≤ q)) 0 0 (fun q : Nat => B ≤ q) := by
  refine Met.ofW (cc := b_Nd_writeVector) (maxL := 5) (ret := none) (by decide) rfl ?_
  intro p e s m args below meth c s₁ Bd hml hv
  obtain ⟨rfl, hP, hD, hK, hN⟩ := hv
  have C0 : hw_C p s m meth c b_Nd_writeVector 5 _ R_Nd none := ⟨Bd.exec, Bd.bytes, Bd.returns, hml, findClass_of_methodNamed Bd.named, fun w h => atoms_spec (ws := .code y_Nd_writeVector b_Nd_writeVector 5 none :: hw_G) Bd.pre w (List.mem_cons_of_mem _ h), Bd.notSynchronized⟩
  obtain ⟨hx, hb, hr, -, hown, hts, hlocks⟩ := id C0
  have hS : va_S (fun q : Nat => B ≤ q) s.heap s.heap [] := va_S.rf
  have fr : ∀ j : Nat, (j < k0 ∨ k0 + 1 ≤ j) → w0[j]? = w0[j]? := fun j _ => rfl
  have hl := lv_entry ([.ref (ad k0), .int a1, .int a2, .int a3, .int a4]) (n := 5) (Nat.le_of_ble_eq_true rfl)
  rw [lg_entry_eq]
  generalize (lg_sl ([.ref (ad k0), .int a1, .int a2, .int a3, .int a4]) ++ List.replicate (5 - (lg_sl ([.ref (ad k0), .int a1, .int a2, .int a3, .int a4])).length) Slot.unset).toArray = ls at hl ⊢
  have hl : lv_has ls 5 [(0, .ref (ad k0)), (1, .int a1), (2, .int a2), (3, .int a3), (4, .int a4)] := hl
  unfold f_Nd_writeVector at hf
  refine lv_aload_n hx hb d_Nd_writeVector_0 rfl (lv_at hl 0 rfl) ?_
  refine lv_iconst (v := 0) hx hb d_Nd_writeVector_1 (by decide) ?_
  refine lv_iload_n hx hb d_Nd_writeVector_2 rfl (lv_at hl 1 rfl) ?_
  obtain ⟨z1, hf⟩ := g_atE hf
  refine va_iast hx hb hK hP hD hS (k0) 0 mk0_0 rfl z1 d_Nd_writeVector_3 (fun H locs hP hD hS => ?_)
  obtain ⟨w2, hP, hD, hne, heq⟩ := hs_up hP hD mk0_0
  have mk0_0 : w2[k0]? = some (ad k0, .inl (cI, 4, .inl (upd x0_0 (0 : Int32).toNatClampNeg a1))) := heq
  have fr : ∀ j : Nat, (j < k0 ∨ k0 + 1 ≤ j) → w2[j]? = w0[j]? := fun j o0 => (hne j (by omega)).trans (fr j o0)
  refine lv_aload_n hx hb d_Nd_writeVector_4 rfl (lv_at hl 0 rfl) ?_
  refine lv_iconst (v := 1) hx hb d_Nd_writeVector_5 (by decide) ?_
  refine lv_iload_n hx hb d_Nd_writeVector_6 rfl (lv_at hl 2 rfl) ?_
  obtain ⟨z3, hf⟩ := g_atE hf
  refine va_iast hx hb hK hP hD hS (k0) 0 mk0_0 rfl z3 d_Nd_writeVector_7 (fun H locs hP hD hS => ?_)
  obtain ⟨w4, hP, hD, hne, heq⟩ := hs_up hP hD mk0_0
  have mk0_0 : w4[k0]? = some (ad k0, .inl (cI, 4, .inl (upd (upd x0_0 (0 : Int32).toNatClampNeg a1) (1 : Int32).toNatClampNeg a2))) := heq
  have fr : ∀ j : Nat, (j < k0 ∨ k0 + 1 ≤ j) → w4[j]? = w0[j]? := fun j o0 => (hne j (by omega)).trans (fr j o0)
  refine lv_aload_n hx hb d_Nd_writeVector_8 rfl (lv_at hl 0 rfl) ?_
  refine lv_iconst (v := 2) hx hb d_Nd_writeVector_9 (by decide) ?_
  refine lv_iload_n hx hb d_Nd_writeVector_10 rfl (lv_at hl 3 rfl) ?_
  obtain ⟨z5, hf⟩ := g_atE hf
  refine va_iast hx hb hK hP hD hS (k0) 0 mk0_0 rfl z5 d_Nd_writeVector_11 (fun H locs hP hD hS => ?_)
  obtain ⟨w6, hP, hD, hne, heq⟩ := hs_up hP hD mk0_0
  have mk0_0 : w6[k0]? = some (ad k0, .inl (cI, 4, .inl (upd (upd (upd x0_0 (0 : Int32).toNatClampNeg a1) (1 : Int32).toNatClampNeg a2) (2 : Int32).toNatClampNeg a3))) := heq
  have fr : ∀ j : Nat, (j < k0 ∨ k0 + 1 ≤ j) → w6[j]? = w0[j]? := fun j o0 => (hne j (by omega)).trans (fr j o0)
  refine lv_aload_n hx hb d_Nd_writeVector_12 rfl (lv_at hl 0 rfl) ?_
  refine lv_iconst (v := 3) hx hb d_Nd_writeVector_13 (by decide) ?_
  refine lv_iload hx hb d_Nd_writeVector_14 (lv_at hl 4 rfl) ?_
  obtain ⟨z7, hf⟩ := g_atE hf
  refine va_iast hx hb hK hP hD hS (k0) 0 mk0_0 rfl z7 d_Nd_writeVector_16 (fun H locs hP hD hS => ?_)
  obtain ⟨w8, hP, hD, hne, heq⟩ := hs_up hP hD mk0_0
  have mk0_0 : w8[k0]? = some (ad k0, .inl (cI, 4, .inl (upd (upd (upd (upd x0_0 (0 : Int32).toNatClampNeg a1) (1 : Int32).toNatClampNeg a2) (2 : Int32).toNatClampNeg a3) (3 : Int32).toNatClampNeg a4))) := heq
  have fr : ∀ j : Nat, (j < k0 ∨ k0 + 1 ≤ j) → w8[j]? = w0[j]? := fun j o0 => (hne j (by omega)).trans (fr j o0)
  have e0 := Option.some.inj hf
  have f0 : w8[k0]? = some (ad k0, .inl (cI, 4, .inl y0_0)) := by rw [← e0]; exact mk0_0
  exact W.vret hx hb hr (fun t ht hW => ⟨⟨w8, rfl, ⟨f0, fr⟩, by rw [ht]; exact hP, hD⟩, hS.F ht⟩) hS.2.2 d_Nd_writeVector_17
set_option maxHeartbeats 4000000 in
set_option maxRecDepth 100000 in
theorem wl_Nd_distance_4 {p : Program} {l : Launch} {e : Env} {s : State} {m : MethodId} {args : Array Value} {below : List Frame} {meth : Method} {c : Code} {D : va_G} {cI cG cZ : ClassId} {ad : Nat → Nat} {B : Nat} {w0 : va_W} {N : Nat} {k0 : Nat} {k1 : Nat} (C0 : hw_C p s m meth c b_Nd_distance 5 args R_Nd (some .int)) (hK : va_K D classes [(cI, .int), (cG, .array .int), (cZ, .boolean)] s) (hN : hw_N s) (x0_0 : (Nat → Int32)) (x1_0 : (Nat → Int32)) (r : Int32) : ∀ (n : Nat) (v2 : Int32) (v3 : Int32) (ws : va_W) (H : Heap) (locs : List Loc) (ls : Array Slot), va_P D classes ws H → va_D (fun q : Nat => B ≤ q) ws → va_S (fun q : Nat => B ≤ q) s.heap H locs → lv_has ls 5 [(3, .int v3), (2, .int v2), (0, .ref (ad k0)), (1, .ref (ad k1))] → ws[k0]? = some (ad k0, .inl (cI, 4, .inl x0_0)) → ws[k1]? = some (ad k1, .inl (cI, 4, .inl x1_0)) → (ws = w0) → f_Nd_distance_4 N x0_0 x1_0 n v2 v3 = some r → W p l e ({ frames := 0, cells := 0, slots := 0, locals := 0 } : Room) s m args below meth c H locs 0 0 (MQ below (va_Qi (fun (r1 : Int32) (w1 : va_W) => r1 = r ∧ w1 = w0) (hw_B D B) (fun q : Nat => B ≤ q)) args s 0 0 (fun q : Nat => B ≤ q)) (F0 m 4 ls []) := by
  obtain ⟨hx, hb, hr, hml, hown, hts, hlocks⟩ := id C0
  intro n
  induction n with
  | zero =>
    intro v2 v3 ws H locs ls hP hD hS hl mk0_0 mk1_0 fr hf
    exact nomatch (show none = some _ from hf)
  | succ n ih =>
    intro v2 v3 ws H locs ls hP hD hS hl mk0_0 mk1_0 fr hf
    rw [f_Nd_distance_4] at hf
    refine lv_iload_n hx hb d_Nd_distance_4 rfl (lv_at hl 0 rfl) ?_
    refine lv_iconst (v := 4) hx hb d_Nd_distance_5 (by decide) ?_
    refine lv_icmp_ge (tgt := 32) hx hb d_Nd_distance_6 (by decide) (fun c1 => ?_) (fun c1 => ?_)
    · rw [if_pos c1] at hf
      refine lv_iload_n hx hb d_Nd_distance_32 rfl (lv_at hl 1 rfl) ?_
      have e0 := Option.some.inj hf
      exact W.iret (v := v2) hx hb hr (fun t ht hW => ⟨⟨v2, ws, rfl, ⟨e0, fr⟩, by rw [ht]; exact hP, hD⟩, hS.F ht⟩) hS.2.2 d_Nd_distance_33
    · rw [if_neg c1] at hf
      refine lv_aload_n hx hb d_Nd_distance_9 rfl (lv_at hl 2 rfl) ?_
      refine lv_iload_n hx hb d_Nd_distance_10 rfl (lv_at hl 0 rfl) ?_
      obtain ⟨z2, hf⟩ := g_atE hf
      refine va_iald hx hb hK hP (k0) 0 mk0_0 rfl z2 d_Nd_distance_11 ?_
      refine lv_aload_n hx hb d_Nd_distance_12 rfl (lv_at hl 3 rfl) ?_
      refine lv_iload_n hx hb d_Nd_distance_13 rfl (lv_at hl 0 rfl) ?_
      obtain ⟨z3, hf⟩ := g_atE hf
      refine va_iald hx hb hK hP (k1) 0 mk1_0 rfl z3 d_Nd_distance_14 ?_
      refine lv_isub hx hb d_Nd_distance_15 ?_
      refine lv_istore (lv' := [(4, .int ((x0_0 v3.toNatClampNeg) - (x1_0 v3.toNatClampNeg))), (3, .int v3), (2, .int v2), (0, .ref (ad k0)), (1, .ref (ad k1))]) hx hb d_Nd_distance_16 hl (by decide) rfl (fun ls hl => ?_)
      refine lv_iload_n hx hb d_Nd_distance_18 rfl (lv_at hl 2 rfl) ?_
      refine lv_iload hx hb d_Nd_distance_19 (lv_at hl 0 rfl) ?_
      refine lv_iload hx hb d_Nd_distance_21 (lv_at hl 0 rfl) ?_
      refine lv_imul hx hb d_Nd_distance_23 ?_
      refine lv_iadd hx hb d_Nd_distance_24 ?_
      refine lv_istore_n (lv' := [(2, .int (v2 + (((x0_0 v3.toNatClampNeg) - (x1_0 v3.toNatClampNeg)) * ((x0_0 v3.toNatClampNeg) - (x1_0 v3.toNatClampNeg))))), (4, .int ((x0_0 v3.toNatClampNeg) - (x1_0 v3.toNatClampNeg))), (3, .int v3), (0, .ref (ad k0)), (1, .ref (ad k1))]) hx hb d_Nd_distance_25 rfl hl (by decide) rfl (fun ls hl => ?_)
      refine lv_iinc (v := v3 + 1) (lv' := [(3, .int (v3 + 1)), (2, .int (v2 + (((x0_0 v3.toNatClampNeg) - (x1_0 v3.toNatClampNeg)) * ((x0_0 v3.toNatClampNeg) - (x1_0 v3.toNatClampNeg))))), (4, .int ((x0_0 v3.toNatClampNeg) - (x1_0 v3.toNatClampNeg))), (0, .ref (ad k0)), (1, .ref (ad k1))]) hx hb d_Nd_distance_26 hl (k := 2) rfl rfl (by decide) rfl (fun ls hl => ?_)
      refine lv_goto (tgt := 4) hx hb d_Nd_distance_29 (by decide) ?_
      exact ih (v2 + (((x0_0 v3.toNatClampNeg) - (x1_0 v3.toNatClampNeg)) * ((x0_0 v3.toNatClampNeg) - (x1_0 v3.toNatClampNeg)))) (v3 + 1) _ _ _ _ hP hD hS (lv_sub hl [0, 1, 3, 4] rfl) mk0_0 mk1_0 fr hf
set_option maxHeartbeats 4000000 in
set_option maxRecDepth 100000 in
theorem c_Nd_distance (l : Launch) (D : va_G) (cI cG cZ : ClassId) (ad : Nat → Nat) (B : Nat) (w0 : va_W) (N : Nat) (k0 : Nat) (x0_0 : (Nat → Int32)) (k1 : Nat) (x1_0 : (Nat → Int32)) (r : Int32) (hf : f_Nd_distance N x0_0 x1_0 = some r) (mk0_0 : w0[k0]? = some (ad k0, .inl (cI, 4, .inl x0_0))) (mk1_0 : w0[k1]? = some (ad k1, .inl (cI, 4, .inl x1_0))) : Met l y_Nd_distance (.code y_Nd_distance b_Nd_distance 5 (some .int) :: hw_G) ({ frames := 0, cells := 0, slots := 0, locals := 0 } : Room) (va_Pc [.ref (ad k0), .ref (ad k1)] (hw_U D cI cG cZ B w0)) (va_Qi (fun (r1 : Int32) (w1 : va_W) => r1 = r ∧ w1 = w0) (hw_B D B) (fun q : Nat => B ≤ q)) 0 0 (fun q : Nat => B ≤ q) := by
  refine Met.ofW (cc := b_Nd_distance) (maxL := 5) (ret := (some .int)) (by decide) rfl ?_
  intro p e s m args below meth c s₁ Bd hml hv
  obtain ⟨rfl, hP, hD, hK, hN⟩ := hv
  have C0 : hw_C p s m meth c b_Nd_distance 5 _ R_Nd (some .int) := ⟨Bd.exec, Bd.bytes, Bd.returns, hml, findClass_of_methodNamed Bd.named, fun w h => atoms_spec (ws := .code y_Nd_distance b_Nd_distance 5 (some .int) :: hw_G) Bd.pre w (List.mem_cons_of_mem _ h), Bd.notSynchronized⟩
  obtain ⟨hx, hb, hr, -, hown, hts, hlocks⟩ := id C0
  have hS : va_S (fun q : Nat => B ≤ q) s.heap s.heap [] := va_S.rf
  have fr : w0 = w0 := rfl
  have hl := lv_entry ([.ref (ad k0), .ref (ad k1)]) (n := 5) (Nat.le_of_ble_eq_true rfl)
  rw [lg_entry_eq]
  generalize (lg_sl ([.ref (ad k0), .ref (ad k1)]) ++ List.replicate (5 - (lg_sl ([.ref (ad k0), .ref (ad k1)])).length) Slot.unset).toArray = ls at hl ⊢
  have hl : lv_has ls 5 [(0, .ref (ad k0)), (1, .ref (ad k1))] := hl
  unfold f_Nd_distance at hf
  refine lv_iconst (v := 0) hx hb d_Nd_distance_0 (by decide) ?_
  refine lv_istore_n (lv' := [(2, .int 0), (0, .ref (ad k0)), (1, .ref (ad k1))]) hx hb d_Nd_distance_1 rfl hl (by decide) rfl (fun ls hl => ?_)
  refine lv_iconst (v := 0) hx hb d_Nd_distance_2 (by decide) ?_
  refine lv_istore_n (lv' := [(3, .int 0), (2, .int 0), (0, .ref (ad k0)), (1, .ref (ad k1))]) hx hb d_Nd_distance_3 rfl hl (by decide) rfl (fun ls hl => ?_)
  exact wl_Nd_distance_4 C0 hK hN x0_0 x1_0 r N 0 0 _ _ _ _ hP hD hS (lv_sub hl [0, 1, 2, 3] rfl) mk0_0 mk1_0 fr hf
set_option maxHeartbeats 4000000 in
set_option maxRecDepth 100000 in
theorem c_Nd_isIn (l : Launch) (D : va_G) (cI cG cZ : ClassId) (ad : Nat → Nat) (B : Nat) (w0 : va_W) (N : Nat) (a0 : Int32) (a1 : Int32) (r : Int32) (hf : f_Nd_isIn N a0 a1 = some r) : Met l y_Nd_isIn (.code y_Nd_isIn b_Nd_isIn 2 (some .boolean) :: hw_G) ({ frames := 0, cells := 0, slots := 0, locals := 0 } : Room) (va_Pc [.int a0, .int a1] (hw_U D cI cG cZ B w0)) (va_Qi (fun (r1 : Int32) (w1 : va_W) => r1 = r ∧ w1 = w0) (hw_B D B) (fun q : Nat => B ≤ q)) 0 0 (fun q : Nat => B ≤ q) := by
  refine Met.ofW (cc := b_Nd_isIn) (maxL := 2) (ret := (some .boolean)) (by decide) rfl ?_
  intro p e s m args below meth c s₁ Bd hml hv
  obtain ⟨rfl, hP, hD, hK, hN⟩ := hv
  have C0 : hw_C p s m meth c b_Nd_isIn 2 _ R_Nd (some .boolean) := ⟨Bd.exec, Bd.bytes, Bd.returns, hml, findClass_of_methodNamed Bd.named, fun w h => atoms_spec (ws := .code y_Nd_isIn b_Nd_isIn 2 (some .boolean) :: hw_G) Bd.pre w (List.mem_cons_of_mem _ h), Bd.notSynchronized⟩
  obtain ⟨hx, hb, hr, -, hown, hts, hlocks⟩ := id C0
  have hS : va_S (fun q : Nat => B ≤ q) s.heap s.heap [] := va_S.rf
  have fr : w0 = w0 := rfl
  have hl := lv_entry ([.int a0, .int a1]) (n := 2) (Nat.le_of_ble_eq_true rfl)
  rw [lg_entry_eq]
  generalize (lg_sl ([.int a0, .int a1]) ++ List.replicate (2 - (lg_sl ([.int a0, .int a1])).length) Slot.unset).toArray = ls at hl ⊢
  have hl : lv_has ls 2 [(0, .int a0), (1, .int a1)] := hl
  unfold f_Nd_isIn at hf
  refine lv_iload_n hx hb d_Nd_isIn_0 rfl (lv_at hl 0 rfl) ?_
  refine lv_iload_n hx hb d_Nd_isIn_1 rfl (lv_at hl 1 rfl) ?_
  refine lv_ishr hx hb d_Nd_isIn_2 ?_
  refine lv_iconst (v := 1) hx hb d_Nd_isIn_3 (by decide) ?_
  refine lv_iand hx hb d_Nd_isIn_4 ?_
  refine lv_if_eq (tgt := 12) hx hb d_Nd_isIn_5 (by decide) (fun c1 => ?_) (fun c1 => ?_)
  · rw [if_pos c1] at hf
    refine lv_iconst (v := 0) hx hb d_Nd_isIn_12 (by decide) ?_
    have e0 := Option.some.inj hf
    exact W.zret (v := 0) hx hb hr (by decide) (fun t ht hW => ⟨⟨0, w0, rfl, ⟨e0, fr⟩, by rw [ht]; exact hP, hD⟩, hS.F ht⟩) hS.2.2 d_Nd_isIn_13
  · rw [if_neg c1] at hf
    refine lv_iconst (v := 1) hx hb d_Nd_isIn_8 (by decide) ?_
    refine lv_goto (tgt := 13) hx hb d_Nd_isIn_9 (by decide) ?_
    have e0 := Option.some.inj hf
    exact W.zret (v := 1) hx hb hr (by decide) (fun t ht hW => ⟨⟨1, w0, rfl, ⟨e0, fr⟩, by rw [ht]; exact hP, hD⟩, hS.F ht⟩) hS.2.2 d_Nd_isIn_13
set_option maxHeartbeats 4000000 in
set_option maxRecDepth 100000 in
theorem c_In_bitCount (l : Launch) (D : va_G) (cI cG cZ : ClassId) (ad : Nat → Nat) (B : Nat) (w0 : va_W) (N : Nat) (a0 : Int32) (r : Int32) (hf : f_In_bitCount N a0 = some r) : Met l y_In_bitCount (.code y_In_bitCount b_In_bitCount 1 (some .int) :: hw_G) ({ frames := 0, cells := 0, slots := 0, locals := 0 } : Room) (va_Pc [.int a0] (hw_U D cI cG cZ B w0)) (va_Qi (fun (r1 : Int32) (w1 : va_W) => r1 = r ∧ w1 = w0) (hw_B D B) (fun q : Nat => B ≤ q)) 0 0 (fun q : Nat => B ≤ q) := by
  refine Met.ofW (cc := b_In_bitCount) (maxL := 1) (ret := (some .int)) (by decide) rfl ?_
  intro p e s m args below meth c s₁ Bd hml hv
  obtain ⟨rfl, hP, hD, hK, hN⟩ := hv
  have C0 : hw_C p s m meth c b_In_bitCount 1 _ R_In (some .int) := ⟨Bd.exec, Bd.bytes, Bd.returns, hml, findClass_of_methodNamed Bd.named, fun w h => atoms_spec (ws := .code y_In_bitCount b_In_bitCount 1 (some .int) :: hw_G) Bd.pre w (List.mem_cons_of_mem _ h), Bd.notSynchronized⟩
  obtain ⟨hx, hb, hr, -, hown, hts, hlocks⟩ := id C0
  have hS : va_S (fun q : Nat => B ≤ q) s.heap s.heap [] := va_S.rf
  have fr : w0 = w0 := rfl
  have hl := lv_entry ([.int a0]) (n := 1) (Nat.le_of_ble_eq_true rfl)
  rw [lg_entry_eq]
  generalize (lg_sl ([.int a0]) ++ List.replicate (1 - (lg_sl ([.int a0])).length) Slot.unset).toArray = ls at hl ⊢
  have hl : lv_has ls 1 [(0, .int a0)] := hl
  unfold f_In_bitCount at hf
  refine lv_iload_n hx hb d_In_bitCount_0 rfl (lv_at hl 0 rfl) ?_
  refine lv_iload_n hx hb d_In_bitCount_1 rfl (lv_at hl 0 rfl) ?_
  refine lv_iconst (v := 1) hx hb d_In_bitCount_2 (by decide) ?_
  refine lv_iushr hx hb d_In_bitCount_3 rfl ?_
  refine lv_ldcw (v := 1431655765) hx hb hown (hts _ iw_307) d_In_bitCount_4 ?_
  refine lv_iand hx hb d_In_bitCount_7 ?_
  refine lv_isub hx hb d_In_bitCount_8 ?_
  refine lv_istore_n (lv' := [(0, .int (a0 - (((a0.toUInt32 >>> ((1 : Int32).toUInt32 &&& Int32.toUInt32 31)).toInt32) &&& 1431655765)))]) hx hb d_In_bitCount_9 rfl hl (by decide) rfl (fun ls hl => ?_)
  refine lv_iload_n hx hb d_In_bitCount_10 rfl (lv_at hl 0 rfl) ?_
  refine lv_ldcw (v := 858993459) hx hb hown (hts _ iw_308) d_In_bitCount_11 ?_
  refine lv_iand hx hb d_In_bitCount_14 ?_
  refine lv_iload_n hx hb d_In_bitCount_15 rfl (lv_at hl 0 rfl) ?_
  refine lv_iconst (v := 2) hx hb d_In_bitCount_16 (by decide) ?_
  refine lv_iushr hx hb d_In_bitCount_17 rfl ?_
  refine lv_ldcw (v := 858993459) hx hb hown (hts _ iw_308) d_In_bitCount_18 ?_
  refine lv_iand hx hb d_In_bitCount_21 ?_
  refine lv_iadd hx hb d_In_bitCount_22 ?_
  refine lv_istore_n (lv' := [(0, .int (((a0 - (((a0.toUInt32 >>> ((1 : Int32).toUInt32 &&& Int32.toUInt32 31)).toInt32) &&& 1431655765)) &&& 858993459) + ((((a0 - (((a0.toUInt32 >>> ((1 : Int32).toUInt32 &&& Int32.toUInt32 31)).toInt32) &&& 1431655765)).toUInt32 >>> ((2 : Int32).toUInt32 &&& Int32.toUInt32 31)).toInt32) &&& 858993459)))]) hx hb d_In_bitCount_23 rfl hl (by decide) rfl (fun ls hl => ?_)
  refine lv_iload_n hx hb d_In_bitCount_24 rfl (lv_at hl 0 rfl) ?_
  refine lv_iload_n hx hb d_In_bitCount_25 rfl (lv_at hl 0 rfl) ?_
  refine lv_iconst (v := 4) hx hb d_In_bitCount_26 (by decide) ?_
  refine lv_iushr hx hb d_In_bitCount_27 rfl ?_
  refine lv_iadd hx hb d_In_bitCount_28 ?_
  refine lv_ldcw (v := 252645135) hx hb hown (hts _ iw_309) d_In_bitCount_29 ?_
  refine lv_iand hx hb d_In_bitCount_32 ?_
  refine lv_istore_n (lv' := [(0, .int (((((a0 - (((a0.toUInt32 >>> ((1 : Int32).toUInt32 &&& Int32.toUInt32 31)).toInt32) &&& 1431655765)) &&& 858993459) + ((((a0 - (((a0.toUInt32 >>> ((1 : Int32).toUInt32 &&& Int32.toUInt32 31)).toInt32) &&& 1431655765)).toUInt32 >>> ((2 : Int32).toUInt32 &&& Int32.toUInt32 31)).toInt32) &&& 858993459)) + (((((a0 - (((a0.toUInt32 >>> ((1 : Int32).toUInt32 &&& Int32.toUInt32 31)).toInt32) &&& 1431655765)) &&& 858993459) + ((((a0 - (((a0.toUInt32 >>> ((1 : Int32).toUInt32 &&& Int32.toUInt32 31)).toInt32) &&& 1431655765)).toUInt32 >>> ((2 : Int32).toUInt32 &&& Int32.toUInt32 31)).toInt32) &&& 858993459)).toUInt32 >>> ((4 : Int32).toUInt32 &&& Int32.toUInt32 31)).toInt32)) &&& 252645135))]) hx hb d_In_bitCount_33 rfl hl (by decide) rfl (fun ls hl => ?_)
  refine lv_iload_n hx hb d_In_bitCount_34 rfl (lv_at hl 0 rfl) ?_
  refine lv_iload_n hx hb d_In_bitCount_35 rfl (lv_at hl 0 rfl) ?_
  refine lv_bipush (v := 8) hx hb d_In_bitCount_36 (by decide) ?_
  refine lv_iushr hx hb d_In_bitCount_38 rfl ?_
  refine lv_iadd hx hb d_In_bitCount_39 ?_
  refine lv_istore_n (lv' := [(0, .int ((((((a0 - (((a0.toUInt32 >>> ((1 : Int32).toUInt32 &&& Int32.toUInt32 31)).toInt32) &&& 1431655765)) &&& 858993459) + ((((a0 - (((a0.toUInt32 >>> ((1 : Int32).toUInt32 &&& Int32.toUInt32 31)).toInt32) &&& 1431655765)).toUInt32 >>> ((2 : Int32).toUInt32 &&& Int32.toUInt32 31)).toInt32) &&& 858993459)) + (((((a0 - (((a0.toUInt32 >>> ((1 : Int32).toUInt32 &&& Int32.toUInt32 31)).toInt32) &&& 1431655765)) &&& 858993459) + ((((a0 - (((a0.toUInt32 >>> ((1 : Int32).toUInt32 &&& Int32.toUInt32 31)).toInt32) &&& 1431655765)).toUInt32 >>> ((2 : Int32).toUInt32 &&& Int32.toUInt32 31)).toInt32) &&& 858993459)).toUInt32 >>> ((4 : Int32).toUInt32 &&& Int32.toUInt32 31)).toInt32)) &&& 252645135) + (((((((a0 - (((a0.toUInt32 >>> ((1 : Int32).toUInt32 &&& Int32.toUInt32 31)).toInt32) &&& 1431655765)) &&& 858993459) + ((((a0 - (((a0.toUInt32 >>> ((1 : Int32).toUInt32 &&& Int32.toUInt32 31)).toInt32) &&& 1431655765)).toUInt32 >>> ((2 : Int32).toUInt32 &&& Int32.toUInt32 31)).toInt32) &&& 858993459)) + (((((a0 - (((a0.toUInt32 >>> ((1 : Int32).toUInt32 &&& Int32.toUInt32 31)).toInt32) &&& 1431655765)) &&& 858993459) + ((((a0 - (((a0.toUInt32 >>> ((1 : Int32).toUInt32 &&& Int32.toUInt32 31)).toInt32) &&& 1431655765)).toUInt32 >>> ((2 : Int32).toUInt32 &&& Int32.toUInt32 31)).toInt32) &&& 858993459)).toUInt32 >>> ((4 : Int32).toUInt32 &&& Int32.toUInt32 31)).toInt32)) &&& 252645135).toUInt32 >>> ((8 : Int32).toUInt32 &&& Int32.toUInt32 31)).toInt32)))]) hx hb d_In_bitCount_40 rfl hl (by decide) rfl (fun ls hl => ?_)
  refine lv_iload_n hx hb d_In_bitCount_41 rfl (lv_at hl 0 rfl) ?_
  refine lv_iload_n hx hb d_In_bitCount_42 rfl (lv_at hl 0 rfl) ?_
  refine lv_bipush (v := 16) hx hb d_In_bitCount_43 (by decide) ?_
  refine lv_iushr hx hb d_In_bitCount_45 rfl ?_
  refine lv_iadd hx hb d_In_bitCount_46 ?_
  refine lv_istore_n (lv' := [(0, .int (((((((a0 - (((a0.toUInt32 >>> ((1 : Int32).toUInt32 &&& Int32.toUInt32 31)).toInt32) &&& 1431655765)) &&& 858993459) + ((((a0 - (((a0.toUInt32 >>> ((1 : Int32).toUInt32 &&& Int32.toUInt32 31)).toInt32) &&& 1431655765)).toUInt32 >>> ((2 : Int32).toUInt32 &&& Int32.toUInt32 31)).toInt32) &&& 858993459)) + (((((a0 - (((a0.toUInt32 >>> ((1 : Int32).toUInt32 &&& Int32.toUInt32 31)).toInt32) &&& 1431655765)) &&& 858993459) + ((((a0 - (((a0.toUInt32 >>> ((1 : Int32).toUInt32 &&& Int32.toUInt32 31)).toInt32) &&& 1431655765)).toUInt32 >>> ((2 : Int32).toUInt32 &&& Int32.toUInt32 31)).toInt32) &&& 858993459)).toUInt32 >>> ((4 : Int32).toUInt32 &&& Int32.toUInt32 31)).toInt32)) &&& 252645135) + (((((((a0 - (((a0.toUInt32 >>> ((1 : Int32).toUInt32 &&& Int32.toUInt32 31)).toInt32) &&& 1431655765)) &&& 858993459) + ((((a0 - (((a0.toUInt32 >>> ((1 : Int32).toUInt32 &&& Int32.toUInt32 31)).toInt32) &&& 1431655765)).toUInt32 >>> ((2 : Int32).toUInt32 &&& Int32.toUInt32 31)).toInt32) &&& 858993459)) + (((((a0 - (((a0.toUInt32 >>> ((1 : Int32).toUInt32 &&& Int32.toUInt32 31)).toInt32) &&& 1431655765)) &&& 858993459) + ((((a0 - (((a0.toUInt32 >>> ((1 : Int32).toUInt32 &&& Int32.toUInt32 31)).toInt32) &&& 1431655765)).toUInt32 >>> ((2 : Int32).toUInt32 &&& Int32.toUInt32 31)).toInt32) &&& 858993459)).toUInt32 >>> ((4 : Int32).toUInt32 &&& Int32.toUInt32 31)).toInt32)) &&& 252645135).toUInt32 >>> ((8 : Int32).toUInt32 &&& Int32.toUInt32 31)).toInt32)) + ((((((((a0 - (((a0.toUInt32 >>> ((1 : Int32).toUInt32 &&& Int32.toUInt32 31)).toInt32) &&& 1431655765)) &&& 858993459) + ((((a0 - (((a0.toUInt32 >>> ((1 : Int32).toUInt32 &&& Int32.toUInt32 31)).toInt32) &&& 1431655765)).toUInt32 >>> ((2 : Int32).toUInt32 &&& Int32.toUInt32 31)).toInt32) &&& 858993459)) + (((((a0 - (((a0.toUInt32 >>> ((1 : Int32).toUInt32 &&& Int32.toUInt32 31)).toInt32) &&& 1431655765)) &&& 858993459) + ((((a0 - (((a0.toUInt32 >>> ((1 : Int32).toUInt32 &&& Int32.toUInt32 31)).toInt32) &&& 1431655765)).toUInt32 >>> ((2 : Int32).toUInt32 &&& Int32.toUInt32 31)).toInt32) &&& 858993459)).toUInt32 >>> ((4 : Int32).toUInt32 &&& Int32.toUInt32 31)).toInt32)) &&& 252645135) + (((((((a0 - (((a0.toUInt32 >>> ((1 : Int32).toUInt32 &&& Int32.toUInt32 31)).toInt32) &&& 1431655765)) &&& 858993459) + ((((a0 - (((a0.toUInt32 >>> ((1 : Int32).toUInt32 &&& Int32.toUInt32 31)).toInt32) &&& 1431655765)).toUInt32 >>> ((2 : Int32).toUInt32 &&& Int32.toUInt32 31)).toInt32) &&& 858993459)) + (((((a0 - (((a0.toUInt32 >>> ((1 : Int32).toUInt32 &&& Int32.toUInt32 31)).toInt32) &&& 1431655765)) &&& 858993459) + ((((a0 - (((a0.toUInt32 >>> ((1 : Int32).toUInt32 &&& Int32.toUInt32 31)).toInt32) &&& 1431655765)).toUInt32 >>> ((2 : Int32).toUInt32 &&& Int32.toUInt32 31)).toInt32) &&& 858993459)).toUInt32 >>> ((4 : Int32).toUInt32 &&& Int32.toUInt32 31)).toInt32)) &&& 252645135).toUInt32 >>> ((8 : Int32).toUInt32 &&& Int32.toUInt32 31)).toInt32)).toUInt32 >>> ((16 : Int32).toUInt32 &&& Int32.toUInt32 31)).toInt32)))]) hx hb d_In_bitCount_47 rfl hl (by decide) rfl (fun ls hl => ?_)
  refine lv_iload_n hx hb d_In_bitCount_48 rfl (lv_at hl 0 rfl) ?_
  refine lv_bipush (v := 63) hx hb d_In_bitCount_49 (by decide) ?_
  refine lv_iand hx hb d_In_bitCount_51 ?_
  have e0 := Option.some.inj hf
  exact W.iret (v := (((((((a0 - (((a0.toUInt32 >>> ((1 : Int32).toUInt32 &&& Int32.toUInt32 31)).toInt32) &&& 1431655765)) &&& 858993459) + ((((a0 - (((a0.toUInt32 >>> ((1 : Int32).toUInt32 &&& Int32.toUInt32 31)).toInt32) &&& 1431655765)).toUInt32 >>> ((2 : Int32).toUInt32 &&& Int32.toUInt32 31)).toInt32) &&& 858993459)) + (((((a0 - (((a0.toUInt32 >>> ((1 : Int32).toUInt32 &&& Int32.toUInt32 31)).toInt32) &&& 1431655765)) &&& 858993459) + ((((a0 - (((a0.toUInt32 >>> ((1 : Int32).toUInt32 &&& Int32.toUInt32 31)).toInt32) &&& 1431655765)).toUInt32 >>> ((2 : Int32).toUInt32 &&& Int32.toUInt32 31)).toInt32) &&& 858993459)).toUInt32 >>> ((4 : Int32).toUInt32 &&& Int32.toUInt32 31)).toInt32)) &&& 252645135) + (((((((a0 - (((a0.toUInt32 >>> ((1 : Int32).toUInt32 &&& Int32.toUInt32 31)).toInt32) &&& 1431655765)) &&& 858993459) + ((((a0 - (((a0.toUInt32 >>> ((1 : Int32).toUInt32 &&& Int32.toUInt32 31)).toInt32) &&& 1431655765)).toUInt32 >>> ((2 : Int32).toUInt32 &&& Int32.toUInt32 31)).toInt32) &&& 858993459)) + (((((a0 - (((a0.toUInt32 >>> ((1 : Int32).toUInt32 &&& Int32.toUInt32 31)).toInt32) &&& 1431655765)) &&& 858993459) + ((((a0 - (((a0.toUInt32 >>> ((1 : Int32).toUInt32 &&& Int32.toUInt32 31)).toInt32) &&& 1431655765)).toUInt32 >>> ((2 : Int32).toUInt32 &&& Int32.toUInt32 31)).toInt32) &&& 858993459)).toUInt32 >>> ((4 : Int32).toUInt32 &&& Int32.toUInt32 31)).toInt32)) &&& 252645135).toUInt32 >>> ((8 : Int32).toUInt32 &&& Int32.toUInt32 31)).toInt32)) + ((((((((a0 - (((a0.toUInt32 >>> ((1 : Int32).toUInt32 &&& Int32.toUInt32 31)).toInt32) &&& 1431655765)) &&& 858993459) + ((((a0 - (((a0.toUInt32 >>> ((1 : Int32).toUInt32 &&& Int32.toUInt32 31)).toInt32) &&& 1431655765)).toUInt32 >>> ((2 : Int32).toUInt32 &&& Int32.toUInt32 31)).toInt32) &&& 858993459)) + (((((a0 - (((a0.toUInt32 >>> ((1 : Int32).toUInt32 &&& Int32.toUInt32 31)).toInt32) &&& 1431655765)) &&& 858993459) + ((((a0 - (((a0.toUInt32 >>> ((1 : Int32).toUInt32 &&& Int32.toUInt32 31)).toInt32) &&& 1431655765)).toUInt32 >>> ((2 : Int32).toUInt32 &&& Int32.toUInt32 31)).toInt32) &&& 858993459)).toUInt32 >>> ((4 : Int32).toUInt32 &&& Int32.toUInt32 31)).toInt32)) &&& 252645135) + (((((((a0 - (((a0.toUInt32 >>> ((1 : Int32).toUInt32 &&& Int32.toUInt32 31)).toInt32) &&& 1431655765)) &&& 858993459) + ((((a0 - (((a0.toUInt32 >>> ((1 : Int32).toUInt32 &&& Int32.toUInt32 31)).toInt32) &&& 1431655765)).toUInt32 >>> ((2 : Int32).toUInt32 &&& Int32.toUInt32 31)).toInt32) &&& 858993459)) + (((((a0 - (((a0.toUInt32 >>> ((1 : Int32).toUInt32 &&& Int32.toUInt32 31)).toInt32) &&& 1431655765)) &&& 858993459) + ((((a0 - (((a0.toUInt32 >>> ((1 : Int32).toUInt32 &&& Int32.toUInt32 31)).toInt32) &&& 1431655765)).toUInt32 >>> ((2 : Int32).toUInt32 &&& Int32.toUInt32 31)).toInt32) &&& 858993459)).toUInt32 >>> ((4 : Int32).toUInt32 &&& Int32.toUInt32 31)).toInt32)) &&& 252645135).toUInt32 >>> ((8 : Int32).toUInt32 &&& Int32.toUInt32 31)).toInt32)).toUInt32 >>> ((16 : Int32).toUInt32 &&& Int32.toUInt32 31)).toInt32)) &&& 63) hx hb hr (fun t ht hW => ⟨⟨(((((((a0 - (((a0.toUInt32 >>> ((1 : Int32).toUInt32 &&& Int32.toUInt32 31)).toInt32) &&& 1431655765)) &&& 858993459) + ((((a0 - (((a0.toUInt32 >>> ((1 : Int32).toUInt32 &&& Int32.toUInt32 31)).toInt32) &&& 1431655765)).toUInt32 >>> ((2 : Int32).toUInt32 &&& Int32.toUInt32 31)).toInt32) &&& 858993459)) + (((((a0 - (((a0.toUInt32 >>> ((1 : Int32).toUInt32 &&& Int32.toUInt32 31)).toInt32) &&& 1431655765)) &&& 858993459) + ((((a0 - (((a0.toUInt32 >>> ((1 : Int32).toUInt32 &&& Int32.toUInt32 31)).toInt32) &&& 1431655765)).toUInt32 >>> ((2 : Int32).toUInt32 &&& Int32.toUInt32 31)).toInt32) &&& 858993459)).toUInt32 >>> ((4 : Int32).toUInt32 &&& Int32.toUInt32 31)).toInt32)) &&& 252645135) + (((((((a0 - (((a0.toUInt32 >>> ((1 : Int32).toUInt32 &&& Int32.toUInt32 31)).toInt32) &&& 1431655765)) &&& 858993459) + ((((a0 - (((a0.toUInt32 >>> ((1 : Int32).toUInt32 &&& Int32.toUInt32 31)).toInt32) &&& 1431655765)).toUInt32 >>> ((2 : Int32).toUInt32 &&& Int32.toUInt32 31)).toInt32) &&& 858993459)) + (((((a0 - (((a0.toUInt32 >>> ((1 : Int32).toUInt32 &&& Int32.toUInt32 31)).toInt32) &&& 1431655765)) &&& 858993459) + ((((a0 - (((a0.toUInt32 >>> ((1 : Int32).toUInt32 &&& Int32.toUInt32 31)).toInt32) &&& 1431655765)).toUInt32 >>> ((2 : Int32).toUInt32 &&& Int32.toUInt32 31)).toInt32) &&& 858993459)).toUInt32 >>> ((4 : Int32).toUInt32 &&& Int32.toUInt32 31)).toInt32)) &&& 252645135).toUInt32 >>> ((8 : Int32).toUInt32 &&& Int32.toUInt32 31)).toInt32)) + ((((((((a0 - (((a0.toUInt32 >>> ((1 : Int32).toUInt32 &&& Int32.toUInt32 31)).toInt32) &&& 1431655765)) &&& 858993459) + ((((a0 - (((a0.toUInt32 >>> ((1 : Int32).toUInt32 &&& Int32.toUInt32 31)).toInt32) &&& 1431655765)).toUInt32 >>> ((2 : Int32).toUInt32 &&& Int32.toUInt32 31)).toInt32) &&& 858993459)) + (((((a0 - (((a0.toUInt32 >>> ((1 : Int32).toUInt32 &&& Int32.toUInt32 31)).toInt32) &&& 1431655765)) &&& 858993459) + ((((a0 - (((a0.toUInt32 >>> ((1 : Int32).toUInt32 &&& Int32.toUInt32 31)).toInt32) &&& 1431655765)).toUInt32 >>> ((2 : Int32).toUInt32 &&& Int32.toUInt32 31)).toInt32) &&& 858993459)).toUInt32 >>> ((4 : Int32).toUInt32 &&& Int32.toUInt32 31)).toInt32)) &&& 252645135) + (((((((a0 - (((a0.toUInt32 >>> ((1 : Int32).toUInt32 &&& Int32.toUInt32 31)).toInt32) &&& 1431655765)) &&& 858993459) + ((((a0 - (((a0.toUInt32 >>> ((1 : Int32).toUInt32 &&& Int32.toUInt32 31)).toInt32) &&& 1431655765)).toUInt32 >>> ((2 : Int32).toUInt32 &&& Int32.toUInt32 31)).toInt32) &&& 858993459)) + (((((a0 - (((a0.toUInt32 >>> ((1 : Int32).toUInt32 &&& Int32.toUInt32 31)).toInt32) &&& 1431655765)) &&& 858993459) + ((((a0 - (((a0.toUInt32 >>> ((1 : Int32).toUInt32 &&& Int32.toUInt32 31)).toInt32) &&& 1431655765)).toUInt32 >>> ((2 : Int32).toUInt32 &&& Int32.toUInt32 31)).toInt32) &&& 858993459)).toUInt32 >>> ((4 : Int32).toUInt32 &&& Int32.toUInt32 31)).toInt32)) &&& 252645135).toUInt32 >>> ((8 : Int32).toUInt32 &&& Int32.toUInt32 31)).toInt32)).toUInt32 >>> ((16 : Int32).toUInt32 &&& Int32.toUInt32 31)).toInt32)) &&& 63, w0, rfl, ⟨e0, fr⟩, by rw [ht]; exact hP, hD⟩, hS.F ht⟩) hS.2.2 d_In_bitCount_52
set_option maxHeartbeats 4000000 in
set_option maxRecDepth 100000 in
theorem c_Nd_isDocumentNumber (l : Launch) (D : va_G) (cI cG cZ : ClassId) (ad : Nat → Nat) (B : Nat) (w0 : va_W) (N : Nat) (a0 : Int32) (r : Int32) (hf : f_Nd_isDocumentNumber N a0 = some r) : Met l y_Nd_isDocumentNumber (.code y_Nd_isDocumentNumber b_Nd_isDocumentNumber 1 (some .boolean) :: hw_G) ({ frames := 1, cells := 0, slots := 0, locals := 22 } : Room) (va_Pc [.int a0] (hw_U D cI cG cZ B w0)) (va_Qi (fun (r1 : Int32) (w1 : va_W) => r1 = r ∧ w1 = w0) (hw_B D B) (fun q : Nat => B ≤ q)) 0 0 (fun q : Nat => B ≤ q) := by
  refine Met.ofW (cc := b_Nd_isDocumentNumber) (maxL := 1) (ret := (some .boolean)) (by decide) rfl ?_
  intro p e s m args below meth c s₁ Bd hml hv
  obtain ⟨rfl, hP, hD, hK, hN⟩ := hv
  have C0 : hw_C p s m meth c b_Nd_isDocumentNumber 1 _ R_Nd (some .boolean) := ⟨Bd.exec, Bd.bytes, Bd.returns, hml, findClass_of_methodNamed Bd.named, fun w h => atoms_spec (ws := .code y_Nd_isDocumentNumber b_Nd_isDocumentNumber 1 (some .boolean) :: hw_G) Bd.pre w (List.mem_cons_of_mem _ h), Bd.notSynchronized⟩
  obtain ⟨hx, hb, hr, -, hown, hts, hlocks⟩ := id C0
  have hS : va_S (fun q : Nat => B ≤ q) s.heap s.heap [] := va_S.rf
  have fr : w0 = w0 := rfl
  have hl := lv_entry ([.int a0]) (n := 1) (Nat.le_of_ble_eq_true rfl)
  rw [lg_entry_eq]
  generalize (lg_sl ([.int a0]) ++ List.replicate (1 - (lg_sl ([.int a0])).length) Slot.unset).toArray = ls at hl ⊢
  have hl : lv_has ls 1 [(0, .int a0)] := hl
  unfold f_Nd_isDocumentNumber at hf
  refine lv_iload_n hx hb d_Nd_isDocumentNumber_0 rfl (lv_at hl 0 rfl) ?_
  refine lv_iconst (v := 0) hx hb d_Nd_isDocumentNumber_1 (by decide) ?_
  refine lv_bipush (v := 29) hx hb d_Nd_isDocumentNumber_2 (by decide) ?_
  obtain ⟨p1, hp1, hf⟩ := g_bd hf
  refine hw_ci0 (va_runS (As := [.int a0, .int 0, .int 29]) (rest := []) ⟨hx, hb, hml, hown, hts⟩ (c_Nd_isWithin l D cI cG cZ ad B w0 N a0 0 29 p1 hp1) (va_cwS 3 hts (hw_gS iw_185 gs_Nd_isWithin) rfl rfl rfl (by decide +kernel) ⟨Nat.le_of_ble_eq_true rfl, Nat.le_of_ble_eq_true rfl⟩) ⟨hw_blind, hw_go hP hD hK hN⟩ rfl rfl hl.1 rfl (lv_room (Nat.le_of_ble_eq_true rfl)) d_Nd_isDocumentNumber_4 ⟨Nat.zero_le _, Nat.zero_le _⟩) hS (fun H locs hP hD hS => ?_)
  obtain ⟨z2, hf⟩ := g_blE hf
  have e0 := Option.some.inj hf
  exact W.zret (v := p1) hx hb hr (g_zn z2) (fun t ht hW => ⟨⟨p1, w0, rfl, ⟨e0, fr⟩, by rw [ht]; exact hP, hD⟩, hS.F ht⟩) hS.2.2 d_Nd_isDocumentNumber_7
end
section
set_option maxHeartbeats 4000000 in
set_option maxRecDepth 100000 in
theorem c_Rk_start (l : Launch) (D : va_G) (cI cG cZ : ClassId) (ad : Nat → Nat) (B : Nat) (w0 : va_W) (N : Nat) (k0 : Nat) (x0_0 : (Nat → Int32)) (x0_1 : (Nat → Int32)) (x0_2 : Int32) (x0_3 : Int32) (x0_4 : Int32) (a1 : Int32) (a2 : Int32) (y0_2 : Int32) (y0_3 : Int32) (y0_4 : Int32) (hf : f_Rk_start N a1 a2 = some (y0_2, y0_3, y0_4)) (bk0_0 : wc_Rk cI cG cZ ad k0 (x0_0, x0_1, x0_2, x0_3, x0_4) w0) : Met l y_Rk_start (.code y_Rk_start b_Rk_start 3 none :: hw_G) ({ frames := 1, cells := 0, slots := 0, locals := 21 } : Room) (va_Pc [.ref (ad k0), .int a1, .int a2] (hw_U D cI cG cZ B w0)) (va_Qv (fun (w1 : va_W) => wc_Rk cI cG cZ ad k0 (x0_0, x0_1, y0_2, y0_3, y0_4) w1 ∧ (∀ j : Nat, (j < k0 ∨ k0 + 3 ≤ j) → w1[j]? = w0[j]?)) (hw_B D B) (fun q : Nat => B ≤ q)) 0 0 (fun q : Nat => B ≤ q) := by
  refine Met.ofW (cc := b_Rk_start) (maxL := 3) (ret := none) (by decide) rfl ?_
  intro p e s m args below meth c s₁ Bd hml hv
  obtain ⟨rfl, hP, hD, hK, hN⟩ := hv
  have C0 : hw_C p s m meth c b_Rk_start 3 _ R_Rk none := ⟨Bd.exec, Bd.bytes, Bd.returns, hml, findClass_of_methodNamed Bd.named, fun w h => atoms_spec (ws := .code y_Rk_start b_Rk_start 3 none :: hw_G) Bd.pre w (List.mem_cons_of_mem _ h), Bd.notSynchronized⟩
  obtain ⟨hx, hb, hr, -, hown, hts, hlocks⟩ := id C0
  have hS : va_S (fun q : Nat => B ≤ q) s.heap s.heap [] := va_S.rf
  have fr : ∀ j : Nat, (j < k0 ∨ k0 + 3 ≤ j) → w0[j]? = w0[j]? := fun j _ => rfl
  have hl := lv_entry ([.ref (ad k0), .int a1, .int a2]) (n := 3) (Nat.le_of_ble_eq_true rfl)
  rw [lg_entry_eq]
  generalize (lg_sl ([.ref (ad k0), .int a1, .int a2]) ++ List.replicate (3 - (lg_sl ([.ref (ad k0), .int a1, .int a2])).length) Slot.unset).toArray = ls at hl ⊢
  have hl : lv_has ls 3 [(0, .ref (ad k0)), (1, .int a1), (2, .int a2)] := hl
  unfold f_Rk_start at hf
  obtain ⟨mk0_0, mk0_1, mk0_2⟩ := id bk0_0
  have mk0_0 : w0[k0]? = some (ad k0, .inr (4, [.ref (ad (k0 + 1)), .ref (ad (k0 + 2)), .int x0_2, .int x0_3, .int x0_4])) := mk0_0
  have mk0_1 : w0[k0 + 1]? = some (ad (k0 + 1), .inl (cI, 30, .inl x0_0)) := mk0_1
  have mk0_2 : w0[k0 + 2]? = some (ad (k0 + 2), .inl (cI, 30, .inl x0_1)) := mk0_2
  refine lv_aload_n hx hb d_Rk_start_0 rfl (lv_at hl 0 rfl) ?_
  refine lv_iconst (v := 0) hx hb d_Rk_start_1 (by decide) ?_
  refine va_put (D := D) (ci := 4) (v := .int 0) (ty := .int) (C := R_Rk) (T := F_Rk) (N := 5) hx hb hts i_Rk t_Rk t_Rk_ok n_Rk hown hK hP hD hS (k0) mk0_0 rfl 2 (by decide) (hts _ iw_86) (fun _ h9 => h9) rfl (by decide +kernel) rfl rfl (Nat.le_of_ble_eq_true rfl) d_Rk_start_2 (fun H locs hP hD hS => ?_)
  obtain ⟨w1, hP, hD, hne, heq⟩ := hs_up hP hD mk0_0
  have mk0_0 : w1[k0]? = some (ad k0, .inr (4, [.ref (ad (k0 + 1)), .ref (ad (k0 + 2)), .int 0, .int x0_3, .int x0_4])) := heq
  have mk0_1 : w1[k0 + 1]? = some (ad (k0 + 1), .inl (cI, 30, .inl x0_0)) := (hne _ (by omega)).trans mk0_1
  have mk0_2 : w1[k0 + 2]? = some (ad (k0 + 2), .inl (cI, 30, .inl x0_1)) := (hne _ (by omega)).trans mk0_2
  have fr : ∀ j : Nat, (j < k0 ∨ k0 + 3 ≤ j) → w1[j]? = w0[j]? := fun j o0 => (hne j (by omega)).trans (fr j o0)
  refine lv_aload_n hx hb d_Rk_start_5 rfl (lv_at hl 0 rfl) ?_
  refine lv_iload_n hx hb d_Rk_start_6 rfl (lv_at hl 1 rfl) ?_
  refine lv_bipush (v := 30) hx hb d_Rk_start_7 (by decide) ?_
  refine va_mmin hx hb (hml.trans hl.1.symm) hown (hts _ iw_234) (hts _ iw_min_static) (hts _ iw_math_init) (hts _ iw_min_code) (Nat.le_of_ble_eq_true rfl) (Nat.le_of_ble_eq_true rfl) (Nat.zero_le _) (Nat.zero_le _) d_Rk_start_9 ?_
  refine va_put (D := D) (ci := 4) (v := .int (if 30 < a1 then 30 else a1)) (ty := .int) (C := R_Rk) (T := F_Rk) (N := 5) hx hb hts i_Rk t_Rk t_Rk_ok n_Rk hown hK hP hD hS (k0) mk0_0 rfl 3 (by decide) (hts _ iw_87) (fun _ h9 => h9) rfl (by decide +kernel) rfl rfl (Nat.le_of_ble_eq_true rfl) d_Rk_start_12 (fun H locs hP hD hS => ?_)
  obtain ⟨w2, hP, hD, hne, heq⟩ := hs_up hP hD mk0_0
  have mk0_0 : w2[k0]? = some (ad k0, .inr (4, [.ref (ad (k0 + 1)), .ref (ad (k0 + 2)), .int 0, .int (if 30 < a1 then 30 else a1), .int x0_4])) := heq
  have mk0_1 : w2[k0 + 1]? = some (ad (k0 + 1), .inl (cI, 30, .inl x0_0)) := (hne _ (by omega)).trans mk0_1
  have mk0_2 : w2[k0 + 2]? = some (ad (k0 + 2), .inl (cI, 30, .inl x0_1)) := (hne _ (by omega)).trans mk0_2
  have fr : ∀ j : Nat, (j < k0 ∨ k0 + 3 ≤ j) → w2[j]? = w0[j]? := fun j o0 => (hne j (by omega)).trans (fr j o0)
  refine lv_aload_n hx hb d_Rk_start_15 rfl (lv_at hl 0 rfl) ?_
  refine lv_iload_n hx hb d_Rk_start_16 rfl (lv_at hl 2 rfl) ?_
  refine lv_iconst (v := 1) hx hb d_Rk_start_17 (by decide) ?_
  refine lv_icmp_ne (tgt := 25) hx hb d_Rk_start_18 (by decide) (fun c3 => ?_) (fun c3 => ?_)
  · rw [if_neg c3] at hf
    refine lv_iconst (v := 0) hx hb d_Rk_start_25 (by decide) ?_
    refine va_put (D := D) (ci := 4) (v := .int 0) (ty := .boolean) (C := R_Rk) (T := F_Rk) (N := 5) hx hb hts i_Rk t_Rk t_Rk_ok n_Rk hown hK hP hD hS (k0) mk0_0 rfl 4 (by decide) (hts _ iw_88) (fun _ h9 => h9) rfl (by decide +kernel) (by decide) rfl (Nat.le_of_ble_eq_true rfl) d_Rk_start_26 (fun H locs hP hD hS => ?_)
    obtain ⟨w4, hP, hD, hne, heq⟩ := hs_up hP hD mk0_0
    have mk0_0 : w4[k0]? = some (ad k0, .inr (4, [.ref (ad (k0 + 1)), .ref (ad (k0 + 2)), .int 0, .int (if 30 < a1 then 30 else a1), .int 0])) := heq
    have mk0_1 : w4[k0 + 1]? = some (ad (k0 + 1), .inl (cI, 30, .inl x0_0)) := (hne _ (by omega)).trans mk0_1
    have mk0_2 : w4[k0 + 2]? = some (ad (k0 + 2), .inl (cI, 30, .inl x0_1)) := (hne _ (by omega)).trans mk0_2
    have fr : ∀ j : Nat, (j < k0 ∨ k0 + 3 ≤ j) → w4[j]? = w0[j]? := fun j o0 => (hne j (by omega)).trans (fr j o0)
    have bk0_0 : wc_Rk cI cG cZ ad (k0) (x0_0, x0_1, 0, if 30 < a1 then 30 else a1, 0) w4 := ⟨mk0_0, mk0_1, mk0_2⟩
    have he := Option.some.inj hf
    obtain ⟨e0, he⟩ := Prod.mk.inj he
    obtain ⟨e1, e2⟩ := Prod.mk.inj he
    have f0 : wc_Rk cI cG cZ ad (k0) (x0_0, x0_1, y0_2, y0_3, y0_4) w4 := by rw [← e0, ← e1, ← e2]; exact bk0_0
    exact W.vret hx hb hr (fun t ht hW => ⟨⟨w4, rfl, ⟨f0, fr⟩, by rw [ht]; exact hP, hD⟩, hS.F ht⟩) hS.2.2 d_Rk_start_29
  · rw [if_pos c3] at hf
    refine lv_iconst (v := 1) hx hb d_Rk_start_21 (by decide) ?_
    refine lv_goto (tgt := 26) hx hb d_Rk_start_22 (by decide) ?_
    refine va_put (D := D) (ci := 4) (v := .int 1) (ty := .boolean) (C := R_Rk) (T := F_Rk) (N := 5) hx hb hts i_Rk t_Rk t_Rk_ok n_Rk hown hK hP hD hS (k0) mk0_0 rfl 4 (by decide) (hts _ iw_88) (fun _ h9 => h9) rfl (by decide +kernel) (by decide) rfl (Nat.le_of_ble_eq_true rfl) d_Rk_start_26 (fun H locs hP hD hS => ?_)
    obtain ⟨w5, hP, hD, hne, heq⟩ := hs_up hP hD mk0_0
    have mk0_0 : w5[k0]? = some (ad k0, .inr (4, [.ref (ad (k0 + 1)), .ref (ad (k0 + 2)), .int 0, .int (if 30 < a1 then 30 else a1), .int 1])) := heq
    have mk0_1 : w5[k0 + 1]? = some (ad (k0 + 1), .inl (cI, 30, .inl x0_0)) := (hne _ (by omega)).trans mk0_1
    have mk0_2 : w5[k0 + 2]? = some (ad (k0 + 2), .inl (cI, 30, .inl x0_1)) := (hne _ (by omega)).trans mk0_2
    have fr : ∀ j : Nat, (j < k0 ∨ k0 + 3 ≤ j) → w5[j]? = w0[j]? := fun j o0 => (hne j (by omega)).trans (fr j o0)
    have bk0_0 : wc_Rk cI cG cZ ad (k0) (x0_0, x0_1, 0, if 30 < a1 then 30 else a1, 1) w5 := ⟨mk0_0, mk0_1, mk0_2⟩
    have he := Option.some.inj hf
    obtain ⟨e0, he⟩ := Prod.mk.inj he
    obtain ⟨e1, e2⟩ := Prod.mk.inj he
    have f0 : wc_Rk cI cG cZ ad (k0) (x0_0, x0_1, y0_2, y0_3, y0_4) w5 := by rw [← e0, ← e1, ← e2]; exact bk0_0
    exact W.vret hx hb hr (fun t ht hW => ⟨⟨w5, rfl, ⟨f0, fr⟩, by rw [ht]; exact hP, hD⟩, hS.F ht⟩) hS.2.2 d_Rk_start_29
set_option maxHeartbeats 4000000 in
set_option maxRecDepth 100000 in
theorem c_Rk_isFull (l : Launch) (D : va_G) (cI cG cZ : ClassId) (ad : Nat → Nat) (B : Nat) (w0 : va_W) (N : Nat) (k0 : Nat) (x0_0 : (Nat → Int32)) (x0_1 : (Nat → Int32)) (x0_2 : Int32) (x0_3 : Int32) (x0_4 : Int32) (r : Int32) (hf : f_Rk_isFull N x0_2 x0_3 = some r) (bk0_0 : wc_Rk cI cG cZ ad k0 (x0_0, x0_1, x0_2, x0_3, x0_4) w0) : Met l y_Rk_isFull (.code y_Rk_isFull b_Rk_isFull 1 (some .boolean) :: hw_G) ({ frames := 0, cells := 0, slots := 0, locals := 0 } : Room) (va_Pc [.ref (ad k0)] (hw_U D cI cG cZ B w0)) (va_Qi (fun (r1 : Int32) (w1 : va_W) => r1 = r ∧ w1 = w0) (hw_B D B) (fun q : Nat => B ≤ q)) 0 0 (fun q : Nat => B ≤ q) := by
  refine Met.ofW (cc := b_Rk_isFull) (maxL := 1) (ret := (some .boolean)) (by decide) rfl ?_
  intro p e s m args below meth c s₁ Bd hml hv
  obtain ⟨rfl, hP, hD, hK, hN⟩ := hv
  have C0 : hw_C p s m meth c b_Rk_isFull 1 _ R_Rk (some .boolean) := ⟨Bd.exec, Bd.bytes, Bd.returns, hml, findClass_of_methodNamed Bd.named, fun w h => atoms_spec (ws := .code y_Rk_isFull b_Rk_isFull 1 (some .boolean) :: hw_G) Bd.pre w (List.mem_cons_of_mem _ h), Bd.notSynchronized⟩
  obtain ⟨hx, hb, hr, -, hown, hts, hlocks⟩ := id C0
  have hS : va_S (fun q : Nat => B ≤ q) s.heap s.heap [] := va_S.rf
  have fr : w0 = w0 := rfl
  have hl := lv_entry ([.ref (ad k0)]) (n := 1) (Nat.le_of_ble_eq_true rfl)
  rw [lg_entry_eq]
  generalize (lg_sl ([.ref (ad k0)]) ++ List.replicate (1 - (lg_sl ([.ref (ad k0)])).length) Slot.unset).toArray = ls at hl ⊢
  have hl : lv_has ls 1 [(0, .ref (ad k0))] := hl
  unfold f_Rk_isFull at hf
  obtain ⟨mk0_0, mk0_1, mk0_2⟩ := id bk0_0
  have mk0_0 : w0[k0]? = some (ad k0, .inr (4, [.ref (ad (k0 + 1)), .ref (ad (k0 + 2)), .int x0_2, .int x0_3, .int x0_4])) := mk0_0
  have mk0_1 : w0[k0 + 1]? = some (ad (k0 + 1), .inl (cI, 30, .inl x0_0)) := mk0_1
  have mk0_2 : w0[k0 + 2]? = some (ad (k0 + 2), .inl (cI, 30, .inl x0_1)) := mk0_2
  refine lv_aload_n hx hb d_Rk_isFull_0 rfl (lv_at hl 0 rfl) ?_
  refine va_get (D := D) (ci := 4) (v := .int x0_2) (C := R_Rk) (T := F_Rk) (N := 5) hx hb hts i_Rk hown hK hP (k0) mk0_0 rfl 2 (by decide) (hts _ iw_86) (fun _ h9 => h9) rfl d_Rk_isFull_1 ?_
  refine lv_aload_n hx hb d_Rk_isFull_4 rfl (lv_at hl 0 rfl) ?_
  refine va_get (D := D) (ci := 4) (v := .int x0_3) (C := R_Rk) (T := F_Rk) (N := 5) hx hb hts i_Rk hown hK hP (k0) mk0_0 rfl 3 (by decide) (hts _ iw_87) (fun _ h9 => h9) rfl d_Rk_isFull_5 ?_
  refine lv_icmp_lt (tgt := 15) hx hb d_Rk_isFull_8 (by decide) (fun c1 => ?_) (fun c1 => ?_)
  · rw [if_pos c1] at hf
    refine lv_iconst (v := 0) hx hb d_Rk_isFull_15 (by decide) ?_
    have bk0_0 : wc_Rk cI cG cZ ad (k0) (x0_0, x0_1, x0_2, x0_3, x0_4) w0 := ⟨mk0_0, mk0_1, mk0_2⟩
    have e0 := Option.some.inj hf
    exact W.zret (v := 0) hx hb hr (by decide) (fun t ht hW => ⟨⟨0, w0, rfl, ⟨e0, fr⟩, by rw [ht]; exact hP, hD⟩, hS.F ht⟩) hS.2.2 d_Rk_isFull_16
  · rw [if_neg c1] at hf
    refine lv_iconst (v := 1) hx hb d_Rk_isFull_11 (by decide) ?_
    refine lv_goto (tgt := 16) hx hb d_Rk_isFull_12 (by decide) ?_
    have bk0_0 : wc_Rk cI cG cZ ad (k0) (x0_0, x0_1, x0_2, x0_3, x0_4) w0 := ⟨mk0_0, mk0_1, mk0_2⟩
    have e0 := Option.some.inj hf
    exact W.zret (v := 1) hx hb hr (by decide) (fun t ht hW => ⟨⟨1, w0, rfl, ⟨e0, fr⟩, by rw [ht]; exact hP, hD⟩, hS.F ht⟩) hS.2.2 d_Rk_isFull_16
set_option maxHeartbeats 4000000 in
set_option maxRecDepth 100000 in
theorem c_Rk_precedes (l : Launch) (D : va_G) (cI cG cZ : ClassId) (ad : Nat → Nat) (B : Nat) (w0 : va_W) (N : Nat) (k0 : Nat) (x0_0 : (Nat → Int32)) (x0_1 : (Nat → Int32)) (x0_2 : Int32) (x0_3 : Int32) (x0_4 : Int32) (a1 : Int32) (a2 : Int32) (a3 : Int32) (a4 : Int32) (r : Int32) (hf : f_Rk_precedes N x0_4 a1 a2 a3 a4 = some r) (bk0_0 : wc_Rk cI cG cZ ad k0 (x0_0, x0_1, x0_2, x0_3, x0_4) w0) : Met l y_Rk_precedes (.code y_Rk_precedes b_Rk_precedes 5 (some .boolean) :: hw_G) ({ frames := 0, cells := 0, slots := 0, locals := 0 } : Room) (va_Pc [.ref (ad k0), .int a1, .int a2, .int a3, .int a4] (hw_U D cI cG cZ B w0)) (va_Qi (fun (r1 : Int32) (w1 : va_W) => r1 = r ∧ w1 = w0) (hw_B D B) (fun q : Nat => B ≤ q)) 0 0 (fun q : Nat => B ≤ q) := by
  refine Met.ofW (cc := b_Rk_precedes) (maxL := 5) (ret := (some .boolean)) (by decide) rfl ?_
  intro p e s m args below meth c s₁ Bd hml hv
  obtain ⟨rfl, hP, hD, hK, hN⟩ := hv
  have C0 : hw_C p s m meth c b_Rk_precedes 5 _ R_Rk (some .boolean) := ⟨Bd.exec, Bd.bytes, Bd.returns, hml, findClass_of_methodNamed Bd.named, fun w h => atoms_spec (ws := .code y_Rk_precedes b_Rk_precedes 5 (some .boolean) :: hw_G) Bd.pre w (List.mem_cons_of_mem _ h), Bd.notSynchronized⟩
  obtain ⟨hx, hb, hr, -, hown, hts, hlocks⟩ := id C0
  have hS : va_S (fun q : Nat => B ≤ q) s.heap s.heap [] := va_S.rf
  have fr : w0 = w0 := rfl
  have hl := lv_entry ([.ref (ad k0), .int a1, .int a2, .int a3, .int a4]) (n := 5) (Nat.le_of_ble_eq_true rfl)
  rw [lg_entry_eq]
  generalize (lg_sl ([.ref (ad k0), .int a1, .int a2, .int a3, .int a4]) ++ List.replicate (5 - (lg_sl ([.ref (ad k0), .int a1, .int a2, .int a3, .int a4])).length) Slot.unset).toArray = ls at hl ⊢
  have hl : lv_has ls 5 [(0, .ref (ad k0)), (1, .int a1), (2, .int a2), (3, .int a3), (4, .int a4)] := hl
  unfold f_Rk_precedes at hf
  obtain ⟨mk0_0, mk0_1, mk0_2⟩ := id bk0_0
  have mk0_0 : w0[k0]? = some (ad k0, .inr (4, [.ref (ad (k0 + 1)), .ref (ad (k0 + 2)), .int x0_2, .int x0_3, .int x0_4])) := mk0_0
  have mk0_1 : w0[k0 + 1]? = some (ad (k0 + 1), .inl (cI, 30, .inl x0_0)) := mk0_1
  have mk0_2 : w0[k0 + 2]? = some (ad (k0 + 2), .inl (cI, 30, .inl x0_1)) := mk0_2
  refine lv_iload_n hx hb d_Rk_precedes_0 rfl (lv_at hl 2 rfl) ?_
  refine lv_iload hx hb d_Rk_precedes_1 (lv_at hl 4 rfl) ?_
  refine lv_icmp_eq (tgt := 30) hx hb d_Rk_precedes_3 (by decide) (fun c1 => ?_) (fun c1 => ?_)
  · rw [if_pos c1] at hf
    refine lv_iload_n hx hb d_Rk_precedes_30 rfl (lv_at hl 1 rfl) ?_
    refine lv_iload_n hx hb d_Rk_precedes_31 rfl (lv_at hl 3 rfl) ?_
    refine lv_icmp_ge (tgt := 39) hx hb d_Rk_precedes_32 (by decide) (fun c2 => ?_) (fun c2 => ?_)
    · rw [if_pos c2] at hf
      refine lv_iconst (v := 0) hx hb d_Rk_precedes_39 (by decide) ?_
      have bk0_0 : wc_Rk cI cG cZ ad (k0) (x0_0, x0_1, x0_2, x0_3, x0_4) w0 := ⟨mk0_0, mk0_1, mk0_2⟩
      have e0 := Option.some.inj hf
      exact W.zret (v := 0) hx hb hr (by decide) (fun t ht hW => ⟨⟨0, w0, rfl, ⟨e0, fr⟩, by rw [ht]; exact hP, hD⟩, hS.F ht⟩) hS.2.2 d_Rk_precedes_40
    · rw [if_neg c2] at hf
      refine lv_iconst (v := 1) hx hb d_Rk_precedes_35 (by decide) ?_
      refine lv_goto (tgt := 40) hx hb d_Rk_precedes_36 (by decide) ?_
      have bk0_0 : wc_Rk cI cG cZ ad (k0) (x0_0, x0_1, x0_2, x0_3, x0_4) w0 := ⟨mk0_0, mk0_1, mk0_2⟩
      have e0 := Option.some.inj hf
      exact W.zret (v := 1) hx hb hr (by decide) (fun t ht hW => ⟨⟨1, w0, rfl, ⟨e0, fr⟩, by rw [ht]; exact hP, hD⟩, hS.F ht⟩) hS.2.2 d_Rk_precedes_40
  · rw [if_neg c1] at hf
    refine lv_aload_n hx hb d_Rk_precedes_6 rfl (lv_at hl 0 rfl) ?_
    refine va_get (D := D) (ci := 4) (v := .int x0_4) (C := R_Rk) (T := F_Rk) (N := 5) hx hb hts i_Rk hown hK hP (k0) mk0_0 rfl 4 (by decide) (hts _ iw_88) (fun _ h9 => h9) rfl d_Rk_precedes_7 ?_
    refine lv_iload_n hx hb d_Rk_precedes_10 rfl (lv_at hl 2 rfl) ?_
    refine lv_iload hx hb d_Rk_precedes_11 (lv_at hl 4 rfl) ?_
    refine lv_icmp_le (tgt := 20) hx hb d_Rk_precedes_13 (by decide) (fun c3 => ?_) (fun c3 => ?_)
    · rw [if_pos c3] at hf
      refine lv_iconst (v := 0) hx hb d_Rk_precedes_20 (by decide) ?_
      refine lv_icmp_ne (tgt := 28) hx hb d_Rk_precedes_21 (by decide) (fun c4 => ?_) (fun c4 => ?_)
      · rw [if_neg c4] at hf
        refine lv_iconst (v := 0) hx hb d_Rk_precedes_28 (by decide) ?_
        have bk0_0 : wc_Rk cI cG cZ ad (k0) (x0_0, x0_1, x0_2, x0_3, x0_4) w0 := ⟨mk0_0, mk0_1, mk0_2⟩
        have e0 := Option.some.inj hf
        exact W.zret (v := 0) hx hb hr (by decide) (fun t ht hW => ⟨⟨0, w0, rfl, ⟨e0, fr⟩, by rw [ht]; exact hP, hD⟩, hS.F ht⟩) hS.2.2 d_Rk_precedes_29
      · rw [if_pos c4] at hf
        refine lv_iconst (v := 1) hx hb d_Rk_precedes_24 (by decide) ?_
        refine lv_goto (tgt := 29) hx hb d_Rk_precedes_25 (by decide) ?_
        have bk0_0 : wc_Rk cI cG cZ ad (k0) (x0_0, x0_1, x0_2, x0_3, x0_4) w0 := ⟨mk0_0, mk0_1, mk0_2⟩
        have e0 := Option.some.inj hf
        exact W.zret (v := 1) hx hb hr (by decide) (fun t ht hW => ⟨⟨1, w0, rfl, ⟨e0, fr⟩, by rw [ht]; exact hP, hD⟩, hS.F ht⟩) hS.2.2 d_Rk_precedes_29
    · rw [if_neg c3] at hf
      refine lv_iconst (v := 1) hx hb d_Rk_precedes_16 (by decide) ?_
      refine lv_goto (tgt := 21) hx hb d_Rk_precedes_17 (by decide) ?_
      refine lv_icmp_ne (tgt := 28) hx hb d_Rk_precedes_21 (by decide) (fun c5 => ?_) (fun c5 => ?_)
      · rw [if_neg c5] at hf
        refine lv_iconst (v := 0) hx hb d_Rk_precedes_28 (by decide) ?_
        have bk0_0 : wc_Rk cI cG cZ ad (k0) (x0_0, x0_1, x0_2, x0_3, x0_4) w0 := ⟨mk0_0, mk0_1, mk0_2⟩
        have e0 := Option.some.inj hf
        exact W.zret (v := 0) hx hb hr (by decide) (fun t ht hW => ⟨⟨0, w0, rfl, ⟨e0, fr⟩, by rw [ht]; exact hP, hD⟩, hS.F ht⟩) hS.2.2 d_Rk_precedes_29
      · rw [if_pos c5] at hf
        refine lv_iconst (v := 1) hx hb d_Rk_precedes_24 (by decide) ?_
        refine lv_goto (tgt := 29) hx hb d_Rk_precedes_25 (by decide) ?_
        have bk0_0 : wc_Rk cI cG cZ ad (k0) (x0_0, x0_1, x0_2, x0_3, x0_4) w0 := ⟨mk0_0, mk0_1, mk0_2⟩
        have e0 := Option.some.inj hf
        exact W.zret (v := 1) hx hb hr (by decide) (fun t ht hW => ⟨⟨1, w0, rfl, ⟨e0, fr⟩, by rw [ht]; exact hP, hD⟩, hS.F ht⟩) hS.2.2 d_Rk_precedes_29
set_option maxHeartbeats 4000000 in
set_option maxRecDepth 100000 in
theorem wl_Rk_add_62 {p : Program} {l : Launch} {e : Env} {s : State} {m : MethodId} {args : Array Value} {below : List Frame} {meth : Method} {c : Code} {D : va_G} {cI cG cZ : ClassId} {ad : Nat → Nat} {B : Nat} {w0 : va_W} {N : Nat} {k0 : Nat} (C0 : hw_C p s m meth c b_Rk_add 4 args R_Rk (some .boolean)) (hK : va_K D classes [(cI, .int), (cG, .array .int), (cZ, .boolean)] s) (hN : hw_N s) (x0_3 : Int32) (x0_4 : Int32) (a1 : Int32) (a2 : Int32) (x0_0 : (Nat → Int32)) (x0_1 : (Nat → Int32)) (x0_2 : Int32) (r : Int32) (y0_0 : (Nat → Int32)) (y0_1 : (Nat → Int32)) (y0_2 : Int32) : ∀ (n : Nat) (vak0_1 : (Nat → Int32)) (vak0_2 : (Nat → Int32)) (vfk0_0_2 : Int32) (v3 : Int32) (ws : va_W) (H : Heap) (locs : List Loc) (ls : Array Slot), va_P D classes ws H → va_D (fun q : Nat => B ≤ q) ws → va_S (fun q : Nat => B ≤ q) s.heap H locs → lv_has ls 4 [(3, .int v3), (0, .ref (ad k0)), (1, .int a1), (2, .int a2)] → ws[k0]? = some (ad k0, .inr (4, [.ref (ad (k0 + 1)), .ref (ad (k0 + 2)), .int vfk0_0_2, .int x0_3, .int x0_4])) → ws[k0 + 1]? = some (ad (k0 + 1), .inl (cI, 30, .inl vak0_1)) → ws[k0 + 2]? = some (ad (k0 + 2), .inl (cI, 30, .inl vak0_2)) → (∀ j : Nat, (j < k0 ∨ k0 + 3 ≤ j) → ws[j]? = w0[j]?) → f_Rk_add_62 N x0_4 a1 a2 n vak0_1 vak0_2 vfk0_0_2 v3 = some (r, y0_0, y0_1, y0_2) → W p l e ({ frames := 1, cells := 0, slots := 0, locals := 24 } : Room) s m args below meth c H locs 0 0 (MQ below (va_Qi (fun (r1 : Int32) (w1 : va_W) => r1 = r ∧ wc_Rk cI cG cZ ad k0 (y0_0, y0_1, y0_2, x0_3, x0_4) w1 ∧ (∀ j : Nat, (j < k0 ∨ k0 + 3 ≤ j) → w1[j]? = w0[j]?)) (hw_B D B) (fun q : Nat => B ≤ q)) args s 0 0 (fun q : Nat => B ≤ q)) (F0 m 62 ls []) := by
  obtain ⟨hx, hb, hr, hml, hown, hts, hlocks⟩ := id C0
  intro n
  induction n with
  | zero =>
    intro vak0_1 vak0_2 vfk0_0_2 v3 ws H locs ls hP hD hS hl mk0_0 mk0_1 mk0_2 fr hf
    exact nomatch (show none = some _ from hf)
  | succ n ih =>
    intro vak0_1 vak0_2 vfk0_0_2 v3 ws H locs ls hP hD hS hl mk0_0 mk0_1 mk0_2 fr hf
    rw [f_Rk_add_62] at hf
    refine lv_iload_n hx hb d_Rk_add_62 rfl (lv_at hl 0 rfl) ?_
    refine lv_if_le (tgt := 125) hx hb d_Rk_add_63 (by decide) (fun c9 => ?_) (fun c9 => ?_)
    · rw [if_pos c9] at hf
      refine lv_aload_n hx hb d_Rk_add_125 rfl (lv_at hl 1 rfl) ?_
      refine va_get (D := D) (ci := 4) (v := .ref (ad (k0 + 1))) (C := R_Rk) (T := F_Rk) (N := 5) hx hb hts i_Rk hown hK hP (k0) mk0_0 rfl 0 (by decide) (hts _ iw_84) (fun _ h9 => h9) rfl d_Rk_add_126 ?_
      refine lv_iload_n hx hb d_Rk_add_129 rfl (lv_at hl 0 rfl) ?_
      refine lv_iload_n hx hb d_Rk_add_130 rfl (lv_at hl 2 rfl) ?_
      obtain ⟨z10, hf⟩ := g_atE hf
      refine va_iast hx hb hK hP hD hS (k0 + 1) 0 mk0_1 rfl z10 d_Rk_add_131 (fun H locs hP hD hS => ?_)
      obtain ⟨w11, hP, hD, hne, heq⟩ := hs_up hP hD mk0_1
      have mk0_1 : w11[k0 + 1]? = some (ad (k0 + 1), .inl (cI, 30, .inl (upd vak0_1 v3.toNatClampNeg a1))) := heq
      have mk0_0 : w11[k0]? = some (ad k0, .inr (4, [.ref (ad (k0 + 1)), .ref (ad (k0 + 2)), .int vfk0_0_2, .int x0_3, .int x0_4])) := (hne _ (by omega)).trans mk0_0
      have mk0_2 : w11[k0 + 2]? = some (ad (k0 + 2), .inl (cI, 30, .inl vak0_2)) := (hne _ (by omega)).trans mk0_2
      have fr : ∀ j : Nat, (j < k0 ∨ k0 + 3 ≤ j) → w11[j]? = w0[j]? := fun j o0 => (hne j (by omega)).trans (fr j o0)
      refine lv_aload_n hx hb d_Rk_add_132 rfl (lv_at hl 1 rfl) ?_
      refine va_get (D := D) (ci := 4) (v := .ref (ad (k0 + 2))) (C := R_Rk) (T := F_Rk) (N := 5) hx hb hts i_Rk hown hK hP (k0) mk0_0 rfl 1 (by decide) (hts _ iw_85) (fun _ h9 => h9) rfl d_Rk_add_133 ?_
      refine lv_iload_n hx hb d_Rk_add_136 rfl (lv_at hl 0 rfl) ?_
      refine lv_iload_n hx hb d_Rk_add_137 rfl (lv_at hl 3 rfl) ?_
      obtain ⟨z12, hf⟩ := g_atE hf
      refine va_iast hx hb hK hP hD hS (k0 + 2) 0 mk0_2 rfl z12 d_Rk_add_138 (fun H locs hP hD hS => ?_)
      obtain ⟨w13, hP, hD, hne, heq⟩ := hs_up hP hD mk0_2
      have mk0_2 : w13[k0 + 2]? = some (ad (k0 + 2), .inl (cI, 30, .inl (upd vak0_2 v3.toNatClampNeg a2))) := heq
      have mk0_0 : w13[k0]? = some (ad k0, .inr (4, [.ref (ad (k0 + 1)), .ref (ad (k0 + 2)), .int vfk0_0_2, .int x0_3, .int x0_4])) := (hne _ (by omega)).trans mk0_0
      have mk0_1 : w13[k0 + 1]? = some (ad (k0 + 1), .inl (cI, 30, .inl (upd vak0_1 v3.toNatClampNeg a1))) := (hne _ (by omega)).trans mk0_1
      have fr : ∀ j : Nat, (j < k0 ∨ k0 + 3 ≤ j) → w13[j]? = w0[j]? := fun j o0 => (hne j (by omega)).trans (fr j o0)
      refine lv_aload_n hx hb d_Rk_add_139 rfl (lv_at hl 1 rfl) ?_
      refine lv_dup hx hb d_Rk_add_140 rfl ?_
      refine va_get (D := D) (ci := 4) (v := .int vfk0_0_2) (C := R_Rk) (T := F_Rk) (N := 5) hx hb hts i_Rk hown hK hP (k0) mk0_0 rfl 2 (by decide) (hts _ iw_86) (fun _ h9 => h9) rfl d_Rk_add_141 ?_
      refine lv_iconst (v := 1) hx hb d_Rk_add_144 (by decide) ?_
      refine lv_iadd hx hb d_Rk_add_145 ?_
      refine va_put (D := D) (ci := 4) (v := .int (vfk0_0_2 + 1)) (ty := .int) (C := R_Rk) (T := F_Rk) (N := 5) hx hb hts i_Rk t_Rk t_Rk_ok n_Rk hown hK hP hD hS (k0) mk0_0 rfl 2 (by decide) (hts _ iw_86) (fun _ h9 => h9) rfl (by decide +kernel) rfl rfl (Nat.le_of_ble_eq_true rfl) d_Rk_add_146 (fun H locs hP hD hS => ?_)
      obtain ⟨w14, hP, hD, hne, heq⟩ := hs_up hP hD mk0_0
      have mk0_0 : w14[k0]? = some (ad k0, .inr (4, [.ref (ad (k0 + 1)), .ref (ad (k0 + 2)), .int (vfk0_0_2 + 1), .int x0_3, .int x0_4])) := heq
      have mk0_1 : w14[k0 + 1]? = some (ad (k0 + 1), .inl (cI, 30, .inl (upd vak0_1 v3.toNatClampNeg a1))) := (hne _ (by omega)).trans mk0_1
      have mk0_2 : w14[k0 + 2]? = some (ad (k0 + 2), .inl (cI, 30, .inl (upd vak0_2 v3.toNatClampNeg a2))) := (hne _ (by omega)).trans mk0_2
      have fr : ∀ j : Nat, (j < k0 ∨ k0 + 3 ≤ j) → w14[j]? = w0[j]? := fun j o0 => (hne j (by omega)).trans (fr j o0)
      refine lv_iconst (v := 1) hx hb d_Rk_add_149 (by decide) ?_
      have bk0_0 : wc_Rk cI cG cZ ad (k0) (upd vak0_1 v3.toNatClampNeg a1, upd vak0_2 v3.toNatClampNeg a2, vfk0_0_2 + 1, x0_3, x0_4) w14 := ⟨mk0_0, mk0_1, mk0_2⟩
      have he := Option.some.inj hf
      obtain ⟨e0, he⟩ := Prod.mk.inj he
      obtain ⟨e1, he⟩ := Prod.mk.inj he
      obtain ⟨e2, e3⟩ := Prod.mk.inj he
      have f0 : wc_Rk cI cG cZ ad (k0) (y0_0, y0_1, y0_2, x0_3, x0_4) w14 := by rw [← e1, ← e2, ← e3]; exact bk0_0
      exact W.zret (v := 1) hx hb hr (by decide) (fun t ht hW => ⟨⟨1, w14, rfl, ⟨e0, ⟨f0, fr⟩⟩, by rw [ht]; exact hP, hD⟩, hS.F ht⟩) hS.2.2 d_Rk_add_150
    · rw [if_neg c9] at hf
      refine lv_aload_n hx hb d_Rk_add_66 rfl (lv_at hl 1 rfl) ?_
      refine lv_iload_n hx hb d_Rk_add_67 rfl (lv_at hl 2 rfl) ?_
      refine lv_iload_n hx hb d_Rk_add_68 rfl (lv_at hl 3 rfl) ?_
      refine lv_aload_n hx hb d_Rk_add_69 rfl (lv_at hl 1 rfl) ?_
      refine va_get (D := D) (ci := 4) (v := .ref (ad (k0 + 1))) (C := R_Rk) (T := F_Rk) (N := 5) hx hb hts i_Rk hown hK hP (k0) mk0_0 rfl 0 (by decide) (hts _ iw_84) (fun _ h9 => h9) rfl d_Rk_add_70 ?_
      refine lv_iload_n hx hb d_Rk_add_73 rfl (lv_at hl 0 rfl) ?_
      refine lv_iconst (v := 1) hx hb d_Rk_add_74 (by decide) ?_
      refine lv_isub hx hb d_Rk_add_75 ?_
      obtain ⟨z15, hf⟩ := g_atE hf
      refine va_iald hx hb hK hP (k0 + 1) 0 mk0_1 rfl z15 d_Rk_add_76 ?_
      refine lv_aload_n hx hb d_Rk_add_77 rfl (lv_at hl 1 rfl) ?_
      refine va_get (D := D) (ci := 4) (v := .ref (ad (k0 + 2))) (C := R_Rk) (T := F_Rk) (N := 5) hx hb hts i_Rk hown hK hP (k0) mk0_0 rfl 1 (by decide) (hts _ iw_85) (fun _ h9 => h9) rfl d_Rk_add_78 ?_
      refine lv_iload_n hx hb d_Rk_add_81 rfl (lv_at hl 0 rfl) ?_
      refine lv_iconst (v := 1) hx hb d_Rk_add_82 (by decide) ?_
      refine lv_isub hx hb d_Rk_add_83 ?_
      obtain ⟨z16, hf⟩ := g_atE hf
      refine va_iald hx hb hK hP (k0 + 2) 0 mk0_2 rfl z16 d_Rk_add_84 ?_
      have bk0_0 : wc_Rk cI cG cZ ad (k0) (vak0_1, vak0_2, vfk0_0_2, x0_3, x0_4) ws := ⟨mk0_0, mk0_1, mk0_2⟩
      obtain ⟨p17, hp17, hf⟩ := g_bd hf
      refine hw_ci0 (va_runV (As := [.int a1, .int a2, .int (vak0_1 (v3 - 1).toNatClampNeg), .int (vak0_2 (v3 - 1).toNatClampNeg)]) (rest := []) ⟨hx, hb, hml, hown, hts⟩ (c_Rk_precedes l D cI cG cZ ad B ws N k0 vak0_1 vak0_2 vfk0_0_2 x0_3 x0_4 a1 a2 (vak0_1 (v3 - 1).toNatClampNeg) (vak0_2 (v3 - 1).toNatClampNeg) p17 hp17 bk0_0) (cwV 4 hts (hw_gV iw_245 gy_Rk_precedes) rfl rfl rfl (by decide +kernel) ⟨Nat.le_of_ble_eq_true rfl, Nat.le_of_ble_eq_true rfl⟩) ⟨hw_blind, va_recv hK hP (ci := 4) (q0 := k0) rfl bk0_0.1, hw_go hP hD hK hN⟩ rfl rfl hl.1 rfl (lv_room (Nat.le_of_ble_eq_true rfl)) d_Rk_add_85 ⟨Nat.zero_le _, Nat.zero_le _⟩) hS (fun H locs hP hD hS => ?_)
      refine lv_if_eq (tgt := 125) hx hb d_Rk_add_88 (by decide) (fun c18 => ?_) (fun c18 => ?_)
      · rw [if_pos c18] at hf
        refine lv_aload_n hx hb d_Rk_add_125 rfl (lv_at hl 1 rfl) ?_
        obtain ⟨mk0_0, mk0_1, mk0_2⟩ := id bk0_0
        have mk0_0 : ws[k0]? = some (ad k0, .inr (4, [.ref (ad (k0 + 1)), .ref (ad (k0 + 2)), .int vfk0_0_2, .int x0_3, .int x0_4])) := mk0_0
        have mk0_1 : ws[k0 + 1]? = some (ad (k0 + 1), .inl (cI, 30, .inl vak0_1)) := mk0_1
        have mk0_2 : ws[k0 + 2]? = some (ad (k0 + 2), .inl (cI, 30, .inl vak0_2)) := mk0_2
        refine va_get (D := D) (ci := 4) (v := .ref (ad (k0 + 1))) (C := R_Rk) (T := F_Rk) (N := 5) hx hb hts i_Rk hown hK hP (k0) mk0_0 rfl 0 (by decide) (hts _ iw_84) (fun _ h9 => h9) rfl d_Rk_add_126 ?_
        refine lv_iload_n hx hb d_Rk_add_129 rfl (lv_at hl 0 rfl) ?_
        refine lv_iload_n hx hb d_Rk_add_130 rfl (lv_at hl 2 rfl) ?_
        obtain ⟨z19, hf⟩ := g_atE hf
        refine va_iast hx hb hK hP hD hS (k0 + 1) 0 mk0_1 rfl z19 d_Rk_add_131 (fun H locs hP hD hS => ?_)
        obtain ⟨w20, hP, hD, hne, heq⟩ := hs_up hP hD mk0_1
        have mk0_1 : w20[k0 + 1]? = some (ad (k0 + 1), .inl (cI, 30, .inl (upd vak0_1 v3.toNatClampNeg a1))) := heq
        have mk0_0 : w20[k0]? = some (ad k0, .inr (4, [.ref (ad (k0 + 1)), .ref (ad (k0 + 2)), .int vfk0_0_2, .int x0_3, .int x0_4])) := (hne _ (by omega)).trans mk0_0
        have mk0_2 : w20[k0 + 2]? = some (ad (k0 + 2), .inl (cI, 30, .inl vak0_2)) := (hne _ (by omega)).trans mk0_2
        have fr : ∀ j : Nat, (j < k0 ∨ k0 + 3 ≤ j) → w20[j]? = w0[j]? := fun j o0 => (hne j (by omega)).trans (fr j o0)
        refine lv_aload_n hx hb d_Rk_add_132 rfl (lv_at hl 1 rfl) ?_
        refine va_get (D := D) (ci := 4) (v := .ref (ad (k0 + 2))) (C := R_Rk) (T := F_Rk) (N := 5) hx hb hts i_Rk hown hK hP (k0) mk0_0 rfl 1 (by decide) (hts _ iw_85) (fun _ h9 => h9) rfl d_Rk_add_133 ?_
        refine lv_iload_n hx hb d_Rk_add_136 rfl (lv_at hl 0 rfl) ?_
        refine lv_iload_n hx hb d_Rk_add_137 rfl (lv_at hl 3 rfl) ?_
        obtain ⟨z21, hf⟩ := g_atE hf
        refine va_iast hx hb hK hP hD hS (k0 + 2) 0 mk0_2 rfl z21 d_Rk_add_138 (fun H locs hP hD hS => ?_)
        obtain ⟨w22, hP, hD, hne, heq⟩ := hs_up hP hD mk0_2
        have mk0_2 : w22[k0 + 2]? = some (ad (k0 + 2), .inl (cI, 30, .inl (upd vak0_2 v3.toNatClampNeg a2))) := heq
        have mk0_0 : w22[k0]? = some (ad k0, .inr (4, [.ref (ad (k0 + 1)), .ref (ad (k0 + 2)), .int vfk0_0_2, .int x0_3, .int x0_4])) := (hne _ (by omega)).trans mk0_0
        have mk0_1 : w22[k0 + 1]? = some (ad (k0 + 1), .inl (cI, 30, .inl (upd vak0_1 v3.toNatClampNeg a1))) := (hne _ (by omega)).trans mk0_1
        have fr : ∀ j : Nat, (j < k0 ∨ k0 + 3 ≤ j) → w22[j]? = w0[j]? := fun j o0 => (hne j (by omega)).trans (fr j o0)
        refine lv_aload_n hx hb d_Rk_add_139 rfl (lv_at hl 1 rfl) ?_
        refine lv_dup hx hb d_Rk_add_140 rfl ?_
        refine va_get (D := D) (ci := 4) (v := .int vfk0_0_2) (C := R_Rk) (T := F_Rk) (N := 5) hx hb hts i_Rk hown hK hP (k0) mk0_0 rfl 2 (by decide) (hts _ iw_86) (fun _ h9 => h9) rfl d_Rk_add_141 ?_
        refine lv_iconst (v := 1) hx hb d_Rk_add_144 (by decide) ?_
        refine lv_iadd hx hb d_Rk_add_145 ?_
        refine va_put (D := D) (ci := 4) (v := .int (vfk0_0_2 + 1)) (ty := .int) (C := R_Rk) (T := F_Rk) (N := 5) hx hb hts i_Rk t_Rk t_Rk_ok n_Rk hown hK hP hD hS (k0) mk0_0 rfl 2 (by decide) (hts _ iw_86) (fun _ h9 => h9) rfl (by decide +kernel) rfl rfl (Nat.le_of_ble_eq_true rfl) d_Rk_add_146 (fun H locs hP hD hS => ?_)
        obtain ⟨w23, hP, hD, hne, heq⟩ := hs_up hP hD mk0_0
        have mk0_0 : w23[k0]? = some (ad k0, .inr (4, [.ref (ad (k0 + 1)), .ref (ad (k0 + 2)), .int (vfk0_0_2 + 1), .int x0_3, .int x0_4])) := heq
        have mk0_1 : w23[k0 + 1]? = some (ad (k0 + 1), .inl (cI, 30, .inl (upd vak0_1 v3.toNatClampNeg a1))) := (hne _ (by omega)).trans mk0_1
        have mk0_2 : w23[k0 + 2]? = some (ad (k0 + 2), .inl (cI, 30, .inl (upd vak0_2 v3.toNatClampNeg a2))) := (hne _ (by omega)).trans mk0_2
        have fr : ∀ j : Nat, (j < k0 ∨ k0 + 3 ≤ j) → w23[j]? = w0[j]? := fun j o0 => (hne j (by omega)).trans (fr j o0)
        refine lv_iconst (v := 1) hx hb d_Rk_add_149 (by decide) ?_
        have bk0_0 : wc_Rk cI cG cZ ad (k0) (upd vak0_1 v3.toNatClampNeg a1, upd vak0_2 v3.toNatClampNeg a2, vfk0_0_2 + 1, x0_3, x0_4) w23 := ⟨mk0_0, mk0_1, mk0_2⟩
        have he := Option.some.inj hf
        obtain ⟨e0, he⟩ := Prod.mk.inj he
        obtain ⟨e1, he⟩ := Prod.mk.inj he
        obtain ⟨e2, e3⟩ := Prod.mk.inj he
        have f0 : wc_Rk cI cG cZ ad (k0) (y0_0, y0_1, y0_2, x0_3, x0_4) w23 := by rw [← e1, ← e2, ← e3]; exact bk0_0
        exact W.zret (v := 1) hx hb hr (by decide) (fun t ht hW => ⟨⟨1, w23, rfl, ⟨e0, ⟨f0, fr⟩⟩, by rw [ht]; exact hP, hD⟩, hS.F ht⟩) hS.2.2 d_Rk_add_150
      · rw [if_neg c18] at hf
        refine lv_aload_n hx hb d_Rk_add_91 rfl (lv_at hl 1 rfl) ?_
        obtain ⟨mk0_0, mk0_1, mk0_2⟩ := id bk0_0
        have mk0_0 : ws[k0]? = some (ad k0, .inr (4, [.ref (ad (k0 + 1)), .ref (ad (k0 + 2)), .int vfk0_0_2, .int x0_3, .int x0_4])) := mk0_0
        have mk0_1 : ws[k0 + 1]? = some (ad (k0 + 1), .inl (cI, 30, .inl vak0_1)) := mk0_1
        have mk0_2 : ws[k0 + 2]? = some (ad (k0 + 2), .inl (cI, 30, .inl vak0_2)) := mk0_2
        refine va_get (D := D) (ci := 4) (v := .ref (ad (k0 + 1))) (C := R_Rk) (T := F_Rk) (N := 5) hx hb hts i_Rk hown hK hP (k0) mk0_0 rfl 0 (by decide) (hts _ iw_84) (fun _ h9 => h9) rfl d_Rk_add_92 ?_
        refine lv_iload_n hx hb d_Rk_add_95 rfl (lv_at hl 0 rfl) ?_
        refine lv_aload_n hx hb d_Rk_add_96 rfl (lv_at hl 1 rfl) ?_
        refine va_get (D := D) (ci := 4) (v := .ref (ad (k0 + 1))) (C := R_Rk) (T := F_Rk) (N := 5) hx hb hts i_Rk hown hK hP (k0) mk0_0 rfl 0 (by decide) (hts _ iw_84) (fun _ h9 => h9) rfl d_Rk_add_97 ?_
        refine lv_iload_n hx hb d_Rk_add_100 rfl (lv_at hl 0 rfl) ?_
        refine lv_iconst (v := 1) hx hb d_Rk_add_101 (by decide) ?_
        refine lv_isub hx hb d_Rk_add_102 ?_
        obtain ⟨z24, hf⟩ := g_atE hf
        refine va_iald hx hb hK hP (k0 + 1) 0 mk0_1 rfl z24 d_Rk_add_103 ?_
        obtain ⟨z25, hf⟩ := g_atE hf
        refine va_iast hx hb hK hP hD hS (k0 + 1) 0 mk0_1 rfl z25 d_Rk_add_104 (fun H locs hP hD hS => ?_)
        obtain ⟨w26, hP, hD, hne, heq⟩ := hs_up hP hD mk0_1
        have mk0_1 : w26[k0 + 1]? = some (ad (k0 + 1), .inl (cI, 30, .inl (upd vak0_1 v3.toNatClampNeg (vak0_1 (v3 - 1).toNatClampNeg)))) := heq
        have mk0_0 : w26[k0]? = some (ad k0, .inr (4, [.ref (ad (k0 + 1)), .ref (ad (k0 + 2)), .int vfk0_0_2, .int x0_3, .int x0_4])) := (hne _ (by omega)).trans mk0_0
        have mk0_2 : w26[k0 + 2]? = some (ad (k0 + 2), .inl (cI, 30, .inl vak0_2)) := (hne _ (by omega)).trans mk0_2
        have fr : ∀ j : Nat, (j < k0 ∨ k0 + 3 ≤ j) → w26[j]? = w0[j]? := fun j o0 => (hne j (by omega)).trans (fr j o0)
        refine lv_aload_n hx hb d_Rk_add_105 rfl (lv_at hl 1 rfl) ?_
        refine va_get (D := D) (ci := 4) (v := .ref (ad (k0 + 2))) (C := R_Rk) (T := F_Rk) (N := 5) hx hb hts i_Rk hown hK hP (k0) mk0_0 rfl 1 (by decide) (hts _ iw_85) (fun _ h9 => h9) rfl d_Rk_add_106 ?_
        refine lv_iload_n hx hb d_Rk_add_109 rfl (lv_at hl 0 rfl) ?_
        refine lv_aload_n hx hb d_Rk_add_110 rfl (lv_at hl 1 rfl) ?_
        refine va_get (D := D) (ci := 4) (v := .ref (ad (k0 + 2))) (C := R_Rk) (T := F_Rk) (N := 5) hx hb hts i_Rk hown hK hP (k0) mk0_0 rfl 1 (by decide) (hts _ iw_85) (fun _ h9 => h9) rfl d_Rk_add_111 ?_
        refine lv_iload_n hx hb d_Rk_add_114 rfl (lv_at hl 0 rfl) ?_
        refine lv_iconst (v := 1) hx hb d_Rk_add_115 (by decide) ?_
        refine lv_isub hx hb d_Rk_add_116 ?_
        obtain ⟨z27, hf⟩ := g_atE hf
        refine va_iald hx hb hK hP (k0 + 2) 0 mk0_2 rfl z27 d_Rk_add_117 ?_
        obtain ⟨z28, hf⟩ := g_atE hf
        refine va_iast hx hb hK hP hD hS (k0 + 2) 0 mk0_2 rfl z28 d_Rk_add_118 (fun H locs hP hD hS => ?_)
        obtain ⟨w29, hP, hD, hne, heq⟩ := hs_up hP hD mk0_2
        have mk0_2 : w29[k0 + 2]? = some (ad (k0 + 2), .inl (cI, 30, .inl (upd vak0_2 v3.toNatClampNeg (vak0_2 (v3 - 1).toNatClampNeg)))) := heq
        have mk0_0 : w29[k0]? = some (ad k0, .inr (4, [.ref (ad (k0 + 1)), .ref (ad (k0 + 2)), .int vfk0_0_2, .int x0_3, .int x0_4])) := (hne _ (by omega)).trans mk0_0
        have mk0_1 : w29[k0 + 1]? = some (ad (k0 + 1), .inl (cI, 30, .inl (upd vak0_1 v3.toNatClampNeg (vak0_1 (v3 - 1).toNatClampNeg)))) := (hne _ (by omega)).trans mk0_1
        have fr : ∀ j : Nat, (j < k0 ∨ k0 + 3 ≤ j) → w29[j]? = w0[j]? := fun j o0 => (hne j (by omega)).trans (fr j o0)
        refine lv_iinc (v := v3 + (-1)) (lv' := [(3, .int (v3 + (-1))), (0, .ref (ad k0)), (1, .int a1), (2, .int a2)]) hx hb d_Rk_add_119 hl (k := 0) rfl rfl (by decide) rfl (fun ls hl => ?_)
        refine lv_goto (tgt := 62) hx hb d_Rk_add_122 (by decide) ?_
        exact ih (upd vak0_1 v3.toNatClampNeg (vak0_1 (v3 - 1).toNatClampNeg)) (upd vak0_2 v3.toNatClampNeg (vak0_2 (v3 - 1).toNatClampNeg)) vfk0_0_2 (v3 + (-1)) _ _ _ _ hP hD hS (lv_sub hl [0, 1, 2, 3] rfl) mk0_0 mk0_1 mk0_2 fr hf
set_option maxHeartbeats 4000000 in
set_option maxRecDepth 100000 in
theorem c_Rk_add (l : Launch) (D : va_G) (cI cG cZ : ClassId) (ad : Nat → Nat) (B : Nat) (w0 : va_W) (N : Nat) (k0 : Nat) (x0_0 : (Nat → Int32)) (x0_1 : (Nat → Int32)) (x0_2 : Int32) (x0_3 : Int32) (x0_4 : Int32) (a1 : Int32) (a2 : Int32) (r : Int32) (y0_0 : (Nat → Int32)) (y0_1 : (Nat → Int32)) (y0_2 : Int32) (hf : f_Rk_add N x0_0 x0_1 x0_2 x0_3 x0_4 a1 a2 = some (r, y0_0, y0_1, y0_2)) (bk0_0 : wc_Rk cI cG cZ ad k0 (x0_0, x0_1, x0_2, x0_3, x0_4) w0) : Met l y_Rk_add (.code y_Rk_add b_Rk_add 4 (some .boolean) :: hw_G) ({ frames := 1, cells := 0, slots := 0, locals := 24 } : Room) (va_Pc [.ref (ad k0), .int a1, .int a2] (hw_U D cI cG cZ B w0)) (va_Qi (fun (r1 : Int32) (w1 : va_W) => r1 = r ∧ wc_Rk cI cG cZ ad k0 (y0_0, y0_1, y0_2, x0_3, x0_4) w1 ∧ (∀ j : Nat, (j < k0 ∨ k0 + 3 ≤ j) → w1[j]? = w0[j]?)) (hw_B D B) (fun q : Nat => B ≤ q)) 0 0 (fun q : Nat => B ≤ q) := by
  refine Met.ofW (cc := b_Rk_add) (maxL := 4) (ret := (some .boolean)) (by decide) rfl ?_
  intro p e s m args below meth c s₁ Bd hml hv
  obtain ⟨rfl, hP, hD, hK, hN⟩ := hv
  have C0 : hw_C p s m meth c b_Rk_add 4 _ R_Rk (some .boolean) := ⟨Bd.exec, Bd.bytes, Bd.returns, hml, findClass_of_methodNamed Bd.named, fun w h => atoms_spec (ws := .code y_Rk_add b_Rk_add 4 (some .boolean) :: hw_G) Bd.pre w (List.mem_cons_of_mem _ h), Bd.notSynchronized⟩
  obtain ⟨hx, hb, hr, -, hown, hts, hlocks⟩ := id C0
  have hS : va_S (fun q : Nat => B ≤ q) s.heap s.heap [] := va_S.rf
  have fr : ∀ j : Nat, (j < k0 ∨ k0 + 3 ≤ j) → w0[j]? = w0[j]? := fun j _ => rfl
  have hl := lv_entry ([.ref (ad k0), .int a1, .int a2]) (n := 4) (Nat.le_of_ble_eq_true rfl)
  rw [lg_entry_eq]
  generalize (lg_sl ([.ref (ad k0), .int a1, .int a2]) ++ List.replicate (4 - (lg_sl ([.ref (ad k0), .int a1, .int a2])).length) Slot.unset).toArray = ls at hl ⊢
  have hl : lv_has ls 4 [(0, .ref (ad k0)), (1, .int a1), (2, .int a2)] := hl
  unfold f_Rk_add at hf
  obtain ⟨mk0_0, mk0_1, mk0_2⟩ := id bk0_0
  have mk0_0 : w0[k0]? = some (ad k0, .inr (4, [.ref (ad (k0 + 1)), .ref (ad (k0 + 2)), .int x0_2, .int x0_3, .int x0_4])) := mk0_0
  have mk0_1 : w0[k0 + 1]? = some (ad (k0 + 1), .inl (cI, 30, .inl x0_0)) := mk0_1
  have mk0_2 : w0[k0 + 2]? = some (ad (k0 + 2), .inl (cI, 30, .inl x0_1)) := mk0_2
  refine lv_aload_n hx hb d_Rk_add_0 rfl (lv_at hl 0 rfl) ?_
  have bk0_0 : wc_Rk cI cG cZ ad (k0) (x0_0, x0_1, x0_2, x0_3, x0_4) w0 := ⟨mk0_0, mk0_1, mk0_2⟩
  obtain ⟨p1, hp1, hf⟩ := g_bd hf
  refine hw_ci0 (va_runV (As := []) (rest := []) ⟨hx, hb, hml, hown, hts⟩ (c_Rk_isFull l D cI cG cZ ad B w0 N k0 x0_0 x0_1 x0_2 x0_3 x0_4 p1 hp1 bk0_0) (cwV 0 hts (hw_gV iw_241 gy_Rk_isFull) rfl rfl rfl (by decide +kernel) ⟨Nat.le_of_ble_eq_true rfl, Nat.le_of_ble_eq_true rfl⟩) ⟨hw_blind, va_recv hK hP (ci := 4) (q0 := k0) rfl bk0_0.1, hw_go hP hD hK hN⟩ rfl rfl hl.1 rfl (lv_room (Nat.le_of_ble_eq_true rfl)) d_Rk_add_1 ⟨Nat.zero_le _, Nat.zero_le _⟩) hS (fun H locs hP hD hS => ?_)
  refine lv_if_eq (tgt := 57) hx hb d_Rk_add_4 (by decide) (fun c2 => ?_) (fun c2 => ?_)
  · rw [if_pos c2] at hf
    refine lv_aload_n hx hb d_Rk_add_57 rfl (lv_at hl 0 rfl) ?_
    obtain ⟨mk0_0, mk0_1, mk0_2⟩ := id bk0_0
    have mk0_0 : w0[k0]? = some (ad k0, .inr (4, [.ref (ad (k0 + 1)), .ref (ad (k0 + 2)), .int x0_2, .int x0_3, .int x0_4])) := mk0_0
    have mk0_1 : w0[k0 + 1]? = some (ad (k0 + 1), .inl (cI, 30, .inl x0_0)) := mk0_1
    have mk0_2 : w0[k0 + 2]? = some (ad (k0 + 2), .inl (cI, 30, .inl x0_1)) := mk0_2
    refine va_get (D := D) (ci := 4) (v := .int x0_2) (C := R_Rk) (T := F_Rk) (N := 5) hx hb hts i_Rk hown hK hP (k0) mk0_0 rfl 2 (by decide) (hts _ iw_86) (fun _ h9 => h9) rfl d_Rk_add_58 ?_
    refine lv_istore_n (lv' := [(3, .int x0_2), (0, .ref (ad k0)), (1, .int a1), (2, .int a2)]) hx hb d_Rk_add_61 rfl hl (by decide) rfl (fun ls hl => ?_)
    exact wl_Rk_add_62 C0 hK hN x0_3 x0_4 a1 a2 x0_0 x0_1 x0_2 r y0_0 y0_1 y0_2 N x0_0 x0_1 x0_2 x0_2 _ _ _ _ hP hD hS (lv_sub hl [0, 1, 2, 3] rfl) mk0_0 mk0_1 mk0_2 fr hf
  · rw [if_neg c2] at hf
    refine lv_aload_n hx hb d_Rk_add_7 rfl (lv_at hl 0 rfl) ?_
    obtain ⟨mk0_0, mk0_1, mk0_2⟩ := id bk0_0
    have mk0_0 : w0[k0]? = some (ad k0, .inr (4, [.ref (ad (k0 + 1)), .ref (ad (k0 + 2)), .int x0_2, .int x0_3, .int x0_4])) := mk0_0
    have mk0_1 : w0[k0 + 1]? = some (ad (k0 + 1), .inl (cI, 30, .inl x0_0)) := mk0_1
    have mk0_2 : w0[k0 + 2]? = some (ad (k0 + 2), .inl (cI, 30, .inl x0_1)) := mk0_2
    refine va_get (D := D) (ci := 4) (v := .int x0_2) (C := R_Rk) (T := F_Rk) (N := 5) hx hb hts i_Rk hown hK hP (k0) mk0_0 rfl 2 (by decide) (hts _ iw_86) (fun _ h9 => h9) rfl d_Rk_add_8 ?_
    refine lv_if_eq (tgt := 45) hx hb d_Rk_add_11 (by decide) (fun c3 => ?_) (fun c3 => ?_)
    · rw [if_pos c3] at hf
      refine lv_iconst (v := 0) hx hb d_Rk_add_45 (by decide) ?_
      have bk0_0 : wc_Rk cI cG cZ ad (k0) (x0_0, x0_1, x0_2, x0_3, x0_4) w0 := ⟨mk0_0, mk0_1, mk0_2⟩
      have he := Option.some.inj hf
      obtain ⟨e0, he⟩ := Prod.mk.inj he
      obtain ⟨e1, he⟩ := Prod.mk.inj he
      obtain ⟨e2, e3⟩ := Prod.mk.inj he
      have f0 : wc_Rk cI cG cZ ad (k0) (y0_0, y0_1, y0_2, x0_3, x0_4) w0 := by rw [← e1, ← e2, ← e3]; exact bk0_0
      exact W.zret (v := 0) hx hb hr (by decide) (fun t ht hW => ⟨⟨0, w0, rfl, ⟨e0, ⟨f0, fr⟩⟩, by rw [ht]; exact hP, hD⟩, hS.F ht⟩) hS.2.2 d_Rk_add_46
    · rw [if_neg c3] at hf
      refine lv_aload_n hx hb d_Rk_add_14 rfl (lv_at hl 0 rfl) ?_
      refine lv_iload_n hx hb d_Rk_add_15 rfl (lv_at hl 1 rfl) ?_
      refine lv_iload_n hx hb d_Rk_add_16 rfl (lv_at hl 2 rfl) ?_
      refine lv_aload_n hx hb d_Rk_add_17 rfl (lv_at hl 0 rfl) ?_
      refine va_get (D := D) (ci := 4) (v := .ref (ad (k0 + 1))) (C := R_Rk) (T := F_Rk) (N := 5) hx hb hts i_Rk hown hK hP (k0) mk0_0 rfl 0 (by decide) (hts _ iw_84) (fun _ h9 => h9) rfl d_Rk_add_18 ?_
      refine lv_aload_n hx hb d_Rk_add_21 rfl (lv_at hl 0 rfl) ?_
      refine va_get (D := D) (ci := 4) (v := .int x0_2) (C := R_Rk) (T := F_Rk) (N := 5) hx hb hts i_Rk hown hK hP (k0) mk0_0 rfl 2 (by decide) (hts _ iw_86) (fun _ h9 => h9) rfl d_Rk_add_22 ?_
      refine lv_iconst (v := 1) hx hb d_Rk_add_25 (by decide) ?_
      refine lv_isub hx hb d_Rk_add_26 ?_
      obtain ⟨z4, hf⟩ := g_atE hf
      refine va_iald hx hb hK hP (k0 + 1) 0 mk0_1 rfl z4 d_Rk_add_27 ?_
      refine lv_aload_n hx hb d_Rk_add_28 rfl (lv_at hl 0 rfl) ?_
      refine va_get (D := D) (ci := 4) (v := .ref (ad (k0 + 2))) (C := R_Rk) (T := F_Rk) (N := 5) hx hb hts i_Rk hown hK hP (k0) mk0_0 rfl 1 (by decide) (hts _ iw_85) (fun _ h9 => h9) rfl d_Rk_add_29 ?_
      refine lv_aload_n hx hb d_Rk_add_32 rfl (lv_at hl 0 rfl) ?_
      refine va_get (D := D) (ci := 4) (v := .int x0_2) (C := R_Rk) (T := F_Rk) (N := 5) hx hb hts i_Rk hown hK hP (k0) mk0_0 rfl 2 (by decide) (hts _ iw_86) (fun _ h9 => h9) rfl d_Rk_add_33 ?_
      refine lv_iconst (v := 1) hx hb d_Rk_add_36 (by decide) ?_
      refine lv_isub hx hb d_Rk_add_37 ?_
      obtain ⟨z5, hf⟩ := g_atE hf
      refine va_iald hx hb hK hP (k0 + 2) 0 mk0_2 rfl z5 d_Rk_add_38 ?_
      have bk0_0 : wc_Rk cI cG cZ ad (k0) (x0_0, x0_1, x0_2, x0_3, x0_4) w0 := ⟨mk0_0, mk0_1, mk0_2⟩
      obtain ⟨p6, hp6, hf⟩ := g_bd hf
      refine hw_ci0 (va_runV (As := [.int a1, .int a2, .int (x0_0 (x0_2 - 1).toNatClampNeg), .int (x0_1 (x0_2 - 1).toNatClampNeg)]) (rest := []) ⟨hx, hb, hml, hown, hts⟩ (c_Rk_precedes l D cI cG cZ ad B w0 N k0 x0_0 x0_1 x0_2 x0_3 x0_4 a1 a2 (x0_0 (x0_2 - 1).toNatClampNeg) (x0_1 (x0_2 - 1).toNatClampNeg) p6 hp6 bk0_0) (cwV 4 hts (hw_gV iw_245 gy_Rk_precedes) rfl rfl rfl (by decide +kernel) ⟨Nat.le_of_ble_eq_true rfl, Nat.le_of_ble_eq_true rfl⟩) ⟨hw_blind, va_recv hK hP (ci := 4) (q0 := k0) rfl bk0_0.1, hw_go hP hD hK hN⟩ rfl rfl hl.1 rfl (lv_room (Nat.le_of_ble_eq_true rfl)) d_Rk_add_39 ⟨Nat.zero_le _, Nat.zero_le _⟩) hS (fun H locs hP hD hS => ?_)
      refine lv_if_ne (tgt := 47) hx hb d_Rk_add_42 (by decide) (fun c7 => ?_) (fun c7 => ?_)
      · rw [if_neg c7] at hf
        refine lv_aload_n hx hb d_Rk_add_47 rfl (lv_at hl 0 rfl) ?_
        refine lv_dup hx hb d_Rk_add_48 rfl ?_
        obtain ⟨mk0_0, mk0_1, mk0_2⟩ := id bk0_0
        have mk0_0 : w0[k0]? = some (ad k0, .inr (4, [.ref (ad (k0 + 1)), .ref (ad (k0 + 2)), .int x0_2, .int x0_3, .int x0_4])) := mk0_0
        have mk0_1 : w0[k0 + 1]? = some (ad (k0 + 1), .inl (cI, 30, .inl x0_0)) := mk0_1
        have mk0_2 : w0[k0 + 2]? = some (ad (k0 + 2), .inl (cI, 30, .inl x0_1)) := mk0_2
        refine va_get (D := D) (ci := 4) (v := .int x0_2) (C := R_Rk) (T := F_Rk) (N := 5) hx hb hts i_Rk hown hK hP (k0) mk0_0 rfl 2 (by decide) (hts _ iw_86) (fun _ h9 => h9) rfl d_Rk_add_49 ?_
        refine lv_iconst (v := 1) hx hb d_Rk_add_52 (by decide) ?_
        refine lv_isub hx hb d_Rk_add_53 ?_
        refine va_put (D := D) (ci := 4) (v := .int (x0_2 - 1)) (ty := .int) (C := R_Rk) (T := F_Rk) (N := 5) hx hb hts i_Rk t_Rk t_Rk_ok n_Rk hown hK hP hD hS (k0) mk0_0 rfl 2 (by decide) (hts _ iw_86) (fun _ h9 => h9) rfl (by decide +kernel) rfl rfl (Nat.le_of_ble_eq_true rfl) d_Rk_add_54 (fun H locs hP hD hS => ?_)
        obtain ⟨w8, hP, hD, hne, heq⟩ := hs_up hP hD mk0_0
        have mk0_0 : w8[k0]? = some (ad k0, .inr (4, [.ref (ad (k0 + 1)), .ref (ad (k0 + 2)), .int (x0_2 - 1), .int x0_3, .int x0_4])) := heq
        have mk0_1 : w8[k0 + 1]? = some (ad (k0 + 1), .inl (cI, 30, .inl x0_0)) := (hne _ (by omega)).trans mk0_1
        have mk0_2 : w8[k0 + 2]? = some (ad (k0 + 2), .inl (cI, 30, .inl x0_1)) := (hne _ (by omega)).trans mk0_2
        have fr : ∀ j : Nat, (j < k0 ∨ k0 + 3 ≤ j) → w8[j]? = w0[j]? := fun j o0 => (hne j (by omega)).trans (fr j o0)
        refine lv_aload_n hx hb d_Rk_add_57 rfl (lv_at hl 0 rfl) ?_
        refine va_get (D := D) (ci := 4) (v := .int (x0_2 - 1)) (C := R_Rk) (T := F_Rk) (N := 5) hx hb hts i_Rk hown hK hP (k0) mk0_0 rfl 2 (by decide) (hts _ iw_86) (fun _ h9 => h9) rfl d_Rk_add_58 ?_
        refine lv_istore_n (lv' := [(3, .int (x0_2 - 1)), (0, .ref (ad k0)), (1, .int a1), (2, .int a2)]) hx hb d_Rk_add_61 rfl hl (by decide) rfl (fun ls hl => ?_)
        exact wl_Rk_add_62 C0 hK hN x0_3 x0_4 a1 a2 x0_0 x0_1 x0_2 r y0_0 y0_1 y0_2 N x0_0 x0_1 (x0_2 - 1) (x0_2 - 1) _ _ _ _ hP hD hS (lv_sub hl [0, 1, 2, 3] rfl) mk0_0 mk0_1 mk0_2 fr hf
      · rw [if_pos c7] at hf
        refine lv_iconst (v := 0) hx hb d_Rk_add_45 (by decide) ?_
        have he := Option.some.inj hf
        obtain ⟨e0, he⟩ := Prod.mk.inj he
        obtain ⟨e1, he⟩ := Prod.mk.inj he
        obtain ⟨e2, e3⟩ := Prod.mk.inj he
        have f0 : wc_Rk cI cG cZ ad (k0) (y0_0, y0_1, y0_2, x0_3, x0_4) w0 := by rw [← e1, ← e2, ← e3]; exact bk0_0
        exact W.zret (v := 0) hx hb hr (by decide) (fun t ht hW => ⟨⟨0, w0, rfl, ⟨e0, ⟨f0, fr⟩⟩, by rw [ht]; exact hP, hD⟩, hS.F ht⟩) hS.2.2 d_Rk_add_46
set_option maxHeartbeats 4000000 in
set_option maxRecDepth 100000 in
theorem c_Rk_size (l : Launch) (D : va_G) (cI cG cZ : ClassId) (ad : Nat → Nat) (B : Nat) (w0 : va_W) (N : Nat) (k0 : Nat) (x0_0 : (Nat → Int32)) (x0_1 : (Nat → Int32)) (x0_2 : Int32) (x0_3 : Int32) (x0_4 : Int32) (r : Int32) (hf : f_Rk_size N x0_2 = some r) (bk0_0 : wc_Rk cI cG cZ ad k0 (x0_0, x0_1, x0_2, x0_3, x0_4) w0) : Met l y_Rk_size (.code y_Rk_size b_Rk_size 1 (some .int) :: hw_G) ({ frames := 0, cells := 0, slots := 0, locals := 0 } : Room) (va_Pc [.ref (ad k0)] (hw_U D cI cG cZ B w0)) (va_Qi (fun (r1 : Int32) (w1 : va_W) => r1 = r ∧ w1 = w0) (hw_B D B) (fun q : Nat => B ≤ q)) 0 0 (fun q : Nat => B ≤ q) := by
  refine Met.ofW (cc := b_Rk_size) (maxL := 1) (ret := (some .int)) (by decide) rfl ?_
  intro p e s m args below meth c s₁ Bd hml hv
  obtain ⟨rfl, hP, hD, hK, hN⟩ := hv
  have C0 : hw_C p s m meth c b_Rk_size 1 _ R_Rk (some .int) := ⟨Bd.exec, Bd.bytes, Bd.returns, hml, findClass_of_methodNamed Bd.named, fun w h => atoms_spec (ws := .code y_Rk_size b_Rk_size 1 (some .int) :: hw_G) Bd.pre w (List.mem_cons_of_mem _ h), Bd.notSynchronized⟩
  obtain ⟨hx, hb, hr, -, hown, hts, hlocks⟩ := id C0
  have hS : va_S (fun q : Nat => B ≤ q) s.heap s.heap [] := va_S.rf
  have fr : w0 = w0 := rfl
  have hl := lv_entry ([.ref (ad k0)]) (n := 1) (Nat.le_of_ble_eq_true rfl)
  rw [lg_entry_eq]
  generalize (lg_sl ([.ref (ad k0)]) ++ List.replicate (1 - (lg_sl ([.ref (ad k0)])).length) Slot.unset).toArray = ls at hl ⊢
  have hl : lv_has ls 1 [(0, .ref (ad k0))] := hl
  unfold f_Rk_size at hf
  obtain ⟨mk0_0, mk0_1, mk0_2⟩ := id bk0_0
  have mk0_0 : w0[k0]? = some (ad k0, .inr (4, [.ref (ad (k0 + 1)), .ref (ad (k0 + 2)), .int x0_2, .int x0_3, .int x0_4])) := mk0_0
  have mk0_1 : w0[k0 + 1]? = some (ad (k0 + 1), .inl (cI, 30, .inl x0_0)) := mk0_1
  have mk0_2 : w0[k0 + 2]? = some (ad (k0 + 2), .inl (cI, 30, .inl x0_1)) := mk0_2
  refine lv_aload_n hx hb d_Rk_size_0 rfl (lv_at hl 0 rfl) ?_
  refine va_get (D := D) (ci := 4) (v := .int x0_2) (C := R_Rk) (T := F_Rk) (N := 5) hx hb hts i_Rk hown hK hP (k0) mk0_0 rfl 2 (by decide) (hts _ iw_86) (fun _ h9 => h9) rfl d_Rk_size_1 ?_
  have bk0_0 : wc_Rk cI cG cZ ad (k0) (x0_0, x0_1, x0_2, x0_3, x0_4) w0 := ⟨mk0_0, mk0_1, mk0_2⟩
  have e0 := Option.some.inj hf
  exact W.iret (v := x0_2) hx hb hr (fun t ht hW => ⟨⟨x0_2, w0, rfl, ⟨e0, fr⟩, by rw [ht]; exact hP, hD⟩, hS.F ht⟩) hS.2.2 d_Rk_size_4
set_option maxHeartbeats 4000000 in
set_option maxRecDepth 100000 in
theorem c_Rk_numberAt (l : Launch) (D : va_G) (cI cG cZ : ClassId) (ad : Nat → Nat) (B : Nat) (w0 : va_W) (N : Nat) (k0 : Nat) (x0_0 : (Nat → Int32)) (x0_1 : (Nat → Int32)) (x0_2 : Int32) (x0_3 : Int32) (x0_4 : Int32) (a1 : Int32) (r : Int32) (hf : f_Rk_numberAt N x0_0 a1 = some r) (bk0_0 : wc_Rk cI cG cZ ad k0 (x0_0, x0_1, x0_2, x0_3, x0_4) w0) : Met l y_Rk_numberAt (.code y_Rk_numberAt b_Rk_numberAt 2 (some .int) :: hw_G) ({ frames := 0, cells := 0, slots := 0, locals := 0 } : Room) (va_Pc [.ref (ad k0), .int a1] (hw_U D cI cG cZ B w0)) (va_Qi (fun (r1 : Int32) (w1 : va_W) => r1 = r ∧ w1 = w0) (hw_B D B) (fun q : Nat => B ≤ q)) 0 0 (fun q : Nat => B ≤ q) := by
  refine Met.ofW (cc := b_Rk_numberAt) (maxL := 2) (ret := (some .int)) (by decide) rfl ?_
  intro p e s m args below meth c s₁ Bd hml hv
  obtain ⟨rfl, hP, hD, hK, hN⟩ := hv
  have C0 : hw_C p s m meth c b_Rk_numberAt 2 _ R_Rk (some .int) := ⟨Bd.exec, Bd.bytes, Bd.returns, hml, findClass_of_methodNamed Bd.named, fun w h => atoms_spec (ws := .code y_Rk_numberAt b_Rk_numberAt 2 (some .int) :: hw_G) Bd.pre w (List.mem_cons_of_mem _ h), Bd.notSynchronized⟩
  obtain ⟨hx, hb, hr, -, hown, hts, hlocks⟩ := id C0
  have hS : va_S (fun q : Nat => B ≤ q) s.heap s.heap [] := va_S.rf
  have fr : w0 = w0 := rfl
  have hl := lv_entry ([.ref (ad k0), .int a1]) (n := 2) (Nat.le_of_ble_eq_true rfl)
  rw [lg_entry_eq]
  generalize (lg_sl ([.ref (ad k0), .int a1]) ++ List.replicate (2 - (lg_sl ([.ref (ad k0), .int a1])).length) Slot.unset).toArray = ls at hl ⊢
  have hl : lv_has ls 2 [(0, .ref (ad k0)), (1, .int a1)] := hl
  unfold f_Rk_numberAt at hf
  obtain ⟨mk0_0, mk0_1, mk0_2⟩ := id bk0_0
  have mk0_0 : w0[k0]? = some (ad k0, .inr (4, [.ref (ad (k0 + 1)), .ref (ad (k0 + 2)), .int x0_2, .int x0_3, .int x0_4])) := mk0_0
  have mk0_1 : w0[k0 + 1]? = some (ad (k0 + 1), .inl (cI, 30, .inl x0_0)) := mk0_1
  have mk0_2 : w0[k0 + 2]? = some (ad (k0 + 2), .inl (cI, 30, .inl x0_1)) := mk0_2
  refine lv_aload_n hx hb d_Rk_numberAt_0 rfl (lv_at hl 0 rfl) ?_
  refine va_get (D := D) (ci := 4) (v := .ref (ad (k0 + 1))) (C := R_Rk) (T := F_Rk) (N := 5) hx hb hts i_Rk hown hK hP (k0) mk0_0 rfl 0 (by decide) (hts _ iw_84) (fun _ h9 => h9) rfl d_Rk_numberAt_1 ?_
  refine lv_iload_n hx hb d_Rk_numberAt_4 rfl (lv_at hl 1 rfl) ?_
  obtain ⟨z1, hf⟩ := g_atE hf
  refine va_iald hx hb hK hP (k0 + 1) 0 mk0_1 rfl z1 d_Rk_numberAt_5 ?_
  have bk0_0 : wc_Rk cI cG cZ ad (k0) (x0_0, x0_1, x0_2, x0_3, x0_4) w0 := ⟨mk0_0, mk0_1, mk0_2⟩
  have e0 := Option.some.inj hf
  exact W.iret (v := x0_0 a1.toNatClampNeg) hx hb hr (fun t ht hW => ⟨⟨x0_0 a1.toNatClampNeg, w0, rfl, ⟨e0, fr⟩, by rw [ht]; exact hP, hD⟩, hS.F ht⟩) hS.2.2 d_Rk_numberAt_6
set_option maxHeartbeats 4000000 in
set_option maxRecDepth 100000 in
theorem c_Rk_changeRoom (l : Launch) (D : va_G) (cI cG cZ : ClassId) (ad : Nat → Nat) (B : Nat) (w0 : va_W) (N : Nat) (k0 : Nat) (x0_0 : (Nat → Int32)) (x0_1 : (Nat → Int32)) (x0_2 : Int32) (x0_3 : Int32) (x0_4 : Int32) (a1 : Int32) (y0_2 : Int32) (y0_3 : Int32) (hf : f_Rk_changeRoom N x0_2 a1 = some (y0_2, y0_3)) (bk0_0 : wc_Rk cI cG cZ ad k0 (x0_0, x0_1, x0_2, x0_3, x0_4) w0) : Met l y_Rk_changeRoom (.code y_Rk_changeRoom b_Rk_changeRoom 2 none :: hw_G) ({ frames := 1, cells := 0, slots := 0, locals := 21 } : Room) (va_Pc [.ref (ad k0), .int a1] (hw_U D cI cG cZ B w0)) (va_Qv (fun (w1 : va_W) => wc_Rk cI cG cZ ad k0 (x0_0, x0_1, y0_2, y0_3, x0_4) w1 ∧ (∀ j : Nat, (j < k0 ∨ k0 + 3 ≤ j) → w1[j]? = w0[j]?)) (hw_B D B) (fun q : Nat => B ≤ q)) 0 0 (fun q : Nat => B ≤ q) := by
  refine Met.ofW (cc := b_Rk_changeRoom) (maxL := 2) (ret := none) (by decide) rfl ?_
  intro p e s m args below meth c s₁ Bd hml hv
  obtain ⟨rfl, hP, hD, hK, hN⟩ := hv
  have C0 : hw_C p s m meth c b_Rk_changeRoom 2 _ R_Rk none := ⟨Bd.exec, Bd.bytes, Bd.returns, hml, findClass_of_methodNamed Bd.named, fun w h => atoms_spec (ws := .code y_Rk_changeRoom b_Rk_changeRoom 2 none :: hw_G) Bd.pre w (List.mem_cons_of_mem _ h), Bd.notSynchronized⟩
  obtain ⟨hx, hb, hr, -, hown, hts, hlocks⟩ := id C0
  have hS : va_S (fun q : Nat => B ≤ q) s.heap s.heap [] := va_S.rf
  have fr : ∀ j : Nat, (j < k0 ∨ k0 + 3 ≤ j) → w0[j]? = w0[j]? := fun j _ => rfl
  have hl := lv_entry ([.ref (ad k0), .int a1]) (n := 2) (Nat.le_of_ble_eq_true rfl)
  rw [lg_entry_eq]
  generalize (lg_sl ([.ref (ad k0), .int a1]) ++ List.replicate (2 - (lg_sl ([.ref (ad k0), .int a1])).length) Slot.unset).toArray = ls at hl ⊢
  have hl : lv_has ls 2 [(0, .ref (ad k0)), (1, .int a1)] := hl
  unfold f_Rk_changeRoom at hf
  obtain ⟨mk0_0, mk0_1, mk0_2⟩ := id bk0_0
  have mk0_0 : w0[k0]? = some (ad k0, .inr (4, [.ref (ad (k0 + 1)), .ref (ad (k0 + 2)), .int x0_2, .int x0_3, .int x0_4])) := mk0_0
  have mk0_1 : w0[k0 + 1]? = some (ad (k0 + 1), .inl (cI, 30, .inl x0_0)) := mk0_1
  have mk0_2 : w0[k0 + 2]? = some (ad (k0 + 2), .inl (cI, 30, .inl x0_1)) := mk0_2
  refine lv_aload_n hx hb d_Rk_changeRoom_0 rfl (lv_at hl 0 rfl) ?_
  refine lv_iload_n hx hb d_Rk_changeRoom_1 rfl (lv_at hl 1 rfl) ?_
  refine lv_bipush (v := 30) hx hb d_Rk_changeRoom_2 (by decide) ?_
  refine va_mmin hx hb (hml.trans hl.1.symm) hown (hts _ iw_234) (hts _ iw_min_static) (hts _ iw_math_init) (hts _ iw_min_code) (Nat.le_of_ble_eq_true rfl) (Nat.le_of_ble_eq_true rfl) (Nat.zero_le _) (Nat.zero_le _) d_Rk_changeRoom_4 ?_
  refine va_put (D := D) (ci := 4) (v := .int (if 30 < a1 then 30 else a1)) (ty := .int) (C := R_Rk) (T := F_Rk) (N := 5) hx hb hts i_Rk t_Rk t_Rk_ok n_Rk hown hK hP hD hS (k0) mk0_0 rfl 3 (by decide) (hts _ iw_87) (fun _ h9 => h9) rfl (by decide +kernel) rfl rfl (Nat.le_of_ble_eq_true rfl) d_Rk_changeRoom_7 (fun H locs hP hD hS => ?_)
  obtain ⟨w1, hP, hD, hne, heq⟩ := hs_up hP hD mk0_0
  have mk0_0 : w1[k0]? = some (ad k0, .inr (4, [.ref (ad (k0 + 1)), .ref (ad (k0 + 2)), .int x0_2, .int (if 30 < a1 then 30 else a1), .int x0_4])) := heq
  have mk0_1 : w1[k0 + 1]? = some (ad (k0 + 1), .inl (cI, 30, .inl x0_0)) := (hne _ (by omega)).trans mk0_1
  have mk0_2 : w1[k0 + 2]? = some (ad (k0 + 2), .inl (cI, 30, .inl x0_1)) := (hne _ (by omega)).trans mk0_2
  have fr : ∀ j : Nat, (j < k0 ∨ k0 + 3 ≤ j) → w1[j]? = w0[j]? := fun j o0 => (hne j (by omega)).trans (fr j o0)
  refine lv_aload_n hx hb d_Rk_changeRoom_10 rfl (lv_at hl 0 rfl) ?_
  refine lv_aload_n hx hb d_Rk_changeRoom_11 rfl (lv_at hl 0 rfl) ?_
  refine va_get (D := D) (ci := 4) (v := .int x0_2) (C := R_Rk) (T := F_Rk) (N := 5) hx hb hts i_Rk hown hK hP (k0) mk0_0 rfl 2 (by decide) (hts _ iw_86) (fun _ h9 => h9) rfl d_Rk_changeRoom_12 ?_
  refine lv_aload_n hx hb d_Rk_changeRoom_15 rfl (lv_at hl 0 rfl) ?_
  refine va_get (D := D) (ci := 4) (v := .int (if 30 < a1 then 30 else a1)) (C := R_Rk) (T := F_Rk) (N := 5) hx hb hts i_Rk hown hK hP (k0) mk0_0 rfl 3 (by decide) (hts _ iw_87) (fun _ h9 => h9) rfl d_Rk_changeRoom_16 ?_
  refine va_mmin hx hb (hml.trans hl.1.symm) hown (hts _ iw_234) (hts _ iw_min_static) (hts _ iw_math_init) (hts _ iw_min_code) (Nat.le_of_ble_eq_true rfl) (Nat.le_of_ble_eq_true rfl) (Nat.zero_le _) (Nat.zero_le _) d_Rk_changeRoom_19 ?_
  refine va_put (D := D) (ci := 4) (v := .int (if (if 30 < a1 then 30 else a1) < x0_2 then if 30 < a1 then 30 else a1 else x0_2)) (ty := .int) (C := R_Rk) (T := F_Rk) (N := 5) hx hb hts i_Rk t_Rk t_Rk_ok n_Rk hown hK hP hD hS (k0) mk0_0 rfl 2 (by decide) (hts _ iw_86) (fun _ h9 => h9) rfl (by decide +kernel) rfl rfl (Nat.le_of_ble_eq_true rfl) d_Rk_changeRoom_22 (fun H locs hP hD hS => ?_)
  obtain ⟨w2, hP, hD, hne, heq⟩ := hs_up hP hD mk0_0
  have mk0_0 : w2[k0]? = some (ad k0, .inr (4, [.ref (ad (k0 + 1)), .ref (ad (k0 + 2)), .int (if (if 30 < a1 then 30 else a1) < x0_2 then if 30 < a1 then 30 else a1 else x0_2), .int (if 30 < a1 then 30 else a1), .int x0_4])) := heq
  have mk0_1 : w2[k0 + 1]? = some (ad (k0 + 1), .inl (cI, 30, .inl x0_0)) := (hne _ (by omega)).trans mk0_1
  have mk0_2 : w2[k0 + 2]? = some (ad (k0 + 2), .inl (cI, 30, .inl x0_1)) := (hne _ (by omega)).trans mk0_2
  have fr : ∀ j : Nat, (j < k0 ∨ k0 + 3 ≤ j) → w2[j]? = w0[j]? := fun j o0 => (hne j (by omega)).trans (fr j o0)
  have bk0_0 : wc_Rk cI cG cZ ad (k0) (x0_0, x0_1, if (if 30 < a1 then 30 else a1) < x0_2 then if 30 < a1 then 30 else a1 else x0_2, if 30 < a1 then 30 else a1, x0_4) w2 := ⟨mk0_0, mk0_1, mk0_2⟩
  have he := Option.some.inj hf
  obtain ⟨e0, e1⟩ := Prod.mk.inj he
  have f0 : wc_Rk cI cG cZ ad (k0) (x0_0, x0_1, y0_2, y0_3, x0_4) w2 := by rw [← e0, ← e1]; exact bk0_0
  exact W.vret hx hb hr (fun t ht hW => ⟨⟨w2, rfl, ⟨f0, fr⟩, by rw [ht]; exact hP, hD⟩, hS.F ht⟩) hS.2.2 d_Rk_changeRoom_25
set_option maxHeartbeats 4000000 in
set_option maxRecDepth 100000 in
theorem c_Rk_valueAt (l : Launch) (D : va_G) (cI cG cZ : ClassId) (ad : Nat → Nat) (B : Nat) (w0 : va_W) (N : Nat) (k0 : Nat) (x0_0 : (Nat → Int32)) (x0_1 : (Nat → Int32)) (x0_2 : Int32) (x0_3 : Int32) (x0_4 : Int32) (a1 : Int32) (r : Int32) (hf : f_Rk_valueAt N x0_1 a1 = some r) (bk0_0 : wc_Rk cI cG cZ ad k0 (x0_0, x0_1, x0_2, x0_3, x0_4) w0) : Met l y_Rk_valueAt (.code y_Rk_valueAt b_Rk_valueAt 2 (some .int) :: hw_G) ({ frames := 0, cells := 0, slots := 0, locals := 0 } : Room) (va_Pc [.ref (ad k0), .int a1] (hw_U D cI cG cZ B w0)) (va_Qi (fun (r1 : Int32) (w1 : va_W) => r1 = r ∧ w1 = w0) (hw_B D B) (fun q : Nat => B ≤ q)) 0 0 (fun q : Nat => B ≤ q) := by
  refine Met.ofW (cc := b_Rk_valueAt) (maxL := 2) (ret := (some .int)) (by decide) rfl ?_
  intro p e s m args below meth c s₁ Bd hml hv
  obtain ⟨rfl, hP, hD, hK, hN⟩ := hv
  have C0 : hw_C p s m meth c b_Rk_valueAt 2 _ R_Rk (some .int) := ⟨Bd.exec, Bd.bytes, Bd.returns, hml, findClass_of_methodNamed Bd.named, fun w h => atoms_spec (ws := .code y_Rk_valueAt b_Rk_valueAt 2 (some .int) :: hw_G) Bd.pre w (List.mem_cons_of_mem _ h), Bd.notSynchronized⟩
  obtain ⟨hx, hb, hr, -, hown, hts, hlocks⟩ := id C0
  have hS : va_S (fun q : Nat => B ≤ q) s.heap s.heap [] := va_S.rf
  have fr : w0 = w0 := rfl
  have hl := lv_entry ([.ref (ad k0), .int a1]) (n := 2) (Nat.le_of_ble_eq_true rfl)
  rw [lg_entry_eq]
  generalize (lg_sl ([.ref (ad k0), .int a1]) ++ List.replicate (2 - (lg_sl ([.ref (ad k0), .int a1])).length) Slot.unset).toArray = ls at hl ⊢
  have hl : lv_has ls 2 [(0, .ref (ad k0)), (1, .int a1)] := hl
  unfold f_Rk_valueAt at hf
  obtain ⟨mk0_0, mk0_1, mk0_2⟩ := id bk0_0
  have mk0_0 : w0[k0]? = some (ad k0, .inr (4, [.ref (ad (k0 + 1)), .ref (ad (k0 + 2)), .int x0_2, .int x0_3, .int x0_4])) := mk0_0
  have mk0_1 : w0[k0 + 1]? = some (ad (k0 + 1), .inl (cI, 30, .inl x0_0)) := mk0_1
  have mk0_2 : w0[k0 + 2]? = some (ad (k0 + 2), .inl (cI, 30, .inl x0_1)) := mk0_2
  refine lv_aload_n hx hb d_Rk_valueAt_0 rfl (lv_at hl 0 rfl) ?_
  refine va_get (D := D) (ci := 4) (v := .ref (ad (k0 + 2))) (C := R_Rk) (T := F_Rk) (N := 5) hx hb hts i_Rk hown hK hP (k0) mk0_0 rfl 1 (by decide) (hts _ iw_85) (fun _ h9 => h9) rfl d_Rk_valueAt_1 ?_
  refine lv_iload_n hx hb d_Rk_valueAt_4 rfl (lv_at hl 1 rfl) ?_
  obtain ⟨z1, hf⟩ := g_atE hf
  refine va_iald hx hb hK hP (k0 + 2) 0 mk0_2 rfl z1 d_Rk_valueAt_5 ?_
  have bk0_0 : wc_Rk cI cG cZ ad (k0) (x0_0, x0_1, x0_2, x0_3, x0_4) w0 := ⟨mk0_0, mk0_1, mk0_2⟩
  have e0 := Option.some.inj hf
  exact W.iret (v := x0_1 a1.toNatClampNeg) hx hb hr (fun t ht hW => ⟨⟨x0_1 a1.toNatClampNeg, w0, rfl, ⟨e0, fr⟩, by rw [ht]; exact hP, hD⟩, hS.F ht⟩) hS.2.2 d_Rk_valueAt_6
set_option maxHeartbeats 4000000 in
set_option maxRecDepth 100000 in
theorem wl_Rk_dropFirst_2 {p : Program} {l : Launch} {e : Env} {s : State} {m : MethodId} {args : Array Value} {below : List Frame} {meth : Method} {c : Code} {D : va_G} {cI cG cZ : ClassId} {ad : Nat → Nat} {B : Nat} {w0 : va_W} {N : Nat} {k0 : Nat} (C0 : hw_C p s m meth c b_Rk_dropFirst 2 args R_Rk none) (hK : va_K D classes [(cI, .int), (cG, .array .int), (cZ, .boolean)] s) (hN : hw_N s) (x0_2 : Int32) (x0_3 : Int32) (x0_4 : Int32) (x0_0 : (Nat → Int32)) (x0_1 : (Nat → Int32)) (y0_0 : (Nat → Int32)) (y0_1 : (Nat → Int32)) (y0_2 : Int32) : ∀ (n : Nat) (vak0_1 : (Nat → Int32)) (vak0_2 : (Nat → Int32)) (v1 : Int32) (ws : va_W) (H : Heap) (locs : List Loc) (ls : Array Slot), va_P D classes ws H → va_D (fun q : Nat => B ≤ q) ws → va_S (fun q : Nat => B ≤ q) s.heap H locs → lv_has ls 2 [(1, .int v1), (0, .ref (ad k0))] → ws[k0]? = some (ad k0, .inr (4, [.ref (ad (k0 + 1)), .ref (ad (k0 + 2)), .int x0_2, .int x0_3, .int x0_4])) → ws[k0 + 1]? = some (ad (k0 + 1), .inl (cI, 30, .inl vak0_1)) → ws[k0 + 2]? = some (ad (k0 + 2), .inl (cI, 30, .inl vak0_2)) → (∀ j : Nat, (j < k0 ∨ k0 + 3 ≤ j) → ws[j]? = w0[j]?) → f_Rk_dropFirst_2 N x0_2 n vak0_1 vak0_2 v1 = some (y0_0, y0_1, y0_2) → W p l e ({ frames := 1, cells := 0, slots := 0, locals := 21 } : Room) s m args below meth c H locs 0 0 (MQ below (va_Qv (fun (w1 : va_W) => wc_Rk cI cG cZ ad k0 (y0_0, y0_1, y0_2, x0_3, x0_4) w1 ∧ (∀ j : Nat, (j < k0 ∨ k0 + 3 ≤ j) → w1[j]? = w0[j]?)) (hw_B D B) (fun q : Nat => B ≤ q)) args s 0 0 (fun q : Nat => B ≤ q)) (F0 m 2 ls []) := by
  obtain ⟨hx, hb, hr, hml, hown, hts, hlocks⟩ := id C0
  intro n
  induction n with
  | zero =>
    intro vak0_1 vak0_2 v1 ws H locs ls hP hD hS hl mk0_0 mk0_1 mk0_2 fr hf
    exact nomatch (show none = some _ from hf)
  | succ n ih =>
    intro vak0_1 vak0_2 v1 ws H locs ls hP hD hS hl mk0_0 mk0_1 mk0_2 fr hf
    rw [f_Rk_dropFirst_2] at hf
    refine lv_iload_n hx hb d_Rk_dropFirst_2 rfl (lv_at hl 0 rfl) ?_
    refine lv_aload_n hx hb d_Rk_dropFirst_3 rfl (lv_at hl 1 rfl) ?_
    refine va_get (D := D) (ci := 4) (v := .int x0_2) (C := R_Rk) (T := F_Rk) (N := 5) hx hb hts i_Rk hown hK hP (k0) mk0_0 rfl 2 (by decide) (hts _ iw_86) (fun _ h9 => h9) rfl d_Rk_dropFirst_4 ?_
    refine lv_icmp_ge (tgt := 44) hx hb d_Rk_dropFirst_7 (by decide) (fun c1 => ?_) (fun c1 => ?_)
    · rw [if_pos c1] at hf
      refine lv_aload_n hx hb d_Rk_dropFirst_44 rfl (lv_at hl 1 rfl) ?_
      refine lv_iconst (v := 0) hx hb d_Rk_dropFirst_45 (by decide) ?_
      refine lv_aload_n hx hb d_Rk_dropFirst_46 rfl (lv_at hl 1 rfl) ?_
      refine va_get (D := D) (ci := 4) (v := .int x0_2) (C := R_Rk) (T := F_Rk) (N := 5) hx hb hts i_Rk hown hK hP (k0) mk0_0 rfl 2 (by decide) (hts _ iw_86) (fun _ h9 => h9) rfl d_Rk_dropFirst_47 ?_
      refine lv_iconst (v := 1) hx hb d_Rk_dropFirst_50 (by decide) ?_
      refine lv_isub hx hb d_Rk_dropFirst_51 ?_
      refine va_mmax hx hb (hml.trans hl.1.symm) hown (hts _ iw_281) (hts _ iw_max_static) (hts _ iw_math_init) (hts _ iw_max_code) (Nat.le_of_ble_eq_true rfl) (Nat.le_of_ble_eq_true rfl) (Nat.zero_le _) (Nat.zero_le _) d_Rk_dropFirst_52 ?_
      refine va_put (D := D) (ci := 4) (v := .int (if 0 < (x0_2 - 1) then x0_2 - 1 else 0)) (ty := .int) (C := R_Rk) (T := F_Rk) (N := 5) hx hb hts i_Rk t_Rk t_Rk_ok n_Rk hown hK hP hD hS (k0) mk0_0 rfl 2 (by decide) (hts _ iw_86) (fun _ h9 => h9) rfl (by decide +kernel) rfl rfl (Nat.le_of_ble_eq_true rfl) d_Rk_dropFirst_55 (fun H locs hP hD hS => ?_)
      obtain ⟨w2, hP, hD, hne, heq⟩ := hs_up hP hD mk0_0
      have mk0_0 : w2[k0]? = some (ad k0, .inr (4, [.ref (ad (k0 + 1)), .ref (ad (k0 + 2)), .int (if 0 < (x0_2 - 1) then x0_2 - 1 else 0), .int x0_3, .int x0_4])) := heq
      have mk0_1 : w2[k0 + 1]? = some (ad (k0 + 1), .inl (cI, 30, .inl vak0_1)) := (hne _ (by omega)).trans mk0_1
      have mk0_2 : w2[k0 + 2]? = some (ad (k0 + 2), .inl (cI, 30, .inl vak0_2)) := (hne _ (by omega)).trans mk0_2
      have fr : ∀ j : Nat, (j < k0 ∨ k0 + 3 ≤ j) → w2[j]? = w0[j]? := fun j o0 => (hne j (by omega)).trans (fr j o0)
      have bk0_0 : wc_Rk cI cG cZ ad (k0) (vak0_1, vak0_2, if 0 < (x0_2 - 1) then x0_2 - 1 else 0, x0_3, x0_4) w2 := ⟨mk0_0, mk0_1, mk0_2⟩
      have he := Option.some.inj hf
      obtain ⟨e0, he⟩ := Prod.mk.inj he
      obtain ⟨e1, e2⟩ := Prod.mk.inj he
      have f0 : wc_Rk cI cG cZ ad (k0) (y0_0, y0_1, y0_2, x0_3, x0_4) w2 := by rw [← e0, ← e1, ← e2]; exact bk0_0
      exact W.vret hx hb hr (fun t ht hW => ⟨⟨w2, rfl, ⟨f0, fr⟩, by rw [ht]; exact hP, hD⟩, hS.F ht⟩) hS.2.2 d_Rk_dropFirst_58
    · rw [if_neg c1] at hf
      refine lv_aload_n hx hb d_Rk_dropFirst_10 rfl (lv_at hl 1 rfl) ?_
      refine va_get (D := D) (ci := 4) (v := .ref (ad (k0 + 1))) (C := R_Rk) (T := F_Rk) (N := 5) hx hb hts i_Rk hown hK hP (k0) mk0_0 rfl 0 (by decide) (hts _ iw_84) (fun _ h9 => h9) rfl d_Rk_dropFirst_11 ?_
      refine lv_iload_n hx hb d_Rk_dropFirst_14 rfl (lv_at hl 0 rfl) ?_
      refine lv_iconst (v := 1) hx hb d_Rk_dropFirst_15 (by decide) ?_
      refine lv_isub hx hb d_Rk_dropFirst_16 ?_
      refine lv_aload_n hx hb d_Rk_dropFirst_17 rfl (lv_at hl 1 rfl) ?_
      refine va_get (D := D) (ci := 4) (v := .ref (ad (k0 + 1))) (C := R_Rk) (T := F_Rk) (N := 5) hx hb hts i_Rk hown hK hP (k0) mk0_0 rfl 0 (by decide) (hts _ iw_84) (fun _ h9 => h9) rfl d_Rk_dropFirst_18 ?_
      refine lv_iload_n hx hb d_Rk_dropFirst_21 rfl (lv_at hl 0 rfl) ?_
      obtain ⟨z3, hf⟩ := g_atE hf
      refine va_iald hx hb hK hP (k0 + 1) 0 mk0_1 rfl z3 d_Rk_dropFirst_22 ?_
      obtain ⟨z4, hf⟩ := g_atE hf
      refine va_iast hx hb hK hP hD hS (k0 + 1) 0 mk0_1 rfl z4 d_Rk_dropFirst_23 (fun H locs hP hD hS => ?_)
      obtain ⟨w5, hP, hD, hne, heq⟩ := hs_up hP hD mk0_1
      have mk0_1 : w5[k0 + 1]? = some (ad (k0 + 1), .inl (cI, 30, .inl (upd vak0_1 (v1 - 1).toNatClampNeg (vak0_1 v1.toNatClampNeg)))) := heq
      have mk0_0 : w5[k0]? = some (ad k0, .inr (4, [.ref (ad (k0 + 1)), .ref (ad (k0 + 2)), .int x0_2, .int x0_3, .int x0_4])) := (hne _ (by omega)).trans mk0_0
      have mk0_2 : w5[k0 + 2]? = some (ad (k0 + 2), .inl (cI, 30, .inl vak0_2)) := (hne _ (by omega)).trans mk0_2
      have fr : ∀ j : Nat, (j < k0 ∨ k0 + 3 ≤ j) → w5[j]? = w0[j]? := fun j o0 => (hne j (by omega)).trans (fr j o0)
      refine lv_aload_n hx hb d_Rk_dropFirst_24 rfl (lv_at hl 1 rfl) ?_
      refine va_get (D := D) (ci := 4) (v := .ref (ad (k0 + 2))) (C := R_Rk) (T := F_Rk) (N := 5) hx hb hts i_Rk hown hK hP (k0) mk0_0 rfl 1 (by decide) (hts _ iw_85) (fun _ h9 => h9) rfl d_Rk_dropFirst_25 ?_
      refine lv_iload_n hx hb d_Rk_dropFirst_28 rfl (lv_at hl 0 rfl) ?_
      refine lv_iconst (v := 1) hx hb d_Rk_dropFirst_29 (by decide) ?_
      refine lv_isub hx hb d_Rk_dropFirst_30 ?_
      refine lv_aload_n hx hb d_Rk_dropFirst_31 rfl (lv_at hl 1 rfl) ?_
      refine va_get (D := D) (ci := 4) (v := .ref (ad (k0 + 2))) (C := R_Rk) (T := F_Rk) (N := 5) hx hb hts i_Rk hown hK hP (k0) mk0_0 rfl 1 (by decide) (hts _ iw_85) (fun _ h9 => h9) rfl d_Rk_dropFirst_32 ?_
      refine lv_iload_n hx hb d_Rk_dropFirst_35 rfl (lv_at hl 0 rfl) ?_
      obtain ⟨z6, hf⟩ := g_atE hf
      refine va_iald hx hb hK hP (k0 + 2) 0 mk0_2 rfl z6 d_Rk_dropFirst_36 ?_
      obtain ⟨z7, hf⟩ := g_atE hf
      refine va_iast hx hb hK hP hD hS (k0 + 2) 0 mk0_2 rfl z7 d_Rk_dropFirst_37 (fun H locs hP hD hS => ?_)
      obtain ⟨w8, hP, hD, hne, heq⟩ := hs_up hP hD mk0_2
      have mk0_2 : w8[k0 + 2]? = some (ad (k0 + 2), .inl (cI, 30, .inl (upd vak0_2 (v1 - 1).toNatClampNeg (vak0_2 v1.toNatClampNeg)))) := heq
      have mk0_0 : w8[k0]? = some (ad k0, .inr (4, [.ref (ad (k0 + 1)), .ref (ad (k0 + 2)), .int x0_2, .int x0_3, .int x0_4])) := (hne _ (by omega)).trans mk0_0
      have mk0_1 : w8[k0 + 1]? = some (ad (k0 + 1), .inl (cI, 30, .inl (upd vak0_1 (v1 - 1).toNatClampNeg (vak0_1 v1.toNatClampNeg)))) := (hne _ (by omega)).trans mk0_1
      have fr : ∀ j : Nat, (j < k0 ∨ k0 + 3 ≤ j) → w8[j]? = w0[j]? := fun j o0 => (hne j (by omega)).trans (fr j o0)
      refine lv_iinc (v := v1 + 1) (lv' := [(1, .int (v1 + 1)), (0, .ref (ad k0))]) hx hb d_Rk_dropFirst_38 hl (k := 0) rfl rfl (by decide) rfl (fun ls hl => ?_)
      refine lv_goto (tgt := 2) hx hb d_Rk_dropFirst_41 (by decide) ?_
      exact ih (upd vak0_1 (v1 - 1).toNatClampNeg (vak0_1 v1.toNatClampNeg)) (upd vak0_2 (v1 - 1).toNatClampNeg (vak0_2 v1.toNatClampNeg)) (v1 + 1) _ _ _ _ hP hD hS (lv_sub hl [0, 1] rfl) mk0_0 mk0_1 mk0_2 fr hf
set_option maxHeartbeats 4000000 in
set_option maxRecDepth 100000 in
theorem c_Rk_dropFirst (l : Launch) (D : va_G) (cI cG cZ : ClassId) (ad : Nat → Nat) (B : Nat) (w0 : va_W) (N : Nat) (k0 : Nat) (x0_0 : (Nat → Int32)) (x0_1 : (Nat → Int32)) (x0_2 : Int32) (x0_3 : Int32) (x0_4 : Int32) (y0_0 : (Nat → Int32)) (y0_1 : (Nat → Int32)) (y0_2 : Int32) (hf : f_Rk_dropFirst N x0_0 x0_1 x0_2 = some (y0_0, y0_1, y0_2)) (bk0_0 : wc_Rk cI cG cZ ad k0 (x0_0, x0_1, x0_2, x0_3, x0_4) w0) : Met l y_Rk_dropFirst (.code y_Rk_dropFirst b_Rk_dropFirst 2 none :: hw_G) ({ frames := 1, cells := 0, slots := 0, locals := 21 } : Room) (va_Pc [.ref (ad k0)] (hw_U D cI cG cZ B w0)) (va_Qv (fun (w1 : va_W) => wc_Rk cI cG cZ ad k0 (y0_0, y0_1, y0_2, x0_3, x0_4) w1 ∧ (∀ j : Nat, (j < k0 ∨ k0 + 3 ≤ j) → w1[j]? = w0[j]?)) (hw_B D B) (fun q : Nat => B ≤ q)) 0 0 (fun q : Nat => B ≤ q) := by
  refine Met.ofW (cc := b_Rk_dropFirst) (maxL := 2) (ret := none) (by decide) rfl ?_
  intro p e s m args below meth c s₁ Bd hml hv
  obtain ⟨rfl, hP, hD, hK, hN⟩ := hv
  have C0 : hw_C p s m meth c b_Rk_dropFirst 2 _ R_Rk none := ⟨Bd.exec, Bd.bytes, Bd.returns, hml, findClass_of_methodNamed Bd.named, fun w h => atoms_spec (ws := .code y_Rk_dropFirst b_Rk_dropFirst 2 none :: hw_G) Bd.pre w (List.mem_cons_of_mem _ h), Bd.notSynchronized⟩
  obtain ⟨hx, hb, hr, -, hown, hts, hlocks⟩ := id C0
  have hS : va_S (fun q : Nat => B ≤ q) s.heap s.heap [] := va_S.rf
  have fr : ∀ j : Nat, (j < k0 ∨ k0 + 3 ≤ j) → w0[j]? = w0[j]? := fun j _ => rfl
  have hl := lv_entry ([.ref (ad k0)]) (n := 2) (Nat.le_of_ble_eq_true rfl)
  rw [lg_entry_eq]
  generalize (lg_sl ([.ref (ad k0)]) ++ List.replicate (2 - (lg_sl ([.ref (ad k0)])).length) Slot.unset).toArray = ls at hl ⊢
  have hl : lv_has ls 2 [(0, .ref (ad k0))] := hl
  unfold f_Rk_dropFirst at hf
  obtain ⟨mk0_0, mk0_1, mk0_2⟩ := id bk0_0
  have mk0_0 : w0[k0]? = some (ad k0, .inr (4, [.ref (ad (k0 + 1)), .ref (ad (k0 + 2)), .int x0_2, .int x0_3, .int x0_4])) := mk0_0
  have mk0_1 : w0[k0 + 1]? = some (ad (k0 + 1), .inl (cI, 30, .inl x0_0)) := mk0_1
  have mk0_2 : w0[k0 + 2]? = some (ad (k0 + 2), .inl (cI, 30, .inl x0_1)) := mk0_2
  refine lv_iconst (v := 1) hx hb d_Rk_dropFirst_0 (by decide) ?_
  refine lv_istore_n (lv' := [(1, .int 1), (0, .ref (ad k0))]) hx hb d_Rk_dropFirst_1 rfl hl (by decide) rfl (fun ls hl => ?_)
  exact wl_Rk_dropFirst_2 C0 hK hN x0_2 x0_3 x0_4 x0_0 x0_1 y0_0 y0_1 y0_2 N x0_0 x0_1 1 _ _ _ _ hP hD hS (lv_sub hl [0, 1] rfl) mk0_0 mk0_1 mk0_2 fr hf
set_option maxHeartbeats 4000000 in
set_option maxRecDepth 100000 in
theorem c_Rk_lastPrecedes (l : Launch) (D : va_G) (cI cG cZ : ClassId) (ad : Nat → Nat) (B : Nat) (w0 : va_W) (N : Nat) (k0 : Nat) (x0_0 : (Nat → Int32)) (x0_1 : (Nat → Int32)) (x0_2 : Int32) (x0_3 : Int32) (x0_4 : Int32) (a1 : Int32) (a2 : Int32) (r : Int32) (hf : f_Rk_lastPrecedes N x0_0 x0_1 x0_2 x0_4 a1 a2 = some r) (bk0_0 : wc_Rk cI cG cZ ad k0 (x0_0, x0_1, x0_2, x0_3, x0_4) w0) : Met l y_Rk_lastPrecedes (.code y_Rk_lastPrecedes b_Rk_lastPrecedes 3 (some .boolean) :: hw_G) ({ frames := 1, cells := 0, slots := 0, locals := 24 } : Room) (va_Pc [.ref (ad k0), .int a1, .int a2] (hw_U D cI cG cZ B w0)) (va_Qi (fun (r1 : Int32) (w1 : va_W) => r1 = r ∧ w1 = w0) (hw_B D B) (fun q : Nat => B ≤ q)) 0 0 (fun q : Nat => B ≤ q) := by
  refine Met.ofW (cc := b_Rk_lastPrecedes) (maxL := 3) (ret := (some .boolean)) (by decide) rfl ?_
  intro p e s m args below meth c s₁ Bd hml hv
  obtain ⟨rfl, hP, hD, hK, hN⟩ := hv
  have C0 : hw_C p s m meth c b_Rk_lastPrecedes 3 _ R_Rk (some .boolean) := ⟨Bd.exec, Bd.bytes, Bd.returns, hml, findClass_of_methodNamed Bd.named, fun w h => atoms_spec (ws := .code y_Rk_lastPrecedes b_Rk_lastPrecedes 3 (some .boolean) :: hw_G) Bd.pre w (List.mem_cons_of_mem _ h), Bd.notSynchronized⟩
  obtain ⟨hx, hb, hr, -, hown, hts, hlocks⟩ := id C0
  have hS : va_S (fun q : Nat => B ≤ q) s.heap s.heap [] := va_S.rf
  have fr : w0 = w0 := rfl
  have hl := lv_entry ([.ref (ad k0), .int a1, .int a2]) (n := 3) (Nat.le_of_ble_eq_true rfl)
  rw [lg_entry_eq]
  generalize (lg_sl ([.ref (ad k0), .int a1, .int a2]) ++ List.replicate (3 - (lg_sl ([.ref (ad k0), .int a1, .int a2])).length) Slot.unset).toArray = ls at hl ⊢
  have hl : lv_has ls 3 [(0, .ref (ad k0)), (1, .int a1), (2, .int a2)] := hl
  unfold f_Rk_lastPrecedes at hf
  obtain ⟨mk0_0, mk0_1, mk0_2⟩ := id bk0_0
  have mk0_0 : w0[k0]? = some (ad k0, .inr (4, [.ref (ad (k0 + 1)), .ref (ad (k0 + 2)), .int x0_2, .int x0_3, .int x0_4])) := mk0_0
  have mk0_1 : w0[k0 + 1]? = some (ad (k0 + 1), .inl (cI, 30, .inl x0_0)) := mk0_1
  have mk0_2 : w0[k0 + 2]? = some (ad (k0 + 2), .inl (cI, 30, .inl x0_1)) := mk0_2
  refine lv_aload_n hx hb d_Rk_lastPrecedes_0 rfl (lv_at hl 0 rfl) ?_
  refine va_get (D := D) (ci := 4) (v := .int x0_2) (C := R_Rk) (T := F_Rk) (N := 5) hx hb hts i_Rk hown hK hP (k0) mk0_0 rfl 2 (by decide) (hts _ iw_86) (fun _ h9 => h9) rfl d_Rk_lastPrecedes_1 ?_
  refine lv_if_le (tgt := 42) hx hb d_Rk_lastPrecedes_4 (by decide) (fun c1 => ?_) (fun c1 => ?_)
  · rw [if_pos c1] at hf
    refine lv_iconst (v := 0) hx hb d_Rk_lastPrecedes_42 (by decide) ?_
    have bk0_0 : wc_Rk cI cG cZ ad (k0) (x0_0, x0_1, x0_2, x0_3, x0_4) w0 := ⟨mk0_0, mk0_1, mk0_2⟩
    have e0 := Option.some.inj hf
    exact W.zret (v := 0) hx hb hr (by decide) (fun t ht hW => ⟨⟨0, w0, rfl, ⟨e0, fr⟩, by rw [ht]; exact hP, hD⟩, hS.F ht⟩) hS.2.2 d_Rk_lastPrecedes_43
  · rw [if_neg c1] at hf
    refine lv_aload_n hx hb d_Rk_lastPrecedes_7 rfl (lv_at hl 0 rfl) ?_
    refine lv_aload_n hx hb d_Rk_lastPrecedes_8 rfl (lv_at hl 0 rfl) ?_
    refine va_get (D := D) (ci := 4) (v := .ref (ad (k0 + 1))) (C := R_Rk) (T := F_Rk) (N := 5) hx hb hts i_Rk hown hK hP (k0) mk0_0 rfl 0 (by decide) (hts _ iw_84) (fun _ h9 => h9) rfl d_Rk_lastPrecedes_9 ?_
    refine lv_aload_n hx hb d_Rk_lastPrecedes_12 rfl (lv_at hl 0 rfl) ?_
    refine va_get (D := D) (ci := 4) (v := .int x0_2) (C := R_Rk) (T := F_Rk) (N := 5) hx hb hts i_Rk hown hK hP (k0) mk0_0 rfl 2 (by decide) (hts _ iw_86) (fun _ h9 => h9) rfl d_Rk_lastPrecedes_13 ?_
    refine lv_iconst (v := 1) hx hb d_Rk_lastPrecedes_16 (by decide) ?_
    refine lv_isub hx hb d_Rk_lastPrecedes_17 ?_
    obtain ⟨z2, hf⟩ := g_atE hf
    refine va_iald hx hb hK hP (k0 + 1) 0 mk0_1 rfl z2 d_Rk_lastPrecedes_18 ?_
    refine lv_aload_n hx hb d_Rk_lastPrecedes_19 rfl (lv_at hl 0 rfl) ?_
    refine va_get (D := D) (ci := 4) (v := .ref (ad (k0 + 2))) (C := R_Rk) (T := F_Rk) (N := 5) hx hb hts i_Rk hown hK hP (k0) mk0_0 rfl 1 (by decide) (hts _ iw_85) (fun _ h9 => h9) rfl d_Rk_lastPrecedes_20 ?_
    refine lv_aload_n hx hb d_Rk_lastPrecedes_23 rfl (lv_at hl 0 rfl) ?_
    refine va_get (D := D) (ci := 4) (v := .int x0_2) (C := R_Rk) (T := F_Rk) (N := 5) hx hb hts i_Rk hown hK hP (k0) mk0_0 rfl 2 (by decide) (hts _ iw_86) (fun _ h9 => h9) rfl d_Rk_lastPrecedes_24 ?_
    refine lv_iconst (v := 1) hx hb d_Rk_lastPrecedes_27 (by decide) ?_
    refine lv_isub hx hb d_Rk_lastPrecedes_28 ?_
    obtain ⟨z3, hf⟩ := g_atE hf
    refine va_iald hx hb hK hP (k0 + 2) 0 mk0_2 rfl z3 d_Rk_lastPrecedes_29 ?_
    refine lv_iload_n hx hb d_Rk_lastPrecedes_30 rfl (lv_at hl 1 rfl) ?_
    refine lv_iload_n hx hb d_Rk_lastPrecedes_31 rfl (lv_at hl 2 rfl) ?_
    have bk0_0 : wc_Rk cI cG cZ ad (k0) (x0_0, x0_1, x0_2, x0_3, x0_4) w0 := ⟨mk0_0, mk0_1, mk0_2⟩
    obtain ⟨p4, hp4, hf⟩ := g_bd hf
    refine hw_ci0 (va_runV (As := [.int (x0_0 (x0_2 - 1).toNatClampNeg), .int (x0_1 (x0_2 - 1).toNatClampNeg), .int a1, .int a2]) (rest := []) ⟨hx, hb, hml, hown, hts⟩ (c_Rk_precedes l D cI cG cZ ad B w0 N k0 x0_0 x0_1 x0_2 x0_3 x0_4 (x0_0 (x0_2 - 1).toNatClampNeg) (x0_1 (x0_2 - 1).toNatClampNeg) a1 a2 p4 hp4 bk0_0) (cwV 4 hts (hw_gV iw_245 gy_Rk_precedes) rfl rfl rfl (by decide +kernel) ⟨Nat.le_of_ble_eq_true rfl, Nat.le_of_ble_eq_true rfl⟩) ⟨hw_blind, va_recv hK hP (ci := 4) (q0 := k0) rfl bk0_0.1, hw_go hP hD hK hN⟩ rfl rfl hl.1 rfl (lv_room (Nat.le_of_ble_eq_true rfl)) d_Rk_lastPrecedes_32 ⟨Nat.zero_le _, Nat.zero_le _⟩) hS (fun H locs hP hD hS => ?_)
    refine lv_if_eq (tgt := 42) hx hb d_Rk_lastPrecedes_35 (by decide) (fun c5 => ?_) (fun c5 => ?_)
    · rw [if_pos c5] at hf
      refine lv_iconst (v := 0) hx hb d_Rk_lastPrecedes_42 (by decide) ?_
      have e0 := Option.some.inj hf
      exact W.zret (v := 0) hx hb hr (by decide) (fun t ht hW => ⟨⟨0, w0, rfl, ⟨e0, fr⟩, by rw [ht]; exact hP, hD⟩, hS.F ht⟩) hS.2.2 d_Rk_lastPrecedes_43
    · rw [if_neg c5] at hf
      refine lv_iconst (v := 1) hx hb d_Rk_lastPrecedes_38 (by decide) ?_
      refine lv_goto (tgt := 43) hx hb d_Rk_lastPrecedes_39 (by decide) ?_
      have e0 := Option.some.inj hf
      exact W.zret (v := 1) hx hb hr (by decide) (fun t ht hW => ⟨⟨1, w0, rfl, ⟨e0, fr⟩, by rw [ht]; exact hP, hD⟩, hS.F ht⟩) hS.2.2 d_Rk_lastPrecedes_43
set_option maxHeartbeats 4000000 in
set_option maxRecDepth 100000 in
theorem wl_Rk_holds_2 {p : Program} {l : Launch} {e : Env} {s : State} {m : MethodId} {args : Array Value} {below : List Frame} {meth : Method} {c : Code} {D : va_G} {cI cG cZ : ClassId} {ad : Nat → Nat} {B : Nat} {w0 : va_W} {N : Nat} {k0 : Nat} (C0 : hw_C p s m meth c b_Rk_holds 3 args R_Rk (some .boolean)) (hK : va_K D classes [(cI, .int), (cG, .array .int), (cZ, .boolean)] s) (hN : hw_N s) (x0_0 : (Nat → Int32)) (x0_1 : (Nat → Int32)) (x0_2 : Int32) (x0_3 : Int32) (x0_4 : Int32) (a1 : Int32) (r : Int32) : ∀ (n : Nat) (v2 : Int32) (ws : va_W) (H : Heap) (locs : List Loc) (ls : Array Slot), va_P D classes ws H → va_D (fun q : Nat => B ≤ q) ws → va_S (fun q : Nat => B ≤ q) s.heap H locs → lv_has ls 3 [(2, .int v2), (0, .ref (ad k0)), (1, .int a1)] → ws[k0]? = some (ad k0, .inr (4, [.ref (ad (k0 + 1)), .ref (ad (k0 + 2)), .int x0_2, .int x0_3, .int x0_4])) → ws[k0 + 1]? = some (ad (k0 + 1), .inl (cI, 30, .inl x0_0)) → ws[k0 + 2]? = some (ad (k0 + 2), .inl (cI, 30, .inl x0_1)) → (ws = w0) → f_Rk_holds_2 N x0_0 x0_2 a1 n v2 = some r → W p l e ({ frames := 0, cells := 0, slots := 0, locals := 0 } : Room) s m args below meth c H locs 0 0 (MQ below (va_Qi (fun (r1 : Int32) (w1 : va_W) => r1 = r ∧ w1 = w0) (hw_B D B) (fun q : Nat => B ≤ q)) args s 0 0 (fun q : Nat => B ≤ q)) (F0 m 2 ls []) := by
  obtain ⟨hx, hb, hr, hml, hown, hts, hlocks⟩ := id C0
  intro n
  induction n with
  | zero =>
    intro v2 ws H locs ls hP hD hS hl mk0_0 mk0_1 mk0_2 fr hf
    exact nomatch (show none = some _ from hf)
  | succ n ih =>
    intro v2 ws H locs ls hP hD hS hl mk0_0 mk0_1 mk0_2 fr hf
    rw [f_Rk_holds_2] at hf
    refine lv_iload_n hx hb d_Rk_holds_2 rfl (lv_at hl 0 rfl) ?_
    refine lv_aload_n hx hb d_Rk_holds_3 rfl (lv_at hl 1 rfl) ?_
    refine va_get (D := D) (ci := 4) (v := .int x0_2) (C := R_Rk) (T := F_Rk) (N := 5) hx hb hts i_Rk hown hK hP (k0) mk0_0 rfl 2 (by decide) (hts _ iw_86) (fun _ h9 => h9) rfl d_Rk_holds_4 ?_
    refine lv_icmp_ge (tgt := 28) hx hb d_Rk_holds_7 (by decide) (fun c1 => ?_) (fun c1 => ?_)
    · rw [if_pos c1] at hf
      refine lv_iconst (v := 0) hx hb d_Rk_holds_28 (by decide) ?_
      have bk0_0 : wc_Rk cI cG cZ ad (k0) (x0_0, x0_1, x0_2, x0_3, x0_4) ws := ⟨mk0_0, mk0_1, mk0_2⟩
      have e0 := Option.some.inj hf
      exact W.zret (v := 0) hx hb hr (by decide) (fun t ht hW => ⟨⟨0, ws, rfl, ⟨e0, fr⟩, by rw [ht]; exact hP, hD⟩, hS.F ht⟩) hS.2.2 d_Rk_holds_29
    · rw [if_neg c1] at hf
      refine lv_aload_n hx hb d_Rk_holds_10 rfl (lv_at hl 1 rfl) ?_
      refine va_get (D := D) (ci := 4) (v := .ref (ad (k0 + 1))) (C := R_Rk) (T := F_Rk) (N := 5) hx hb hts i_Rk hown hK hP (k0) mk0_0 rfl 0 (by decide) (hts _ iw_84) (fun _ h9 => h9) rfl d_Rk_holds_11 ?_
      refine lv_iload_n hx hb d_Rk_holds_14 rfl (lv_at hl 0 rfl) ?_
      obtain ⟨z2, hf⟩ := g_atE hf
      refine va_iald hx hb hK hP (k0 + 1) 0 mk0_1 rfl z2 d_Rk_holds_15 ?_
      refine lv_iload_n hx hb d_Rk_holds_16 rfl (lv_at hl 2 rfl) ?_
      refine lv_icmp_ne (tgt := 22) hx hb d_Rk_holds_17 (by decide) (fun c3 => ?_) (fun c3 => ?_)
      · rw [if_neg c3] at hf
        refine lv_iinc (v := v2 + 1) (lv' := [(2, .int (v2 + 1)), (0, .ref (ad k0)), (1, .int a1)]) hx hb d_Rk_holds_22 hl (k := 0) rfl rfl (by decide) rfl (fun ls hl => ?_)
        refine lv_goto (tgt := 2) hx hb d_Rk_holds_25 (by decide) ?_
        exact ih (v2 + 1) _ _ _ _ hP hD hS (lv_sub hl [0, 1, 2] rfl) mk0_0 mk0_1 mk0_2 fr hf
      · rw [if_pos c3] at hf
        refine lv_iconst (v := 1) hx hb d_Rk_holds_20 (by decide) ?_
        have bk0_0 : wc_Rk cI cG cZ ad (k0) (x0_0, x0_1, x0_2, x0_3, x0_4) ws := ⟨mk0_0, mk0_1, mk0_2⟩
        have e0 := Option.some.inj hf
        exact W.zret (v := 1) hx hb hr (by decide) (fun t ht hW => ⟨⟨1, ws, rfl, ⟨e0, fr⟩, by rw [ht]; exact hP, hD⟩, hS.F ht⟩) hS.2.2 d_Rk_holds_21
set_option maxHeartbeats 4000000 in
set_option maxRecDepth 100000 in
theorem c_Rk_holds (l : Launch) (D : va_G) (cI cG cZ : ClassId) (ad : Nat → Nat) (B : Nat) (w0 : va_W) (N : Nat) (k0 : Nat) (x0_0 : (Nat → Int32)) (x0_1 : (Nat → Int32)) (x0_2 : Int32) (x0_3 : Int32) (x0_4 : Int32) (a1 : Int32) (r : Int32) (hf : f_Rk_holds N x0_0 x0_2 a1 = some r) (bk0_0 : wc_Rk cI cG cZ ad k0 (x0_0, x0_1, x0_2, x0_3, x0_4) w0) : Met l y_Rk_holds (.code y_Rk_holds b_Rk_holds 3 (some .boolean) :: hw_G) ({ frames := 0, cells := 0, slots := 0, locals := 0 } : Room) (va_Pc [.ref (ad k0), .int a1] (hw_U D cI cG cZ B w0)) (va_Qi (fun (r1 : Int32) (w1 : va_W) => r1 = r ∧ w1 = w0) (hw_B D B) (fun q : Nat => B ≤ q)) 0 0 (fun q : Nat => B ≤ q) := by
  refine Met.ofW (cc := b_Rk_holds) (maxL := 3) (ret := (some .boolean)) (by decide) rfl ?_
  intro p e s m args below meth c s₁ Bd hml hv
  obtain ⟨rfl, hP, hD, hK, hN⟩ := hv
  have C0 : hw_C p s m meth c b_Rk_holds 3 _ R_Rk (some .boolean) := ⟨Bd.exec, Bd.bytes, Bd.returns, hml, findClass_of_methodNamed Bd.named, fun w h => atoms_spec (ws := .code y_Rk_holds b_Rk_holds 3 (some .boolean) :: hw_G) Bd.pre w (List.mem_cons_of_mem _ h), Bd.notSynchronized⟩
  obtain ⟨hx, hb, hr, -, hown, hts, hlocks⟩ := id C0
  have hS : va_S (fun q : Nat => B ≤ q) s.heap s.heap [] := va_S.rf
  have fr : w0 = w0 := rfl
  have hl := lv_entry ([.ref (ad k0), .int a1]) (n := 3) (Nat.le_of_ble_eq_true rfl)
  rw [lg_entry_eq]
  generalize (lg_sl ([.ref (ad k0), .int a1]) ++ List.replicate (3 - (lg_sl ([.ref (ad k0), .int a1])).length) Slot.unset).toArray = ls at hl ⊢
  have hl : lv_has ls 3 [(0, .ref (ad k0)), (1, .int a1)] := hl
  unfold f_Rk_holds at hf
  obtain ⟨mk0_0, mk0_1, mk0_2⟩ := id bk0_0
  have mk0_0 : w0[k0]? = some (ad k0, .inr (4, [.ref (ad (k0 + 1)), .ref (ad (k0 + 2)), .int x0_2, .int x0_3, .int x0_4])) := mk0_0
  have mk0_1 : w0[k0 + 1]? = some (ad (k0 + 1), .inl (cI, 30, .inl x0_0)) := mk0_1
  have mk0_2 : w0[k0 + 2]? = some (ad (k0 + 2), .inl (cI, 30, .inl x0_1)) := mk0_2
  refine lv_iconst (v := 0) hx hb d_Rk_holds_0 (by decide) ?_
  refine lv_istore_n (lv' := [(2, .int 0), (0, .ref (ad k0)), (1, .int a1)]) hx hb d_Rk_holds_1 rfl hl (by decide) rfl (fun ls hl => ?_)
  exact wl_Rk_holds_2 C0 hK hN x0_0 x0_1 x0_2 x0_3 x0_4 a1 r N 0 _ _ _ _ hP hD hS (lv_sub hl [0, 1, 2] rfl) mk0_0 mk0_1 mk0_2 fr hf
end
section
set_option maxHeartbeats 4000000 in
set_option maxRecDepth 100000 in
theorem c_Do_store (l : Launch) (D : va_G) (cI cG cZ : ClassId) (ad : Nat → Nat) (B : Nat) (w0 : va_W) (N : Nat) (k0 : Nat) (x0_0 : (Nat → Nat → Int32)) (x0_1 : (Nat → Int32)) (x0_2 : (Nat → Int32)) (x0_3 : Int32) (a1 : Int32) (a2 : Int32) (a3 : Int32) (a4 : Int32) (a5 : Int32) (a6 : Int32) (y0_0 : (Nat → Nat → Int32)) (y0_1 : (Nat → Int32)) (y0_3 : Int32) (hf : f_Do_store N x0_0 x0_1 x0_3 a1 a2 a3 a4 a5 a6 = some (y0_0, y0_1, y0_3)) (bk0_0 : wc_Do cI cG cZ ad k0 (x0_0, x0_1, x0_2, x0_3) w0) : Met l y_Do_store (.code y_Do_store b_Do_store 7 none :: hw_G) ({ frames := 1, cells := 0, slots := 0, locals := 24 } : Room) (va_Pc [.ref (ad k0), .int a1, .int a2, .int a3, .int a4, .int a5, .int a6] (hw_U D cI cG cZ B w0)) (va_Qv (fun (w1 : va_W) => wc_Do cI cG cZ ad k0 (y0_0, y0_1, x0_2, y0_3) w1 ∧ (∀ j : Nat, (j < k0 ∨ k0 + 34 ≤ j) → w1[j]? = w0[j]?)) (hw_B D B) (fun q : Nat => B ≤ q)) 0 0 (fun q : Nat => B ≤ q) := by
  refine Met.ofW (cc := b_Do_store) (maxL := 7) (ret := none) (by decide) rfl ?_
  intro p e s m args below meth c s₁ Bd hml hv
  obtain ⟨rfl, hP, hD, hK, hN⟩ := hv
  have C0 : hw_C p s m meth c b_Do_store 7 _ R_Do none := ⟨Bd.exec, Bd.bytes, Bd.returns, hml, findClass_of_methodNamed Bd.named, fun w h => atoms_spec (ws := .code y_Do_store b_Do_store 7 none :: hw_G) Bd.pre w (List.mem_cons_of_mem _ h), Bd.notSynchronized⟩
  obtain ⟨hx, hb, hr, -, hown, hts, hlocks⟩ := id C0
  have hS : va_S (fun q : Nat => B ≤ q) s.heap s.heap [] := va_S.rf
  have fr : ∀ j : Nat, (j < k0 ∨ k0 + 34 ≤ j) → w0[j]? = w0[j]? := fun j _ => rfl
  have hl := lv_entry ([.ref (ad k0), .int a1, .int a2, .int a3, .int a4, .int a5, .int a6]) (n := 7) (Nat.le_of_ble_eq_true rfl)
  rw [lg_entry_eq]
  generalize (lg_sl ([.ref (ad k0), .int a1, .int a2, .int a3, .int a4, .int a5, .int a6]) ++ List.replicate (7 - (lg_sl ([.ref (ad k0), .int a1, .int a2, .int a3, .int a4, .int a5, .int a6])).length) Slot.unset).toArray = ls at hl ⊢
  have hl : lv_has ls 7 [(0, .ref (ad k0)), (1, .int a1), (2, .int a2), (3, .int a3), (4, .int a4), (5, .int a5), (6, .int a6)] := hl
  unfold f_Do_store at hf
  obtain ⟨mk0_0, gk0_1, mk0_32, mk0_33⟩ := id bk0_0
  have mk0_0 : w0[k0]? = some (ad k0, .inr (1, [.ref (ad (k0 + 1)), .ref (ad (k0 + 32)), .ref (ad (k0 + 33)), .int x0_3])) := mk0_0
  have gk0_1 : wc_grid cI cG ad (k0 + 1) 30 4 x0_0 w0 := gk0_1
  have mk0_32 : w0[k0 + 32]? = some (ad (k0 + 32), .inl (cI, 30, .inl x0_1)) := mk0_32
  have mk0_33 : w0[k0 + 33]? = some (ad (k0 + 33), .inl (cI, 8, .inl x0_2)) := mk0_33
  refine lv_aload_n hx hb d_Do_store_0 rfl (lv_at hl 0 rfl) ?_
  refine va_get (D := D) (ci := 1) (v := .ref (ad (k0 + 1))) (C := R_Do) (T := F_Do) (N := 4) hx hb hts i_Do hown hK hP (k0) mk0_0 rfl 0 (by decide) (hts _ iw_27) (fun _ h9 => h9) rfl d_Do_store_1 ?_
  refine lv_iload_n hx hb d_Do_store_4 rfl (lv_at hl 1 rfl) ?_
  obtain ⟨z1, hf⟩ := g_atE hf
  have lz1 := g_inLt z1
  refine hw_aald hx hb hK hP (k0 + 1) 1 gk0_1.1 rfl rfl z1 d_Do_store_5 rfl ?_
  refine lv_iload_n hx hb d_Do_store_6 rfl (lv_at hl 2 rfl) ?_
  refine lv_iload_n hx hb d_Do_store_7 rfl (lv_at hl 3 rfl) ?_
  refine lv_iload hx hb d_Do_store_8 (lv_at hl 4 rfl) ?_
  refine lv_iload hx hb d_Do_store_10 (lv_at hl 5 rfl) ?_
  obtain ⟨p2, hp2, hf⟩ := g_bd hf
  refine hw_cv (va_runSN (As := [.ref (ad (k0 + 1 + 1 + a1.toNatClampNeg)), .int a2, .int a3, .int a4, .int a5]) (rest := []) ⟨hx, hb, hml, hown, hts⟩ (c_Nd_writeVector l D cI cG cZ ad B w0 N (k0 + 1 + 1 + a1.toNatClampNeg) (x0_0 a1.toNatClampNeg) a2 a3 a4 a5 p2 hp2 (gk0_1.2 _ (g_inLt z1))) ⟨va_cnB 5 hts (hw_gc ic_Nd_writeVector) rfl rfl rfl (hN _ in_197) (hts _ iw_1) (by decide +kernel) ⟨Nat.le_of_ble_eq_true rfl, Nat.le_of_ble_eq_true rfl⟩, hts _ iw_198, trivial⟩ ⟨hw_blind, hw_go hP hD hK hN⟩ rfl rfl hl.1 rfl (lv_room (Nat.le_of_ble_eq_true rfl)) d_Do_store_12 ⟨Nat.zero_le _, Nat.zero_le _⟩) hS (fun w3 H locs hP hD hS hpp => ?_)
  obtain ⟨q0, frc⟩ := hpp
  have gk0_1 : wc_grid cI cG ad (k0 + 1) 30 4 (va_up x0_0 a1.toNatClampNeg p2) w3 := gk0_1.set (g_inLt z1) q0 (fun j hj => frc j (by omega))
  have mk0_0 : w3[k0]? = some (ad k0, .inr (1, [.ref (ad (k0 + 1)), .ref (ad (k0 + 32)), .ref (ad (k0 + 33)), .int x0_3])) := (frc _ (by omega)).trans mk0_0
  have mk0_32 : w3[k0 + 32]? = some (ad (k0 + 32), .inl (cI, 30, .inl x0_1)) := (frc _ (by omega)).trans mk0_32
  have mk0_33 : w3[k0 + 33]? = some (ad (k0 + 33), .inl (cI, 8, .inl x0_2)) := (frc _ (by omega)).trans mk0_33
  have fr : ∀ j : Nat, (j < k0 ∨ k0 + 34 ≤ j) → w3[j]? = w0[j]? := fun j o0 => (frc j (by omega)).trans (fr j o0)
  refine lv_aload_n hx hb d_Do_store_15 rfl (lv_at hl 0 rfl) ?_
  refine va_get (D := D) (ci := 1) (v := .ref (ad (k0 + 32))) (C := R_Do) (T := F_Do) (N := 4) hx hb hts i_Do hown hK hP (k0) mk0_0 rfl 1 (by decide) (hts _ iw_28) (fun _ h9 => h9) rfl d_Do_store_16 ?_
  refine lv_iload_n hx hb d_Do_store_19 rfl (lv_at hl 1 rfl) ?_
  refine lv_iload hx hb d_Do_store_20 (lv_at hl 6 rfl) ?_
  obtain ⟨z4, hf⟩ := g_atE hf
  refine va_iast hx hb hK hP hD hS (k0 + 32) 0 mk0_32 rfl z4 d_Do_store_22 (fun H locs hP hD hS => ?_)
  obtain ⟨w5, hP, hD, hne, heq⟩ := hs_up hP hD mk0_32
  have mk0_32 : w5[k0 + 32]? = some (ad (k0 + 32), .inl (cI, 30, .inl (upd x0_1 a1.toNatClampNeg a6))) := heq
  have mk0_0 : w5[k0]? = some (ad k0, .inr (1, [.ref (ad (k0 + 1)), .ref (ad (k0 + 32)), .ref (ad (k0 + 33)), .int x0_3])) := (hne _ (by omega)).trans mk0_0
  have gk0_1 : wc_grid cI cG ad (k0 + 1) 30 4 (va_up x0_0 a1.toNatClampNeg p2) w5 := gk0_1.fr (fun j h1 h2 => hne j (by omega))
  have mk0_33 : w5[k0 + 33]? = some (ad (k0 + 33), .inl (cI, 8, .inl x0_2)) := (hne _ (by omega)).trans mk0_33
  have fr : ∀ j : Nat, (j < k0 ∨ k0 + 34 ≤ j) → w5[j]? = w0[j]? := fun j o0 => (hne j (by omega)).trans (fr j o0)
  refine lv_aload_n hx hb d_Do_store_23 rfl (lv_at hl 0 rfl) ?_
  refine lv_dup hx hb d_Do_store_24 rfl ?_
  refine va_get (D := D) (ci := 1) (v := .int x0_3) (C := R_Do) (T := F_Do) (N := 4) hx hb hts i_Do hown hK hP (k0) mk0_0 rfl 3 (by decide) (hts _ iw_30) (fun _ h9 => h9) rfl d_Do_store_25 ?_
  refine lv_iconst (v := 1) hx hb d_Do_store_28 (by decide) ?_
  refine lv_iload_n hx hb d_Do_store_29 rfl (lv_at hl 1 rfl) ?_
  refine lv_ishl hx hb d_Do_store_30 ?_
  refine lv_ior hx hb d_Do_store_31 ?_
  refine va_put (D := D) (ci := 1) (v := .int (x0_3 ||| (1 <<< (a1 &&& 31)))) (ty := .int) (C := R_Do) (T := F_Do) (N := 4) hx hb hts i_Do t_Do t_Do_ok n_Do hown hK hP hD hS (k0) mk0_0 rfl 3 (by decide) (hts _ iw_30) (fun _ h9 => h9) rfl (by decide +kernel) rfl rfl (Nat.le_of_ble_eq_true rfl) d_Do_store_32 (fun H locs hP hD hS => ?_)
  obtain ⟨w6, hP, hD, hne, heq⟩ := hs_up hP hD mk0_0
  have mk0_0 : w6[k0]? = some (ad k0, .inr (1, [.ref (ad (k0 + 1)), .ref (ad (k0 + 32)), .ref (ad (k0 + 33)), .int (x0_3 ||| (1 <<< (a1 &&& 31)))])) := heq
  have gk0_1 : wc_grid cI cG ad (k0 + 1) 30 4 (va_up x0_0 a1.toNatClampNeg p2) w6 := gk0_1.fr (fun j h1 h2 => hne j (by omega))
  have mk0_32 : w6[k0 + 32]? = some (ad (k0 + 32), .inl (cI, 30, .inl (upd x0_1 a1.toNatClampNeg a6))) := (hne _ (by omega)).trans mk0_32
  have mk0_33 : w6[k0 + 33]? = some (ad (k0 + 33), .inl (cI, 8, .inl x0_2)) := (hne _ (by omega)).trans mk0_33
  have fr : ∀ j : Nat, (j < k0 ∨ k0 + 34 ≤ j) → w6[j]? = w0[j]? := fun j o0 => (hne j (by omega)).trans (fr j o0)
  have bk0_0 : wc_Do cI cG cZ ad (k0) (va_up x0_0 a1.toNatClampNeg p2, upd x0_1 a1.toNatClampNeg a6, x0_2, x0_3 ||| (1 <<< (a1 &&& 31))) w6 := ⟨mk0_0, gk0_1, mk0_32, mk0_33⟩
  have he := Option.some.inj hf
  obtain ⟨e0, he⟩ := Prod.mk.inj he
  obtain ⟨e1, e2⟩ := Prod.mk.inj he
  have f0 : wc_Do cI cG cZ ad (k0) (y0_0, y0_1, x0_2, y0_3) w6 := by rw [← e0, ← e1, ← e2]; exact bk0_0
  exact W.vret hx hb hr (fun t ht hW => ⟨⟨w6, rfl, ⟨f0, fr⟩, by rw [ht]; exact hP, hD⟩, hS.F ht⟩) hS.2.2 d_Do_store_35
set_option maxHeartbeats 4000000 in
set_option maxRecDepth 100000 in
theorem c_Do_vector (l : Launch) (D : va_G) (cI cG cZ : ClassId) (ad : Nat → Nat) (B : Nat) (w0 : va_W) (N : Nat) (k0 : Nat) (x0_0 : (Nat → Nat → Int32)) (x0_1 : (Nat → Int32)) (x0_2 : (Nat → Int32)) (x0_3 : Int32) (a1 : Int32) (hf : f_Do_vector N a1 = some ()) (bk0_0 : wc_Do cI cG cZ ad k0 (x0_0, x0_1, x0_2, x0_3) w0) : Met l y_Do_vector (.code y_Do_vector b_Do_vector 2 (some (.array .int)) :: hw_G) ({ frames := 0, cells := 0, slots := 0, locals := 0 } : Room) (va_Pc [.ref (ad k0), .int a1] (hw_U D cI cG cZ B w0)) (va_Qr (fun (w1 : va_W) => w1 = w0) (hw_Br D B (ad (k0 + 1 + 1 + a1.toNatClampNeg))) (fun q : Nat => B ≤ q)) 0 0 (fun q : Nat => B ≤ q) := by
  refine Met.ofW (cc := b_Do_vector) (maxL := 2) (ret := (some (.array .int))) (by decide) rfl ?_
  intro p e s m args below meth c s₁ Bd hml hv
  obtain ⟨rfl, hP, hD, hK, hN⟩ := hv
  have C0 : hw_C p s m meth c b_Do_vector 2 _ R_Do (some (.array .int)) := ⟨Bd.exec, Bd.bytes, Bd.returns, hml, findClass_of_methodNamed Bd.named, fun w h => atoms_spec (ws := .code y_Do_vector b_Do_vector 2 (some (.array .int)) :: hw_G) Bd.pre w (List.mem_cons_of_mem _ h), Bd.notSynchronized⟩
  obtain ⟨hx, hb, hr, -, hown, hts, hlocks⟩ := id C0
  have hS : va_S (fun q : Nat => B ≤ q) s.heap s.heap [] := va_S.rf
  have fr : w0 = w0 := rfl
  have hl := lv_entry ([.ref (ad k0), .int a1]) (n := 2) (Nat.le_of_ble_eq_true rfl)
  rw [lg_entry_eq]
  generalize (lg_sl ([.ref (ad k0), .int a1]) ++ List.replicate (2 - (lg_sl ([.ref (ad k0), .int a1])).length) Slot.unset).toArray = ls at hl ⊢
  have hl : lv_has ls 2 [(0, .ref (ad k0)), (1, .int a1)] := hl
  unfold f_Do_vector at hf
  obtain ⟨mk0_0, gk0_1, mk0_32, mk0_33⟩ := id bk0_0
  have mk0_0 : w0[k0]? = some (ad k0, .inr (1, [.ref (ad (k0 + 1)), .ref (ad (k0 + 32)), .ref (ad (k0 + 33)), .int x0_3])) := mk0_0
  have gk0_1 : wc_grid cI cG ad (k0 + 1) 30 4 x0_0 w0 := gk0_1
  have mk0_32 : w0[k0 + 32]? = some (ad (k0 + 32), .inl (cI, 30, .inl x0_1)) := mk0_32
  have mk0_33 : w0[k0 + 33]? = some (ad (k0 + 33), .inl (cI, 8, .inl x0_2)) := mk0_33
  refine lv_aload_n hx hb d_Do_vector_0 rfl (lv_at hl 0 rfl) ?_
  refine va_get (D := D) (ci := 1) (v := .ref (ad (k0 + 1))) (C := R_Do) (T := F_Do) (N := 4) hx hb hts i_Do hown hK hP (k0) mk0_0 rfl 0 (by decide) (hts _ iw_27) (fun _ h9 => h9) rfl d_Do_vector_1 ?_
  refine lv_iload_n hx hb d_Do_vector_4 rfl (lv_at hl 1 rfl) ?_
  obtain ⟨z1, hf⟩ := g_atE hf
  have lz1 := g_inLt z1
  refine hw_aald hx hb hK hP (k0 + 1) 1 gk0_1.1 rfl rfl z1 d_Do_vector_5 rfl ?_
  have bk0_0 : wc_Do cI cG cZ ad (k0) (x0_0, x0_1, x0_2, x0_3) w0 := ⟨mk0_0, gk0_1, mk0_32, mk0_33⟩
  exact W.aret hx hb hr (Or.inr ⟨_, rfl⟩) (Or.inr ⟨_, rfl⟩) (fun t ht hW => ⟨⟨w0, ad (k0 + 1 + 1 + a1.toNatClampNeg), rfl, fr, rfl, by rw [ht]; exact hP, hD⟩, hS.F ht⟩) hS.2.2 d_Do_vector_6
set_option maxHeartbeats 4000000 in
set_option maxRecDepth 100000 in
theorem wl_Do_measure_2 {p : Program} {l : Launch} {e : Env} {s : State} {m : MethodId} {args : Array Value} {below : List Frame} {meth : Method} {c : Code} {D : va_G} {cI cG cZ : ClassId} {ad : Nat → Nat} {B : Nat} {w0 : va_W} {N : Nat} {k0 : Nat} {k1 : Nat} {k2 : Nat} (C0 : hw_C p s m meth c b_Do_measure 4 args R_Do none) (hK : va_K D classes [(cI, .int), (cG, .array .int), (cZ, .boolean)] s) (hN : hw_N s) (dj0 : k0 + 34 ≤ k2 ∨ k2 + 1 ≤ k0) (dj1 : k1 + 1 ≤ k2 ∨ k2 + 1 ≤ k1) (x0_0 : (Nat → Nat → Int32)) (x0_1 : (Nat → Int32)) (x0_2 : (Nat → Int32)) (x0_3 : Int32) (x1_0 : (Nat → Int32)) (x2_0 : (Nat → Int32)) (y2_0 : (Nat → Int32)) : ∀ (n : Nat) (vak2_0 : (Nat → Int32)) (v3 : Int32) (ws : va_W) (H : Heap) (locs : List Loc) (ls : Array Slot), va_P D classes ws H → va_D (fun q : Nat => B ≤ q) ws → va_S (fun q : Nat => B ≤ q) s.heap H locs → lv_has ls 4 [(3, .int v3), (0, .ref (ad k0)), (1, .ref (ad k1)), (2, .ref (ad k2))] → ws[k0]? = some (ad k0, .inr (1, [.ref (ad (k0 + 1)), .ref (ad (k0 + 32)), .ref (ad (k0 + 33)), .int x0_3])) → wc_grid cI cG ad (k0 + 1) 30 4 x0_0 ws → ws[k0 + 32]? = some (ad (k0 + 32), .inl (cI, 30, .inl x0_1)) → ws[k0 + 33]? = some (ad (k0 + 33), .inl (cI, 8, .inl x0_2)) → ws[k1]? = some (ad k1, .inl (cI, 4, .inl x1_0)) → ws[k2]? = some (ad k2, .inl (cI, 30, .inl vak2_0)) → (∀ j : Nat, (j < k2 ∨ k2 + 1 ≤ j) → ws[j]? = w0[j]?) → f_Do_measure_2 N x0_0 x1_0 n vak2_0 v3 = some y2_0 → W p l e ({ frames := 1, cells := 0, slots := 0, locals := 24 } : Room) s m args below meth c H locs 0 0 (MQ below (va_Qv (fun (w1 : va_W) => w1[k2]? = some (ad k2, .inl (cI, 30, .inl y2_0)) ∧ (∀ j : Nat, (j < k2 ∨ k2 + 1 ≤ j) → w1[j]? = w0[j]?)) (hw_B D B) (fun q : Nat => B ≤ q)) args s 0 0 (fun q : Nat => B ≤ q)) (F0 m 2 ls []) := by
  obtain ⟨hx, hb, hr, hml, hown, hts, hlocks⟩ := id C0
  intro n
  induction n with
  | zero =>
    intro vak2_0 v3 ws H locs ls hP hD hS hl mk0_0 gk0_1 mk0_32 mk0_33 mk1_0 mk2_0 fr hf
    exact nomatch (show none = some _ from hf)
  | succ n ih =>
    intro vak2_0 v3 ws H locs ls hP hD hS hl mk0_0 gk0_1 mk0_32 mk0_33 mk1_0 mk2_0 fr hf
    rw [f_Do_measure_2] at hf
    refine lv_iload_n hx hb d_Do_measure_2 rfl (lv_at hl 0 rfl) ?_
    refine lv_bipush (v := 30) hx hb d_Do_measure_3 (by decide) ?_
    refine lv_icmp_ge (tgt := 27) hx hb d_Do_measure_5 (by decide) (fun c1 => ?_) (fun c1 => ?_)
    · rw [if_pos c1] at hf
      have bk0_0 : wc_Do cI cG cZ ad (k0) (x0_0, x0_1, x0_2, x0_3) ws := ⟨mk0_0, gk0_1, mk0_32, mk0_33⟩
      have e0 := Option.some.inj hf
      have f0 : ws[k2]? = some (ad k2, .inl (cI, 30, .inl y2_0)) := by rw [← e0]; exact mk2_0
      exact W.vret hx hb hr (fun t ht hW => ⟨⟨ws, rfl, ⟨f0, fr⟩, by rw [ht]; exact hP, hD⟩, hS.F ht⟩) hS.2.2 d_Do_measure_27
    · rw [if_neg c1] at hf
      refine lv_aload_n hx hb d_Do_measure_8 rfl (lv_at hl 3 rfl) ?_
      refine lv_iload_n hx hb d_Do_measure_9 rfl (lv_at hl 0 rfl) ?_
      refine lv_aload_n hx hb d_Do_measure_10 rfl (lv_at hl 2 rfl) ?_
      refine lv_aload_n hx hb d_Do_measure_11 rfl (lv_at hl 1 rfl) ?_
      refine va_get (D := D) (ci := 1) (v := .ref (ad (k0 + 1))) (C := R_Do) (T := F_Do) (N := 4) hx hb hts i_Do hown hK hP (k0) mk0_0 rfl 0 (by decide) (hts _ iw_27) (fun _ h9 => h9) rfl d_Do_measure_12 ?_
      refine lv_iload_n hx hb d_Do_measure_15 rfl (lv_at hl 0 rfl) ?_
      obtain ⟨z2, hf⟩ := g_atE hf
      have lz2 := g_inLt z2
      refine hw_aald hx hb hK hP (k0 + 1) 1 gk0_1.1 rfl rfl z2 d_Do_measure_16 rfl ?_
      obtain ⟨p3, hp3, hf⟩ := g_bd hf
      refine hw_ci0 (va_runSN (As := [.ref (ad k1), .ref (ad (k0 + 1 + 1 + v3.toNatClampNeg))]) (rest := [.int v3, .ref (ad k2)]) ⟨hx, hb, hml, hown, hts⟩ (c_Nd_distance l D cI cG cZ ad B ws N k1 x1_0 (k0 + 1 + 1 + v3.toNatClampNeg) (x0_0 v3.toNatClampNeg) p3 hp3 mk1_0 (gk0_1.2 _ (g_inLt z2))) ⟨va_cnB 2 hts (hw_gc ic_Nd_distance) rfl rfl rfl (hN _ in_227) (hts _ iw_1) (by decide +kernel) ⟨Nat.le_of_ble_eq_true rfl, Nat.le_of_ble_eq_true rfl⟩, hts _ iw_228, trivial⟩ ⟨hw_blind, hw_go hP hD hK hN⟩ rfl rfl hl.1 rfl (lv_room (Nat.le_of_ble_eq_true rfl)) d_Do_measure_17 ⟨Nat.zero_le _, Nat.zero_le _⟩) hS (fun H locs hP hD hS => ?_)
      obtain ⟨z4, hf⟩ := g_atE hf
      refine va_iast hx hb hK hP hD hS (k2) 0 mk2_0 rfl z4 d_Do_measure_20 (fun H locs hP hD hS => ?_)
      obtain ⟨w5, hP, hD, hne, heq⟩ := hs_up hP hD mk2_0
      have mk2_0 : w5[k2]? = some (ad k2, .inl (cI, 30, .inl (upd vak2_0 v3.toNatClampNeg p3))) := heq
      have mk1_0 : w5[k1]? = some (ad k1, .inl (cI, 4, .inl x1_0)) := (hne _ (by omega)).trans mk1_0
      have mk0_0 : w5[k0]? = some (ad k0, .inr (1, [.ref (ad (k0 + 1)), .ref (ad (k0 + 32)), .ref (ad (k0 + 33)), .int x0_3])) := (hne _ (by omega)).trans mk0_0
      have gk0_1 : wc_grid cI cG ad (k0 + 1) 30 4 x0_0 w5 := gk0_1.fr (fun j h1 h2 => hne j (by omega))
      have mk0_32 : w5[k0 + 32]? = some (ad (k0 + 32), .inl (cI, 30, .inl x0_1)) := (hne _ (by omega)).trans mk0_32
      have mk0_33 : w5[k0 + 33]? = some (ad (k0 + 33), .inl (cI, 8, .inl x0_2)) := (hne _ (by omega)).trans mk0_33
      have fr : ∀ j : Nat, (j < k2 ∨ k2 + 1 ≤ j) → w5[j]? = w0[j]? := fun j o0 => (hne j (by omega)).trans (fr j o0)
      refine lv_iinc (v := v3 + 1) (lv' := [(3, .int (v3 + 1)), (0, .ref (ad k0)), (1, .ref (ad k1)), (2, .ref (ad k2))]) hx hb d_Do_measure_21 hl (k := 0) rfl rfl (by decide) rfl (fun ls hl => ?_)
      refine lv_goto (tgt := 2) hx hb d_Do_measure_24 (by decide) ?_
      exact ih (upd vak2_0 v3.toNatClampNeg p3) (v3 + 1) _ _ _ _ hP hD hS (lv_sub hl [0, 1, 2, 3] rfl) mk0_0 gk0_1 mk0_32 mk0_33 mk1_0 mk2_0 fr hf
set_option maxHeartbeats 4000000 in
set_option maxRecDepth 100000 in
theorem c_Do_measure (l : Launch) (D : va_G) (cI cG cZ : ClassId) (ad : Nat → Nat) (B : Nat) (w0 : va_W) (N : Nat) (k0 : Nat) (x0_0 : (Nat → Nat → Int32)) (x0_1 : (Nat → Int32)) (x0_2 : (Nat → Int32)) (x0_3 : Int32) (k1 : Nat) (x1_0 : (Nat → Int32)) (k2 : Nat) (x2_0 : (Nat → Int32)) (y2_0 : (Nat → Int32)) (hf : f_Do_measure N x0_0 x1_0 x2_0 = some y2_0) (bk0_0 : wc_Do cI cG cZ ad k0 (x0_0, x0_1, x0_2, x0_3) w0) (mk1_0 : w0[k1]? = some (ad k1, .inl (cI, 4, .inl x1_0))) (mk2_0 : w0[k2]? = some (ad k2, .inl (cI, 30, .inl x2_0))) (dj0 : k0 + 34 ≤ k2 ∨ k2 + 1 ≤ k0) (dj1 : k1 + 1 ≤ k2 ∨ k2 + 1 ≤ k1) : Met l y_Do_measure (.code y_Do_measure b_Do_measure 4 none :: hw_G) ({ frames := 1, cells := 0, slots := 0, locals := 24 } : Room) (va_Pc [.ref (ad k0), .ref (ad k1), .ref (ad k2)] (hw_U D cI cG cZ B w0)) (va_Qv (fun (w1 : va_W) => w1[k2]? = some (ad k2, .inl (cI, 30, .inl y2_0)) ∧ (∀ j : Nat, (j < k2 ∨ k2 + 1 ≤ j) → w1[j]? = w0[j]?)) (hw_B D B) (fun q : Nat => B ≤ q)) 0 0 (fun q : Nat => B ≤ q) := by
  refine Met.ofW (cc := b_Do_measure) (maxL := 4) (ret := none) (by decide) rfl ?_
  intro p e s m args below meth c s₁ Bd hml hv
  obtain ⟨rfl, hP, hD, hK, hN⟩ := hv
  have C0 : hw_C p s m meth c b_Do_measure 4 _ R_Do none := ⟨Bd.exec, Bd.bytes, Bd.returns, hml, findClass_of_methodNamed Bd.named, fun w h => atoms_spec (ws := .code y_Do_measure b_Do_measure 4 none :: hw_G) Bd.pre w (List.mem_cons_of_mem _ h), Bd.notSynchronized⟩
  obtain ⟨hx, hb, hr, -, hown, hts, hlocks⟩ := id C0
  have hS : va_S (fun q : Nat => B ≤ q) s.heap s.heap [] := va_S.rf
  have fr : ∀ j : Nat, (j < k2 ∨ k2 + 1 ≤ j) → w0[j]? = w0[j]? := fun j _ => rfl
  have hl := lv_entry ([.ref (ad k0), .ref (ad k1), .ref (ad k2)]) (n := 4) (Nat.le_of_ble_eq_true rfl)
  rw [lg_entry_eq]
  generalize (lg_sl ([.ref (ad k0), .ref (ad k1), .ref (ad k2)]) ++ List.replicate (4 - (lg_sl ([.ref (ad k0), .ref (ad k1), .ref (ad k2)])).length) Slot.unset).toArray = ls at hl ⊢
  have hl : lv_has ls 4 [(0, .ref (ad k0)), (1, .ref (ad k1)), (2, .ref (ad k2))] := hl
  unfold f_Do_measure at hf
  obtain ⟨mk0_0, gk0_1, mk0_32, mk0_33⟩ := id bk0_0
  have mk0_0 : w0[k0]? = some (ad k0, .inr (1, [.ref (ad (k0 + 1)), .ref (ad (k0 + 32)), .ref (ad (k0 + 33)), .int x0_3])) := mk0_0
  have gk0_1 : wc_grid cI cG ad (k0 + 1) 30 4 x0_0 w0 := gk0_1
  have mk0_32 : w0[k0 + 32]? = some (ad (k0 + 32), .inl (cI, 30, .inl x0_1)) := mk0_32
  have mk0_33 : w0[k0 + 33]? = some (ad (k0 + 33), .inl (cI, 8, .inl x0_2)) := mk0_33
  refine lv_iconst (v := 0) hx hb d_Do_measure_0 (by decide) ?_
  refine lv_istore_n (lv' := [(3, .int 0), (0, .ref (ad k0)), (1, .ref (ad k1)), (2, .ref (ad k2))]) hx hb d_Do_measure_1 rfl hl (by decide) rfl (fun ls hl => ?_)
  exact wl_Do_measure_2 C0 hK hN dj0 dj1 x0_0 x0_1 x0_2 x0_3 x1_0 x2_0 y2_0 N x2_0 0 _ _ _ _ hP hD hS (lv_sub hl [0, 1, 2, 3] rfl) mk0_0 gk0_1 mk0_32 mk0_33 mk1_0 mk2_0 fr hf
set_option maxHeartbeats 4000000 in
set_option maxRecDepth 100000 in
theorem c_Do_isLive (l : Launch) (D : va_G) (cI cG cZ : ClassId) (ad : Nat → Nat) (B : Nat) (w0 : va_W) (N : Nat) (k0 : Nat) (x0_0 : (Nat → Nat → Int32)) (x0_1 : (Nat → Int32)) (x0_2 : (Nat → Int32)) (x0_3 : Int32) (a1 : Int32) (r : Int32) (hf : f_Do_isLive N x0_3 a1 = some r) (bk0_0 : wc_Do cI cG cZ ad k0 (x0_0, x0_1, x0_2, x0_3) w0) : Met l y_Do_isLive (.code y_Do_isLive b_Do_isLive 2 (some .boolean) :: hw_G) ({ frames := 2, cells := 0, slots := 0, locals := 42 } : Room) (va_Pc [.ref (ad k0), .int a1] (hw_U D cI cG cZ B w0)) (va_Qi (fun (r1 : Int32) (w1 : va_W) => r1 = r ∧ w1 = w0) (hw_B D B) (fun q : Nat => B ≤ q)) 0 0 (fun q : Nat => B ≤ q) := by
  refine Met.ofW (cc := b_Do_isLive) (maxL := 2) (ret := (some .boolean)) (by decide) rfl ?_
  intro p e s m args below meth c s₁ Bd hml hv
  obtain ⟨rfl, hP, hD, hK, hN⟩ := hv
  have C0 : hw_C p s m meth c b_Do_isLive 2 _ R_Do (some .boolean) := ⟨Bd.exec, Bd.bytes, Bd.returns, hml, findClass_of_methodNamed Bd.named, fun w h => atoms_spec (ws := .code y_Do_isLive b_Do_isLive 2 (some .boolean) :: hw_G) Bd.pre w (List.mem_cons_of_mem _ h), Bd.notSynchronized⟩
  obtain ⟨hx, hb, hr, -, hown, hts, hlocks⟩ := id C0
  have hS : va_S (fun q : Nat => B ≤ q) s.heap s.heap [] := va_S.rf
  have fr : w0 = w0 := rfl
  have hl := lv_entry ([.ref (ad k0), .int a1]) (n := 2) (Nat.le_of_ble_eq_true rfl)
  rw [lg_entry_eq]
  generalize (lg_sl ([.ref (ad k0), .int a1]) ++ List.replicate (2 - (lg_sl ([.ref (ad k0), .int a1])).length) Slot.unset).toArray = ls at hl ⊢
  have hl : lv_has ls 2 [(0, .ref (ad k0)), (1, .int a1)] := hl
  unfold f_Do_isLive at hf
  obtain ⟨mk0_0, gk0_1, mk0_32, mk0_33⟩ := id bk0_0
  have mk0_0 : w0[k0]? = some (ad k0, .inr (1, [.ref (ad (k0 + 1)), .ref (ad (k0 + 32)), .ref (ad (k0 + 33)), .int x0_3])) := mk0_0
  have gk0_1 : wc_grid cI cG ad (k0 + 1) 30 4 x0_0 w0 := gk0_1
  have mk0_32 : w0[k0 + 32]? = some (ad (k0 + 32), .inl (cI, 30, .inl x0_1)) := mk0_32
  have mk0_33 : w0[k0 + 33]? = some (ad (k0 + 33), .inl (cI, 8, .inl x0_2)) := mk0_33
  refine lv_iload_n hx hb d_Do_isLive_0 rfl (lv_at hl 1 rfl) ?_
  obtain ⟨p1, hp1, hf⟩ := g_bd hf
  refine hw_ci0 (va_runSN (As := [.int a1]) (rest := []) ⟨hx, hb, hml, hown, hts⟩ (c_Nd_isDocumentNumber l D cI cG cZ ad B w0 N a1 p1 hp1) ⟨va_cnB 1 hts (hw_gc ic_Nd_isDocumentNumber) rfl rfl rfl (hN _ in_378) (hts _ iw_1) (by decide +kernel) ⟨Nat.le_of_ble_eq_true rfl, Nat.le_of_ble_eq_true rfl⟩, hts _ iw_379, trivial⟩ ⟨hw_blind, hw_go hP hD hK hN⟩ rfl rfl hl.1 rfl (lv_room (Nat.le_of_ble_eq_true rfl)) d_Do_isLive_1 ⟨Nat.zero_le _, Nat.zero_le _⟩) hS (fun H locs hP hD hS => ?_)
  refine lv_if_eq (tgt := 22) hx hb d_Do_isLive_4 (by decide) (fun c2 => ?_) (fun c2 => ?_)
  · rw [if_pos c2] at hf
    refine lv_iconst (v := 0) hx hb d_Do_isLive_22 (by decide) ?_
    have bk0_0 : wc_Do cI cG cZ ad (k0) (x0_0, x0_1, x0_2, x0_3) w0 := ⟨mk0_0, gk0_1, mk0_32, mk0_33⟩
    have e0 := Option.some.inj hf
    exact W.zret (v := 0) hx hb hr (by decide) (fun t ht hW => ⟨⟨0, w0, rfl, ⟨e0, fr⟩, by rw [ht]; exact hP, hD⟩, hS.F ht⟩) hS.2.2 d_Do_isLive_23
  · rw [if_neg c2] at hf
    refine lv_aload_n hx hb d_Do_isLive_7 rfl (lv_at hl 0 rfl) ?_
    refine va_get (D := D) (ci := 1) (v := .int x0_3) (C := R_Do) (T := F_Do) (N := 4) hx hb hts i_Do hown hK hP (k0) mk0_0 rfl 3 (by decide) (hts _ iw_30) (fun _ h9 => h9) rfl d_Do_isLive_8 ?_
    refine lv_iload_n hx hb d_Do_isLive_11 rfl (lv_at hl 1 rfl) ?_
    obtain ⟨p3, hp3, hf⟩ := g_bd hf
    refine hw_ci0 (va_runSN (As := [.int x0_3, .int a1]) (rest := []) ⟨hx, hb, hml, hown, hts⟩ (c_Nd_isIn l D cI cG cZ ad B w0 N x0_3 a1 p3 hp3) ⟨va_cnB 2 hts (hw_gc ic_Nd_isIn) rfl rfl rfl (hN _ in_381) (hts _ iw_1) (by decide +kernel) ⟨Nat.le_of_ble_eq_true rfl, Nat.le_of_ble_eq_true rfl⟩, hts _ iw_302, trivial⟩ ⟨hw_blind, hw_go hP hD hK hN⟩ rfl rfl hl.1 rfl (lv_room (Nat.le_of_ble_eq_true rfl)) d_Do_isLive_12 ⟨Nat.zero_le _, Nat.zero_le _⟩) hS (fun H locs hP hD hS => ?_)
    refine lv_if_eq (tgt := 22) hx hb d_Do_isLive_15 (by decide) (fun c4 => ?_) (fun c4 => ?_)
    · rw [if_pos c4] at hf
      refine lv_iconst (v := 0) hx hb d_Do_isLive_22 (by decide) ?_
      have bk0_0 : wc_Do cI cG cZ ad (k0) (x0_0, x0_1, x0_2, x0_3) w0 := ⟨mk0_0, gk0_1, mk0_32, mk0_33⟩
      have e0 := Option.some.inj hf
      exact W.zret (v := 0) hx hb hr (by decide) (fun t ht hW => ⟨⟨0, w0, rfl, ⟨e0, fr⟩, by rw [ht]; exact hP, hD⟩, hS.F ht⟩) hS.2.2 d_Do_isLive_23
    · rw [if_neg c4] at hf
      refine lv_iconst (v := 1) hx hb d_Do_isLive_18 (by decide) ?_
      refine lv_goto (tgt := 23) hx hb d_Do_isLive_19 (by decide) ?_
      have bk0_0 : wc_Do cI cG cZ ad (k0) (x0_0, x0_1, x0_2, x0_3) w0 := ⟨mk0_0, gk0_1, mk0_32, mk0_33⟩
      have e0 := Option.some.inj hf
      exact W.zret (v := 1) hx hb hr (by decide) (fun t ht hW => ⟨⟨1, w0, rfl, ⟨e0, fr⟩, by rw [ht]; exact hP, hD⟩, hS.F ht⟩) hS.2.2 d_Do_isLive_23
set_option maxHeartbeats 4000000 in
set_option maxRecDepth 100000 in
theorem c_Do_retire (l : Launch) (D : va_G) (cI cG cZ : ClassId) (ad : Nat → Nat) (B : Nat) (w0 : va_W) (N : Nat) (k0 : Nat) (x0_0 : (Nat → Nat → Int32)) (x0_1 : (Nat → Int32)) (x0_2 : (Nat → Int32)) (x0_3 : Int32) (a1 : Int32) (r : Int32) (y0_3 : Int32) (hf : f_Do_retire N x0_3 a1 = some (r, y0_3)) (bk0_0 : wc_Do cI cG cZ ad k0 (x0_0, x0_1, x0_2, x0_3) w0) : Met l y_Do_retire (.code y_Do_retire b_Do_retire 2 (some .boolean) :: hw_G) ({ frames := 3, cells := 0, slots := 0, locals := 63 } : Room) (va_Pc [.ref (ad k0), .int a1] (hw_U D cI cG cZ B w0)) (va_Qi (fun (r1 : Int32) (w1 : va_W) => r1 = r ∧ wc_Do cI cG cZ ad k0 (x0_0, x0_1, x0_2, y0_3) w1 ∧ (∀ j : Nat, (j < k0 ∨ k0 + 34 ≤ j) → w1[j]? = w0[j]?)) (hw_B D B) (fun q : Nat => B ≤ q)) 0 0 (fun q : Nat => B ≤ q) := by
  refine Met.ofW (cc := b_Do_retire) (maxL := 2) (ret := (some .boolean)) (by decide) rfl ?_
  intro p e s m args below meth c s₁ Bd hml hv
  obtain ⟨rfl, hP, hD, hK, hN⟩ := hv
  have C0 : hw_C p s m meth c b_Do_retire 2 _ R_Do (some .boolean) := ⟨Bd.exec, Bd.bytes, Bd.returns, hml, findClass_of_methodNamed Bd.named, fun w h => atoms_spec (ws := .code y_Do_retire b_Do_retire 2 (some .boolean) :: hw_G) Bd.pre w (List.mem_cons_of_mem _ h), Bd.notSynchronized⟩
  obtain ⟨hx, hb, hr, -, hown, hts, hlocks⟩ := id C0
  have hS : va_S (fun q : Nat => B ≤ q) s.heap s.heap [] := va_S.rf
  have fr : ∀ j : Nat, (j < k0 ∨ k0 + 34 ≤ j) → w0[j]? = w0[j]? := fun j _ => rfl
  have hl := lv_entry ([.ref (ad k0), .int a1]) (n := 2) (Nat.le_of_ble_eq_true rfl)
  rw [lg_entry_eq]
  generalize (lg_sl ([.ref (ad k0), .int a1]) ++ List.replicate (2 - (lg_sl ([.ref (ad k0), .int a1])).length) Slot.unset).toArray = ls at hl ⊢
  have hl : lv_has ls 2 [(0, .ref (ad k0)), (1, .int a1)] := hl
  unfold f_Do_retire at hf
  obtain ⟨mk0_0, gk0_1, mk0_32, mk0_33⟩ := id bk0_0
  have mk0_0 : w0[k0]? = some (ad k0, .inr (1, [.ref (ad (k0 + 1)), .ref (ad (k0 + 32)), .ref (ad (k0 + 33)), .int x0_3])) := mk0_0
  have gk0_1 : wc_grid cI cG ad (k0 + 1) 30 4 x0_0 w0 := gk0_1
  have mk0_32 : w0[k0 + 32]? = some (ad (k0 + 32), .inl (cI, 30, .inl x0_1)) := mk0_32
  have mk0_33 : w0[k0 + 33]? = some (ad (k0 + 33), .inl (cI, 8, .inl x0_2)) := mk0_33
  refine lv_aload_n hx hb d_Do_retire_0 rfl (lv_at hl 0 rfl) ?_
  refine lv_iload_n hx hb d_Do_retire_1 rfl (lv_at hl 1 rfl) ?_
  have bk0_0 : wc_Do cI cG cZ ad (k0) (x0_0, x0_1, x0_2, x0_3) w0 := ⟨mk0_0, gk0_1, mk0_32, mk0_33⟩
  obtain ⟨p1, hp1, hf⟩ := g_bd hf
  refine hw_ci0 (va_runV (As := [.int a1]) (rest := []) ⟨hx, hb, hml, hown, hts⟩ (c_Do_isLive l D cI cG cZ ad B w0 N k0 x0_0 x0_1 x0_2 x0_3 a1 p1 hp1 bk0_0) (cwV 1 hts (hw_gV iw_374 gy_Do_isLive) rfl rfl rfl (by decide +kernel) ⟨Nat.le_of_ble_eq_true rfl, Nat.le_of_ble_eq_true rfl⟩) ⟨hw_blind, va_recv hK hP (ci := 1) (q0 := k0) rfl bk0_0.1, hw_go hP hD hK hN⟩ rfl rfl hl.1 rfl (lv_room (Nat.le_of_ble_eq_true rfl)) d_Do_retire_2 ⟨Nat.zero_le _, Nat.zero_le _⟩) hS (fun H locs hP hD hS => ?_)
  refine lv_if_ne (tgt := 10) hx hb d_Do_retire_5 (by decide) (fun c2 => ?_) (fun c2 => ?_)
  · rw [if_neg c2] at hf
    refine lv_aload_n hx hb d_Do_retire_10 rfl (lv_at hl 0 rfl) ?_
    refine lv_dup hx hb d_Do_retire_11 rfl ?_
    obtain ⟨mk0_0, gk0_1, mk0_32, mk0_33⟩ := id bk0_0
    have mk0_0 : w0[k0]? = some (ad k0, .inr (1, [.ref (ad (k0 + 1)), .ref (ad (k0 + 32)), .ref (ad (k0 + 33)), .int x0_3])) := mk0_0
    have gk0_1 : wc_grid cI cG ad (k0 + 1) 30 4 x0_0 w0 := gk0_1
    have mk0_32 : w0[k0 + 32]? = some (ad (k0 + 32), .inl (cI, 30, .inl x0_1)) := mk0_32
    have mk0_33 : w0[k0 + 33]? = some (ad (k0 + 33), .inl (cI, 8, .inl x0_2)) := mk0_33
    refine va_get (D := D) (ci := 1) (v := .int x0_3) (C := R_Do) (T := F_Do) (N := 4) hx hb hts i_Do hown hK hP (k0) mk0_0 rfl 3 (by decide) (hts _ iw_30) (fun _ h9 => h9) rfl d_Do_retire_12 ?_
    refine lv_iconst (v := 1) hx hb d_Do_retire_15 (by decide) ?_
    refine lv_iload_n hx hb d_Do_retire_16 rfl (lv_at hl 1 rfl) ?_
    refine lv_ishl hx hb d_Do_retire_17 ?_
    refine lv_iconst (v := (-1)) hx hb d_Do_retire_18 (by decide) ?_
    refine lv_ixor hx hb d_Do_retire_19 ?_
    refine lv_iand hx hb d_Do_retire_20 ?_
    refine va_put (D := D) (ci := 1) (v := .int (x0_3 &&& ((1 <<< (a1 &&& 31)) ^^^ (-1)))) (ty := .int) (C := R_Do) (T := F_Do) (N := 4) hx hb hts i_Do t_Do t_Do_ok n_Do hown hK hP hD hS (k0) mk0_0 rfl 3 (by decide) (hts _ iw_30) (fun _ h9 => h9) rfl (by decide +kernel) rfl rfl (Nat.le_of_ble_eq_true rfl) d_Do_retire_21 (fun H locs hP hD hS => ?_)
    obtain ⟨w3, hP, hD, hne, heq⟩ := hs_up hP hD mk0_0
    have mk0_0 : w3[k0]? = some (ad k0, .inr (1, [.ref (ad (k0 + 1)), .ref (ad (k0 + 32)), .ref (ad (k0 + 33)), .int (x0_3 &&& ((1 <<< (a1 &&& 31)) ^^^ (-1)))])) := heq
    have gk0_1 : wc_grid cI cG ad (k0 + 1) 30 4 x0_0 w3 := gk0_1.fr (fun j h1 h2 => hne j (by omega))
    have mk0_32 : w3[k0 + 32]? = some (ad (k0 + 32), .inl (cI, 30, .inl x0_1)) := (hne _ (by omega)).trans mk0_32
    have mk0_33 : w3[k0 + 33]? = some (ad (k0 + 33), .inl (cI, 8, .inl x0_2)) := (hne _ (by omega)).trans mk0_33
    have fr : ∀ j : Nat, (j < k0 ∨ k0 + 34 ≤ j) → w3[j]? = w0[j]? := fun j o0 => (hne j (by omega)).trans (fr j o0)
    refine lv_iconst (v := 1) hx hb d_Do_retire_24 (by decide) ?_
    have bk0_0 : wc_Do cI cG cZ ad (k0) (x0_0, x0_1, x0_2, x0_3 &&& ((1 <<< (a1 &&& 31)) ^^^ (-1))) w3 := ⟨mk0_0, gk0_1, mk0_32, mk0_33⟩
    have he := Option.some.inj hf
    obtain ⟨e0, e1⟩ := Prod.mk.inj he
    have f0 : wc_Do cI cG cZ ad (k0) (x0_0, x0_1, x0_2, y0_3) w3 := by rw [← e1]; exact bk0_0
    exact W.zret (v := 1) hx hb hr (by decide) (fun t ht hW => ⟨⟨1, w3, rfl, ⟨e0, ⟨f0, fr⟩⟩, by rw [ht]; exact hP, hD⟩, hS.F ht⟩) hS.2.2 d_Do_retire_25
  · rw [if_pos c2] at hf
    refine lv_iconst (v := 0) hx hb d_Do_retire_8 (by decide) ?_
    have he := Option.some.inj hf
    obtain ⟨e0, e1⟩ := Prod.mk.inj he
    have f0 : wc_Do cI cG cZ ad (k0) (x0_0, x0_1, x0_2, y0_3) w0 := by rw [← e1]; exact bk0_0
    exact W.zret (v := 0) hx hb hr (by decide) (fun t ht hW => ⟨⟨0, w0, rfl, ⟨e0, ⟨f0, fr⟩⟩, by rw [ht]; exact hP, hD⟩, hS.F ht⟩) hS.2.2 d_Do_retire_9
set_option maxHeartbeats 4000000 in
set_option maxRecDepth 100000 in
theorem c_Do_liveCount (l : Launch) (D : va_G) (cI cG cZ : ClassId) (ad : Nat → Nat) (B : Nat) (w0 : va_W) (N : Nat) (k0 : Nat) (x0_0 : (Nat → Nat → Int32)) (x0_1 : (Nat → Int32)) (x0_2 : (Nat → Int32)) (x0_3 : Int32) (r : Int32) (hf : f_Do_liveCount N x0_3 = some r) (bk0_0 : wc_Do cI cG cZ ad k0 (x0_0, x0_1, x0_2, x0_3) w0) : Met l y_Do_liveCount (.code y_Do_liveCount b_Do_liveCount 1 (some .int) :: hw_G) ({ frames := 1, cells := 0, slots := 0, locals := 20 } : Room) (va_Pc [.ref (ad k0)] (hw_U D cI cG cZ B w0)) (va_Qi (fun (r1 : Int32) (w1 : va_W) => r1 = r ∧ w1 = w0) (hw_B D B) (fun q : Nat => B ≤ q)) 0 0 (fun q : Nat => B ≤ q) := by
  refine Met.ofW (cc := b_Do_liveCount) (maxL := 1) (ret := (some .int)) (by decide) rfl ?_
  intro p e s m args below meth c s₁ Bd hml hv
  obtain ⟨rfl, hP, hD, hK, hN⟩ := hv
  have C0 : hw_C p s m meth c b_Do_liveCount 1 _ R_Do (some .int) := ⟨Bd.exec, Bd.bytes, Bd.returns, hml, findClass_of_methodNamed Bd.named, fun w h => atoms_spec (ws := .code y_Do_liveCount b_Do_liveCount 1 (some .int) :: hw_G) Bd.pre w (List.mem_cons_of_mem _ h), Bd.notSynchronized⟩
  obtain ⟨hx, hb, hr, -, hown, hts, hlocks⟩ := id C0
  have hS : va_S (fun q : Nat => B ≤ q) s.heap s.heap [] := va_S.rf
  have fr : w0 = w0 := rfl
  have hl := lv_entry ([.ref (ad k0)]) (n := 1) (Nat.le_of_ble_eq_true rfl)
  rw [lg_entry_eq]
  generalize (lg_sl ([.ref (ad k0)]) ++ List.replicate (1 - (lg_sl ([.ref (ad k0)])).length) Slot.unset).toArray = ls at hl ⊢
  have hl : lv_has ls 1 [(0, .ref (ad k0))] := hl
  unfold f_Do_liveCount at hf
  obtain ⟨mk0_0, gk0_1, mk0_32, mk0_33⟩ := id bk0_0
  have mk0_0 : w0[k0]? = some (ad k0, .inr (1, [.ref (ad (k0 + 1)), .ref (ad (k0 + 32)), .ref (ad (k0 + 33)), .int x0_3])) := mk0_0
  have gk0_1 : wc_grid cI cG ad (k0 + 1) 30 4 x0_0 w0 := gk0_1
  have mk0_32 : w0[k0 + 32]? = some (ad (k0 + 32), .inl (cI, 30, .inl x0_1)) := mk0_32
  have mk0_33 : w0[k0 + 33]? = some (ad (k0 + 33), .inl (cI, 8, .inl x0_2)) := mk0_33
  refine lv_aload_n hx hb d_Do_liveCount_0 rfl (lv_at hl 0 rfl) ?_
  refine va_get (D := D) (ci := 1) (v := .int x0_3) (C := R_Do) (T := F_Do) (N := 4) hx hb hts i_Do hown hK hP (k0) mk0_0 rfl 3 (by decide) (hts _ iw_30) (fun _ h9 => h9) rfl d_Do_liveCount_1 ?_
  obtain ⟨p1, hp1, hf⟩ := g_bd hf
  refine hw_ci0 (va_runS (As := [.int x0_3]) (rest := []) ⟨hx, hb, hml, hown, hts⟩ (c_In_bitCount l D cI cG cZ ad B w0 N x0_3 p1 hp1) (va_cwS 1 hts (hw_gS iw_394 gs_In_bitCount) rfl rfl rfl (by decide +kernel) ⟨Nat.le_of_ble_eq_true rfl, Nat.le_of_ble_eq_true rfl⟩) ⟨hw_blind, hw_go hP hD hK hN⟩ rfl rfl hl.1 rfl (lv_room (Nat.le_of_ble_eq_true rfl)) d_Do_liveCount_4 ⟨Nat.zero_le _, Nat.zero_le _⟩) hS (fun H locs hP hD hS => ?_)
  have bk0_0 : wc_Do cI cG cZ ad (k0) (x0_0, x0_1, x0_2, x0_3) w0 := ⟨mk0_0, gk0_1, mk0_32, mk0_33⟩
  have e0 := Option.some.inj hf
  exact W.iret (v := p1) hx hb hr (fun t ht hW => ⟨⟨p1, w0, rfl, ⟨e0, fr⟩, by rw [ht]; exact hP, hD⟩, hS.F ht⟩) hS.2.2 d_Do_liveCount_7
set_option maxHeartbeats 4000000 in
set_option maxRecDepth 100000 in
theorem wl_Do_rankByDistance_2 {p : Program} {l : Launch} {e : Env} {s : State} {m : MethodId} {args : Array Value} {below : List Frame} {meth : Method} {c : Code} {D : va_G} {cI cG cZ : ClassId} {ad : Nat → Nat} {B : Nat} {w0 : va_W} {N : Nat} {k0 : Nat} {k1 : Nat} {k2 : Nat} (C0 : hw_C p s m meth c b_Do_rankByDistance 4 args R_Do none) (hK : va_K D classes [(cI, .int), (cG, .array .int), (cZ, .boolean)] s) (hN : hw_N s) (dj0 : k0 + 34 ≤ k2 ∨ k2 + 3 ≤ k0) (dj1 : k1 + 1 ≤ k2 ∨ k2 + 3 ≤ k1) (x0_0 : (Nat → Nat → Int32)) (x0_1 : (Nat → Int32)) (x0_2 : (Nat → Int32)) (x0_3 : Int32) (x1_0 : (Nat → Int32)) (x2_0 : (Nat → Int32)) (x2_1 : (Nat → Int32)) (x2_2 : Int32) (x2_3 : Int32) (x2_4 : Int32) (y2_0 : (Nat → Int32)) (y2_1 : (Nat → Int32)) (y2_2 : Int32) (y2_3 : Int32) (y2_4 : Int32) : ∀ (n : Nat) (vbk2_0 : T_Rk) (v3 : Int32) (ws : va_W) (H : Heap) (locs : List Loc) (ls : Array Slot), va_P D classes ws H → va_D (fun q : Nat => B ≤ q) ws → va_S (fun q : Nat => B ≤ q) s.heap H locs → lv_has ls 4 [(3, .int v3), (0, .ref (ad k0)), (1, .ref (ad k1)), (2, .ref (ad k2))] → ws[k0]? = some (ad k0, .inr (1, [.ref (ad (k0 + 1)), .ref (ad (k0 + 32)), .ref (ad (k0 + 33)), .int x0_3])) → wc_grid cI cG ad (k0 + 1) 30 4 x0_0 ws → ws[k0 + 32]? = some (ad (k0 + 32), .inl (cI, 30, .inl x0_1)) → ws[k0 + 33]? = some (ad (k0 + 33), .inl (cI, 8, .inl x0_2)) → ws[k1]? = some (ad k1, .inl (cI, 4, .inl x1_0)) → wc_Rk cI cG cZ ad (k2) vbk2_0 ws → (∀ j : Nat, (j < k2 ∨ k2 + 3 ≤ j) → ws[j]? = w0[j]?) → f_Do_rankByDistance_2 N x0_0 x0_3 x1_0 n vbk2_0 v3 = some (y2_0, y2_1, y2_2, y2_3, y2_4) → W p l e ({ frames := 3, cells := 0, slots := 0, locals := 63 } : Room) s m args below meth c H locs 0 0 (MQ below (va_Qv (fun (w1 : va_W) => wc_Rk cI cG cZ ad k2 (y2_0, y2_1, y2_2, y2_3, y2_4) w1 ∧ (∀ j : Nat, (j < k2 ∨ k2 + 3 ≤ j) → w1[j]? = w0[j]?)) (hw_B D B) (fun q : Nat => B ≤ q)) args s 0 0 (fun q : Nat => B ≤ q)) (F0 m 2 ls []) := by
  obtain ⟨hx, hb, hr, hml, hown, hts, hlocks⟩ := id C0
  intro n
  induction n with
  | zero =>
    intro vbk2_0 v3 ws H locs ls hP hD hS hl mk0_0 gk0_1 mk0_32 mk0_33 mk1_0 bk2_0 fr hf
    exact nomatch (show none = some _ from hf)
  | succ n ih =>
    intro vbk2_0 v3 ws H locs ls hP hD hS hl mk0_0 gk0_1 mk0_32 mk0_33 mk1_0 bk2_0 fr hf
    rw [f_Do_rankByDistance_2] at hf
    refine lv_iload_n hx hb d_Do_rankByDistance_2 rfl (lv_at hl 0 rfl) ?_
    refine lv_bipush (v := 30) hx hb d_Do_rankByDistance_3 (by decide) ?_
    refine lv_icmp_ge (tgt := 38) hx hb d_Do_rankByDistance_5 (by decide) (fun c1 => ?_) (fun c1 => ?_)
    · rw [if_pos c1] at hf
      have bk0_0 : wc_Do cI cG cZ ad (k0) (x0_0, x0_1, x0_2, x0_3) ws := ⟨mk0_0, gk0_1, mk0_32, mk0_33⟩
      have he := Option.some.inj hf
      obtain ⟨e0, he⟩ := Prod.mk.inj he
      obtain ⟨e1, he⟩ := Prod.mk.inj he
      obtain ⟨e2, he⟩ := Prod.mk.inj he
      obtain ⟨e3, e4⟩ := Prod.mk.inj he
      have f0 : wc_Rk cI cG cZ ad (k2) (y2_0, y2_1, y2_2, y2_3, y2_4) ws := by rw [← e0, ← e1, ← e2, ← e3, ← e4]; exact bk2_0
      exact W.vret hx hb hr (fun t ht hW => ⟨⟨ws, rfl, ⟨f0, fr⟩, by rw [ht]; exact hP, hD⟩, hS.F ht⟩) hS.2.2 d_Do_rankByDistance_38
    · rw [if_neg c1] at hf
      refine lv_aload_n hx hb d_Do_rankByDistance_8 rfl (lv_at hl 1 rfl) ?_
      refine lv_iload_n hx hb d_Do_rankByDistance_9 rfl (lv_at hl 0 rfl) ?_
      have bk0_0 : wc_Do cI cG cZ ad (k0) (x0_0, x0_1, x0_2, x0_3) ws := ⟨mk0_0, gk0_1, mk0_32, mk0_33⟩
      obtain ⟨p2, hp2, hf⟩ := g_bd hf
      refine hw_ci0 (va_runV (As := [.int v3]) (rest := []) ⟨hx, hb, hml, hown, hts⟩ (c_Do_isLive l D cI cG cZ ad B ws N k0 x0_0 x0_1 x0_2 x0_3 v3 p2 hp2 bk0_0) (cwV 1 hts (hw_gV iw_374 gy_Do_isLive) rfl rfl rfl (by decide +kernel) ⟨Nat.le_of_ble_eq_true rfl, Nat.le_of_ble_eq_true rfl⟩) ⟨hw_blind, va_recv hK hP (ci := 1) (q0 := k0) rfl bk0_0.1, hw_go hP hD hK hN⟩ rfl rfl hl.1 rfl (lv_room (Nat.le_of_ble_eq_true rfl)) d_Do_rankByDistance_10 ⟨Nat.zero_le _, Nat.zero_le _⟩) hS (fun H locs hP hD hS => ?_)
      refine lv_if_eq (tgt := 32) hx hb d_Do_rankByDistance_13 (by decide) (fun c3 => ?_) (fun c3 => ?_)
      · rw [if_pos c3] at hf
        refine lv_iinc (v := v3 + 1) (lv' := [(3, .int (v3 + 1)), (0, .ref (ad k0)), (1, .ref (ad k1)), (2, .ref (ad k2))]) hx hb d_Do_rankByDistance_32 hl (k := 0) rfl rfl (by decide) rfl (fun ls hl => ?_)
        refine lv_goto (tgt := 2) hx hb d_Do_rankByDistance_35 (by decide) ?_
        obtain ⟨mk0_0, gk0_1, mk0_32, mk0_33⟩ := id bk0_0
        have mk0_0 : ws[k0]? = some (ad k0, .inr (1, [.ref (ad (k0 + 1)), .ref (ad (k0 + 32)), .ref (ad (k0 + 33)), .int x0_3])) := mk0_0
        have gk0_1 : wc_grid cI cG ad (k0 + 1) 30 4 x0_0 ws := gk0_1
        have mk0_32 : ws[k0 + 32]? = some (ad (k0 + 32), .inl (cI, 30, .inl x0_1)) := mk0_32
        have mk0_33 : ws[k0 + 33]? = some (ad (k0 + 33), .inl (cI, 8, .inl x0_2)) := mk0_33
        exact ih vbk2_0 (v3 + 1) _ _ _ _ hP hD hS (lv_sub hl [0, 1, 2, 3] rfl) mk0_0 gk0_1 mk0_32 mk0_33 mk1_0 bk2_0 fr hf
      · rw [if_neg c3] at hf
        refine lv_aload_n hx hb d_Do_rankByDistance_16 rfl (lv_at hl 3 rfl) ?_
        refine lv_iload_n hx hb d_Do_rankByDistance_17 rfl (lv_at hl 0 rfl) ?_
        refine lv_aload_n hx hb d_Do_rankByDistance_18 rfl (lv_at hl 2 rfl) ?_
        refine lv_aload_n hx hb d_Do_rankByDistance_19 rfl (lv_at hl 1 rfl) ?_
        obtain ⟨mk0_0, gk0_1, mk0_32, mk0_33⟩ := id bk0_0
        have mk0_0 : ws[k0]? = some (ad k0, .inr (1, [.ref (ad (k0 + 1)), .ref (ad (k0 + 32)), .ref (ad (k0 + 33)), .int x0_3])) := mk0_0
        have gk0_1 : wc_grid cI cG ad (k0 + 1) 30 4 x0_0 ws := gk0_1
        have mk0_32 : ws[k0 + 32]? = some (ad (k0 + 32), .inl (cI, 30, .inl x0_1)) := mk0_32
        have mk0_33 : ws[k0 + 33]? = some (ad (k0 + 33), .inl (cI, 8, .inl x0_2)) := mk0_33
        refine va_get (D := D) (ci := 1) (v := .ref (ad (k0 + 1))) (C := R_Do) (T := F_Do) (N := 4) hx hb hts i_Do hown hK hP (k0) mk0_0 rfl 0 (by decide) (hts _ iw_27) (fun _ h9 => h9) rfl d_Do_rankByDistance_20 ?_
        refine lv_iload_n hx hb d_Do_rankByDistance_23 rfl (lv_at hl 0 rfl) ?_
        obtain ⟨z4, hf⟩ := g_atE hf
        have lz4 := g_inLt z4
        refine hw_aald hx hb hK hP (k0 + 1) 1 gk0_1.1 rfl rfl z4 d_Do_rankByDistance_24 rfl ?_
        obtain ⟨p5, hp5, hf⟩ := g_bd hf
        refine hw_ci0 (va_runSN (As := [.ref (ad k1), .ref (ad (k0 + 1 + 1 + v3.toNatClampNeg))]) (rest := [.int v3, .ref (ad k2)]) ⟨hx, hb, hml, hown, hts⟩ (c_Nd_distance l D cI cG cZ ad B ws N k1 x1_0 (k0 + 1 + 1 + v3.toNatClampNeg) (x0_0 v3.toNatClampNeg) p5 hp5 mk1_0 (gk0_1.2 _ (g_inLt z4))) ⟨va_cnB 2 hts (hw_gc ic_Nd_distance) rfl rfl rfl (hN _ in_227) (hts _ iw_1) (by decide +kernel) ⟨Nat.le_of_ble_eq_true rfl, Nat.le_of_ble_eq_true rfl⟩, hts _ iw_228, trivial⟩ ⟨hw_blind, hw_go hP hD hK hN⟩ rfl rfl hl.1 rfl (lv_room (Nat.le_of_ble_eq_true rfl)) d_Do_rankByDistance_25 ⟨Nat.zero_le _, Nat.zero_le _⟩) hS (fun H locs hP hD hS => ?_)
        obtain ⟨p6, hp6, hf⟩ := g_bd hf
        refine hw_ci (va_runV (As := [.int v3, .int p5]) (rest := []) ⟨hx, hb, hml, hown, hts⟩ (c_Rk_add l D cI cG cZ ad B ws N k2 vbk2_0.1 vbk2_0.2.1 vbk2_0.2.2.1 vbk2_0.2.2.2.1 vbk2_0.2.2.2.2 v3 p5 p6.1 p6.2.1 p6.2.2.1 p6.2.2.2 hp6 bk2_0) (cwV 2 hts (hw_gV iw_439 gy_Rk_add) rfl rfl rfl (by decide +kernel) ⟨Nat.le_of_ble_eq_true rfl, Nat.le_of_ble_eq_true rfl⟩) ⟨hw_blind, va_recv hK hP (ci := 4) (q0 := k2) rfl bk2_0.1, hw_go hP hD hK hN⟩ rfl rfl hl.1 rfl (lv_room (Nat.le_of_ble_eq_true rfl)) d_Do_rankByDistance_28 ⟨Nat.zero_le _, Nat.zero_le _⟩) hS (fun w7 H locs hP hD hS hpp => ?_)
        obtain ⟨q0, frc⟩ := hpp
        have bk2_0 : wc_Rk cI cG cZ ad (k2) (p6.2.1, p6.2.2.1, p6.2.2.2, vbk2_0.2.2.2.1, vbk2_0.2.2.2.2) w7 := q0
        have mk1_0 : w7[k1]? = some (ad k1, .inl (cI, 4, .inl x1_0)) := (frc _ (by omega)).trans mk1_0
        have mk0_0 : w7[k0]? = some (ad k0, .inr (1, [.ref (ad (k0 + 1)), .ref (ad (k0 + 32)), .ref (ad (k0 + 33)), .int x0_3])) := (frc _ (by omega)).trans mk0_0
        have gk0_1 : wc_grid cI cG ad (k0 + 1) 30 4 x0_0 w7 := gk0_1.fr (fun j h1 h2 => frc j (by omega))
        have mk0_32 : w7[k0 + 32]? = some (ad (k0 + 32), .inl (cI, 30, .inl x0_1)) := (frc _ (by omega)).trans mk0_32
        have mk0_33 : w7[k0 + 33]? = some (ad (k0 + 33), .inl (cI, 8, .inl x0_2)) := (frc _ (by omega)).trans mk0_33
        have fr : ∀ j : Nat, (j < k2 ∨ k2 + 3 ≤ j) → w7[j]? = w0[j]? := fun j o0 => (frc j (by omega)).trans (fr j o0)
        refine lv_pop hx hb d_Do_rankByDistance_31 rfl ?_
        refine lv_iinc (v := v3 + 1) (lv' := [(3, .int (v3 + 1)), (0, .ref (ad k0)), (1, .ref (ad k1)), (2, .ref (ad k2))]) hx hb d_Do_rankByDistance_32 hl (k := 0) rfl rfl (by decide) rfl (fun ls hl => ?_)
        refine lv_goto (tgt := 2) hx hb d_Do_rankByDistance_35 (by decide) ?_
        exact ih (p6.2.1, p6.2.2.1, p6.2.2.2, vbk2_0.2.2.2.1, vbk2_0.2.2.2.2) (v3 + 1) _ _ _ _ hP hD hS (lv_sub hl [0, 1, 2, 3] rfl) mk0_0 gk0_1 mk0_32 mk0_33 mk1_0 bk2_0 fr hf
set_option maxHeartbeats 4000000 in
set_option maxRecDepth 100000 in
theorem c_Do_rankByDistance (l : Launch) (D : va_G) (cI cG cZ : ClassId) (ad : Nat → Nat) (B : Nat) (w0 : va_W) (N : Nat) (k0 : Nat) (x0_0 : (Nat → Nat → Int32)) (x0_1 : (Nat → Int32)) (x0_2 : (Nat → Int32)) (x0_3 : Int32) (k1 : Nat) (x1_0 : (Nat → Int32)) (k2 : Nat) (x2_0 : (Nat → Int32)) (x2_1 : (Nat → Int32)) (x2_2 : Int32) (x2_3 : Int32) (x2_4 : Int32) (y2_0 : (Nat → Int32)) (y2_1 : (Nat → Int32)) (y2_2 : Int32) (y2_3 : Int32) (y2_4 : Int32) (hf : f_Do_rankByDistance N x0_0 x0_3 x1_0 x2_0 x2_1 x2_2 x2_3 x2_4 = some (y2_0, y2_1, y2_2, y2_3, y2_4)) (bk0_0 : wc_Do cI cG cZ ad k0 (x0_0, x0_1, x0_2, x0_3) w0) (mk1_0 : w0[k1]? = some (ad k1, .inl (cI, 4, .inl x1_0))) (bk2_0 : wc_Rk cI cG cZ ad k2 (x2_0, x2_1, x2_2, x2_3, x2_4) w0) (dj0 : k0 + 34 ≤ k2 ∨ k2 + 3 ≤ k0) (dj1 : k1 + 1 ≤ k2 ∨ k2 + 3 ≤ k1) : Met l y_Do_rankByDistance (.code y_Do_rankByDistance b_Do_rankByDistance 4 none :: hw_G) ({ frames := 3, cells := 0, slots := 0, locals := 63 } : Room) (va_Pc [.ref (ad k0), .ref (ad k1), .ref (ad k2)] (hw_U D cI cG cZ B w0)) (va_Qv (fun (w1 : va_W) => wc_Rk cI cG cZ ad k2 (y2_0, y2_1, y2_2, y2_3, y2_4) w1 ∧ (∀ j : Nat, (j < k2 ∨ k2 + 3 ≤ j) → w1[j]? = w0[j]?)) (hw_B D B) (fun q : Nat => B ≤ q)) 0 0 (fun q : Nat => B ≤ q) := by
  refine Met.ofW (cc := b_Do_rankByDistance) (maxL := 4) (ret := none) (by decide) rfl ?_
  intro p e s m args below meth c s₁ Bd hml hv
  obtain ⟨rfl, hP, hD, hK, hN⟩ := hv
  have C0 : hw_C p s m meth c b_Do_rankByDistance 4 _ R_Do none := ⟨Bd.exec, Bd.bytes, Bd.returns, hml, findClass_of_methodNamed Bd.named, fun w h => atoms_spec (ws := .code y_Do_rankByDistance b_Do_rankByDistance 4 none :: hw_G) Bd.pre w (List.mem_cons_of_mem _ h), Bd.notSynchronized⟩
  obtain ⟨hx, hb, hr, -, hown, hts, hlocks⟩ := id C0
  have hS : va_S (fun q : Nat => B ≤ q) s.heap s.heap [] := va_S.rf
  have fr : ∀ j : Nat, (j < k2 ∨ k2 + 3 ≤ j) → w0[j]? = w0[j]? := fun j _ => rfl
  have hl := lv_entry ([.ref (ad k0), .ref (ad k1), .ref (ad k2)]) (n := 4) (Nat.le_of_ble_eq_true rfl)
  rw [lg_entry_eq]
  generalize (lg_sl ([.ref (ad k0), .ref (ad k1), .ref (ad k2)]) ++ List.replicate (4 - (lg_sl ([.ref (ad k0), .ref (ad k1), .ref (ad k2)])).length) Slot.unset).toArray = ls at hl ⊢
  have hl : lv_has ls 4 [(0, .ref (ad k0)), (1, .ref (ad k1)), (2, .ref (ad k2))] := hl
  unfold f_Do_rankByDistance at hf
  obtain ⟨mk0_0, gk0_1, mk0_32, mk0_33⟩ := id bk0_0
  have mk0_0 : w0[k0]? = some (ad k0, .inr (1, [.ref (ad (k0 + 1)), .ref (ad (k0 + 32)), .ref (ad (k0 + 33)), .int x0_3])) := mk0_0
  have gk0_1 : wc_grid cI cG ad (k0 + 1) 30 4 x0_0 w0 := gk0_1
  have mk0_32 : w0[k0 + 32]? = some (ad (k0 + 32), .inl (cI, 30, .inl x0_1)) := mk0_32
  have mk0_33 : w0[k0 + 33]? = some (ad (k0 + 33), .inl (cI, 8, .inl x0_2)) := mk0_33
  refine lv_iconst (v := 0) hx hb d_Do_rankByDistance_0 (by decide) ?_
  refine lv_istore_n (lv' := [(3, .int 0), (0, .ref (ad k0)), (1, .ref (ad k1)), (2, .ref (ad k2))]) hx hb d_Do_rankByDistance_1 rfl hl (by decide) rfl (fun ls hl => ?_)
  exact wl_Do_rankByDistance_2 C0 hK hN dj0 dj1 x0_0 x0_1 x0_2 x0_3 x1_0 x2_0 x2_1 x2_2 x2_3 x2_4 y2_0 y2_1 y2_2 y2_3 y2_4 N (x2_0, x2_1, x2_2, x2_3, x2_4) 0 _ _ _ _ hP hD hS (lv_sub hl [0, 1, 2, 3] rfl) mk0_0 gk0_1 mk0_32 mk0_33 mk1_0 bk2_0 fr hf
set_option maxHeartbeats 4000000 in
set_option maxRecDepth 100000 in
theorem c_Do_countOfWord (l : Launch) (D : va_G) (cI cG cZ : ClassId) (ad : Nat → Nat) (B : Nat) (w0 : va_W) (N : Nat) (k0 : Nat) (x0_0 : (Nat → Nat → Int32)) (x0_1 : (Nat → Int32)) (x0_2 : (Nat → Int32)) (x0_3 : Int32) (a1 : Int32) (a2 : Int32) (r : Int32) (hf : f_Do_countOfWord N x0_1 a1 a2 = some r) (bk0_0 : wc_Do cI cG cZ ad k0 (x0_0, x0_1, x0_2, x0_3) w0) : Met l y_Do_countOfWord (.code y_Do_countOfWord b_Do_countOfWord 3 (some .int) :: hw_G) ({ frames := 0, cells := 0, slots := 0, locals := 0 } : Room) (va_Pc [.ref (ad k0), .int a1, .int a2] (hw_U D cI cG cZ B w0)) (va_Qi (fun (r1 : Int32) (w1 : va_W) => r1 = r ∧ w1 = w0) (hw_B D B) (fun q : Nat => B ≤ q)) 0 0 (fun q : Nat => B ≤ q) := by
  refine Met.ofW (cc := b_Do_countOfWord) (maxL := 3) (ret := (some .int)) (by decide) rfl ?_
  intro p e s m args below meth c s₁ Bd hml hv
  obtain ⟨rfl, hP, hD, hK, hN⟩ := hv
  have C0 : hw_C p s m meth c b_Do_countOfWord 3 _ R_Do (some .int) := ⟨Bd.exec, Bd.bytes, Bd.returns, hml, findClass_of_methodNamed Bd.named, fun w h => atoms_spec (ws := .code y_Do_countOfWord b_Do_countOfWord 3 (some .int) :: hw_G) Bd.pre w (List.mem_cons_of_mem _ h), Bd.notSynchronized⟩
  obtain ⟨hx, hb, hr, -, hown, hts, hlocks⟩ := id C0
  have hS : va_S (fun q : Nat => B ≤ q) s.heap s.heap [] := va_S.rf
  have fr : w0 = w0 := rfl
  have hl := lv_entry ([.ref (ad k0), .int a1, .int a2]) (n := 3) (Nat.le_of_ble_eq_true rfl)
  rw [lg_entry_eq]
  generalize (lg_sl ([.ref (ad k0), .int a1, .int a2]) ++ List.replicate (3 - (lg_sl ([.ref (ad k0), .int a1, .int a2])).length) Slot.unset).toArray = ls at hl ⊢
  have hl : lv_has ls 3 [(0, .ref (ad k0)), (1, .int a1), (2, .int a2)] := hl
  unfold f_Do_countOfWord at hf
  obtain ⟨mk0_0, gk0_1, mk0_32, mk0_33⟩ := id bk0_0
  have mk0_0 : w0[k0]? = some (ad k0, .inr (1, [.ref (ad (k0 + 1)), .ref (ad (k0 + 32)), .ref (ad (k0 + 33)), .int x0_3])) := mk0_0
  have gk0_1 : wc_grid cI cG ad (k0 + 1) 30 4 x0_0 w0 := gk0_1
  have mk0_32 : w0[k0 + 32]? = some (ad (k0 + 32), .inl (cI, 30, .inl x0_1)) := mk0_32
  have mk0_33 : w0[k0 + 33]? = some (ad (k0 + 33), .inl (cI, 8, .inl x0_2)) := mk0_33
  refine lv_aload_n hx hb d_Do_countOfWord_0 rfl (lv_at hl 0 rfl) ?_
  refine va_get (D := D) (ci := 1) (v := .ref (ad (k0 + 32))) (C := R_Do) (T := F_Do) (N := 4) hx hb hts i_Do hown hK hP (k0) mk0_0 rfl 1 (by decide) (hts _ iw_28) (fun _ h9 => h9) rfl d_Do_countOfWord_1 ?_
  refine lv_iload_n hx hb d_Do_countOfWord_4 rfl (lv_at hl 1 rfl) ?_
  obtain ⟨z1, hf⟩ := g_atE hf
  refine va_iald hx hb hK hP (k0 + 32) 0 mk0_32 rfl z1 d_Do_countOfWord_5 ?_
  refine lv_iconst (v := 3) hx hb d_Do_countOfWord_6 (by decide) ?_
  refine lv_iload_n hx hb d_Do_countOfWord_7 rfl (lv_at hl 2 rfl) ?_
  refine lv_imul hx hb d_Do_countOfWord_8 ?_
  refine lv_ishr hx hb d_Do_countOfWord_9 ?_
  refine lv_bipush (v := 7) hx hb d_Do_countOfWord_10 (by decide) ?_
  refine lv_iand hx hb d_Do_countOfWord_12 ?_
  have bk0_0 : wc_Do cI cG cZ ad (k0) (x0_0, x0_1, x0_2, x0_3) w0 := ⟨mk0_0, gk0_1, mk0_32, mk0_33⟩
  have e0 := Option.some.inj hf
  exact W.iret (v := ((x0_1 a1.toNatClampNeg) >>> ((3 * a2) &&& 31)) &&& 7) hx hb hr (fun t ht hW => ⟨⟨((x0_1 a1.toNatClampNeg) >>> ((3 * a2) &&& 31)) &&& 7, w0, rfl, ⟨e0, fr⟩, by rw [ht]; exact hP, hD⟩, hS.F ht⟩) hS.2.2 d_Do_countOfWord_13
set_option maxHeartbeats 4000000 in
set_option maxRecDepth 100000 in
theorem wl_Do_liveWith_4 {p : Program} {l : Launch} {e : Env} {s : State} {m : MethodId} {args : Array Value} {below : List Frame} {meth : Method} {c : Code} {D : va_G} {cI cG cZ : ClassId} {ad : Nat → Nat} {B : Nat} {w0 : va_W} {N : Nat} {k0 : Nat} (C0 : hw_C p s m meth c b_Do_liveWith 4 args R_Do (some .int)) (hK : va_K D classes [(cI, .int), (cG, .array .int), (cZ, .boolean)] s) (hN : hw_N s) (x0_0 : (Nat → Nat → Int32)) (x0_1 : (Nat → Int32)) (x0_2 : (Nat → Int32)) (x0_3 : Int32) (a1 : Int32) (r : Int32) : ∀ (n : Nat) (v2 : Int32) (v3 : Int32) (ws : va_W) (H : Heap) (locs : List Loc) (ls : Array Slot), va_P D classes ws H → va_D (fun q : Nat => B ≤ q) ws → va_S (fun q : Nat => B ≤ q) s.heap H locs → lv_has ls 4 [(3, .int v3), (2, .int v2), (0, .ref (ad k0)), (1, .int a1)] → ws[k0]? = some (ad k0, .inr (1, [.ref (ad (k0 + 1)), .ref (ad (k0 + 32)), .ref (ad (k0 + 33)), .int x0_3])) → wc_grid cI cG ad (k0 + 1) 30 4 x0_0 ws → ws[k0 + 32]? = some (ad (k0 + 32), .inl (cI, 30, .inl x0_1)) → ws[k0 + 33]? = some (ad (k0 + 33), .inl (cI, 8, .inl x0_2)) → (ws = w0) → f_Do_liveWith_4 N x0_1 x0_3 a1 n v2 v3 = some r → W p l e ({ frames := 3, cells := 0, slots := 0, locals := 63 } : Room) s m args below meth c H locs 0 0 (MQ below (va_Qi (fun (r1 : Int32) (w1 : va_W) => r1 = r ∧ w1 = w0) (hw_B D B) (fun q : Nat => B ≤ q)) args s 0 0 (fun q : Nat => B ≤ q)) (F0 m 4 ls []) := by
  obtain ⟨hx, hb, hr, hml, hown, hts, hlocks⟩ := id C0
  intro n
  induction n with
  | zero =>
    intro v2 v3 ws H locs ls hP hD hS hl mk0_0 gk0_1 mk0_32 mk0_33 fr hf
    exact nomatch (show none = some _ from hf)
  | succ n ih =>
    intro v2 v3 ws H locs ls hP hD hS hl mk0_0 gk0_1 mk0_32 mk0_33 fr hf
    rw [f_Do_liveWith_4] at hf
    refine lv_iload_n hx hb d_Do_liveWith_4 rfl (lv_at hl 0 rfl) ?_
    refine lv_bipush (v := 30) hx hb d_Do_liveWith_5 (by decide) ?_
    refine lv_icmp_ge (tgt := 36) hx hb d_Do_liveWith_7 (by decide) (fun c1 => ?_) (fun c1 => ?_)
    · rw [if_pos c1] at hf
      refine lv_iload_n hx hb d_Do_liveWith_36 rfl (lv_at hl 1 rfl) ?_
      have bk0_0 : wc_Do cI cG cZ ad (k0) (x0_0, x0_1, x0_2, x0_3) ws := ⟨mk0_0, gk0_1, mk0_32, mk0_33⟩
      have e0 := Option.some.inj hf
      exact W.iret (v := v2) hx hb hr (fun t ht hW => ⟨⟨v2, ws, rfl, ⟨e0, fr⟩, by rw [ht]; exact hP, hD⟩, hS.F ht⟩) hS.2.2 d_Do_liveWith_37
    · rw [if_neg c1] at hf
      refine lv_aload_n hx hb d_Do_liveWith_10 rfl (lv_at hl 2 rfl) ?_
      refine lv_iload_n hx hb d_Do_liveWith_11 rfl (lv_at hl 0 rfl) ?_
      have bk0_0 : wc_Do cI cG cZ ad (k0) (x0_0, x0_1, x0_2, x0_3) ws := ⟨mk0_0, gk0_1, mk0_32, mk0_33⟩
      obtain ⟨p2, hp2, hf⟩ := g_bd hf
      refine hw_ci0 (va_runV (As := [.int v3]) (rest := []) ⟨hx, hb, hml, hown, hts⟩ (c_Do_isLive l D cI cG cZ ad B ws N k0 x0_0 x0_1 x0_2 x0_3 v3 p2 hp2 bk0_0) (cwV 1 hts (hw_gV iw_374 gy_Do_isLive) rfl rfl rfl (by decide +kernel) ⟨Nat.le_of_ble_eq_true rfl, Nat.le_of_ble_eq_true rfl⟩) ⟨hw_blind, va_recv hK hP (ci := 1) (q0 := k0) rfl bk0_0.1, hw_go hP hD hK hN⟩ rfl rfl hl.1 rfl (lv_room (Nat.le_of_ble_eq_true rfl)) d_Do_liveWith_12 ⟨Nat.zero_le _, Nat.zero_le _⟩) hS (fun H locs hP hD hS => ?_)
      refine lv_if_eq (tgt := 30) hx hb d_Do_liveWith_15 (by decide) (fun c3 => ?_) (fun c3 => ?_)
      · rw [if_pos c3] at hf
        refine lv_iinc (v := v3 + 1) (lv' := [(3, .int (v3 + 1)), (2, .int v2), (0, .ref (ad k0)), (1, .int a1)]) hx hb d_Do_liveWith_30 hl (k := 0) rfl rfl (by decide) rfl (fun ls hl => ?_)
        refine lv_goto (tgt := 4) hx hb d_Do_liveWith_33 (by decide) ?_
        obtain ⟨mk0_0, gk0_1, mk0_32, mk0_33⟩ := id bk0_0
        have mk0_0 : ws[k0]? = some (ad k0, .inr (1, [.ref (ad (k0 + 1)), .ref (ad (k0 + 32)), .ref (ad (k0 + 33)), .int x0_3])) := mk0_0
        have gk0_1 : wc_grid cI cG ad (k0 + 1) 30 4 x0_0 ws := gk0_1
        have mk0_32 : ws[k0 + 32]? = some (ad (k0 + 32), .inl (cI, 30, .inl x0_1)) := mk0_32
        have mk0_33 : ws[k0 + 33]? = some (ad (k0 + 33), .inl (cI, 8, .inl x0_2)) := mk0_33
        exact ih v2 (v3 + 1) _ _ _ _ hP hD hS (lv_sub hl [0, 1, 2, 3] rfl) mk0_0 gk0_1 mk0_32 mk0_33 fr hf
      · rw [if_neg c3] at hf
        refine lv_aload_n hx hb d_Do_liveWith_18 rfl (lv_at hl 2 rfl) ?_
        refine lv_iload_n hx hb d_Do_liveWith_19 rfl (lv_at hl 0 rfl) ?_
        refine lv_iload_n hx hb d_Do_liveWith_20 rfl (lv_at hl 3 rfl) ?_
        obtain ⟨p4, hp4, hf⟩ := g_bd hf
        refine hw_ci0 (va_runV (As := [.int v3, .int a1]) (rest := []) ⟨hx, hb, hml, hown, hts⟩ (c_Do_countOfWord l D cI cG cZ ad B ws N k0 x0_0 x0_1 x0_2 x0_3 v3 a1 p4 hp4 bk0_0) (cwV 2 hts (hw_gV iw_456 gy_Do_countOfWord) rfl rfl rfl (by decide +kernel) ⟨Nat.le_of_ble_eq_true rfl, Nat.le_of_ble_eq_true rfl⟩) ⟨hw_blind, va_recv hK hP (ci := 1) (q0 := k0) rfl bk0_0.1, hw_go hP hD hK hN⟩ rfl rfl hl.1 rfl (lv_room (Nat.le_of_ble_eq_true rfl)) d_Do_liveWith_21 ⟨Nat.zero_le _, Nat.zero_le _⟩) hS (fun H locs hP hD hS => ?_)
        refine lv_if_le (tgt := 30) hx hb d_Do_liveWith_24 (by decide) (fun c5 => ?_) (fun c5 => ?_)
        · rw [if_pos c5] at hf
          refine lv_iinc (v := v3 + 1) (lv' := [(3, .int (v3 + 1)), (2, .int v2), (0, .ref (ad k0)), (1, .int a1)]) hx hb d_Do_liveWith_30 hl (k := 0) rfl rfl (by decide) rfl (fun ls hl => ?_)
          refine lv_goto (tgt := 4) hx hb d_Do_liveWith_33 (by decide) ?_
          obtain ⟨mk0_0, gk0_1, mk0_32, mk0_33⟩ := id bk0_0
          have mk0_0 : ws[k0]? = some (ad k0, .inr (1, [.ref (ad (k0 + 1)), .ref (ad (k0 + 32)), .ref (ad (k0 + 33)), .int x0_3])) := mk0_0
          have gk0_1 : wc_grid cI cG ad (k0 + 1) 30 4 x0_0 ws := gk0_1
          have mk0_32 : ws[k0 + 32]? = some (ad (k0 + 32), .inl (cI, 30, .inl x0_1)) := mk0_32
          have mk0_33 : ws[k0 + 33]? = some (ad (k0 + 33), .inl (cI, 8, .inl x0_2)) := mk0_33
          exact ih v2 (v3 + 1) _ _ _ _ hP hD hS (lv_sub hl [0, 1, 2, 3] rfl) mk0_0 gk0_1 mk0_32 mk0_33 fr hf
        · rw [if_neg c5] at hf
          refine lv_iinc (v := v2 + 1) (lv' := [(2, .int (v2 + 1)), (3, .int v3), (0, .ref (ad k0)), (1, .int a1)]) hx hb d_Do_liveWith_27 hl (k := 1) rfl rfl (by decide) rfl (fun ls hl => ?_)
          refine lv_iinc (v := v3 + 1) (lv' := [(3, .int (v3 + 1)), (2, .int (v2 + 1)), (0, .ref (ad k0)), (1, .int a1)]) hx hb d_Do_liveWith_30 hl (k := 1) rfl rfl (by decide) rfl (fun ls hl => ?_)
          refine lv_goto (tgt := 4) hx hb d_Do_liveWith_33 (by decide) ?_
          obtain ⟨mk0_0, gk0_1, mk0_32, mk0_33⟩ := id bk0_0
          have mk0_0 : ws[k0]? = some (ad k0, .inr (1, [.ref (ad (k0 + 1)), .ref (ad (k0 + 32)), .ref (ad (k0 + 33)), .int x0_3])) := mk0_0
          have gk0_1 : wc_grid cI cG ad (k0 + 1) 30 4 x0_0 ws := gk0_1
          have mk0_32 : ws[k0 + 32]? = some (ad (k0 + 32), .inl (cI, 30, .inl x0_1)) := mk0_32
          have mk0_33 : ws[k0 + 33]? = some (ad (k0 + 33), .inl (cI, 8, .inl x0_2)) := mk0_33
          exact ih (v2 + 1) (v3 + 1) _ _ _ _ hP hD hS (lv_sub hl [0, 1, 2, 3] rfl) mk0_0 gk0_1 mk0_32 mk0_33 fr hf
set_option maxHeartbeats 4000000 in
set_option maxRecDepth 100000 in
theorem c_Do_liveWith (l : Launch) (D : va_G) (cI cG cZ : ClassId) (ad : Nat → Nat) (B : Nat) (w0 : va_W) (N : Nat) (k0 : Nat) (x0_0 : (Nat → Nat → Int32)) (x0_1 : (Nat → Int32)) (x0_2 : (Nat → Int32)) (x0_3 : Int32) (a1 : Int32) (r : Int32) (hf : f_Do_liveWith N x0_1 x0_3 a1 = some r) (bk0_0 : wc_Do cI cG cZ ad k0 (x0_0, x0_1, x0_2, x0_3) w0) : Met l y_Do_liveWith (.code y_Do_liveWith b_Do_liveWith 4 (some .int) :: hw_G) ({ frames := 3, cells := 0, slots := 0, locals := 63 } : Room) (va_Pc [.ref (ad k0), .int a1] (hw_U D cI cG cZ B w0)) (va_Qi (fun (r1 : Int32) (w1 : va_W) => r1 = r ∧ w1 = w0) (hw_B D B) (fun q : Nat => B ≤ q)) 0 0 (fun q : Nat => B ≤ q) := by
  refine Met.ofW (cc := b_Do_liveWith) (maxL := 4) (ret := (some .int)) (by decide) rfl ?_
  intro p e s m args below meth c s₁ Bd hml hv
  obtain ⟨rfl, hP, hD, hK, hN⟩ := hv
  have C0 : hw_C p s m meth c b_Do_liveWith 4 _ R_Do (some .int) := ⟨Bd.exec, Bd.bytes, Bd.returns, hml, findClass_of_methodNamed Bd.named, fun w h => atoms_spec (ws := .code y_Do_liveWith b_Do_liveWith 4 (some .int) :: hw_G) Bd.pre w (List.mem_cons_of_mem _ h), Bd.notSynchronized⟩
  obtain ⟨hx, hb, hr, -, hown, hts, hlocks⟩ := id C0
  have hS : va_S (fun q : Nat => B ≤ q) s.heap s.heap [] := va_S.rf
  have fr : w0 = w0 := rfl
  have hl := lv_entry ([.ref (ad k0), .int a1]) (n := 4) (Nat.le_of_ble_eq_true rfl)
  rw [lg_entry_eq]
  generalize (lg_sl ([.ref (ad k0), .int a1]) ++ List.replicate (4 - (lg_sl ([.ref (ad k0), .int a1])).length) Slot.unset).toArray = ls at hl ⊢
  have hl : lv_has ls 4 [(0, .ref (ad k0)), (1, .int a1)] := hl
  unfold f_Do_liveWith at hf
  obtain ⟨mk0_0, gk0_1, mk0_32, mk0_33⟩ := id bk0_0
  have mk0_0 : w0[k0]? = some (ad k0, .inr (1, [.ref (ad (k0 + 1)), .ref (ad (k0 + 32)), .ref (ad (k0 + 33)), .int x0_3])) := mk0_0
  have gk0_1 : wc_grid cI cG ad (k0 + 1) 30 4 x0_0 w0 := gk0_1
  have mk0_32 : w0[k0 + 32]? = some (ad (k0 + 32), .inl (cI, 30, .inl x0_1)) := mk0_32
  have mk0_33 : w0[k0 + 33]? = some (ad (k0 + 33), .inl (cI, 8, .inl x0_2)) := mk0_33
  refine lv_iconst (v := 0) hx hb d_Do_liveWith_0 (by decide) ?_
  refine lv_istore_n (lv' := [(2, .int 0), (0, .ref (ad k0)), (1, .int a1)]) hx hb d_Do_liveWith_1 rfl hl (by decide) rfl (fun ls hl => ?_)
  refine lv_iconst (v := 0) hx hb d_Do_liveWith_2 (by decide) ?_
  refine lv_istore_n (lv' := [(3, .int 0), (2, .int 0), (0, .ref (ad k0)), (1, .int a1)]) hx hb d_Do_liveWith_3 rfl hl (by decide) rfl (fun ls hl => ?_)
  exact wl_Do_liveWith_4 C0 hK hN x0_0 x0_1 x0_2 x0_3 a1 r N 0 0 _ _ _ _ hP hD hS (lv_sub hl [0, 1, 2, 3] rfl) mk0_0 gk0_1 mk0_32 mk0_33 fr hf
set_option maxHeartbeats 4000000 in
set_option maxRecDepth 100000 in
theorem wl_Do_weighWords_2 {p : Program} {l : Launch} {e : Env} {s : State} {m : MethodId} {args : Array Value} {below : List Frame} {meth : Method} {c : Code} {D : va_G} {cI cG cZ : ClassId} {ad : Nat → Nat} {B : Nat} {w0 : va_W} {N : Nat} {k0 : Nat} (C0 : hw_C p s m meth c b_Do_weighWords 3 args R_Do none) (hK : va_K D classes [(cI, .int), (cG, .array .int), (cZ, .boolean)] s) (hN : hw_N s) (x0_0 : (Nat → Nat → Int32)) (x0_1 : (Nat → Int32)) (x0_3 : Int32) (x0_2 : (Nat → Int32)) (y0_2 : (Nat → Int32)) : ∀ (n : Nat) (vak0_33 : (Nat → Int32)) (v1 : Int32) (ws : va_W) (H : Heap) (locs : List Loc) (ls : Array Slot), va_P D classes ws H → va_D (fun q : Nat => B ≤ q) ws → va_S (fun q : Nat => B ≤ q) s.heap H locs → lv_has ls 3 [(1, .int v1), (0, .ref (ad k0))] → ws[k0]? = some (ad k0, .inr (1, [.ref (ad (k0 + 1)), .ref (ad (k0 + 32)), .ref (ad (k0 + 33)), .int x0_3])) → wc_grid cI cG ad (k0 + 1) 30 4 x0_0 ws → ws[k0 + 32]? = some (ad (k0 + 32), .inl (cI, 30, .inl x0_1)) → ws[k0 + 33]? = some (ad (k0 + 33), .inl (cI, 8, .inl vak0_33)) → (∀ j : Nat, (j < k0 ∨ k0 + 34 ≤ j) → ws[j]? = w0[j]?) → f_Do_weighWords_2 N x0_1 x0_3 n vak0_33 v1 = some y0_2 → W p l e ({ frames := 4, cells := 0, slots := 0, locals := 86 } : Room) s m args below meth c H locs 0 0 (MQ below (va_Qv (fun (w1 : va_W) => wc_Do cI cG cZ ad k0 (x0_0, x0_1, y0_2, x0_3) w1 ∧ (∀ j : Nat, (j < k0 ∨ k0 + 34 ≤ j) → w1[j]? = w0[j]?)) (hw_B D B) (fun q : Nat => B ≤ q)) args s 0 0 (fun q : Nat => B ≤ q)) (F0 m 2 ls []) := by
  obtain ⟨hx, hb, hr, hml, hown, hts, hlocks⟩ := id C0
  intro n
  induction n with
  | zero =>
    intro vak0_33 v1 ws H locs ls hP hD hS hl mk0_0 gk0_1 mk0_32 mk0_33 fr hf
    exact nomatch (show none = some _ from hf)
  | succ n ih =>
    intro vak0_33 v1 ws H locs ls hP hD hS hl mk0_0 gk0_1 mk0_32 mk0_33 fr hf
    rw [f_Do_weighWords_2] at hf
    refine lv_iload_n hx hb d_Do_weighWords_2 rfl (lv_at hl 0 rfl) ?_
    refine lv_bipush (v := 8) hx hb d_Do_weighWords_3 (by decide) ?_
    refine lv_icmp_ge (tgt := 42) hx hb d_Do_weighWords_5 (by decide) (fun c1 => ?_) (fun c1 => ?_)
    · rw [if_pos c1] at hf
      have bk0_0 : wc_Do cI cG cZ ad (k0) (x0_0, x0_1, vak0_33, x0_3) ws := ⟨mk0_0, gk0_1, mk0_32, mk0_33⟩
      have e0 := Option.some.inj hf
      have f0 : wc_Do cI cG cZ ad (k0) (x0_0, x0_1, y0_2, x0_3) ws := by rw [← e0]; exact bk0_0
      exact W.vret hx hb hr (fun t ht hW => ⟨⟨ws, rfl, ⟨f0, fr⟩, by rw [ht]; exact hP, hD⟩, hS.F ht⟩) hS.2.2 d_Do_weighWords_42
    · rw [if_neg c1] at hf
      refine lv_aload_n hx hb d_Do_weighWords_8 rfl (lv_at hl 1 rfl) ?_
      refine lv_iload_n hx hb d_Do_weighWords_9 rfl (lv_at hl 0 rfl) ?_
      have bk0_0 : wc_Do cI cG cZ ad (k0) (x0_0, x0_1, vak0_33, x0_3) ws := ⟨mk0_0, gk0_1, mk0_32, mk0_33⟩
      obtain ⟨p2, hp2, hf⟩ := g_bd hf
      refine hw_ci0 (va_runV (As := [.int v1]) (rest := []) ⟨hx, hb, hml, hown, hts⟩ (c_Do_liveWith l D cI cG cZ ad B ws N k0 x0_0 x0_1 vak0_33 x0_3 v1 p2 hp2 bk0_0) (cwV 1 hts (hw_gV iw_452 gy_Do_liveWith) rfl rfl rfl (by decide +kernel) ⟨Nat.le_of_ble_eq_true rfl, Nat.le_of_ble_eq_true rfl⟩) ⟨hw_blind, va_recv hK hP (ci := 1) (q0 := k0) rfl bk0_0.1, hw_go hP hD hK hN⟩ rfl rfl hl.1 rfl (lv_room (Nat.le_of_ble_eq_true rfl)) d_Do_weighWords_10 ⟨Nat.zero_le _, Nat.zero_le _⟩) hS (fun H locs hP hD hS => ?_)
      refine lv_istore_n (lv' := [(2, .int p2), (1, .int v1), (0, .ref (ad k0))]) hx hb d_Do_weighWords_13 rfl hl (by decide) rfl (fun ls hl => ?_)
      refine lv_aload_n hx hb d_Do_weighWords_14 rfl (lv_at hl 2 rfl) ?_
      obtain ⟨mk0_0, gk0_1, mk0_32, mk0_33⟩ := id bk0_0
      have mk0_0 : ws[k0]? = some (ad k0, .inr (1, [.ref (ad (k0 + 1)), .ref (ad (k0 + 32)), .ref (ad (k0 + 33)), .int x0_3])) := mk0_0
      have gk0_1 : wc_grid cI cG ad (k0 + 1) 30 4 x0_0 ws := gk0_1
      have mk0_32 : ws[k0 + 32]? = some (ad (k0 + 32), .inl (cI, 30, .inl x0_1)) := mk0_32
      have mk0_33 : ws[k0 + 33]? = some (ad (k0 + 33), .inl (cI, 8, .inl vak0_33)) := mk0_33
      refine va_get (D := D) (ci := 1) (v := .ref (ad (k0 + 33))) (C := R_Do) (T := F_Do) (N := 4) hx hb hts i_Do hown hK hP (k0) mk0_0 rfl 2 (by decide) (hts _ iw_29) (fun _ h9 => h9) rfl d_Do_weighWords_15 ?_
      refine lv_iload_n hx hb d_Do_weighWords_18 rfl (lv_at hl 1 rfl) ?_
      refine lv_iload_n hx hb d_Do_weighWords_19 rfl (lv_at hl 0 rfl) ?_
      refine lv_if_le (tgt := 34) hx hb d_Do_weighWords_20 (by decide) (fun c3 => ?_) (fun c3 => ?_)
      · rw [if_pos c3] at hf
        refine lv_iconst (v := 0) hx hb d_Do_weighWords_34 (by decide) ?_
        obtain ⟨z4, hf⟩ := g_atE hf
        refine va_iast hx hb hK hP hD hS (k0 + 33) 0 mk0_33 rfl z4 d_Do_weighWords_35 (fun H locs hP hD hS => ?_)
        obtain ⟨w5, hP, hD, hne, heq⟩ := hs_up hP hD mk0_33
        have mk0_33 : w5[k0 + 33]? = some (ad (k0 + 33), .inl (cI, 8, .inl (upd vak0_33 v1.toNatClampNeg 0))) := heq
        have mk0_0 : w5[k0]? = some (ad k0, .inr (1, [.ref (ad (k0 + 1)), .ref (ad (k0 + 32)), .ref (ad (k0 + 33)), .int x0_3])) := (hne _ (by omega)).trans mk0_0
        have gk0_1 : wc_grid cI cG ad (k0 + 1) 30 4 x0_0 w5 := gk0_1.fr (fun j h1 h2 => hne j (by omega))
        have mk0_32 : w5[k0 + 32]? = some (ad (k0 + 32), .inl (cI, 30, .inl x0_1)) := (hne _ (by omega)).trans mk0_32
        have fr : ∀ j : Nat, (j < k0 ∨ k0 + 34 ≤ j) → w5[j]? = w0[j]? := fun j o0 => (hne j (by omega)).trans (fr j o0)
        refine lv_iinc (v := v1 + 1) (lv' := [(1, .int (v1 + 1)), (2, .int p2), (0, .ref (ad k0))]) hx hb d_Do_weighWords_36 hl (k := 1) rfl rfl (by decide) rfl (fun ls hl => ?_)
        refine lv_goto (tgt := 2) hx hb d_Do_weighWords_39 (by decide) ?_
        exact ih (upd vak0_33 v1.toNatClampNeg 0) (v1 + 1) _ _ _ _ hP hD hS (lv_sub hl [0, 2] rfl) mk0_0 gk0_1 mk0_32 mk0_33 fr hf
      · rw [if_neg c3] at hf
        refine lv_iconst (v := 1) hx hb d_Do_weighWords_23 (by decide) ?_
        refine lv_aload_n hx hb d_Do_weighWords_24 rfl (lv_at hl 2 rfl) ?_
        have bk0_0 : wc_Do cI cG cZ ad (k0) (x0_0, x0_1, vak0_33, x0_3) ws := ⟨mk0_0, gk0_1, mk0_32, mk0_33⟩
        obtain ⟨p6, hp6, hf⟩ := g_bd hf
        refine hw_ci0 (va_runV (As := []) (rest := [.int 1, .int v1, .ref (ad (k0 + 33))]) ⟨hx, hb, hml, hown, hts⟩ (c_Do_liveCount l D cI cG cZ ad B ws N k0 x0_0 x0_1 vak0_33 x0_3 p6 hp6 bk0_0) (cwV 0 hts (hw_gV iw_460 gy_Do_liveCount) rfl rfl rfl (by decide +kernel) ⟨Nat.le_of_ble_eq_true rfl, Nat.le_of_ble_eq_true rfl⟩) ⟨hw_blind, va_recv hK hP (ci := 1) (q0 := k0) rfl bk0_0.1, hw_go hP hD hK hN⟩ rfl rfl hl.1 rfl (lv_room (Nat.le_of_ble_eq_true rfl)) d_Do_weighWords_25 ⟨Nat.zero_le _, Nat.zero_le _⟩) hS (fun H locs hP hD hS => ?_)
        refine lv_iload_n hx hb d_Do_weighWords_28 rfl (lv_at hl 0 rfl) ?_
        obtain ⟨z7, hf⟩ := g_dvE hf
        refine lv_idiv hx hb d_Do_weighWords_29 z7 ?_
        refine lv_iadd hx hb d_Do_weighWords_30 ?_
        refine lv_goto (tgt := 35) hx hb d_Do_weighWords_31 (by decide) ?_
        obtain ⟨mk0_0, gk0_1, mk0_32, mk0_33⟩ := id bk0_0
        have mk0_0 : ws[k0]? = some (ad k0, .inr (1, [.ref (ad (k0 + 1)), .ref (ad (k0 + 32)), .ref (ad (k0 + 33)), .int x0_3])) := mk0_0
        have gk0_1 : wc_grid cI cG ad (k0 + 1) 30 4 x0_0 ws := gk0_1
        have mk0_32 : ws[k0 + 32]? = some (ad (k0 + 32), .inl (cI, 30, .inl x0_1)) := mk0_32
        have mk0_33 : ws[k0 + 33]? = some (ad (k0 + 33), .inl (cI, 8, .inl vak0_33)) := mk0_33
        obtain ⟨z8, hf⟩ := g_atE hf
        refine va_iast hx hb hK hP hD hS (k0 + 33) 0 mk0_33 rfl z8 d_Do_weighWords_35 (fun H locs hP hD hS => ?_)
        obtain ⟨w9, hP, hD, hne, heq⟩ := hs_up hP hD mk0_33
        have mk0_33 : w9[k0 + 33]? = some (ad (k0 + 33), .inl (cI, 8, .inl (upd vak0_33 v1.toNatClampNeg (1 + (p6 / p2))))) := heq
        have mk0_0 : w9[k0]? = some (ad k0, .inr (1, [.ref (ad (k0 + 1)), .ref (ad (k0 + 32)), .ref (ad (k0 + 33)), .int x0_3])) := (hne _ (by omega)).trans mk0_0
        have gk0_1 : wc_grid cI cG ad (k0 + 1) 30 4 x0_0 w9 := gk0_1.fr (fun j h1 h2 => hne j (by omega))
        have mk0_32 : w9[k0 + 32]? = some (ad (k0 + 32), .inl (cI, 30, .inl x0_1)) := (hne _ (by omega)).trans mk0_32
        have fr : ∀ j : Nat, (j < k0 ∨ k0 + 34 ≤ j) → w9[j]? = w0[j]? := fun j o0 => (hne j (by omega)).trans (fr j o0)
        refine lv_iinc (v := v1 + 1) (lv' := [(1, .int (v1 + 1)), (2, .int p2), (0, .ref (ad k0))]) hx hb d_Do_weighWords_36 hl (k := 1) rfl rfl (by decide) rfl (fun ls hl => ?_)
        refine lv_goto (tgt := 2) hx hb d_Do_weighWords_39 (by decide) ?_
        exact ih (upd vak0_33 v1.toNatClampNeg (1 + (p6 / p2))) (v1 + 1) _ _ _ _ hP hD hS (lv_sub hl [0, 2] rfl) mk0_0 gk0_1 mk0_32 mk0_33 fr hf
set_option maxHeartbeats 4000000 in
set_option maxRecDepth 100000 in
theorem c_Do_weighWords (l : Launch) (D : va_G) (cI cG cZ : ClassId) (ad : Nat → Nat) (B : Nat) (w0 : va_W) (N : Nat) (k0 : Nat) (x0_0 : (Nat → Nat → Int32)) (x0_1 : (Nat → Int32)) (x0_2 : (Nat → Int32)) (x0_3 : Int32) (y0_2 : (Nat → Int32)) (hf : f_Do_weighWords N x0_1 x0_2 x0_3 = some y0_2) (bk0_0 : wc_Do cI cG cZ ad k0 (x0_0, x0_1, x0_2, x0_3) w0) : Met l y_Do_weighWords (.code y_Do_weighWords b_Do_weighWords 3 none :: hw_G) ({ frames := 4, cells := 0, slots := 0, locals := 86 } : Room) (va_Pc [.ref (ad k0)] (hw_U D cI cG cZ B w0)) (va_Qv (fun (w1 : va_W) => wc_Do cI cG cZ ad k0 (x0_0, x0_1, y0_2, x0_3) w1 ∧ (∀ j : Nat, (j < k0 ∨ k0 + 34 ≤ j) → w1[j]? = w0[j]?)) (hw_B D B) (fun q : Nat => B ≤ q)) 0 0 (fun q : Nat => B ≤ q) := by
  refine Met.ofW (cc := b_Do_weighWords) (maxL := 3) (ret := none) (by decide) rfl ?_
  intro p e s m args below meth c s₁ Bd hml hv
  obtain ⟨rfl, hP, hD, hK, hN⟩ := hv
  have C0 : hw_C p s m meth c b_Do_weighWords 3 _ R_Do none := ⟨Bd.exec, Bd.bytes, Bd.returns, hml, findClass_of_methodNamed Bd.named, fun w h => atoms_spec (ws := .code y_Do_weighWords b_Do_weighWords 3 none :: hw_G) Bd.pre w (List.mem_cons_of_mem _ h), Bd.notSynchronized⟩
  obtain ⟨hx, hb, hr, -, hown, hts, hlocks⟩ := id C0
  have hS : va_S (fun q : Nat => B ≤ q) s.heap s.heap [] := va_S.rf
  have fr : ∀ j : Nat, (j < k0 ∨ k0 + 34 ≤ j) → w0[j]? = w0[j]? := fun j _ => rfl
  have hl := lv_entry ([.ref (ad k0)]) (n := 3) (Nat.le_of_ble_eq_true rfl)
  rw [lg_entry_eq]
  generalize (lg_sl ([.ref (ad k0)]) ++ List.replicate (3 - (lg_sl ([.ref (ad k0)])).length) Slot.unset).toArray = ls at hl ⊢
  have hl : lv_has ls 3 [(0, .ref (ad k0))] := hl
  unfold f_Do_weighWords at hf
  obtain ⟨mk0_0, gk0_1, mk0_32, mk0_33⟩ := id bk0_0
  have mk0_0 : w0[k0]? = some (ad k0, .inr (1, [.ref (ad (k0 + 1)), .ref (ad (k0 + 32)), .ref (ad (k0 + 33)), .int x0_3])) := mk0_0
  have gk0_1 : wc_grid cI cG ad (k0 + 1) 30 4 x0_0 w0 := gk0_1
  have mk0_32 : w0[k0 + 32]? = some (ad (k0 + 32), .inl (cI, 30, .inl x0_1)) := mk0_32
  have mk0_33 : w0[k0 + 33]? = some (ad (k0 + 33), .inl (cI, 8, .inl x0_2)) := mk0_33
  refine lv_iconst (v := 0) hx hb d_Do_weighWords_0 (by decide) ?_
  refine lv_istore_n (lv' := [(1, .int 0), (0, .ref (ad k0))]) hx hb d_Do_weighWords_1 rfl hl (by decide) rfl (fun ls hl => ?_)
  exact wl_Do_weighWords_2 C0 hK hN x0_0 x0_1 x0_3 x0_2 y0_2 N x0_2 0 _ _ _ _ hP hD hS (lv_sub hl [0, 1] rfl) mk0_0 gk0_1 mk0_32 mk0_33 fr hf
set_option maxHeartbeats 4000000 in
set_option maxRecDepth 100000 in
theorem wl_Do_score_5 {p : Program} {l : Launch} {e : Env} {s : State} {m : MethodId} {args : Array Value} {below : List Frame} {meth : Method} {c : Code} {D : va_G} {cI cG cZ : ClassId} {ad : Nat → Nat} {B : Nat} {w0 : va_W} {N : Nat} {k0 : Nat} (C0 : hw_C p s m meth c b_Do_score 6 args R_Do (some .int)) (hK : va_K D classes [(cI, .int), (cG, .array .int), (cZ, .boolean)] s) (hN : hw_N s) (x0_0 : (Nat → Nat → Int32)) (x0_1 : (Nat → Int32)) (x0_2 : (Nat → Int32)) (x0_3 : Int32) (a1 : Int32) (a2 : Int32) (r : Int32) : ∀ (n : Nat) (v3 : Int32) (v4 : Int32) (ws : va_W) (H : Heap) (locs : List Loc) (ls : Array Slot), va_P D classes ws H → va_D (fun q : Nat => B ≤ q) ws → va_S (fun q : Nat => B ≤ q) s.heap H locs → lv_has ls 6 [(4, .int v4), (3, .int v3), (0, .ref (ad k0)), (1, .int a1), (2, .int a2)] → ws[k0]? = some (ad k0, .inr (1, [.ref (ad (k0 + 1)), .ref (ad (k0 + 32)), .ref (ad (k0 + 33)), .int x0_3])) → wc_grid cI cG ad (k0 + 1) 30 4 x0_0 ws → ws[k0 + 32]? = some (ad (k0 + 32), .inl (cI, 30, .inl x0_1)) → ws[k0 + 33]? = some (ad (k0 + 33), .inl (cI, 8, .inl x0_2)) → (ws = w0) → f_Do_score_5 N x0_1 x0_2 a1 a2 n v3 v4 = some r → W p l e ({ frames := 1, cells := 0, slots := 0, locals := 22 } : Room) s m args below meth c H locs 0 0 (MQ below (va_Qi (fun (r1 : Int32) (w1 : va_W) => r1 = r ∧ w1 = w0) (hw_B D B) (fun q : Nat => B ≤ q)) args s 0 0 (fun q : Nat => B ≤ q)) (F0 m 5 ls []) := by
  obtain ⟨hx, hb, hr, hml, hown, hts, hlocks⟩ := id C0
  intro n
  induction n with
  | zero =>
    intro v3 v4 ws H locs ls hP hD hS hl mk0_0 gk0_1 mk0_32 mk0_33 fr hf
    exact nomatch (show none = some _ from hf)
  | succ n ih =>
    intro v3 v4 ws H locs ls hP hD hS hl mk0_0 gk0_1 mk0_32 mk0_33 fr hf
    rw [f_Do_score_5] at hf
    refine lv_iload hx hb d_Do_score_5 (lv_at hl 0 rfl) ?_
    refine lv_bipush (v := 8) hx hb d_Do_score_7 (by decide) ?_
    refine lv_icmp_ge (tgt := 57) hx hb d_Do_score_9 (by decide) (fun c1 => ?_) (fun c1 => ?_)
    · rw [if_pos c1] at hf
      refine lv_iload_n hx hb d_Do_score_57 rfl (lv_at hl 1 rfl) ?_
      have bk0_0 : wc_Do cI cG cZ ad (k0) (x0_0, x0_1, x0_2, x0_3) ws := ⟨mk0_0, gk0_1, mk0_32, mk0_33⟩
      have e0 := Option.some.inj hf
      exact W.iret (v := v3) hx hb hr (fun t ht hW => ⟨⟨v3, ws, rfl, ⟨e0, fr⟩, by rw [ht]; exact hP, hD⟩, hS.F ht⟩) hS.2.2 d_Do_score_58
    · rw [if_neg c1] at hf
      refine lv_iload_n hx hb d_Do_score_12 rfl (lv_at hl 4 rfl) ?_
      refine lv_iload hx hb d_Do_score_13 (lv_at hl 0 rfl) ?_
      obtain ⟨p2, hp2, hf⟩ := g_bd hf
      refine hw_ci0 (va_runSN (As := [.int a2, .int v4]) (rest := []) ⟨hx, hb, hml, hown, hts⟩ (c_Nd_isIn l D cI cG cZ ad B ws N a2 v4 p2 hp2) ⟨va_cnB 2 hts (hw_gc ic_Nd_isIn) rfl rfl rfl (hN _ in_381) (hts _ iw_1) (by decide +kernel) ⟨Nat.le_of_ble_eq_true rfl, Nat.le_of_ble_eq_true rfl⟩, hts _ iw_302, trivial⟩ ⟨hw_blind, hw_go hP hD hK hN⟩ rfl rfl hl.1 rfl (lv_room (Nat.le_of_ble_eq_true rfl)) d_Do_score_15 ⟨Nat.zero_le _, Nat.zero_le _⟩) hS (fun H locs hP hD hS => ?_)
      refine lv_if_eq (tgt := 51) hx hb d_Do_score_18 (by decide) (fun c3 => ?_) (fun c3 => ?_)
      · rw [if_pos c3] at hf
        refine lv_iinc (v := v4 + 1) (lv' := [(4, .int (v4 + 1)), (3, .int v3), (0, .ref (ad k0)), (1, .int a1), (2, .int a2)]) hx hb d_Do_score_51 hl (k := 0) rfl rfl (by decide) rfl (fun ls hl => ?_)
        refine lv_goto (tgt := 5) hx hb d_Do_score_54 (by decide) ?_
        exact ih v3 (v4 + 1) _ _ _ _ hP hD hS (lv_sub hl [0, 1, 2, 3, 4] rfl) mk0_0 gk0_1 mk0_32 mk0_33 fr hf
      · rw [if_neg c3] at hf
        refine lv_aload_n hx hb d_Do_score_21 rfl (lv_at hl 2 rfl) ?_
        refine lv_iload_n hx hb d_Do_score_22 rfl (lv_at hl 3 rfl) ?_
        refine lv_iload hx hb d_Do_score_23 (lv_at hl 0 rfl) ?_
        have bk0_0 : wc_Do cI cG cZ ad (k0) (x0_0, x0_1, x0_2, x0_3) ws := ⟨mk0_0, gk0_1, mk0_32, mk0_33⟩
        obtain ⟨p4, hp4, hf⟩ := g_bd hf
        refine hw_ci0 (va_runV (As := [.int a1, .int v4]) (rest := []) ⟨hx, hb, hml, hown, hts⟩ (c_Do_countOfWord l D cI cG cZ ad B ws N k0 x0_0 x0_1 x0_2 x0_3 a1 v4 p4 hp4 bk0_0) (cwV 2 hts (hw_gV iw_456 gy_Do_countOfWord) rfl rfl rfl (by decide +kernel) ⟨Nat.le_of_ble_eq_true rfl, Nat.le_of_ble_eq_true rfl⟩) ⟨hw_blind, va_recv hK hP (ci := 1) (q0 := k0) rfl bk0_0.1, hw_go hP hD hK hN⟩ rfl rfl hl.1 rfl (lv_room (Nat.le_of_ble_eq_true rfl)) d_Do_score_25 ⟨Nat.zero_le _, Nat.zero_le _⟩) hS (fun H locs hP hD hS => ?_)
        refine lv_istore (lv' := [(5, .int p4), (4, .int v4), (3, .int v3), (0, .ref (ad k0)), (1, .int a1), (2, .int a2)]) hx hb d_Do_score_28 hl (by decide) rfl (fun ls hl => ?_)
        refine lv_iload_n hx hb d_Do_score_30 rfl (lv_at hl 2 rfl) ?_
        refine lv_bipush (v := 100) hx hb d_Do_score_31 (by decide) ?_
        refine lv_iload hx hb d_Do_score_33 (lv_at hl 0 rfl) ?_
        refine lv_imul hx hb d_Do_score_35 ?_
        refine lv_iload hx hb d_Do_score_36 (lv_at hl 0 rfl) ?_
        refine lv_iconst (v := 1) hx hb d_Do_score_38 (by decide) ?_
        refine lv_iadd hx hb d_Do_score_39 ?_
        obtain ⟨z5, hf⟩ := g_dvE hf
        refine lv_idiv hx hb d_Do_score_40 z5 ?_
        refine lv_aload_n hx hb d_Do_score_41 rfl (lv_at hl 3 rfl) ?_
        obtain ⟨mk0_0, gk0_1, mk0_32, mk0_33⟩ := id bk0_0
        have mk0_0 : ws[k0]? = some (ad k0, .inr (1, [.ref (ad (k0 + 1)), .ref (ad (k0 + 32)), .ref (ad (k0 + 33)), .int x0_3])) := mk0_0
        have gk0_1 : wc_grid cI cG ad (k0 + 1) 30 4 x0_0 ws := gk0_1
        have mk0_32 : ws[k0 + 32]? = some (ad (k0 + 32), .inl (cI, 30, .inl x0_1)) := mk0_32
        have mk0_33 : ws[k0 + 33]? = some (ad (k0 + 33), .inl (cI, 8, .inl x0_2)) := mk0_33
        refine va_get (D := D) (ci := 1) (v := .ref (ad (k0 + 33))) (C := R_Do) (T := F_Do) (N := 4) hx hb hts i_Do hown hK hP (k0) mk0_0 rfl 2 (by decide) (hts _ iw_29) (fun _ h9 => h9) rfl d_Do_score_42 ?_
        refine lv_iload hx hb d_Do_score_45 (lv_at hl 1 rfl) ?_
        obtain ⟨z6, hf⟩ := g_atE hf
        refine va_iald hx hb hK hP (k0 + 33) 0 mk0_33 rfl z6 d_Do_score_47 ?_
        refine lv_imul hx hb d_Do_score_48 ?_
        refine lv_iadd hx hb d_Do_score_49 ?_
        refine lv_istore_n (lv' := [(3, .int (v3 + (((100 * p4) / (p4 + 1)) * (x0_2 v4.toNatClampNeg)))), (5, .int p4), (4, .int v4), (0, .ref (ad k0)), (1, .int a1), (2, .int a2)]) hx hb d_Do_score_50 rfl hl (by decide) rfl (fun ls hl => ?_)
        refine lv_iinc (v := v4 + 1) (lv' := [(4, .int (v4 + 1)), (3, .int (v3 + (((100 * p4) / (p4 + 1)) * (x0_2 v4.toNatClampNeg)))), (5, .int p4), (0, .ref (ad k0)), (1, .int a1), (2, .int a2)]) hx hb d_Do_score_51 hl (k := 2) rfl rfl (by decide) rfl (fun ls hl => ?_)
        refine lv_goto (tgt := 5) hx hb d_Do_score_54 (by decide) ?_
        exact ih (v3 + (((100 * p4) / (p4 + 1)) * (x0_2 v4.toNatClampNeg))) (v4 + 1) _ _ _ _ hP hD hS (lv_sub hl [0, 1, 3, 4, 5] rfl) mk0_0 gk0_1 mk0_32 mk0_33 fr hf
set_option maxHeartbeats 4000000 in
set_option maxRecDepth 100000 in
theorem c_Do_score (l : Launch) (D : va_G) (cI cG cZ : ClassId) (ad : Nat → Nat) (B : Nat) (w0 : va_W) (N : Nat) (k0 : Nat) (x0_0 : (Nat → Nat → Int32)) (x0_1 : (Nat → Int32)) (x0_2 : (Nat → Int32)) (x0_3 : Int32) (a1 : Int32) (a2 : Int32) (r : Int32) (hf : f_Do_score N x0_1 x0_2 a1 a2 = some r) (bk0_0 : wc_Do cI cG cZ ad k0 (x0_0, x0_1, x0_2, x0_3) w0) : Met l y_Do_score (.code y_Do_score b_Do_score 6 (some .int) :: hw_G) ({ frames := 1, cells := 0, slots := 0, locals := 22 } : Room) (va_Pc [.ref (ad k0), .int a1, .int a2] (hw_U D cI cG cZ B w0)) (va_Qi (fun (r1 : Int32) (w1 : va_W) => r1 = r ∧ w1 = w0) (hw_B D B) (fun q : Nat => B ≤ q)) 0 0 (fun q : Nat => B ≤ q) := by
  refine Met.ofW (cc := b_Do_score) (maxL := 6) (ret := (some .int)) (by decide) rfl ?_
  intro p e s m args below meth c s₁ Bd hml hv
  obtain ⟨rfl, hP, hD, hK, hN⟩ := hv
  have C0 : hw_C p s m meth c b_Do_score 6 _ R_Do (some .int) := ⟨Bd.exec, Bd.bytes, Bd.returns, hml, findClass_of_methodNamed Bd.named, fun w h => atoms_spec (ws := .code y_Do_score b_Do_score 6 (some .int) :: hw_G) Bd.pre w (List.mem_cons_of_mem _ h), Bd.notSynchronized⟩
  obtain ⟨hx, hb, hr, -, hown, hts, hlocks⟩ := id C0
  have hS : va_S (fun q : Nat => B ≤ q) s.heap s.heap [] := va_S.rf
  have fr : w0 = w0 := rfl
  have hl := lv_entry ([.ref (ad k0), .int a1, .int a2]) (n := 6) (Nat.le_of_ble_eq_true rfl)
  rw [lg_entry_eq]
  generalize (lg_sl ([.ref (ad k0), .int a1, .int a2]) ++ List.replicate (6 - (lg_sl ([.ref (ad k0), .int a1, .int a2])).length) Slot.unset).toArray = ls at hl ⊢
  have hl : lv_has ls 6 [(0, .ref (ad k0)), (1, .int a1), (2, .int a2)] := hl
  unfold f_Do_score at hf
  obtain ⟨mk0_0, gk0_1, mk0_32, mk0_33⟩ := id bk0_0
  have mk0_0 : w0[k0]? = some (ad k0, .inr (1, [.ref (ad (k0 + 1)), .ref (ad (k0 + 32)), .ref (ad (k0 + 33)), .int x0_3])) := mk0_0
  have gk0_1 : wc_grid cI cG ad (k0 + 1) 30 4 x0_0 w0 := gk0_1
  have mk0_32 : w0[k0 + 32]? = some (ad (k0 + 32), .inl (cI, 30, .inl x0_1)) := mk0_32
  have mk0_33 : w0[k0 + 33]? = some (ad (k0 + 33), .inl (cI, 8, .inl x0_2)) := mk0_33
  refine lv_iconst (v := 0) hx hb d_Do_score_0 (by decide) ?_
  refine lv_istore_n (lv' := [(3, .int 0), (0, .ref (ad k0)), (1, .int a1), (2, .int a2)]) hx hb d_Do_score_1 rfl hl (by decide) rfl (fun ls hl => ?_)
  refine lv_iconst (v := 0) hx hb d_Do_score_2 (by decide) ?_
  refine lv_istore (lv' := [(4, .int 0), (3, .int 0), (0, .ref (ad k0)), (1, .int a1), (2, .int a2)]) hx hb d_Do_score_3 hl (by decide) rfl (fun ls hl => ?_)
  exact wl_Do_score_5 C0 hK hN x0_0 x0_1 x0_2 x0_3 a1 a2 r N 0 0 _ _ _ _ hP hD hS (lv_sub hl [0, 1, 2, 3, 4] rfl) mk0_0 gk0_1 mk0_32 mk0_33 fr hf
set_option maxHeartbeats 4000000 in
set_option maxRecDepth 100000 in
theorem wl_Do_rankByScore_6 {p : Program} {l : Launch} {e : Env} {s : State} {m : MethodId} {args : Array Value} {below : List Frame} {meth : Method} {c : Code} {D : va_G} {cI cG cZ : ClassId} {ad : Nat → Nat} {B : Nat} {w0 : va_W} {N : Nat} {k0 : Nat} {k1 : Nat} (C0 : hw_C p s m meth c b_Do_rankByScore 5 args R_Do none) (hK : va_K D classes [(cI, .int), (cG, .array .int), (cZ, .boolean)] s) (hN : hw_N s) (dj0 : k0 + 34 ≤ k1 ∨ k1 + 3 ≤ k0) (x0_0 : (Nat → Nat → Int32)) (x0_1 : (Nat → Int32)) (x0_3 : Int32) (a1 : Int32) (p1 : (Nat → Int32)) (x0_2 : (Nat → Int32)) (x1_0 : (Nat → Int32)) (x1_1 : (Nat → Int32)) (x1_2 : Int32) (x1_3 : Int32) (x1_4 : Int32) (y0_2 : (Nat → Int32)) (y1_0 : (Nat → Int32)) (y1_1 : (Nat → Int32)) (y1_2 : Int32) (y1_3 : Int32) (y1_4 : Int32) : ∀ (n : Nat) (vbk1_0 : T_Rk) (v3 : Int32) (ws : va_W) (H : Heap) (locs : List Loc) (ls : Array Slot), va_P D classes ws H → va_D (fun q : Nat => B ≤ q) ws → va_S (fun q : Nat => B ≤ q) s.heap H locs → lv_has ls 5 [(3, .int v3), (0, .ref (ad k0)), (1, .int a1), (2, .ref (ad k1))] → ws[k0]? = some (ad k0, .inr (1, [.ref (ad (k0 + 1)), .ref (ad (k0 + 32)), .ref (ad (k0 + 33)), .int x0_3])) → wc_grid cI cG ad (k0 + 1) 30 4 x0_0 ws → ws[k0 + 32]? = some (ad (k0 + 32), .inl (cI, 30, .inl x0_1)) → ws[k0 + 33]? = some (ad (k0 + 33), .inl (cI, 8, .inl p1)) → wc_Rk cI cG cZ ad (k1) vbk1_0 ws → (∀ j : Nat, (j < k0 ∨ k0 + 34 ≤ j) → (j < k1 ∨ k1 + 3 ≤ j) → ws[j]? = w0[j]?) → f_Do_rankByScore_6 N x0_1 x0_3 a1 p1 n vbk1_0 v3 = some (y0_2, y1_0, y1_1, y1_2, y1_3, y1_4) → W p l e ({ frames := 5, cells := 0, slots := 0, locals := 108 } : Room) s m args below meth c H locs 0 0 (MQ below (va_Qv (fun (w1 : va_W) => wc_Do cI cG cZ ad k0 (x0_0, x0_1, y0_2, x0_3) w1 ∧ wc_Rk cI cG cZ ad k1 (y1_0, y1_1, y1_2, y1_3, y1_4) w1 ∧ (∀ j : Nat, (j < k0 ∨ k0 + 34 ≤ j) → (j < k1 ∨ k1 + 3 ≤ j) → w1[j]? = w0[j]?)) (hw_B D B) (fun q : Nat => B ≤ q)) args s 0 0 (fun q : Nat => B ≤ q)) (F0 m 6 ls []) := by
  obtain ⟨hx, hb, hr, hml, hown, hts, hlocks⟩ := id C0
  intro n
  induction n with
  | zero =>
    intro vbk1_0 v3 ws H locs ls hP hD hS hl mk0_0 gk0_1 mk0_32 mk0_33 bk1_0 fr hf
    exact nomatch (show none = some _ from hf)
  | succ n ih =>
    intro vbk1_0 v3 ws H locs ls hP hD hS hl mk0_0 gk0_1 mk0_32 mk0_33 bk1_0 fr hf
    rw [f_Do_rankByScore_6] at hf
    refine lv_iload_n hx hb d_Do_rankByScore_6 rfl (lv_at hl 0 rfl) ?_
    refine lv_bipush (v := 30) hx hb d_Do_rankByScore_7 (by decide) ?_
    refine lv_icmp_ge (tgt := 51) hx hb d_Do_rankByScore_9 (by decide) (fun c3 => ?_) (fun c3 => ?_)
    · rw [if_pos c3] at hf
      have bk0_0 : wc_Do cI cG cZ ad (k0) (x0_0, x0_1, p1, x0_3) ws := ⟨mk0_0, gk0_1, mk0_32, mk0_33⟩
      have he := Option.some.inj hf
      obtain ⟨e0, he⟩ := Prod.mk.inj he
      obtain ⟨e1, he⟩ := Prod.mk.inj he
      obtain ⟨e2, he⟩ := Prod.mk.inj he
      obtain ⟨e3, he⟩ := Prod.mk.inj he
      obtain ⟨e4, e5⟩ := Prod.mk.inj he
      have f0 : wc_Do cI cG cZ ad (k0) (x0_0, x0_1, y0_2, x0_3) ws := by rw [← e0]; exact bk0_0
      have f1 : wc_Rk cI cG cZ ad (k1) (y1_0, y1_1, y1_2, y1_3, y1_4) ws := by rw [← e1, ← e2, ← e3, ← e4, ← e5]; exact bk1_0
      exact W.vret hx hb hr (fun t ht hW => ⟨⟨ws, rfl, ⟨f0, f1, fr⟩, by rw [ht]; exact hP, hD⟩, hS.F ht⟩) hS.2.2 d_Do_rankByScore_51
    · rw [if_neg c3] at hf
      refine lv_aload_n hx hb d_Do_rankByScore_12 rfl (lv_at hl 1 rfl) ?_
      refine lv_iload_n hx hb d_Do_rankByScore_13 rfl (lv_at hl 0 rfl) ?_
      have bk0_0 : wc_Do cI cG cZ ad (k0) (x0_0, x0_1, p1, x0_3) ws := ⟨mk0_0, gk0_1, mk0_32, mk0_33⟩
      obtain ⟨p4, hp4, hf⟩ := g_bd hf
      refine hw_ci0 (va_runV (As := [.int v3]) (rest := []) ⟨hx, hb, hml, hown, hts⟩ (c_Do_isLive l D cI cG cZ ad B ws N k0 x0_0 x0_1 p1 x0_3 v3 p4 hp4 bk0_0) (cwV 1 hts (hw_gV iw_374 gy_Do_isLive) rfl rfl rfl (by decide +kernel) ⟨Nat.le_of_ble_eq_true rfl, Nat.le_of_ble_eq_true rfl⟩) ⟨hw_blind, va_recv hK hP (ci := 1) (q0 := k0) rfl bk0_0.1, hw_go hP hD hK hN⟩ rfl rfl hl.1 rfl (lv_room (Nat.le_of_ble_eq_true rfl)) d_Do_rankByScore_14 ⟨Nat.zero_le _, Nat.zero_le _⟩) hS (fun H locs hP hD hS => ?_)
      refine lv_if_eq (tgt := 29) hx hb d_Do_rankByScore_17 (by decide) (fun c5 => ?_) (fun c5 => ?_)
      · rw [if_pos c5] at hf
        refine lv_iconst (v := 0) hx hb d_Do_rankByScore_29 (by decide) ?_
        refine lv_istore (lv' := [(4, .int 0), (3, .int v3), (0, .ref (ad k0)), (1, .int a1), (2, .ref (ad k1))]) hx hb d_Do_rankByScore_30 hl (by decide) rfl (fun ls hl => ?_)
        refine lv_iload hx hb d_Do_rankByScore_32 (lv_at hl 0 rfl) ?_
        refine lv_if_le (tgt := 45) hx hb d_Do_rankByScore_34 (by decide) (fun c6 => ?_) (fun c6 => ?_)
        · refine lv_iinc (v := v3 + 1) (lv' := [(3, .int (v3 + 1)), (4, .int 0), (0, .ref (ad k0)), (1, .int a1), (2, .ref (ad k1))]) hx hb d_Do_rankByScore_45 hl (k := 1) rfl rfl (by decide) rfl (fun ls hl => ?_)
          refine lv_goto (tgt := 6) hx hb d_Do_rankByScore_48 (by decide) ?_
          obtain ⟨mk0_0, gk0_1, mk0_32, mk0_33⟩ := id bk0_0
          have mk0_0 : ws[k0]? = some (ad k0, .inr (1, [.ref (ad (k0 + 1)), .ref (ad (k0 + 32)), .ref (ad (k0 + 33)), .int x0_3])) := mk0_0
          have gk0_1 : wc_grid cI cG ad (k0 + 1) 30 4 x0_0 ws := gk0_1
          have mk0_32 : ws[k0 + 32]? = some (ad (k0 + 32), .inl (cI, 30, .inl x0_1)) := mk0_32
          have mk0_33 : ws[k0 + 33]? = some (ad (k0 + 33), .inl (cI, 8, .inl p1)) := mk0_33
          exact ih vbk1_0 (v3 + 1) _ _ _ _ hP hD hS (lv_sub hl [0, 2, 3, 4] rfl) mk0_0 gk0_1 mk0_32 mk0_33 bk1_0 fr hf
        · exact absurd (by decide) c6
      · rw [if_neg c5] at hf
        refine lv_aload_n hx hb d_Do_rankByScore_20 rfl (lv_at hl 1 rfl) ?_
        refine lv_iload_n hx hb d_Do_rankByScore_21 rfl (lv_at hl 0 rfl) ?_
        refine lv_iload_n hx hb d_Do_rankByScore_22 rfl (lv_at hl 2 rfl) ?_
        obtain ⟨p7, hp7, hf⟩ := g_bd hf
        refine hw_ci0 (va_runV (As := [.int v3, .int a1]) (rest := []) ⟨hx, hb, hml, hown, hts⟩ (c_Do_score l D cI cG cZ ad B ws N k0 x0_0 x0_1 p1 x0_3 v3 a1 p7 hp7 bk0_0) (cwV 2 hts (hw_gV iw_461 gy_Do_score) rfl rfl rfl (by decide +kernel) ⟨Nat.le_of_ble_eq_true rfl, Nat.le_of_ble_eq_true rfl⟩) ⟨hw_blind, va_recv hK hP (ci := 1) (q0 := k0) rfl bk0_0.1, hw_go hP hD hK hN⟩ rfl rfl hl.1 rfl (lv_room (Nat.le_of_ble_eq_true rfl)) d_Do_rankByScore_23 ⟨Nat.zero_le _, Nat.zero_le _⟩) hS (fun H locs hP hD hS => ?_)
        refine lv_goto (tgt := 30) hx hb d_Do_rankByScore_26 (by decide) ?_
        refine lv_istore (lv' := [(4, .int p7), (3, .int v3), (0, .ref (ad k0)), (1, .int a1), (2, .ref (ad k1))]) hx hb d_Do_rankByScore_30 hl (by decide) rfl (fun ls hl => ?_)
        refine lv_iload hx hb d_Do_rankByScore_32 (lv_at hl 0 rfl) ?_
        refine lv_if_le (tgt := 45) hx hb d_Do_rankByScore_34 (by decide) (fun c8 => ?_) (fun c8 => ?_)
        · rw [if_pos c8] at hf
          refine lv_iinc (v := v3 + 1) (lv' := [(3, .int (v3 + 1)), (4, .int p7), (0, .ref (ad k0)), (1, .int a1), (2, .ref (ad k1))]) hx hb d_Do_rankByScore_45 hl (k := 1) rfl rfl (by decide) rfl (fun ls hl => ?_)
          refine lv_goto (tgt := 6) hx hb d_Do_rankByScore_48 (by decide) ?_
          obtain ⟨mk0_0, gk0_1, mk0_32, mk0_33⟩ := id bk0_0
          have mk0_0 : ws[k0]? = some (ad k0, .inr (1, [.ref (ad (k0 + 1)), .ref (ad (k0 + 32)), .ref (ad (k0 + 33)), .int x0_3])) := mk0_0
          have gk0_1 : wc_grid cI cG ad (k0 + 1) 30 4 x0_0 ws := gk0_1
          have mk0_32 : ws[k0 + 32]? = some (ad (k0 + 32), .inl (cI, 30, .inl x0_1)) := mk0_32
          have mk0_33 : ws[k0 + 33]? = some (ad (k0 + 33), .inl (cI, 8, .inl p1)) := mk0_33
          exact ih vbk1_0 (v3 + 1) _ _ _ _ hP hD hS (lv_sub hl [0, 2, 3, 4] rfl) mk0_0 gk0_1 mk0_32 mk0_33 bk1_0 fr hf
        · rw [if_neg c8] at hf
          refine lv_aload_n hx hb d_Do_rankByScore_37 rfl (lv_at hl 4 rfl) ?_
          refine lv_iload_n hx hb d_Do_rankByScore_38 rfl (lv_at hl 1 rfl) ?_
          refine lv_iload hx hb d_Do_rankByScore_39 (lv_at hl 0 rfl) ?_
          obtain ⟨p9, hp9, hf⟩ := g_bd hf
          refine hw_ci (va_runV (As := [.int v3, .int p7]) (rest := []) ⟨hx, hb, hml, hown, hts⟩ (c_Rk_add l D cI cG cZ ad B ws N k1 vbk1_0.1 vbk1_0.2.1 vbk1_0.2.2.1 vbk1_0.2.2.2.1 vbk1_0.2.2.2.2 v3 p7 p9.1 p9.2.1 p9.2.2.1 p9.2.2.2 hp9 bk1_0) (cwV 2 hts (hw_gV iw_439 gy_Rk_add) rfl rfl rfl (by decide +kernel) ⟨Nat.le_of_ble_eq_true rfl, Nat.le_of_ble_eq_true rfl⟩) ⟨hw_blind, va_recv hK hP (ci := 4) (q0 := k1) rfl bk1_0.1, hw_go hP hD hK hN⟩ rfl rfl hl.1 rfl (lv_room (Nat.le_of_ble_eq_true rfl)) d_Do_rankByScore_41 ⟨Nat.zero_le _, Nat.zero_le _⟩) hS (fun w10 H locs hP hD hS hpp => ?_)
          obtain ⟨q0, frc⟩ := hpp
          have bk1_0 : wc_Rk cI cG cZ ad (k1) (p9.2.1, p9.2.2.1, p9.2.2.2, vbk1_0.2.2.2.1, vbk1_0.2.2.2.2) w10 := q0
          have bk0_0 : wc_Do cI cG cZ ad (k0) (x0_0, x0_1, p1, x0_3) w10 := bk0_0.fr (fun j h1 h2 => frc j (by omega))
          have fr : ∀ j : Nat, (j < k0 ∨ k0 + 34 ≤ j) → (j < k1 ∨ k1 + 3 ≤ j) → w10[j]? = w0[j]? := fun j o0 o1 => (frc j (by omega)).trans (fr j o0 o1)
          refine lv_pop hx hb d_Do_rankByScore_44 rfl ?_
          refine lv_iinc (v := v3 + 1) (lv' := [(3, .int (v3 + 1)), (4, .int p7), (0, .ref (ad k0)), (1, .int a1), (2, .ref (ad k1))]) hx hb d_Do_rankByScore_45 hl (k := 1) rfl rfl (by decide) rfl (fun ls hl => ?_)
          refine lv_goto (tgt := 6) hx hb d_Do_rankByScore_48 (by decide) ?_
          obtain ⟨mk0_0, gk0_1, mk0_32, mk0_33⟩ := id bk0_0
          have mk0_0 : w10[k0]? = some (ad k0, .inr (1, [.ref (ad (k0 + 1)), .ref (ad (k0 + 32)), .ref (ad (k0 + 33)), .int x0_3])) := mk0_0
          have gk0_1 : wc_grid cI cG ad (k0 + 1) 30 4 x0_0 w10 := gk0_1
          have mk0_32 : w10[k0 + 32]? = some (ad (k0 + 32), .inl (cI, 30, .inl x0_1)) := mk0_32
          have mk0_33 : w10[k0 + 33]? = some (ad (k0 + 33), .inl (cI, 8, .inl p1)) := mk0_33
          exact ih (p9.2.1, p9.2.2.1, p9.2.2.2, vbk1_0.2.2.2.1, vbk1_0.2.2.2.2) (v3 + 1) _ _ _ _ hP hD hS (lv_sub hl [0, 2, 3, 4] rfl) mk0_0 gk0_1 mk0_32 mk0_33 bk1_0 fr hf
set_option maxHeartbeats 4000000 in
set_option maxRecDepth 100000 in
theorem c_Do_rankByScore (l : Launch) (D : va_G) (cI cG cZ : ClassId) (ad : Nat → Nat) (B : Nat) (w0 : va_W) (N : Nat) (k0 : Nat) (x0_0 : (Nat → Nat → Int32)) (x0_1 : (Nat → Int32)) (x0_2 : (Nat → Int32)) (x0_3 : Int32) (k1 : Nat) (x1_0 : (Nat → Int32)) (x1_1 : (Nat → Int32)) (x1_2 : Int32) (x1_3 : Int32) (x1_4 : Int32) (a1 : Int32) (y0_2 : (Nat → Int32)) (y1_0 : (Nat → Int32)) (y1_1 : (Nat → Int32)) (y1_2 : Int32) (y1_3 : Int32) (y1_4 : Int32) (hf : f_Do_rankByScore N x0_1 x0_2 x0_3 x1_0 x1_1 x1_2 x1_3 x1_4 a1 = some (y0_2, y1_0, y1_1, y1_2, y1_3, y1_4)) (bk0_0 : wc_Do cI cG cZ ad k0 (x0_0, x0_1, x0_2, x0_3) w0) (bk1_0 : wc_Rk cI cG cZ ad k1 (x1_0, x1_1, x1_2, x1_3, x1_4) w0) (dj0 : k0 + 34 ≤ k1 ∨ k1 + 3 ≤ k0) : Met l y_Do_rankByScore (.code y_Do_rankByScore b_Do_rankByScore 5 none :: hw_G) ({ frames := 5, cells := 0, slots := 0, locals := 108 } : Room) (va_Pc [.ref (ad k0), .int a1, .ref (ad k1)] (hw_U D cI cG cZ B w0)) (va_Qv (fun (w1 : va_W) => wc_Do cI cG cZ ad k0 (x0_0, x0_1, y0_2, x0_3) w1 ∧ wc_Rk cI cG cZ ad k1 (y1_0, y1_1, y1_2, y1_3, y1_4) w1 ∧ (∀ j : Nat, (j < k0 ∨ k0 + 34 ≤ j) → (j < k1 ∨ k1 + 3 ≤ j) → w1[j]? = w0[j]?)) (hw_B D B) (fun q : Nat => B ≤ q)) 0 0 (fun q : Nat => B ≤ q) := by
  refine Met.ofW (cc := b_Do_rankByScore) (maxL := 5) (ret := none) (by decide) rfl ?_
  intro p e s m args below meth c s₁ Bd hml hv
  obtain ⟨rfl, hP, hD, hK, hN⟩ := hv
  have C0 : hw_C p s m meth c b_Do_rankByScore 5 _ R_Do none := ⟨Bd.exec, Bd.bytes, Bd.returns, hml, findClass_of_methodNamed Bd.named, fun w h => atoms_spec (ws := .code y_Do_rankByScore b_Do_rankByScore 5 none :: hw_G) Bd.pre w (List.mem_cons_of_mem _ h), Bd.notSynchronized⟩
  obtain ⟨hx, hb, hr, -, hown, hts, hlocks⟩ := id C0
  have hS : va_S (fun q : Nat => B ≤ q) s.heap s.heap [] := va_S.rf
  have fr : ∀ j : Nat, (j < k0 ∨ k0 + 34 ≤ j) → (j < k1 ∨ k1 + 3 ≤ j) → w0[j]? = w0[j]? := fun j _ _ => rfl
  have hl := lv_entry ([.ref (ad k0), .int a1, .ref (ad k1)]) (n := 5) (Nat.le_of_ble_eq_true rfl)
  rw [lg_entry_eq]
  generalize (lg_sl ([.ref (ad k0), .int a1, .ref (ad k1)]) ++ List.replicate (5 - (lg_sl ([.ref (ad k0), .int a1, .ref (ad k1)])).length) Slot.unset).toArray = ls at hl ⊢
  have hl : lv_has ls 5 [(0, .ref (ad k0)), (1, .int a1), (2, .ref (ad k1))] := hl
  unfold f_Do_rankByScore at hf
  obtain ⟨mk0_0, gk0_1, mk0_32, mk0_33⟩ := id bk0_0
  have mk0_0 : w0[k0]? = some (ad k0, .inr (1, [.ref (ad (k0 + 1)), .ref (ad (k0 + 32)), .ref (ad (k0 + 33)), .int x0_3])) := mk0_0
  have gk0_1 : wc_grid cI cG ad (k0 + 1) 30 4 x0_0 w0 := gk0_1
  have mk0_32 : w0[k0 + 32]? = some (ad (k0 + 32), .inl (cI, 30, .inl x0_1)) := mk0_32
  have mk0_33 : w0[k0 + 33]? = some (ad (k0 + 33), .inl (cI, 8, .inl x0_2)) := mk0_33
  refine lv_aload_n hx hb d_Do_rankByScore_0 rfl (lv_at hl 0 rfl) ?_
  have bk0_0 : wc_Do cI cG cZ ad (k0) (x0_0, x0_1, x0_2, x0_3) w0 := ⟨mk0_0, gk0_1, mk0_32, mk0_33⟩
  obtain ⟨p1, hp1, hf⟩ := g_bd hf
  refine hw_cv (va_runV (As := []) (rest := []) ⟨hx, hb, hml, hown, hts⟩ (c_Do_weighWords l D cI cG cZ ad B w0 N k0 x0_0 x0_1 x0_2 x0_3 p1 hp1 bk0_0) (cwV 0 hts (hw_gV iw_448 gy_Do_weighWords) rfl rfl rfl (by decide +kernel) ⟨Nat.le_of_ble_eq_true rfl, Nat.le_of_ble_eq_true rfl⟩) ⟨hw_blind, va_recv hK hP (ci := 1) (q0 := k0) rfl bk0_0.1, hw_go hP hD hK hN⟩ rfl rfl hl.1 rfl (lv_room (Nat.le_of_ble_eq_true rfl)) d_Do_rankByScore_1 ⟨Nat.zero_le _, Nat.zero_le _⟩) hS (fun w2 H locs hP hD hS hpp => ?_)
  obtain ⟨q0, frc⟩ := hpp
  have bk0_0 : wc_Do cI cG cZ ad (k0) (x0_0, x0_1, p1, x0_3) w2 := q0
  have bk1_0 : wc_Rk cI cG cZ ad (k1) (x1_0, x1_1, x1_2, x1_3, x1_4) w2 := bk1_0.fr (fun j h1 h2 => frc j (by omega))
  have fr : ∀ j : Nat, (j < k0 ∨ k0 + 34 ≤ j) → (j < k1 ∨ k1 + 3 ≤ j) → w2[j]? = w0[j]? := fun j o0 o1 => (frc j (by omega)).trans (fr j o0 o1)
  refine lv_iconst (v := 0) hx hb d_Do_rankByScore_4 (by decide) ?_
  refine lv_istore_n (lv' := [(3, .int 0), (0, .ref (ad k0)), (1, .int a1), (2, .ref (ad k1))]) hx hb d_Do_rankByScore_5 rfl hl (by decide) rfl (fun ls hl => ?_)
  obtain ⟨mk0_0, gk0_1, mk0_32, mk0_33⟩ := id bk0_0
  have mk0_0 : w2[k0]? = some (ad k0, .inr (1, [.ref (ad (k0 + 1)), .ref (ad (k0 + 32)), .ref (ad (k0 + 33)), .int x0_3])) := mk0_0
  have gk0_1 : wc_grid cI cG ad (k0 + 1) 30 4 x0_0 w2 := gk0_1
  have mk0_32 : w2[k0 + 32]? = some (ad (k0 + 32), .inl (cI, 30, .inl x0_1)) := mk0_32
  have mk0_33 : w2[k0 + 33]? = some (ad (k0 + 33), .inl (cI, 8, .inl p1)) := mk0_33
  exact wl_Do_rankByScore_6 C0 hK hN dj0 x0_0 x0_1 x0_3 a1 p1 x0_2 x1_0 x1_1 x1_2 x1_3 x1_4 y0_2 y1_0 y1_1 y1_2 y1_3 y1_4 N (x1_0, x1_1, x1_2, x1_3, x1_4) 0 _ _ _ _ hP hD hS (lv_sub hl [0, 1, 2, 3] rfl) mk0_0 gk0_1 mk0_32 mk0_33 bk1_0 fr hf
set_option maxHeartbeats 4000000 in
set_option maxRecDepth 100000 in
theorem c_Do_counts (l : Launch) (D : va_G) (cI cG cZ : ClassId) (ad : Nat → Nat) (B : Nat) (w0 : va_W) (N : Nat) (k0 : Nat) (x0_0 : (Nat → Nat → Int32)) (x0_1 : (Nat → Int32)) (x0_2 : (Nat → Int32)) (x0_3 : Int32) (a1 : Int32) (r : Int32) (hf : f_Do_counts N x0_1 a1 = some r) (bk0_0 : wc_Do cI cG cZ ad k0 (x0_0, x0_1, x0_2, x0_3) w0) : Met l y_Do_counts (.code y_Do_counts b_Do_counts 2 (some .int) :: hw_G) ({ frames := 0, cells := 0, slots := 0, locals := 0 } : Room) (va_Pc [.ref (ad k0), .int a1] (hw_U D cI cG cZ B w0)) (va_Qi (fun (r1 : Int32) (w1 : va_W) => r1 = r ∧ w1 = w0) (hw_B D B) (fun q : Nat => B ≤ q)) 0 0 (fun q : Nat => B ≤ q) := by
  refine Met.ofW (cc := b_Do_counts) (maxL := 2) (ret := (some .int)) (by decide) rfl ?_
  intro p e s m args below meth c s₁ Bd hml hv
  obtain ⟨rfl, hP, hD, hK, hN⟩ := hv
  have C0 : hw_C p s m meth c b_Do_counts 2 _ R_Do (some .int) := ⟨Bd.exec, Bd.bytes, Bd.returns, hml, findClass_of_methodNamed Bd.named, fun w h => atoms_spec (ws := .code y_Do_counts b_Do_counts 2 (some .int) :: hw_G) Bd.pre w (List.mem_cons_of_mem _ h), Bd.notSynchronized⟩
  obtain ⟨hx, hb, hr, -, hown, hts, hlocks⟩ := id C0
  have hS : va_S (fun q : Nat => B ≤ q) s.heap s.heap [] := va_S.rf
  have fr : w0 = w0 := rfl
  have hl := lv_entry ([.ref (ad k0), .int a1]) (n := 2) (Nat.le_of_ble_eq_true rfl)
  rw [lg_entry_eq]
  generalize (lg_sl ([.ref (ad k0), .int a1]) ++ List.replicate (2 - (lg_sl ([.ref (ad k0), .int a1])).length) Slot.unset).toArray = ls at hl ⊢
  have hl : lv_has ls 2 [(0, .ref (ad k0)), (1, .int a1)] := hl
  unfold f_Do_counts at hf
  obtain ⟨mk0_0, gk0_1, mk0_32, mk0_33⟩ := id bk0_0
  have mk0_0 : w0[k0]? = some (ad k0, .inr (1, [.ref (ad (k0 + 1)), .ref (ad (k0 + 32)), .ref (ad (k0 + 33)), .int x0_3])) := mk0_0
  have gk0_1 : wc_grid cI cG ad (k0 + 1) 30 4 x0_0 w0 := gk0_1
  have mk0_32 : w0[k0 + 32]? = some (ad (k0 + 32), .inl (cI, 30, .inl x0_1)) := mk0_32
  have mk0_33 : w0[k0 + 33]? = some (ad (k0 + 33), .inl (cI, 8, .inl x0_2)) := mk0_33
  refine lv_aload_n hx hb d_Do_counts_0 rfl (lv_at hl 0 rfl) ?_
  refine va_get (D := D) (ci := 1) (v := .ref (ad (k0 + 32))) (C := R_Do) (T := F_Do) (N := 4) hx hb hts i_Do hown hK hP (k0) mk0_0 rfl 1 (by decide) (hts _ iw_28) (fun _ h9 => h9) rfl d_Do_counts_1 ?_
  refine lv_iload_n hx hb d_Do_counts_4 rfl (lv_at hl 1 rfl) ?_
  obtain ⟨z1, hf⟩ := g_atE hf
  refine va_iald hx hb hK hP (k0 + 32) 0 mk0_32 rfl z1 d_Do_counts_5 ?_
  have bk0_0 : wc_Do cI cG cZ ad (k0) (x0_0, x0_1, x0_2, x0_3) w0 := ⟨mk0_0, gk0_1, mk0_32, mk0_33⟩
  have e0 := Option.some.inj hf
  exact W.iret (v := x0_1 a1.toNatClampNeg) hx hb hr (fun t ht hW => ⟨⟨x0_1 a1.toNatClampNeg, w0, rfl, ⟨e0, fr⟩, by rw [ht]; exact hP, hD⟩, hS.F ht⟩) hS.2.2 d_Do_counts_6
set_option maxHeartbeats 4000000 in
set_option maxRecDepth 100000 in
theorem c_Do_coordinate (l : Launch) (D : va_G) (cI cG cZ : ClassId) (ad : Nat → Nat) (B : Nat) (w0 : va_W) (N : Nat) (k0 : Nat) (x0_0 : (Nat → Nat → Int32)) (x0_1 : (Nat → Int32)) (x0_2 : (Nat → Int32)) (x0_3 : Int32) (a1 : Int32) (a2 : Int32) (r : Int32) (hf : f_Do_coordinate N x0_0 a1 a2 = some r) (bk0_0 : wc_Do cI cG cZ ad k0 (x0_0, x0_1, x0_2, x0_3) w0) : Met l y_Do_coordinate (.code y_Do_coordinate b_Do_coordinate 3 (some .int) :: hw_G) ({ frames := 0, cells := 0, slots := 0, locals := 0 } : Room) (va_Pc [.ref (ad k0), .int a1, .int a2] (hw_U D cI cG cZ B w0)) (va_Qi (fun (r1 : Int32) (w1 : va_W) => r1 = r ∧ w1 = w0) (hw_B D B) (fun q : Nat => B ≤ q)) 0 0 (fun q : Nat => B ≤ q) := by
  refine Met.ofW (cc := b_Do_coordinate) (maxL := 3) (ret := (some .int)) (by decide) rfl ?_
  intro p e s m args below meth c s₁ Bd hml hv
  obtain ⟨rfl, hP, hD, hK, hN⟩ := hv
  have C0 : hw_C p s m meth c b_Do_coordinate 3 _ R_Do (some .int) := ⟨Bd.exec, Bd.bytes, Bd.returns, hml, findClass_of_methodNamed Bd.named, fun w h => atoms_spec (ws := .code y_Do_coordinate b_Do_coordinate 3 (some .int) :: hw_G) Bd.pre w (List.mem_cons_of_mem _ h), Bd.notSynchronized⟩
  obtain ⟨hx, hb, hr, -, hown, hts, hlocks⟩ := id C0
  have hS : va_S (fun q : Nat => B ≤ q) s.heap s.heap [] := va_S.rf
  have fr : w0 = w0 := rfl
  have hl := lv_entry ([.ref (ad k0), .int a1, .int a2]) (n := 3) (Nat.le_of_ble_eq_true rfl)
  rw [lg_entry_eq]
  generalize (lg_sl ([.ref (ad k0), .int a1, .int a2]) ++ List.replicate (3 - (lg_sl ([.ref (ad k0), .int a1, .int a2])).length) Slot.unset).toArray = ls at hl ⊢
  have hl : lv_has ls 3 [(0, .ref (ad k0)), (1, .int a1), (2, .int a2)] := hl
  unfold f_Do_coordinate at hf
  obtain ⟨mk0_0, gk0_1, mk0_32, mk0_33⟩ := id bk0_0
  have mk0_0 : w0[k0]? = some (ad k0, .inr (1, [.ref (ad (k0 + 1)), .ref (ad (k0 + 32)), .ref (ad (k0 + 33)), .int x0_3])) := mk0_0
  have gk0_1 : wc_grid cI cG ad (k0 + 1) 30 4 x0_0 w0 := gk0_1
  have mk0_32 : w0[k0 + 32]? = some (ad (k0 + 32), .inl (cI, 30, .inl x0_1)) := mk0_32
  have mk0_33 : w0[k0 + 33]? = some (ad (k0 + 33), .inl (cI, 8, .inl x0_2)) := mk0_33
  refine lv_aload_n hx hb d_Do_coordinate_0 rfl (lv_at hl 0 rfl) ?_
  refine va_get (D := D) (ci := 1) (v := .ref (ad (k0 + 1))) (C := R_Do) (T := F_Do) (N := 4) hx hb hts i_Do hown hK hP (k0) mk0_0 rfl 0 (by decide) (hts _ iw_27) (fun _ h9 => h9) rfl d_Do_coordinate_1 ?_
  refine lv_iload_n hx hb d_Do_coordinate_4 rfl (lv_at hl 1 rfl) ?_
  obtain ⟨z1, hf⟩ := g_atE hf
  have lz1 := g_inLt z1
  refine hw_aald hx hb hK hP (k0 + 1) 1 gk0_1.1 rfl rfl z1 d_Do_coordinate_5 rfl ?_
  refine lv_iload_n hx hb d_Do_coordinate_6 rfl (lv_at hl 2 rfl) ?_
  obtain ⟨z2, hf⟩ := g_atE hf
  refine va_iald hx hb hK hP (k0 + 1 + 1 + a1.toNatClampNeg) 0 (gk0_1.2 _ (g_inLt z1)) rfl z2 d_Do_coordinate_7 ?_
  have bk0_0 : wc_Do cI cG cZ ad (k0) (x0_0, x0_1, x0_2, x0_3) w0 := ⟨mk0_0, gk0_1, mk0_32, mk0_33⟩
  have e0 := Option.some.inj hf
  exact W.iret (v := (x0_0 a1.toNatClampNeg) a2.toNatClampNeg) hx hb hr (fun t ht hW => ⟨⟨(x0_0 a1.toNatClampNeg) a2.toNatClampNeg, w0, rfl, ⟨e0, fr⟩, by rw [ht]; exact hP, hD⟩, hS.F ht⟩) hS.2.2 d_Do_coordinate_8
end
section
set_option maxHeartbeats 4000000 in
set_option maxRecDepth 100000 in
theorem wl_Ch_isNearestToVector_3 {p : Program} {l : Launch} {e : Env} {s : State} {m : MethodId} {args : Array Value} {below : List Frame} {meth : Method} {c : Code} {D : va_G} {cI cG cZ : ClassId} {ad : Nat → Nat} {B : Nat} {w0 : va_W} {N : Nat} {k0 : Nat} {k1 : Nat} (C0 : hw_C p s m meth c b_Ch_isNearestToVector 5 args R_Ch (some .boolean)) (hK : va_K D classes [(cI, .int), (cG, .array .int), (cZ, .boolean)] s) (hN : hw_N s) (x0_0 : (Nat → Int32)) (x0_1 : Int32) (x0_2 : Int32) (x1_0 : (Nat → Nat → Int32)) (x1_1 : (Nat → Int32)) (x1_2 : (Nat → Int32)) (x1_3 : Int32) (a2 : Int32) (a3 : Int32) (r : Int32) : ∀ (n : Nat) (v4 : Int32) (ws : va_W) (H : Heap) (locs : List Loc) (ls : Array Slot), va_P D classes ws H → va_D (fun q : Nat => B ≤ q) ws → va_S (fun q : Nat => B ≤ q) s.heap H locs → lv_has ls 5 [(4, .int v4), (0, .ref (ad k0)), (1, .ref (ad k1)), (2, .int a2), (3, .int a3)] → ws[k0]? = some (ad k0, .inr (0, [.ref (ad (k0 + 1)), .int x0_1, .int x0_2])) → ws[k0 + 1]? = some (ad (k0 + 1), .inl (cI, 30, .inl x0_0)) → wc_Do cI cG cZ ad (k1) (x1_0, x1_1, x1_2, x1_3) ws → (ws = w0) → f_Ch_isNearestToVector_3 N x0_0 x0_1 x1_0 a2 a3 n v4 = some r → W p l e ({ frames := 1, cells := 0, slots := 0, locals := 24 } : Room) s m args below meth c H locs 0 0 (MQ below (va_Qi (fun (r1 : Int32) (w1 : va_W) => r1 = r ∧ w1 = w0) (hw_B D B) (fun q : Nat => B ≤ q)) args s 0 0 (fun q : Nat => B ≤ q)) (F0 m 3 ls []) := by
  obtain ⟨hx, hb, hr, hml, hown, hts, hlocks⟩ := id C0
  intro n
  induction n with
  | zero =>
    intro v4 ws H locs ls hP hD hS hl mk0_0 mk0_1 bk1_0 fr hf
    exact nomatch (show none = some _ from hf)
  | succ n ih =>
    intro v4 ws H locs ls hP hD hS hl mk0_0 mk0_1 bk1_0 fr hf
    rw [f_Ch_isNearestToVector_3] at hf
    refine lv_iload hx hb d_Ch_isNearestToVector_3 (lv_at hl 0 rfl) ?_
    refine lv_aload_n hx hb d_Ch_isNearestToVector_5 rfl (lv_at hl 1 rfl) ?_
    refine va_get (D := D) (ci := 0) (v := .int x0_1) (C := R_Ch) (T := F_Ch) (N := 3) hx hb hts i_Ch hown hK hP (k0) mk0_0 rfl 1 (by decide) (hts _ iw_120) (fun _ h9 => h9) rfl d_Ch_isNearestToVector_6 ?_
    refine lv_icmp_ge (tgt := 43) hx hb d_Ch_isNearestToVector_9 (by decide) (fun c1 => ?_) (fun c1 => ?_)
    · rw [if_pos c1] at hf
      refine lv_iconst (v := 1) hx hb d_Ch_isNearestToVector_43 (by decide) ?_
      have bk0_0 : wc_Ch cI cG cZ ad (k0) (x0_0, x0_1, x0_2) ws := ⟨mk0_0, mk0_1⟩
      have e0 := Option.some.inj hf
      exact W.zret (v := 1) hx hb hr (by decide) (fun t ht hW => ⟨⟨1, ws, rfl, ⟨e0, fr⟩, by rw [ht]; exact hP, hD⟩, hS.F ht⟩) hS.2.2 d_Ch_isNearestToVector_44
    · rw [if_neg c1] at hf
      refine lv_iload_n hx hb d_Ch_isNearestToVector_12 rfl (lv_at hl 4 rfl) ?_
      refine lv_aload_n hx hb d_Ch_isNearestToVector_13 rfl (lv_at hl 2 rfl) ?_
      refine lv_iload_n hx hb d_Ch_isNearestToVector_14 rfl (lv_at hl 3 rfl) ?_
      obtain ⟨p2, hp2, hf⟩ := g_bd hf
      obtain ⟨z3, -⟩ := g_atE (show g_at a2 30 (some ()) = some _ from hp2)
      have lz3 := g_inLt z3
      refine hw_cr0 (va_runV (As := [.int a2]) (rest := [.int a3]) ⟨hx, hb, hml, hown, hts⟩ (c_Do_vector l D cI cG cZ ad B ws N k1 x1_0 x1_1 x1_2 x1_3 a2 hp2 bk1_0) (cwV 1 hts (hw_gV iw_329 gy_Do_vector) rfl rfl rfl (by decide +kernel) ⟨Nat.le_of_ble_eq_true rfl, Nat.le_of_ble_eq_true rfl⟩) ⟨hw_blind, va_recv hK hP (ci := 1) (q0 := k1) rfl bk1_0.1, hw_go hP hD hK hN⟩ rfl rfl hl.1 rfl (lv_room (Nat.le_of_ble_eq_true rfl)) d_Ch_isNearestToVector_15 ⟨Nat.zero_le _, Nat.zero_le _⟩) hS (fun H locs hP hD hS => ?_)
      refine lv_aload_n hx hb d_Ch_isNearestToVector_18 rfl (lv_at hl 2 rfl) ?_
      refine lv_aload_n hx hb d_Ch_isNearestToVector_19 rfl (lv_at hl 1 rfl) ?_
      refine va_get (D := D) (ci := 0) (v := .ref (ad (k0 + 1))) (C := R_Ch) (T := F_Ch) (N := 3) hx hb hts i_Ch hown hK hP (k0) mk0_0 rfl 0 (by decide) (hts _ iw_119) (fun _ h9 => h9) rfl d_Ch_isNearestToVector_20 ?_
      refine lv_iload hx hb d_Ch_isNearestToVector_23 (lv_at hl 0 rfl) ?_
      obtain ⟨z4, hf⟩ := g_atE hf
      refine va_iald hx hb hK hP (k0 + 1) 0 mk0_1 rfl z4 d_Ch_isNearestToVector_25 ?_
      obtain ⟨p5, hp5, hf⟩ := g_bd hf
      obtain ⟨z6, -⟩ := g_atE (show g_at (x0_0 v4.toNatClampNeg) 30 (some ()) = some _ from hp5)
      have lz6 := g_inLt z6
      refine hw_cr0 (va_runV (As := [.int (x0_0 v4.toNatClampNeg)]) (rest := [.ref (ad (k1 + 1 + 1 + a2.toNatClampNeg)), .int a3]) ⟨hx, hb, hml, hown, hts⟩ (c_Do_vector l D cI cG cZ ad B ws N k1 x1_0 x1_1 x1_2 x1_3 (x0_0 v4.toNatClampNeg) hp5 bk1_0) (cwV 1 hts (hw_gV iw_329 gy_Do_vector) rfl rfl rfl (by decide +kernel) ⟨Nat.le_of_ble_eq_true rfl, Nat.le_of_ble_eq_true rfl⟩) ⟨hw_blind, va_recv hK hP (ci := 1) (q0 := k1) rfl bk1_0.1, hw_go hP hD hK hN⟩ rfl rfl hl.1 rfl (lv_room (Nat.le_of_ble_eq_true rfl)) d_Ch_isNearestToVector_26 ⟨Nat.zero_le _, Nat.zero_le _⟩) hS (fun H locs hP hD hS => ?_)
      obtain ⟨mk1_0, gk1_1, mk1_32, mk1_33⟩ := id bk1_0
      have mk1_0 : ws[k1]? = some (ad k1, .inr (1, [.ref (ad (k1 + 1)), .ref (ad (k1 + 32)), .ref (ad (k1 + 33)), .int x1_3])) := mk1_0
      have gk1_1 : wc_grid cI cG ad (k1 + 1) 30 4 x1_0 ws := gk1_1
      have mk1_32 : ws[k1 + 32]? = some (ad (k1 + 32), .inl (cI, 30, .inl x1_1)) := mk1_32
      have mk1_33 : ws[k1 + 33]? = some (ad (k1 + 33), .inl (cI, 8, .inl x1_2)) := mk1_33
      obtain ⟨p7, hp7, hf⟩ := g_bd hf
      refine hw_ci0 (va_runSN (As := [.ref (ad (k1 + 1 + 1 + a2.toNatClampNeg)), .ref (ad (k1 + 1 + 1 + (x0_0 v4.toNatClampNeg).toNatClampNeg))]) (rest := [.int a3]) ⟨hx, hb, hml, hown, hts⟩ (c_Nd_distance l D cI cG cZ ad B ws N (k1 + 1 + 1 + a2.toNatClampNeg) (x1_0 a2.toNatClampNeg) (k1 + 1 + 1 + (x0_0 v4.toNatClampNeg).toNatClampNeg) (x1_0 (x0_0 v4.toNatClampNeg).toNatClampNeg) p7 hp7 (gk1_1.2 _ (g_inLt z3)) (gk1_1.2 _ (g_inLt z6))) ⟨va_cnB 2 hts (hw_gc ic_Nd_distance) rfl rfl rfl (hN _ in_330) (hts _ iw_1) (by decide +kernel) ⟨Nat.le_of_ble_eq_true rfl, Nat.le_of_ble_eq_true rfl⟩, hts _ iw_228, trivial⟩ ⟨hw_blind, hw_go hP hD hK hN⟩ rfl rfl hl.1 rfl (lv_room (Nat.le_of_ble_eq_true rfl)) d_Ch_isNearestToVector_29 ⟨Nat.zero_le _, Nat.zero_le _⟩) hS (fun H locs hP hD hS => ?_)
      refine lv_icmp_lt (tgt := 37) hx hb d_Ch_isNearestToVector_32 (by decide) (fun c8 => ?_) (fun c8 => ?_)
      · rw [if_pos c8] at hf
        refine lv_iinc (v := v4 + 1) (lv' := [(4, .int (v4 + 1)), (0, .ref (ad k0)), (1, .ref (ad k1)), (2, .int a2), (3, .int a3)]) hx hb d_Ch_isNearestToVector_37 hl (k := 0) rfl rfl (by decide) rfl (fun ls hl => ?_)
        refine lv_goto (tgt := 3) hx hb d_Ch_isNearestToVector_40 (by decide) ?_
        have bk1_0 : wc_Do cI cG cZ ad (k1) (x1_0, x1_1, x1_2, x1_3) ws := ⟨mk1_0, gk1_1, mk1_32, mk1_33⟩
        exact ih (v4 + 1) _ _ _ _ hP hD hS (lv_sub hl [0, 1, 2, 3, 4] rfl) mk0_0 mk0_1 bk1_0 fr hf
      · rw [if_neg c8] at hf
        refine lv_iconst (v := 0) hx hb d_Ch_isNearestToVector_35 (by decide) ?_
        have bk0_0 : wc_Ch cI cG cZ ad (k0) (x0_0, x0_1, x0_2) ws := ⟨mk0_0, mk0_1⟩
        have bk1_0 : wc_Do cI cG cZ ad (k1) (x1_0, x1_1, x1_2, x1_3) ws := ⟨mk1_0, gk1_1, mk1_32, mk1_33⟩
        have e0 := Option.some.inj hf
        exact W.zret (v := 0) hx hb hr (by decide) (fun t ht hW => ⟨⟨0, ws, rfl, ⟨e0, fr⟩, by rw [ht]; exact hP, hD⟩, hS.F ht⟩) hS.2.2 d_Ch_isNearestToVector_36
set_option maxHeartbeats 4000000 in
set_option maxRecDepth 100000 in
theorem c_Ch_isNearestToVector (l : Launch) (D : va_G) (cI cG cZ : ClassId) (ad : Nat → Nat) (B : Nat) (w0 : va_W) (N : Nat) (k0 : Nat) (x0_0 : (Nat → Int32)) (x0_1 : Int32) (x0_2 : Int32) (k1 : Nat) (x1_0 : (Nat → Nat → Int32)) (x1_1 : (Nat → Int32)) (x1_2 : (Nat → Int32)) (x1_3 : Int32) (a2 : Int32) (a3 : Int32) (r : Int32) (hf : f_Ch_isNearestToVector N x0_0 x0_1 x1_0 a2 a3 = some r) (bk0_0 : wc_Ch cI cG cZ ad k0 (x0_0, x0_1, x0_2) w0) (bk1_0 : wc_Do cI cG cZ ad k1 (x1_0, x1_1, x1_2, x1_3) w0) : Met l y_Ch_isNearestToVector (.code y_Ch_isNearestToVector b_Ch_isNearestToVector 5 (some .boolean) :: hw_G) ({ frames := 1, cells := 0, slots := 0, locals := 24 } : Room) (va_Pc [.ref (ad k0), .ref (ad k1), .int a2, .int a3] (hw_U D cI cG cZ B w0)) (va_Qi (fun (r1 : Int32) (w1 : va_W) => r1 = r ∧ w1 = w0) (hw_B D B) (fun q : Nat => B ≤ q)) 0 0 (fun q : Nat => B ≤ q) := by
  refine Met.ofW (cc := b_Ch_isNearestToVector) (maxL := 5) (ret := (some .boolean)) (by decide) rfl ?_
  intro p e s m args below meth c s₁ Bd hml hv
  obtain ⟨rfl, hP, hD, hK, hN⟩ := hv
  have C0 : hw_C p s m meth c b_Ch_isNearestToVector 5 _ R_Ch (some .boolean) := ⟨Bd.exec, Bd.bytes, Bd.returns, hml, findClass_of_methodNamed Bd.named, fun w h => atoms_spec (ws := .code y_Ch_isNearestToVector b_Ch_isNearestToVector 5 (some .boolean) :: hw_G) Bd.pre w (List.mem_cons_of_mem _ h), Bd.notSynchronized⟩
  obtain ⟨hx, hb, hr, -, hown, hts, hlocks⟩ := id C0
  have hS : va_S (fun q : Nat => B ≤ q) s.heap s.heap [] := va_S.rf
  have fr : w0 = w0 := rfl
  have hl := lv_entry ([.ref (ad k0), .ref (ad k1), .int a2, .int a3]) (n := 5) (Nat.le_of_ble_eq_true rfl)
  rw [lg_entry_eq]
  generalize (lg_sl ([.ref (ad k0), .ref (ad k1), .int a2, .int a3]) ++ List.replicate (5 - (lg_sl ([.ref (ad k0), .ref (ad k1), .int a2, .int a3])).length) Slot.unset).toArray = ls at hl ⊢
  have hl : lv_has ls 5 [(0, .ref (ad k0)), (1, .ref (ad k1)), (2, .int a2), (3, .int a3)] := hl
  unfold f_Ch_isNearestToVector at hf
  obtain ⟨mk0_0, mk0_1⟩ := id bk0_0
  have mk0_0 : w0[k0]? = some (ad k0, .inr (0, [.ref (ad (k0 + 1)), .int x0_1, .int x0_2])) := mk0_0
  have mk0_1 : w0[k0 + 1]? = some (ad (k0 + 1), .inl (cI, 30, .inl x0_0)) := mk0_1
  refine lv_iconst (v := 0) hx hb d_Ch_isNearestToVector_0 (by decide) ?_
  refine lv_istore (lv' := [(4, .int 0), (0, .ref (ad k0)), (1, .ref (ad k1)), (2, .int a2), (3, .int a3)]) hx hb d_Ch_isNearestToVector_1 hl (by decide) rfl (fun ls hl => ?_)
  exact wl_Ch_isNearestToVector_3 C0 hK hN x0_0 x0_1 x0_2 x1_0 x1_1 x1_2 x1_3 a2 a3 r N 0 _ _ _ _ hP hD hS (lv_sub hl [0, 1, 2, 3, 4] rfl) mk0_0 mk0_1 bk1_0 fr hf
set_option maxHeartbeats 4000000 in
set_option maxRecDepth 100000 in
theorem c_Ch_take (l : Launch) (D : va_G) (cI cG cZ : ClassId) (ad : Nat → Nat) (B : Nat) (w0 : va_W) (N : Nat) (k0 : Nat) (x0_0 : (Nat → Int32)) (x0_1 : Int32) (x0_2 : Int32) (a1 : Int32) (y0_0 : (Nat → Int32)) (y0_1 : Int32) (y0_2 : Int32) (hf : f_Ch_take N x0_0 x0_1 x0_2 a1 = some (y0_0, y0_1, y0_2)) (bk0_0 : wc_Ch cI cG cZ ad k0 (x0_0, x0_1, x0_2) w0) : Met l y_Ch_take (.code y_Ch_take b_Ch_take 2 none :: hw_G) ({ frames := 0, cells := 0, slots := 0, locals := 0 } : Room) (va_Pc [.ref (ad k0), .int a1] (hw_U D cI cG cZ B w0)) (va_Qv (fun (w1 : va_W) => wc_Ch cI cG cZ ad k0 (y0_0, y0_1, y0_2) w1 ∧ (∀ j : Nat, (j < k0 ∨ k0 + 2 ≤ j) → w1[j]? = w0[j]?)) (hw_B D B) (fun q : Nat => B ≤ q)) 0 0 (fun q : Nat => B ≤ q) := by
  refine Met.ofW (cc := b_Ch_take) (maxL := 2) (ret := none) (by decide) rfl ?_
  intro p e s m args below meth c s₁ Bd hml hv
  obtain ⟨rfl, hP, hD, hK, hN⟩ := hv
  have C0 : hw_C p s m meth c b_Ch_take 2 _ R_Ch none := ⟨Bd.exec, Bd.bytes, Bd.returns, hml, findClass_of_methodNamed Bd.named, fun w h => atoms_spec (ws := .code y_Ch_take b_Ch_take 2 none :: hw_G) Bd.pre w (List.mem_cons_of_mem _ h), Bd.notSynchronized⟩
  obtain ⟨hx, hb, hr, -, hown, hts, hlocks⟩ := id C0
  have hS : va_S (fun q : Nat => B ≤ q) s.heap s.heap [] := va_S.rf
  have fr : ∀ j : Nat, (j < k0 ∨ k0 + 2 ≤ j) → w0[j]? = w0[j]? := fun j _ => rfl
  have hl := lv_entry ([.ref (ad k0), .int a1]) (n := 2) (Nat.le_of_ble_eq_true rfl)
  rw [lg_entry_eq]
  generalize (lg_sl ([.ref (ad k0), .int a1]) ++ List.replicate (2 - (lg_sl ([.ref (ad k0), .int a1])).length) Slot.unset).toArray = ls at hl ⊢
  have hl : lv_has ls 2 [(0, .ref (ad k0)), (1, .int a1)] := hl
  unfold f_Ch_take at hf
  obtain ⟨mk0_0, mk0_1⟩ := id bk0_0
  have mk0_0 : w0[k0]? = some (ad k0, .inr (0, [.ref (ad (k0 + 1)), .int x0_1, .int x0_2])) := mk0_0
  have mk0_1 : w0[k0 + 1]? = some (ad (k0 + 1), .inl (cI, 30, .inl x0_0)) := mk0_1
  refine lv_aload_n hx hb d_Ch_take_0 rfl (lv_at hl 0 rfl) ?_
  refine va_get (D := D) (ci := 0) (v := .ref (ad (k0 + 1))) (C := R_Ch) (T := F_Ch) (N := 3) hx hb hts i_Ch hown hK hP (k0) mk0_0 rfl 0 (by decide) (hts _ iw_119) (fun _ h9 => h9) rfl d_Ch_take_1 ?_
  refine lv_aload_n hx hb d_Ch_take_4 rfl (lv_at hl 0 rfl) ?_
  refine va_get (D := D) (ci := 0) (v := .int x0_1) (C := R_Ch) (T := F_Ch) (N := 3) hx hb hts i_Ch hown hK hP (k0) mk0_0 rfl 1 (by decide) (hts _ iw_120) (fun _ h9 => h9) rfl d_Ch_take_5 ?_
  refine lv_iload_n hx hb d_Ch_take_8 rfl (lv_at hl 1 rfl) ?_
  obtain ⟨z1, hf⟩ := g_atE hf
  refine va_iast hx hb hK hP hD hS (k0 + 1) 0 mk0_1 rfl z1 d_Ch_take_9 (fun H locs hP hD hS => ?_)
  obtain ⟨w2, hP, hD, hne, heq⟩ := hs_up hP hD mk0_1
  have mk0_1 : w2[k0 + 1]? = some (ad (k0 + 1), .inl (cI, 30, .inl (upd x0_0 x0_1.toNatClampNeg a1))) := heq
  have mk0_0 : w2[k0]? = some (ad k0, .inr (0, [.ref (ad (k0 + 1)), .int x0_1, .int x0_2])) := (hne _ (by omega)).trans mk0_0
  have fr : ∀ j : Nat, (j < k0 ∨ k0 + 2 ≤ j) → w2[j]? = w0[j]? := fun j o0 => (hne j (by omega)).trans (fr j o0)
  refine lv_aload_n hx hb d_Ch_take_10 rfl (lv_at hl 0 rfl) ?_
  refine lv_dup hx hb d_Ch_take_11 rfl ?_
  refine va_get (D := D) (ci := 0) (v := .int x0_1) (C := R_Ch) (T := F_Ch) (N := 3) hx hb hts i_Ch hown hK hP (k0) mk0_0 rfl 1 (by decide) (hts _ iw_120) (fun _ h9 => h9) rfl d_Ch_take_12 ?_
  refine lv_iconst (v := 1) hx hb d_Ch_take_15 (by decide) ?_
  refine lv_iadd hx hb d_Ch_take_16 ?_
  refine va_put (D := D) (ci := 0) (v := .int (x0_1 + 1)) (ty := .int) (C := R_Ch) (T := F_Ch) (N := 3) hx hb hts i_Ch t_Ch t_Ch_ok n_Ch hown hK hP hD hS (k0) mk0_0 rfl 1 (by decide) (hts _ iw_120) (fun _ h9 => h9) rfl (by decide +kernel) rfl rfl (Nat.le_of_ble_eq_true rfl) d_Ch_take_17 (fun H locs hP hD hS => ?_)
  obtain ⟨w3, hP, hD, hne, heq⟩ := hs_up hP hD mk0_0
  have mk0_0 : w3[k0]? = some (ad k0, .inr (0, [.ref (ad (k0 + 1)), .int (x0_1 + 1), .int x0_2])) := heq
  have mk0_1 : w3[k0 + 1]? = some (ad (k0 + 1), .inl (cI, 30, .inl (upd x0_0 x0_1.toNatClampNeg a1))) := (hne _ (by omega)).trans mk0_1
  have fr : ∀ j : Nat, (j < k0 ∨ k0 + 2 ≤ j) → w3[j]? = w0[j]? := fun j o0 => (hne j (by omega)).trans (fr j o0)
  refine lv_aload_n hx hb d_Ch_take_20 rfl (lv_at hl 0 rfl) ?_
  refine lv_dup hx hb d_Ch_take_21 rfl ?_
  refine va_get (D := D) (ci := 0) (v := .int x0_2) (C := R_Ch) (T := F_Ch) (N := 3) hx hb hts i_Ch hown hK hP (k0) mk0_0 rfl 2 (by decide) (hts _ iw_121) (fun _ h9 => h9) rfl d_Ch_take_22 ?_
  refine lv_iconst (v := 1) hx hb d_Ch_take_25 (by decide) ?_
  refine lv_iload_n hx hb d_Ch_take_26 rfl (lv_at hl 1 rfl) ?_
  refine lv_ishl hx hb d_Ch_take_27 ?_
  refine lv_ior hx hb d_Ch_take_28 ?_
  refine va_put (D := D) (ci := 0) (v := .int (x0_2 ||| (1 <<< (a1 &&& 31)))) (ty := .int) (C := R_Ch) (T := F_Ch) (N := 3) hx hb hts i_Ch t_Ch t_Ch_ok n_Ch hown hK hP hD hS (k0) mk0_0 rfl 2 (by decide) (hts _ iw_121) (fun _ h9 => h9) rfl (by decide +kernel) rfl rfl (Nat.le_of_ble_eq_true rfl) d_Ch_take_29 (fun H locs hP hD hS => ?_)
  obtain ⟨w4, hP, hD, hne, heq⟩ := hs_up hP hD mk0_0
  have mk0_0 : w4[k0]? = some (ad k0, .inr (0, [.ref (ad (k0 + 1)), .int (x0_1 + 1), .int (x0_2 ||| (1 <<< (a1 &&& 31)))])) := heq
  have mk0_1 : w4[k0 + 1]? = some (ad (k0 + 1), .inl (cI, 30, .inl (upd x0_0 x0_1.toNatClampNeg a1))) := (hne _ (by omega)).trans mk0_1
  have fr : ∀ j : Nat, (j < k0 ∨ k0 + 2 ≤ j) → w4[j]? = w0[j]? := fun j o0 => (hne j (by omega)).trans (fr j o0)
  have bk0_0 : wc_Ch cI cG cZ ad (k0) (upd x0_0 x0_1.toNatClampNeg a1, x0_1 + 1, x0_2 ||| (1 <<< (a1 &&& 31))) w4 := ⟨mk0_0, mk0_1⟩
  have he := Option.some.inj hf
  obtain ⟨e0, he⟩ := Prod.mk.inj he
  obtain ⟨e1, e2⟩ := Prod.mk.inj he
  have f0 : wc_Ch cI cG cZ ad (k0) (y0_0, y0_1, y0_2) w4 := by rw [← e0, ← e1, ← e2]; exact bk0_0
  exact W.vret hx hb hr (fun t ht hW => ⟨⟨w4, rfl, ⟨f0, fr⟩, by rw [ht]; exact hP, hD⟩, hS.F ht⟩) hS.2.2 d_Ch_take_32
set_option maxHeartbeats 4000000 in
set_option maxRecDepth 100000 in
theorem wl_Ch_choose_69 {p : Program} {l : Launch} {e : Env} {s : State} {m : MethodId} {args : Array Value} {below : List Frame} {meth : Method} {c : Code} {D : va_G} {cI cG cZ : ClassId} {ad : Nat → Nat} {B : Nat} {w0 : va_W} {N : Nat} {k0 : Nat} {k1 : Nat} {k2 : Nat} (C0 : hw_C p s m meth c b_Ch_choose 6 args R_Ch none) (hK : va_K D classes [(cI, .int), (cG, .array .int), (cZ, .boolean)] s) (hN : hw_N s) (dj0 : k0 + 2 ≤ k1 ∨ k1 + 34 ≤ k0) (dj1 : k0 + 2 ≤ k2 ∨ k2 + 3 ≤ k0) (x1_0 : (Nat → Nat → Int32)) (x1_1 : (Nat → Int32)) (x1_2 : (Nat → Int32)) (x1_3 : Int32) (x2_0 : (Nat → Int32)) (x2_1 : (Nat → Int32)) (x2_2 : Int32) (x2_3 : Int32) (x2_4 : Int32) (a3 : Int32) (x0_0 : (Nat → Int32)) (x0_1 : Int32) (x0_2 : Int32) (y0_0 : (Nat → Int32)) (y0_1 : Int32) (y0_2 : Int32) : ∀ (n : Nat) (vak0_1 : (Nat → Int32)) (vfk0_0_1 : Int32) (vfk0_0_2 : Int32) (v4 : Int32) (ws : va_W) (H : Heap) (locs : List Loc) (ls : Array Slot), va_P D classes ws H → va_D (fun q : Nat => B ≤ q) ws → va_S (fun q : Nat => B ≤ q) s.heap H locs → lv_has ls 6 [(4, .int v4), (0, .ref (ad k0)), (1, .ref (ad k1)), (2, .ref (ad k2)), (3, .int a3)] → ws[k0]? = some (ad k0, .inr (0, [.ref (ad (k0 + 1)), .int vfk0_0_1, .int vfk0_0_2])) → ws[k0 + 1]? = some (ad (k0 + 1), .inl (cI, 30, .inl vak0_1)) → wc_Do cI cG cZ ad (k1) (x1_0, x1_1, x1_2, x1_3) ws → wc_Rk cI cG cZ ad (k2) (x2_0, x2_1, x2_2, x2_3, x2_4) ws → (∀ j : Nat, (j < k0 ∨ k0 + 2 ≤ j) → ws[j]? = w0[j]?) → f_Ch_choose_69 N x2_0 x2_2 a3 n vak0_1 vfk0_0_1 vfk0_0_2 v4 = some (y0_0, y0_1, y0_2) → W p l e ({ frames := 2, cells := 0, slots := 0, locals := 48 } : Room) s m args below meth c H locs 0 0 (MQ below (va_Qv (fun (w1 : va_W) => wc_Ch cI cG cZ ad k0 (y0_0, y0_1, y0_2) w1 ∧ (∀ j : Nat, (j < k0 ∨ k0 + 2 ≤ j) → w1[j]? = w0[j]?)) (hw_B D B) (fun q : Nat => B ≤ q)) args s 0 0 (fun q : Nat => B ≤ q)) (F0 m 69 ls []) := by
  obtain ⟨hx, hb, hr, hml, hown, hts, hlocks⟩ := id C0
  intro n
  induction n with
  | zero =>
    intro vak0_1 vfk0_0_1 vfk0_0_2 v4 ws H locs ls hP hD hS hl mk0_0 mk0_1 bk1_0 bk2_0 fr hf
    exact nomatch (show none = some _ from hf)
  | succ n ih =>
    intro vak0_1 vfk0_0_1 vfk0_0_2 v4 ws H locs ls hP hD hS hl mk0_0 mk0_1 bk1_0 bk2_0 fr hf
    rw [f_Ch_choose_69] at hf
    refine lv_iload hx hb d_Ch_choose_69 (lv_at hl 0 rfl) ?_
    refine lv_aload_n hx hb d_Ch_choose_71 rfl (lv_at hl 3 rfl) ?_
    obtain ⟨p12, hp12, hf⟩ := g_bd hf
    refine hw_ci0 (va_runV (As := []) (rest := [.int v4]) ⟨hx, hb, hml, hown, hts⟩ (c_Rk_size l D cI cG cZ ad B ws N k2 x2_0 x2_1 x2_2 x2_3 x2_4 p12 hp12 bk2_0) (cwV 0 hts (hw_gV iw_322 gy_Rk_size) rfl rfl rfl (by decide +kernel) ⟨Nat.le_of_ble_eq_true rfl, Nat.le_of_ble_eq_true rfl⟩) ⟨hw_blind, va_recv hK hP (ci := 4) (q0 := k2) rfl bk2_0.1, hw_go hP hD hK hN⟩ rfl rfl hl.1 rfl (lv_room (Nat.le_of_ble_eq_true rfl)) d_Ch_choose_72 ⟨Nat.zero_le _, Nat.zero_le _⟩) hS (fun H locs hP hD hS => ?_)
    refine lv_icmp_ge (tgt := 118) hx hb d_Ch_choose_75 (by decide) (fun c13 => ?_) (fun c13 => ?_)
    · rw [if_pos c13] at hf
      have bk0_0 : wc_Ch cI cG cZ ad (k0) (vak0_1, vfk0_0_1, vfk0_0_2) ws := ⟨mk0_0, mk0_1⟩
      have he := Option.some.inj hf
      obtain ⟨e0, he⟩ := Prod.mk.inj he
      obtain ⟨e1, e2⟩ := Prod.mk.inj he
      have f0 : wc_Ch cI cG cZ ad (k0) (y0_0, y0_1, y0_2) ws := by rw [← e0, ← e1, ← e2]; exact bk0_0
      exact W.vret hx hb hr (fun t ht hW => ⟨⟨ws, rfl, ⟨f0, fr⟩, by rw [ht]; exact hP, hD⟩, hS.F ht⟩) hS.2.2 d_Ch_choose_118
    · rw [if_neg c13] at hf
      refine lv_aload_n hx hb d_Ch_choose_78 rfl (lv_at hl 1 rfl) ?_
      refine va_get (D := D) (ci := 0) (v := .int vfk0_0_1) (C := R_Ch) (T := F_Ch) (N := 3) hx hb hts i_Ch hown hK hP (k0) mk0_0 rfl 1 (by decide) (hts _ iw_120) (fun _ h9 => h9) rfl d_Ch_choose_79 ?_
      refine lv_iload_n hx hb d_Ch_choose_82 rfl (lv_at hl 4 rfl) ?_
      refine lv_icmp_ge (tgt := 118) hx hb d_Ch_choose_83 (by decide) (fun c14 => ?_) (fun c14 => ?_)
      · rw [if_pos c14] at hf
        have bk0_0 : wc_Ch cI cG cZ ad (k0) (vak0_1, vfk0_0_1, vfk0_0_2) ws := ⟨mk0_0, mk0_1⟩
        have he := Option.some.inj hf
        obtain ⟨e0, he⟩ := Prod.mk.inj he
        obtain ⟨e1, e2⟩ := Prod.mk.inj he
        have f0 : wc_Ch cI cG cZ ad (k0) (y0_0, y0_1, y0_2) ws := by rw [← e0, ← e1, ← e2]; exact bk0_0
        exact W.vret hx hb hr (fun t ht hW => ⟨⟨ws, rfl, ⟨f0, fr⟩, by rw [ht]; exact hP, hD⟩, hS.F ht⟩) hS.2.2 d_Ch_choose_118
      · rw [if_neg c14] at hf
        refine lv_aload_n hx hb d_Ch_choose_86 rfl (lv_at hl 3 rfl) ?_
        refine lv_iload hx hb d_Ch_choose_87 (lv_at hl 0 rfl) ?_
        obtain ⟨p15, hp15, hf⟩ := g_bd hf
        refine hw_ci0 (va_runV (As := [.int v4]) (rest := []) ⟨hx, hb, hml, hown, hts⟩ (c_Rk_numberAt l D cI cG cZ ad B ws N k2 x2_0 x2_1 x2_2 x2_3 x2_4 v4 p15 hp15 bk2_0) (cwV 1 hts (hw_gV iw_323 gy_Rk_numberAt) rfl rfl rfl (by decide +kernel) ⟨Nat.le_of_ble_eq_true rfl, Nat.le_of_ble_eq_true rfl⟩) ⟨hw_blind, va_recv hK hP (ci := 4) (q0 := k2) rfl bk2_0.1, hw_go hP hD hK hN⟩ rfl rfl hl.1 rfl (lv_room (Nat.le_of_ble_eq_true rfl)) d_Ch_choose_89 ⟨Nat.zero_le _, Nat.zero_le _⟩) hS (fun H locs hP hD hS => ?_)
        refine lv_istore (lv' := [(5, .int p15), (4, .int v4), (0, .ref (ad k0)), (1, .ref (ad k1)), (2, .ref (ad k2)), (3, .int a3)]) hx hb d_Ch_choose_92 hl (by decide) rfl (fun ls hl => ?_)
        refine lv_aload_n hx hb d_Ch_choose_94 rfl (lv_at hl 2 rfl) ?_
        refine va_get (D := D) (ci := 0) (v := .int vfk0_0_2) (C := R_Ch) (T := F_Ch) (N := 3) hx hb hts i_Ch hown hK hP (k0) mk0_0 rfl 2 (by decide) (hts _ iw_121) (fun _ h9 => h9) rfl d_Ch_choose_95 ?_
        refine lv_iload hx hb d_Ch_choose_98 (lv_at hl 0 rfl) ?_
        obtain ⟨p16, hp16, hf⟩ := g_bd hf
        refine hw_ci0 (va_runSN (As := [.int vfk0_0_2, .int p15]) (rest := []) ⟨hx, hb, hml, hown, hts⟩ (c_Nd_isIn l D cI cG cZ ad B ws N vfk0_0_2 p15 p16 hp16) ⟨va_cnB 2 hts (hw_gc ic_Nd_isIn) rfl rfl rfl (hN _ in_335) (hts _ iw_1) (by decide +kernel) ⟨Nat.le_of_ble_eq_true rfl, Nat.le_of_ble_eq_true rfl⟩, hts _ iw_302, trivial⟩ ⟨hw_blind, hw_go hP hD hK hN⟩ rfl rfl hl.1 rfl (lv_room (Nat.le_of_ble_eq_true rfl)) d_Ch_choose_100 ⟨Nat.zero_le _, Nat.zero_le _⟩) hS (fun H locs hP hD hS => ?_)
        refine lv_if_ne (tgt := 112) hx hb d_Ch_choose_103 (by decide) (fun c17 => ?_) (fun c17 => ?_)
        · rw [if_neg c17] at hf
          refine lv_iinc (v := v4 + 1) (lv' := [(4, .int (v4 + 1)), (5, .int p15), (0, .ref (ad k0)), (1, .ref (ad k1)), (2, .ref (ad k2)), (3, .int a3)]) hx hb d_Ch_choose_112 hl (k := 1) rfl rfl (by decide) rfl (fun ls hl => ?_)
          refine lv_goto (tgt := 69) hx hb d_Ch_choose_115 (by decide) ?_
          exact ih vak0_1 vfk0_0_1 vfk0_0_2 (v4 + 1) _ _ _ _ hP hD hS (lv_sub hl [0, 2, 3, 4, 5] rfl) mk0_0 mk0_1 bk1_0 bk2_0 fr hf
        · rw [if_pos c17] at hf
          refine lv_aload_n hx hb d_Ch_choose_106 rfl (lv_at hl 2 rfl) ?_
          refine lv_iload hx hb d_Ch_choose_107 (lv_at hl 0 rfl) ?_
          have bk0_0 : wc_Ch cI cG cZ ad (k0) (vak0_1, vfk0_0_1, vfk0_0_2) ws := ⟨mk0_0, mk0_1⟩
          obtain ⟨p18, hp18, hf⟩ := g_bd hf
          refine hw_cv (va_runV (As := [.int p15]) (rest := []) ⟨hx, hb, hml, hown, hts⟩ (c_Ch_take l D cI cG cZ ad B ws N k0 vak0_1 vfk0_0_1 vfk0_0_2 p15 p18.1 p18.2.1 p18.2.2 hp18 bk0_0) (cwV 1 hts (hw_gV iw_331 gy_Ch_take) rfl rfl rfl (by decide +kernel) ⟨Nat.le_of_ble_eq_true rfl, Nat.le_of_ble_eq_true rfl⟩) ⟨hw_blind, va_recv hK hP (ci := 0) (q0 := k0) rfl bk0_0.1, hw_go hP hD hK hN⟩ rfl rfl hl.1 rfl (lv_room (Nat.le_of_ble_eq_true rfl)) d_Ch_choose_109 ⟨Nat.zero_le _, Nat.zero_le _⟩) hS (fun w19 H locs hP hD hS hpp => ?_)
          obtain ⟨q0, frc⟩ := hpp
          have bk0_0 : wc_Ch cI cG cZ ad (k0) (p18.1, p18.2.1, p18.2.2) w19 := q0
          have bk1_0 : wc_Do cI cG cZ ad (k1) (x1_0, x1_1, x1_2, x1_3) w19 := bk1_0.fr (fun j h1 h2 => frc j (by omega))
          have bk2_0 : wc_Rk cI cG cZ ad (k2) (x2_0, x2_1, x2_2, x2_3, x2_4) w19 := bk2_0.fr (fun j h1 h2 => frc j (by omega))
          have fr : ∀ j : Nat, (j < k0 ∨ k0 + 2 ≤ j) → w19[j]? = w0[j]? := fun j o0 => (frc j (by omega)).trans (fr j o0)
          refine lv_iinc (v := v4 + 1) (lv' := [(4, .int (v4 + 1)), (5, .int p15), (0, .ref (ad k0)), (1, .ref (ad k1)), (2, .ref (ad k2)), (3, .int a3)]) hx hb d_Ch_choose_112 hl (k := 1) rfl rfl (by decide) rfl (fun ls hl => ?_)
          refine lv_goto (tgt := 69) hx hb d_Ch_choose_115 (by decide) ?_
          obtain ⟨mk0_0, mk0_1⟩ := id bk0_0
          have mk0_0 : w19[k0]? = some (ad k0, .inr (0, [.ref (ad (k0 + 1)), .int p18.2.1, .int p18.2.2])) := mk0_0
          have mk0_1 : w19[k0 + 1]? = some (ad (k0 + 1), .inl (cI, 30, .inl p18.1)) := mk0_1
          exact ih p18.1 p18.2.1 p18.2.2 (v4 + 1) _ _ _ _ hP hD hS (lv_sub hl [0, 2, 3, 4, 5] rfl) mk0_0 mk0_1 bk1_0 bk2_0 fr hf
set_option maxHeartbeats 4000000 in
set_option maxRecDepth 100000 in
theorem wl_Ch_choose_13 {p : Program} {l : Launch} {e : Env} {s : State} {m : MethodId} {args : Array Value} {below : List Frame} {meth : Method} {c : Code} {D : va_G} {cI cG cZ : ClassId} {ad : Nat → Nat} {B : Nat} {w0 : va_W} {N : Nat} {k0 : Nat} {k1 : Nat} {k2 : Nat} (C0 : hw_C p s m meth c b_Ch_choose 6 args R_Ch none) (hK : va_K D classes [(cI, .int), (cG, .array .int), (cZ, .boolean)] s) (hN : hw_N s) (dj0 : k0 + 2 ≤ k1 ∨ k1 + 34 ≤ k0) (dj1 : k0 + 2 ≤ k2 ∨ k2 + 3 ≤ k0) (x1_0 : (Nat → Nat → Int32)) (x1_1 : (Nat → Int32)) (x1_2 : (Nat → Int32)) (x1_3 : Int32) (x2_0 : (Nat → Int32)) (x2_1 : (Nat → Int32)) (x2_2 : Int32) (x2_3 : Int32) (x2_4 : Int32) (a3 : Int32) (x0_0 : (Nat → Int32)) (x0_1 : Int32) (x0_2 : Int32) (y0_0 : (Nat → Int32)) (y0_1 : Int32) (y0_2 : Int32) : ∀ (n : Nat) (vak0_1 : (Nat → Int32)) (vfk0_0_1 : Int32) (vfk0_0_2 : Int32) (v4 : Int32) (ws : va_W) (H : Heap) (locs : List Loc) (ls : Array Slot), va_P D classes ws H → va_D (fun q : Nat => B ≤ q) ws → va_S (fun q : Nat => B ≤ q) s.heap H locs → lv_has ls 6 [(4, .int v4), (0, .ref (ad k0)), (1, .ref (ad k1)), (2, .ref (ad k2)), (3, .int a3)] → ws[k0]? = some (ad k0, .inr (0, [.ref (ad (k0 + 1)), .int vfk0_0_1, .int vfk0_0_2])) → ws[k0 + 1]? = some (ad (k0 + 1), .inl (cI, 30, .inl vak0_1)) → wc_Do cI cG cZ ad (k1) (x1_0, x1_1, x1_2, x1_3) ws → wc_Rk cI cG cZ ad (k2) (x2_0, x2_1, x2_2, x2_3, x2_4) ws → (∀ j : Nat, (j < k0 ∨ k0 + 2 ≤ j) → ws[j]? = w0[j]?) → f_Ch_choose_13 N x1_0 x2_0 x2_1 x2_2 a3 n vak0_1 vfk0_0_1 vfk0_0_2 v4 = some (y0_0, y0_1, y0_2) → W p l e ({ frames := 2, cells := 0, slots := 0, locals := 48 } : Room) s m args below meth c H locs 0 0 (MQ below (va_Qv (fun (w1 : va_W) => wc_Ch cI cG cZ ad k0 (y0_0, y0_1, y0_2) w1 ∧ (∀ j : Nat, (j < k0 ∨ k0 + 2 ≤ j) → w1[j]? = w0[j]?)) (hw_B D B) (fun q : Nat => B ≤ q)) args s 0 0 (fun q : Nat => B ≤ q)) (F0 m 13 ls []) := by
  obtain ⟨hx, hb, hr, hml, hown, hts, hlocks⟩ := id C0
  intro n
  induction n with
  | zero =>
    intro vak0_1 vfk0_0_1 vfk0_0_2 v4 ws H locs ls hP hD hS hl mk0_0 mk0_1 bk1_0 bk2_0 fr hf
    exact nomatch (show none = some _ from hf)
  | succ n ih =>
    intro vak0_1 vfk0_0_1 vfk0_0_2 v4 ws H locs ls hP hD hS hl mk0_0 mk0_1 bk1_0 bk2_0 fr hf
    rw [f_Ch_choose_13] at hf
    refine lv_iload hx hb d_Ch_choose_13 (lv_at hl 0 rfl) ?_
    refine lv_aload_n hx hb d_Ch_choose_15 rfl (lv_at hl 3 rfl) ?_
    obtain ⟨p3, hp3, hf⟩ := g_bd hf
    refine hw_ci0 (va_runV (As := []) (rest := [.int v4]) ⟨hx, hb, hml, hown, hts⟩ (c_Rk_size l D cI cG cZ ad B ws N k2 x2_0 x2_1 x2_2 x2_3 x2_4 p3 hp3 bk2_0) (cwV 0 hts (hw_gV iw_322 gy_Rk_size) rfl rfl rfl (by decide +kernel) ⟨Nat.le_of_ble_eq_true rfl, Nat.le_of_ble_eq_true rfl⟩) ⟨hw_blind, va_recv hK hP (ci := 4) (q0 := k2) rfl bk2_0.1, hw_go hP hD hK hN⟩ rfl rfl hl.1 rfl (lv_room (Nat.le_of_ble_eq_true rfl)) d_Ch_choose_16 ⟨Nat.zero_le _, Nat.zero_le _⟩) hS (fun H locs hP hD hS => ?_)
    refine lv_icmp_ge (tgt := 66) hx hb d_Ch_choose_19 (by decide) (fun c4 => ?_) (fun c4 => ?_)
    · rw [if_pos c4] at hf
      refine lv_iconst (v := 0) hx hb d_Ch_choose_66 (by decide) ?_
      refine lv_istore (lv' := [(4, .int 0), (0, .ref (ad k0)), (1, .ref (ad k1)), (2, .ref (ad k2)), (3, .int a3)]) hx hb d_Ch_choose_67 hl (by decide) rfl (fun ls hl => ?_)
      exact wl_Ch_choose_69 C0 hK hN dj0 dj1 x1_0 x1_1 x1_2 x1_3 x2_0 x2_1 x2_2 x2_3 x2_4 a3 x0_0 x0_1 x0_2 y0_0 y0_1 y0_2 N vak0_1 vfk0_0_1 vfk0_0_2 0 _ _ _ _ hP hD hS (lv_sub hl [0, 1, 2, 3, 4] rfl) mk0_0 mk0_1 bk1_0 bk2_0 fr hf
    · rw [if_neg c4] at hf
      refine lv_aload_n hx hb d_Ch_choose_22 rfl (lv_at hl 1 rfl) ?_
      refine va_get (D := D) (ci := 0) (v := .int vfk0_0_1) (C := R_Ch) (T := F_Ch) (N := 3) hx hb hts i_Ch hown hK hP (k0) mk0_0 rfl 1 (by decide) (hts _ iw_120) (fun _ h9 => h9) rfl d_Ch_choose_23 ?_
      refine lv_iload_n hx hb d_Ch_choose_26 rfl (lv_at hl 4 rfl) ?_
      refine lv_icmp_ge (tgt := 66) hx hb d_Ch_choose_27 (by decide) (fun c5 => ?_) (fun c5 => ?_)
      · rw [if_pos c5] at hf
        refine lv_iconst (v := 0) hx hb d_Ch_choose_66 (by decide) ?_
        refine lv_istore (lv' := [(4, .int 0), (0, .ref (ad k0)), (1, .ref (ad k1)), (2, .ref (ad k2)), (3, .int a3)]) hx hb d_Ch_choose_67 hl (by decide) rfl (fun ls hl => ?_)
        exact wl_Ch_choose_69 C0 hK hN dj0 dj1 x1_0 x1_1 x1_2 x1_3 x2_0 x2_1 x2_2 x2_3 x2_4 a3 x0_0 x0_1 x0_2 y0_0 y0_1 y0_2 N vak0_1 vfk0_0_1 vfk0_0_2 0 _ _ _ _ hP hD hS (lv_sub hl [0, 1, 2, 3, 4] rfl) mk0_0 mk0_1 bk1_0 bk2_0 fr hf
      · rw [if_neg c5] at hf
        refine lv_aload_n hx hb d_Ch_choose_30 rfl (lv_at hl 3 rfl) ?_
        refine lv_iload hx hb d_Ch_choose_31 (lv_at hl 0 rfl) ?_
        obtain ⟨p6, hp6, hf⟩ := g_bd hf
        refine hw_ci0 (va_runV (As := [.int v4]) (rest := []) ⟨hx, hb, hml, hown, hts⟩ (c_Rk_numberAt l D cI cG cZ ad B ws N k2 x2_0 x2_1 x2_2 x2_3 x2_4 v4 p6 hp6 bk2_0) (cwV 1 hts (hw_gV iw_323 gy_Rk_numberAt) rfl rfl rfl (by decide +kernel) ⟨Nat.le_of_ble_eq_true rfl, Nat.le_of_ble_eq_true rfl⟩) ⟨hw_blind, va_recv hK hP (ci := 4) (q0 := k2) rfl bk2_0.1, hw_go hP hD hK hN⟩ rfl rfl hl.1 rfl (lv_room (Nat.le_of_ble_eq_true rfl)) d_Ch_choose_33 ⟨Nat.zero_le _, Nat.zero_le _⟩) hS (fun H locs hP hD hS => ?_)
        refine lv_istore (lv' := [(5, .int p6), (4, .int v4), (0, .ref (ad k0)), (1, .ref (ad k1)), (2, .ref (ad k2)), (3, .int a3)]) hx hb d_Ch_choose_36 hl (by decide) rfl (fun ls hl => ?_)
        refine lv_aload_n hx hb d_Ch_choose_38 rfl (lv_at hl 2 rfl) ?_
        refine lv_aload_n hx hb d_Ch_choose_39 rfl (lv_at hl 3 rfl) ?_
        refine lv_iload hx hb d_Ch_choose_40 (lv_at hl 0 rfl) ?_
        refine lv_aload_n hx hb d_Ch_choose_42 rfl (lv_at hl 4 rfl) ?_
        refine lv_iload hx hb d_Ch_choose_43 (lv_at hl 1 rfl) ?_
        obtain ⟨p7, hp7, hf⟩ := g_bd hf
        refine hw_ci0 (va_runV (As := [.int v4]) (rest := [.int p6, .ref (ad k1), .ref (ad k0)]) ⟨hx, hb, hml, hown, hts⟩ (c_Rk_valueAt l D cI cG cZ ad B ws N k2 x2_0 x2_1 x2_2 x2_3 x2_4 v4 p7 hp7 bk2_0) (cwV 1 hts (hw_gV iw_324 gy_Rk_valueAt) rfl rfl rfl (by decide +kernel) ⟨Nat.le_of_ble_eq_true rfl, Nat.le_of_ble_eq_true rfl⟩) ⟨hw_blind, va_recv hK hP (ci := 4) (q0 := k2) rfl bk2_0.1, hw_go hP hD hK hN⟩ rfl rfl hl.1 rfl (lv_room (Nat.le_of_ble_eq_true rfl)) d_Ch_choose_45 ⟨Nat.zero_le _, Nat.zero_le _⟩) hS (fun H locs hP hD hS => ?_)
        have bk0_0 : wc_Ch cI cG cZ ad (k0) (vak0_1, vfk0_0_1, vfk0_0_2) ws := ⟨mk0_0, mk0_1⟩
        obtain ⟨p8, hp8, hf⟩ := g_bd hf
        refine hw_ci0 (va_runV (As := [.ref (ad k1), .int p6, .int p7]) (rest := []) ⟨hx, hb, hml, hown, hts⟩ (c_Ch_isNearestToVector l D cI cG cZ ad B ws N k0 vak0_1 vfk0_0_1 vfk0_0_2 k1 x1_0 x1_1 x1_2 x1_3 p6 p7 p8 hp8 bk0_0 bk1_0) (cwV 3 hts (hw_gV iw_325 gy_Ch_isNearestToVector) rfl rfl rfl (by decide +kernel) ⟨Nat.le_of_ble_eq_true rfl, Nat.le_of_ble_eq_true rfl⟩) ⟨hw_blind, va_recv hK hP (ci := 0) (q0 := k0) rfl bk0_0.1, hw_go hP hD hK hN⟩ rfl rfl hl.1 rfl (lv_room (Nat.le_of_ble_eq_true rfl)) d_Ch_choose_48 ⟨Nat.zero_le _, Nat.zero_le _⟩) hS (fun H locs hP hD hS => ?_)
        refine lv_if_eq (tgt := 60) hx hb d_Ch_choose_51 (by decide) (fun c9 => ?_) (fun c9 => ?_)
        · rw [if_pos c9] at hf
          refine lv_iinc (v := v4 + 1) (lv' := [(4, .int (v4 + 1)), (5, .int p6), (0, .ref (ad k0)), (1, .ref (ad k1)), (2, .ref (ad k2)), (3, .int a3)]) hx hb d_Ch_choose_60 hl (k := 1) rfl rfl (by decide) rfl (fun ls hl => ?_)
          refine lv_goto (tgt := 13) hx hb d_Ch_choose_63 (by decide) ?_
          obtain ⟨mk0_0, mk0_1⟩ := id bk0_0
          have mk0_0 : ws[k0]? = some (ad k0, .inr (0, [.ref (ad (k0 + 1)), .int vfk0_0_1, .int vfk0_0_2])) := mk0_0
          have mk0_1 : ws[k0 + 1]? = some (ad (k0 + 1), .inl (cI, 30, .inl vak0_1)) := mk0_1
          exact ih vak0_1 vfk0_0_1 vfk0_0_2 (v4 + 1) _ _ _ _ hP hD hS (lv_sub hl [0, 2, 3, 4, 5] rfl) mk0_0 mk0_1 bk1_0 bk2_0 fr hf
        · rw [if_neg c9] at hf
          refine lv_aload_n hx hb d_Ch_choose_54 rfl (lv_at hl 2 rfl) ?_
          refine lv_iload hx hb d_Ch_choose_55 (lv_at hl 0 rfl) ?_
          obtain ⟨p10, hp10, hf⟩ := g_bd hf
          refine hw_cv (va_runV (As := [.int p6]) (rest := []) ⟨hx, hb, hml, hown, hts⟩ (c_Ch_take l D cI cG cZ ad B ws N k0 vak0_1 vfk0_0_1 vfk0_0_2 p6 p10.1 p10.2.1 p10.2.2 hp10 bk0_0) (cwV 1 hts (hw_gV iw_331 gy_Ch_take) rfl rfl rfl (by decide +kernel) ⟨Nat.le_of_ble_eq_true rfl, Nat.le_of_ble_eq_true rfl⟩) ⟨hw_blind, va_recv hK hP (ci := 0) (q0 := k0) rfl bk0_0.1, hw_go hP hD hK hN⟩ rfl rfl hl.1 rfl (lv_room (Nat.le_of_ble_eq_true rfl)) d_Ch_choose_57 ⟨Nat.zero_le _, Nat.zero_le _⟩) hS (fun w11 H locs hP hD hS hpp => ?_)
          obtain ⟨q0, frc⟩ := hpp
          have bk0_0 : wc_Ch cI cG cZ ad (k0) (p10.1, p10.2.1, p10.2.2) w11 := q0
          have bk1_0 : wc_Do cI cG cZ ad (k1) (x1_0, x1_1, x1_2, x1_3) w11 := bk1_0.fr (fun j h1 h2 => frc j (by omega))
          have bk2_0 : wc_Rk cI cG cZ ad (k2) (x2_0, x2_1, x2_2, x2_3, x2_4) w11 := bk2_0.fr (fun j h1 h2 => frc j (by omega))
          have fr : ∀ j : Nat, (j < k0 ∨ k0 + 2 ≤ j) → w11[j]? = w0[j]? := fun j o0 => (frc j (by omega)).trans (fr j o0)
          refine lv_iinc (v := v4 + 1) (lv' := [(4, .int (v4 + 1)), (5, .int p6), (0, .ref (ad k0)), (1, .ref (ad k1)), (2, .ref (ad k2)), (3, .int a3)]) hx hb d_Ch_choose_60 hl (k := 1) rfl rfl (by decide) rfl (fun ls hl => ?_)
          refine lv_goto (tgt := 13) hx hb d_Ch_choose_63 (by decide) ?_
          obtain ⟨mk0_0, mk0_1⟩ := id bk0_0
          have mk0_0 : w11[k0]? = some (ad k0, .inr (0, [.ref (ad (k0 + 1)), .int p10.2.1, .int p10.2.2])) := mk0_0
          have mk0_1 : w11[k0 + 1]? = some (ad (k0 + 1), .inl (cI, 30, .inl p10.1)) := mk0_1
          exact ih p10.1 p10.2.1 p10.2.2 (v4 + 1) _ _ _ _ hP hD hS (lv_sub hl [0, 2, 3, 4, 5] rfl) mk0_0 mk0_1 bk1_0 bk2_0 fr hf
set_option maxHeartbeats 4000000 in
set_option maxRecDepth 100000 in
theorem c_Ch_choose (l : Launch) (D : va_G) (cI cG cZ : ClassId) (ad : Nat → Nat) (B : Nat) (w0 : va_W) (N : Nat) (k0 : Nat) (x0_0 : (Nat → Int32)) (x0_1 : Int32) (x0_2 : Int32) (k1 : Nat) (x1_0 : (Nat → Nat → Int32)) (x1_1 : (Nat → Int32)) (x1_2 : (Nat → Int32)) (x1_3 : Int32) (k2 : Nat) (x2_0 : (Nat → Int32)) (x2_1 : (Nat → Int32)) (x2_2 : Int32) (x2_3 : Int32) (x2_4 : Int32) (a3 : Int32) (y0_0 : (Nat → Int32)) (y0_1 : Int32) (y0_2 : Int32) (hf : f_Ch_choose N x0_0 x1_0 x2_0 x2_1 x2_2 a3 = some (y0_0, y0_1, y0_2)) (bk0_0 : wc_Ch cI cG cZ ad k0 (x0_0, x0_1, x0_2) w0) (bk1_0 : wc_Do cI cG cZ ad k1 (x1_0, x1_1, x1_2, x1_3) w0) (bk2_0 : wc_Rk cI cG cZ ad k2 (x2_0, x2_1, x2_2, x2_3, x2_4) w0) (dj0 : k0 + 2 ≤ k1 ∨ k1 + 34 ≤ k0) (dj1 : k0 + 2 ≤ k2 ∨ k2 + 3 ≤ k0) : Met l y_Ch_choose (.code y_Ch_choose b_Ch_choose 6 none :: hw_G) ({ frames := 2, cells := 0, slots := 0, locals := 48 } : Room) (va_Pc [.ref (ad k0), .ref (ad k1), .ref (ad k2), .int a3] (hw_U D cI cG cZ B w0)) (va_Qv (fun (w1 : va_W) => wc_Ch cI cG cZ ad k0 (y0_0, y0_1, y0_2) w1 ∧ (∀ j : Nat, (j < k0 ∨ k0 + 2 ≤ j) → w1[j]? = w0[j]?)) (hw_B D B) (fun q : Nat => B ≤ q)) 0 0 (fun q : Nat => B ≤ q) := by
  refine Met.ofW (cc := b_Ch_choose) (maxL := 6) (ret := none) (by decide) rfl ?_
  intro p e s m args below meth c s₁ Bd hml hv
  obtain ⟨rfl, hP, hD, hK, hN⟩ := hv
  have C0 : hw_C p s m meth c b_Ch_choose 6 _ R_Ch none := ⟨Bd.exec, Bd.bytes, Bd.returns, hml, findClass_of_methodNamed Bd.named, fun w h => atoms_spec (ws := .code y_Ch_choose b_Ch_choose 6 none :: hw_G) Bd.pre w (List.mem_cons_of_mem _ h), Bd.notSynchronized⟩
  obtain ⟨hx, hb, hr, -, hown, hts, hlocks⟩ := id C0
  have hS : va_S (fun q : Nat => B ≤ q) s.heap s.heap [] := va_S.rf
  have fr : ∀ j : Nat, (j < k0 ∨ k0 + 2 ≤ j) → w0[j]? = w0[j]? := fun j _ => rfl
  have hl := lv_entry ([.ref (ad k0), .ref (ad k1), .ref (ad k2), .int a3]) (n := 6) (Nat.le_of_ble_eq_true rfl)
  rw [lg_entry_eq]
  generalize (lg_sl ([.ref (ad k0), .ref (ad k1), .ref (ad k2), .int a3]) ++ List.replicate (6 - (lg_sl ([.ref (ad k0), .ref (ad k1), .ref (ad k2), .int a3])).length) Slot.unset).toArray = ls at hl ⊢
  have hl : lv_has ls 6 [(0, .ref (ad k0)), (1, .ref (ad k1)), (2, .ref (ad k2)), (3, .int a3)] := hl
  unfold f_Ch_choose at hf
  obtain ⟨mk0_0, mk0_1⟩ := id bk0_0
  have mk0_0 : w0[k0]? = some (ad k0, .inr (0, [.ref (ad (k0 + 1)), .int x0_1, .int x0_2])) := mk0_0
  have mk0_1 : w0[k0 + 1]? = some (ad (k0 + 1), .inl (cI, 30, .inl x0_0)) := mk0_1
  refine lv_aload_n hx hb d_Ch_choose_0 rfl (lv_at hl 0 rfl) ?_
  refine lv_iconst (v := 0) hx hb d_Ch_choose_1 (by decide) ?_
  refine va_put (D := D) (ci := 0) (v := .int 0) (ty := .int) (C := R_Ch) (T := F_Ch) (N := 3) hx hb hts i_Ch t_Ch t_Ch_ok n_Ch hown hK hP hD hS (k0) mk0_0 rfl 1 (by decide) (hts _ iw_120) (fun _ h9 => h9) rfl (by decide +kernel) rfl rfl (Nat.le_of_ble_eq_true rfl) d_Ch_choose_2 (fun H locs hP hD hS => ?_)
  obtain ⟨w1, hP, hD, hne, heq⟩ := hs_up hP hD mk0_0
  have mk0_0 : w1[k0]? = some (ad k0, .inr (0, [.ref (ad (k0 + 1)), .int 0, .int x0_2])) := heq
  have bk1_0 : wc_Do cI cG cZ ad (k1) (x1_0, x1_1, x1_2, x1_3) w1 := bk1_0.fr (fun j h1 h2 => hne j (by omega))
  have bk2_0 : wc_Rk cI cG cZ ad (k2) (x2_0, x2_1, x2_2, x2_3, x2_4) w1 := bk2_0.fr (fun j h1 h2 => hne j (by omega))
  have mk0_1 : w1[k0 + 1]? = some (ad (k0 + 1), .inl (cI, 30, .inl x0_0)) := (hne _ (by omega)).trans mk0_1
  have fr : ∀ j : Nat, (j < k0 ∨ k0 + 2 ≤ j) → w1[j]? = w0[j]? := fun j o0 => (hne j (by omega)).trans (fr j o0)
  refine lv_aload_n hx hb d_Ch_choose_5 rfl (lv_at hl 0 rfl) ?_
  refine lv_iconst (v := 0) hx hb d_Ch_choose_6 (by decide) ?_
  refine va_put (D := D) (ci := 0) (v := .int 0) (ty := .int) (C := R_Ch) (T := F_Ch) (N := 3) hx hb hts i_Ch t_Ch t_Ch_ok n_Ch hown hK hP hD hS (k0) mk0_0 rfl 2 (by decide) (hts _ iw_121) (fun _ h9 => h9) rfl (by decide +kernel) rfl rfl (Nat.le_of_ble_eq_true rfl) d_Ch_choose_7 (fun H locs hP hD hS => ?_)
  obtain ⟨w2, hP, hD, hne, heq⟩ := hs_up hP hD mk0_0
  have mk0_0 : w2[k0]? = some (ad k0, .inr (0, [.ref (ad (k0 + 1)), .int 0, .int 0])) := heq
  have bk1_0 : wc_Do cI cG cZ ad (k1) (x1_0, x1_1, x1_2, x1_3) w2 := bk1_0.fr (fun j h1 h2 => hne j (by omega))
  have bk2_0 : wc_Rk cI cG cZ ad (k2) (x2_0, x2_1, x2_2, x2_3, x2_4) w2 := bk2_0.fr (fun j h1 h2 => hne j (by omega))
  have mk0_1 : w2[k0 + 1]? = some (ad (k0 + 1), .inl (cI, 30, .inl x0_0)) := (hne _ (by omega)).trans mk0_1
  have fr : ∀ j : Nat, (j < k0 ∨ k0 + 2 ≤ j) → w2[j]? = w0[j]? := fun j o0 => (hne j (by omega)).trans (fr j o0)
  refine lv_iconst (v := 0) hx hb d_Ch_choose_10 (by decide) ?_
  refine lv_istore (lv' := [(4, .int 0), (0, .ref (ad k0)), (1, .ref (ad k1)), (2, .ref (ad k2)), (3, .int a3)]) hx hb d_Ch_choose_11 hl (by decide) rfl (fun ls hl => ?_)
  exact wl_Ch_choose_13 C0 hK hN dj0 dj1 x1_0 x1_1 x1_2 x1_3 x2_0 x2_1 x2_2 x2_3 x2_4 a3 x0_0 x0_1 x0_2 y0_0 y0_1 y0_2 N x0_0 0 0 0 _ _ _ _ hP hD hS (lv_sub hl [0, 1, 2, 3, 4] rfl) mk0_0 mk0_1 bk1_0 bk2_0 fr hf
set_option maxHeartbeats 4000000 in
set_option maxRecDepth 100000 in
theorem c_Ch_size (l : Launch) (D : va_G) (cI cG cZ : ClassId) (ad : Nat → Nat) (B : Nat) (w0 : va_W) (N : Nat) (k0 : Nat) (x0_0 : (Nat → Int32)) (x0_1 : Int32) (x0_2 : Int32) (r : Int32) (hf : f_Ch_size N x0_1 = some r) (bk0_0 : wc_Ch cI cG cZ ad k0 (x0_0, x0_1, x0_2) w0) : Met l y_Ch_size (.code y_Ch_size b_Ch_size 1 (some .int) :: hw_G) ({ frames := 0, cells := 0, slots := 0, locals := 0 } : Room) (va_Pc [.ref (ad k0)] (hw_U D cI cG cZ B w0)) (va_Qi (fun (r1 : Int32) (w1 : va_W) => r1 = r ∧ w1 = w0) (hw_B D B) (fun q : Nat => B ≤ q)) 0 0 (fun q : Nat => B ≤ q) := by
  refine Met.ofW (cc := b_Ch_size) (maxL := 1) (ret := (some .int)) (by decide) rfl ?_
  intro p e s m args below meth c s₁ Bd hml hv
  obtain ⟨rfl, hP, hD, hK, hN⟩ := hv
  have C0 : hw_C p s m meth c b_Ch_size 1 _ R_Ch (some .int) := ⟨Bd.exec, Bd.bytes, Bd.returns, hml, findClass_of_methodNamed Bd.named, fun w h => atoms_spec (ws := .code y_Ch_size b_Ch_size 1 (some .int) :: hw_G) Bd.pre w (List.mem_cons_of_mem _ h), Bd.notSynchronized⟩
  obtain ⟨hx, hb, hr, -, hown, hts, hlocks⟩ := id C0
  have hS : va_S (fun q : Nat => B ≤ q) s.heap s.heap [] := va_S.rf
  have fr : w0 = w0 := rfl
  have hl := lv_entry ([.ref (ad k0)]) (n := 1) (Nat.le_of_ble_eq_true rfl)
  rw [lg_entry_eq]
  generalize (lg_sl ([.ref (ad k0)]) ++ List.replicate (1 - (lg_sl ([.ref (ad k0)])).length) Slot.unset).toArray = ls at hl ⊢
  have hl : lv_has ls 1 [(0, .ref (ad k0))] := hl
  unfold f_Ch_size at hf
  obtain ⟨mk0_0, mk0_1⟩ := id bk0_0
  have mk0_0 : w0[k0]? = some (ad k0, .inr (0, [.ref (ad (k0 + 1)), .int x0_1, .int x0_2])) := mk0_0
  have mk0_1 : w0[k0 + 1]? = some (ad (k0 + 1), .inl (cI, 30, .inl x0_0)) := mk0_1
  refine lv_aload_n hx hb d_Ch_size_0 rfl (lv_at hl 0 rfl) ?_
  refine va_get (D := D) (ci := 0) (v := .int x0_1) (C := R_Ch) (T := F_Ch) (N := 3) hx hb hts i_Ch hown hK hP (k0) mk0_0 rfl 1 (by decide) (hts _ iw_120) (fun _ h9 => h9) rfl d_Ch_size_1 ?_
  have bk0_0 : wc_Ch cI cG cZ ad (k0) (x0_0, x0_1, x0_2) w0 := ⟨mk0_0, mk0_1⟩
  have e0 := Option.some.inj hf
  exact W.iret (v := x0_1) hx hb hr (fun t ht hW => ⟨⟨x0_1, w0, rfl, ⟨e0, fr⟩, by rw [ht]; exact hP, hD⟩, hS.F ht⟩) hS.2.2 d_Ch_size_4
set_option maxHeartbeats 4000000 in
set_option maxRecDepth 100000 in
theorem c_Ch_chosen (l : Launch) (D : va_G) (cI cG cZ : ClassId) (ad : Nat → Nat) (B : Nat) (w0 : va_W) (N : Nat) (k0 : Nat) (x0_0 : (Nat → Int32)) (x0_1 : Int32) (x0_2 : Int32) (a1 : Int32) (r : Int32) (hf : f_Ch_chosen N x0_0 a1 = some r) (bk0_0 : wc_Ch cI cG cZ ad k0 (x0_0, x0_1, x0_2) w0) : Met l y_Ch_chosen (.code y_Ch_chosen b_Ch_chosen 2 (some .int) :: hw_G) ({ frames := 0, cells := 0, slots := 0, locals := 0 } : Room) (va_Pc [.ref (ad k0), .int a1] (hw_U D cI cG cZ B w0)) (va_Qi (fun (r1 : Int32) (w1 : va_W) => r1 = r ∧ w1 = w0) (hw_B D B) (fun q : Nat => B ≤ q)) 0 0 (fun q : Nat => B ≤ q) := by
  refine Met.ofW (cc := b_Ch_chosen) (maxL := 2) (ret := (some .int)) (by decide) rfl ?_
  intro p e s m args below meth c s₁ Bd hml hv
  obtain ⟨rfl, hP, hD, hK, hN⟩ := hv
  have C0 : hw_C p s m meth c b_Ch_chosen 2 _ R_Ch (some .int) := ⟨Bd.exec, Bd.bytes, Bd.returns, hml, findClass_of_methodNamed Bd.named, fun w h => atoms_spec (ws := .code y_Ch_chosen b_Ch_chosen 2 (some .int) :: hw_G) Bd.pre w (List.mem_cons_of_mem _ h), Bd.notSynchronized⟩
  obtain ⟨hx, hb, hr, -, hown, hts, hlocks⟩ := id C0
  have hS : va_S (fun q : Nat => B ≤ q) s.heap s.heap [] := va_S.rf
  have fr : w0 = w0 := rfl
  have hl := lv_entry ([.ref (ad k0), .int a1]) (n := 2) (Nat.le_of_ble_eq_true rfl)
  rw [lg_entry_eq]
  generalize (lg_sl ([.ref (ad k0), .int a1]) ++ List.replicate (2 - (lg_sl ([.ref (ad k0), .int a1])).length) Slot.unset).toArray = ls at hl ⊢
  have hl : lv_has ls 2 [(0, .ref (ad k0)), (1, .int a1)] := hl
  unfold f_Ch_chosen at hf
  obtain ⟨mk0_0, mk0_1⟩ := id bk0_0
  have mk0_0 : w0[k0]? = some (ad k0, .inr (0, [.ref (ad (k0 + 1)), .int x0_1, .int x0_2])) := mk0_0
  have mk0_1 : w0[k0 + 1]? = some (ad (k0 + 1), .inl (cI, 30, .inl x0_0)) := mk0_1
  refine lv_aload_n hx hb d_Ch_chosen_0 rfl (lv_at hl 0 rfl) ?_
  refine va_get (D := D) (ci := 0) (v := .ref (ad (k0 + 1))) (C := R_Ch) (T := F_Ch) (N := 3) hx hb hts i_Ch hown hK hP (k0) mk0_0 rfl 0 (by decide) (hts _ iw_119) (fun _ h9 => h9) rfl d_Ch_chosen_1 ?_
  refine lv_iload_n hx hb d_Ch_chosen_4 rfl (lv_at hl 1 rfl) ?_
  obtain ⟨z1, hf⟩ := g_atE hf
  refine va_iald hx hb hK hP (k0 + 1) 0 mk0_1 rfl z1 d_Ch_chosen_5 ?_
  have bk0_0 : wc_Ch cI cG cZ ad (k0) (x0_0, x0_1, x0_2) w0 := ⟨mk0_0, mk0_1⟩
  have e0 := Option.some.inj hf
  exact W.iret (v := x0_0 a1.toNatClampNeg) hx hb hr (fun t ht hW => ⟨⟨x0_0 a1.toNatClampNeg, w0, rfl, ⟨e0, fr⟩, by rw [ht]; exact hP, hD⟩, hS.F ht⟩) hS.2.2 d_Ch_chosen_6
end
