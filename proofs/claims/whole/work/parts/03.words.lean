theorem hw_good : GoodIn hw_G hw_G := fun w h => ⟨h, good_of_word (List.mem_filter.mp h).2⟩
theorem hw_gc {c : Cond} (h : c ∈ hw_G) : GoodIn hw_G (c :: hw_G) := fun w hw => (List.mem_cons.mp hw).elim (fun e => by subst e; exact hw_good _ h) (fun q => hw_good _ q)
theorem hw_g1 {c : Cond} {ws : List Cond} (h : c ∈ hw_G) (g : GoodIn hw_G ws) : GoodIn hw_G (c :: ws) := fun w hw => (List.mem_cons.mp hw).elim (fun e => by subst e; exact hw_good _ h) (fun q => g _ q)
theorem hw_g2 {a b : Cond} {ws : List Cond} (h1 : a ∈ hw_G) (h2 : b ∈ hw_G) (g : GoodIn hw_G ws) : GoodIn hw_G ([a, b] ++ ws) := hw_g1 h1 (hw_g1 h2 g)
theorem hw_g3 {a b c : Cond} {ws : List Cond} (h1 : a ∈ hw_G) (h2 : b ∈ hw_G) (h3 : c ∈ hw_G) (g : GoodIn hw_G ws) : GoodIn hw_G ([a, b, c] ++ ws) := hw_g1 h1 (hw_g1 h2 (hw_g1 h3 g))
theorem hw_gV {own C : String} {idx : Nat} {y : MethodName} {ws : List Cond} (h : Cond.methodLink own idx y ∈ hw_G) (g : GoodIn hw_G ([.instanceMethod y, .selects C y y, .initialized C] ++ ws)) : GoodIn hw_G (wsV own idx C y ws) := hw_g1 h g
theorem hw_gS {own : String} {idx : Nat} {y : MethodName} {ws : List Cond} (h : Cond.methodLink own idx y ∈ hw_G) (g : GoodIn hw_G ([.static y, .initialized y.cls] ++ ws)) : GoodIn hw_G (va_wsS own idx y ws) := hw_g1 h g
theorem iw_m42 : (Cond.selects "NearDeskModel" ({ cls := "NearDeskModel", name := "reached", desc := "()I" } : MethodName) ({ cls := "NearDeskModel", name := "reached", desc := "()I" } : MethodName)) ∈ hw_G := hw_in 41 (by decide +kernel) rfl
theorem iw_m41 : (Cond.selects "NearDeskModel" ({ cls := "NearDeskModel", name := "isNeighbour", desc := "(II)Z" } : MethodName) ({ cls := "NearDeskModel", name := "isNeighbour", desc := "(II)Z" } : MethodName)) ∈ hw_G := hw_in 40 (by decide +kernel) rfl
theorem iw_m40 : (Cond.selects "NearDeskModel" ({ cls := "NearDeskModel", name := "oneSided", desc := "()I" } : MethodName) ({ cls := "NearDeskModel", name := "oneSided", desc := "()I" } : MethodName)) ∈ hw_G := hw_in 39 (by decide +kernel) rfl
theorem iw_m39 : (Cond.selects "NearDeskModel" ({ cls := "NearDeskModel", name := "right", desc := "()I" } : MethodName) ({ cls := "NearDeskModel", name := "right", desc := "()I" } : MethodName)) ∈ hw_G := hw_in 38 (by decide +kernel) rfl
theorem iw_m38 : (Cond.selects "NearDeskModel" ({ cls := "NearDeskModel", name := "placeOf", desc := "(I)I" } : MethodName) ({ cls := "NearDeskModel", name := "placeOf", desc := "(I)I" } : MethodName)) ∈ hw_G := hw_in 37 (by decide +kernel) rfl
theorem iw_m37 : (Cond.selects "NearDeskModel" ({ cls := "NearDeskModel", name := "best", desc := "(I)I" } : MethodName) ({ cls := "NearDeskModel", name := "best", desc := "(I)I" } : MethodName)) ∈ hw_G := hw_in 36 (by decide +kernel) rfl
theorem iw_m36 : (Cond.selects "NearDeskModel" ({ cls := "NearDeskModel", name := "countOf", desc := "(II)I" } : MethodName) ({ cls := "NearDeskModel", name := "countOf", desc := "(II)I" } : MethodName)) ∈ hw_G := hw_in 35 (by decide +kernel) rfl
theorem iw_m35 : (Cond.selects "NearDeskModel" ({ cls := "NearDeskModel", name := "scoreOf", desc := "(II)I" } : MethodName) ({ cls := "NearDeskModel", name := "scoreOf", desc := "(II)I" } : MethodName)) ∈ hw_G := hw_in 34 (by decide +kernel) rfl
theorem iw_m34 : (Cond.selects "NearDeskModel" ({ cls := "NearDeskModel", name := "score", desc := "(I)V" } : MethodName) ({ cls := "NearDeskModel", name := "score", desc := "(I)V" } : MethodName)) ∈ hw_G := hw_in 33 (by decide +kernel) rfl
theorem iw_m33 : (Cond.selects "NearDeskModel" ({ cls := "NearDeskModel", name := "aimAsked", desc := "()V" } : MethodName) ({ cls := "NearDeskModel", name := "aimAsked", desc := "()V" } : MethodName)) ∈ hw_G := hw_in 32 (by decide +kernel) rfl
theorem iw_m32 : (Cond.selects "NearDeskModel" ({ cls := "NearDeskModel", name := "search", desc := "(I)V" } : MethodName) ({ cls := "NearDeskModel", name := "search", desc := "(I)V" } : MethodName)) ∈ hw_G := hw_in 31 (by decide +kernel) rfl
theorem iw_m31 : (Cond.selects "NearDeskModel" ({ cls := "NearDeskModel", name := "take", desc := "(I)V" } : MethodName) ({ cls := "NearDeskModel", name := "take", desc := "(I)V" } : MethodName)) ∈ hw_G := hw_in 30 (by decide +kernel) rfl
theorem iw_m30 : (Cond.selects "NearDeskModel" ({ cls := "NearDeskModel", name := "pick", desc := "(I)V" } : MethodName) ({ cls := "NearDeskModel", name := "pick", desc := "(I)V" } : MethodName)) ∈ hw_G := hw_in 29 (by decide +kernel) rfl
theorem iw_m29 : (Cond.selects "NearDeskModel" ({ cls := "NearDeskModel", name := "between", desc := "(II)I" } : MethodName) ({ cls := "NearDeskModel", name := "between", desc := "(II)I" } : MethodName)) ∈ hw_G := hw_in 28 (by decide +kernel) rfl
theorem iw_m28 : (Cond.selects "NearDeskModel" ({ cls := "NearDeskModel", name := "choose", desc := "(I)V" } : MethodName) ({ cls := "NearDeskModel", name := "choose", desc := "(I)V" } : MethodName)) ∈ hw_G := hw_in 27 (by decide +kernel) rfl
theorem iw_m27 : (Cond.selects "NearDeskModel" ({ cls := "NearDeskModel", name := "tie", desc := "(II)V" } : MethodName) ({ cls := "NearDeskModel", name := "tie", desc := "(II)V" } : MethodName)) ∈ hw_G := hw_in 26 (by decide +kernel) rfl
theorem iw_m26 : (Cond.selects "NearDeskModel" ({ cls := "NearDeskModel", name := "look", desc := "(II)V" } : MethodName) ({ cls := "NearDeskModel", name := "look", desc := "(II)V" } : MethodName)) ∈ hw_G := hw_in 25 (by decide +kernel) rfl
theorem iw_m25 : (Cond.selects "NearDeskModel" ({ cls := "NearDeskModel", name := "nearest", desc := "([Z)I" } : MethodName) ({ cls := "NearDeskModel", name := "nearest", desc := "([Z)I" } : MethodName)) ∈ hw_G := hw_in 24 (by decide +kernel) rfl
theorem iw_m24 : (Cond.selects "NearDeskModel" ({ cls := "NearDeskModel", name := "far", desc := "(I)I" } : MethodName) ({ cls := "NearDeskModel", name := "far", desc := "(I)I" } : MethodName)) ∈ hw_G := hw_in 23 (by decide +kernel) rfl
theorem iw_m23 : (Cond.selects "NearDeskModel" ({ cls := "NearDeskModel", name := "isNearer", desc := "(II)Z" } : MethodName) ({ cls := "NearDeskModel", name := "isNearer", desc := "(II)Z" } : MethodName)) ∈ hw_G := hw_in 22 (by decide +kernel) rfl
theorem iw_m22 : (Cond.selects "NearDeskModel" ({ cls := "NearDeskModel", name := "farthest", desc := "([Z)I" } : MethodName) ({ cls := "NearDeskModel", name := "farthest", desc := "([Z)I" } : MethodName)) ∈ hw_G := hw_in 21 (by decide +kernel) rfl
theorem iw_m21 : (Cond.selects "NearDeskModel" ({ cls := "NearDeskModel", name := "walk", desc := "(II)I" } : MethodName) ({ cls := "NearDeskModel", name := "walk", desc := "(II)I" } : MethodName)) ∈ hw_G := hw_in 20 (by decide +kernel) rfl
theorem iw_m20 : (Cond.selects "NearDeskModel" ({ cls := "NearDeskModel", name := "aimAt", desc := "(I)V" } : MethodName) ({ cls := "NearDeskModel", name := "aimAt", desc := "(I)V" } : MethodName)) ∈ hw_G := hw_in 19 (by decide +kernel) rfl
theorem iw_m19 : (Cond.selects "NearDeskModel" ({ cls := "NearDeskModel", name := "enter", desc := "(I)V" } : MethodName) ({ cls := "NearDeskModel", name := "enter", desc := "(I)V" } : MethodName)) ∈ hw_G := hw_in 18 (by decide +kernel) rfl
theorem iw_m18 : (Cond.selects "NearDesk$Links" ({ cls := "NearDesk$Links", name := "isLinked", desc := "(II)Z" } : MethodName) ({ cls := "NearDesk$Links", name := "isLinked", desc := "(II)Z" } : MethodName)) ∈ hw_G := hw_in 17 (by decide +kernel) rfl
theorem iw_m17 : (Cond.selects "NearDesk$Links" ({ cls := "NearDesk$Links", name := "unreturned", desc := "(I)I" } : MethodName) ({ cls := "NearDesk$Links", name := "unreturned", desc := "(I)I" } : MethodName)) ∈ hw_G := hw_in 16 (by decide +kernel) rfl
theorem iw_m16 : (Cond.selects "NearDesk" ({ cls := "NearDesk", name := "foundAmongNearest", desc := "()I" } : MethodName) ({ cls := "NearDesk", name := "foundAmongNearest", desc := "()I" } : MethodName)) ∈ hw_G := hw_in 15 (by decide +kernel) rfl
theorem iw_m15 : (Cond.selects "NearDesk" ({ cls := "NearDesk", name := "rankByPoints", desc := "(LNearDesk$Ranking;)V" } : MethodName) ({ cls := "NearDesk", name := "rankByPoints", desc := "(LNearDesk$Ranking;)V" } : MethodName)) ∈ hw_G := hw_in 14 (by decide +kernel) rfl
theorem iw_m14 : (Cond.selects "NearDesk" ({ cls := "NearDesk", name := "addPoints", desc := "(LNearDesk$Ranking;)V" } : MethodName) ({ cls := "NearDesk", name := "addPoints", desc := "(LNearDesk$Ranking;)V" } : MethodName)) ∈ hw_G := hw_in 13 (by decide +kernel) rfl
theorem iw_m13 : (Cond.selects "NearDesk" ({ cls := "NearDesk", name := "clearPoints", desc := "()V" } : MethodName) ({ cls := "NearDesk", name := "clearPoints", desc := "()V" } : MethodName)) ∈ hw_G := hw_in 12 (by decide +kernel) rfl
theorem iw_m12 : (Cond.selects "NearDesk$Documents" ({ cls := "NearDesk$Documents", name := "score", desc := "(II)I" } : MethodName) ({ cls := "NearDesk$Documents", name := "score", desc := "(II)I" } : MethodName)) ∈ hw_G := hw_in 11 (by decide +kernel) rfl
theorem iw_m11 : (Cond.selects "NearDesk$Documents" ({ cls := "NearDesk$Documents", name := "countOfWord", desc := "(II)I" } : MethodName) ({ cls := "NearDesk$Documents", name := "countOfWord", desc := "(II)I" } : MethodName)) ∈ hw_G := hw_in 10 (by decide +kernel) rfl
theorem iw_m10 : (Cond.selects "NearDesk$Documents" ({ cls := "NearDesk$Documents", name := "liveWith", desc := "(I)I" } : MethodName) ({ cls := "NearDesk$Documents", name := "liveWith", desc := "(I)I" } : MethodName)) ∈ hw_G := hw_in 9 (by decide +kernel) rfl
theorem iw_m9 : (Cond.selects "NearDesk$Documents" ({ cls := "NearDesk$Documents", name := "weighWords", desc := "()V" } : MethodName) ({ cls := "NearDesk$Documents", name := "weighWords", desc := "()V" } : MethodName)) ∈ hw_G := hw_in 8 (by decide +kernel) rfl
theorem iw_m8 : (Cond.selects "NearDesk" ({ cls := "NearDesk", name := "searchInto", desc := "(LNearDesk$Ranking;I)V" } : MethodName) ({ cls := "NearDesk", name := "searchInto", desc := "(LNearDesk$Ranking;I)V" } : MethodName)) ∈ hw_G := hw_in 7 (by decide +kernel) rfl
theorem iw_m7 : (Cond.selects "NearDesk$Graph" ({ cls := "NearDesk$Graph", name := "shorten", desc := "(LNearDesk$Documents;II)V" } : MethodName) ({ cls := "NearDesk$Graph", name := "shorten", desc := "(LNearDesk$Documents;II)V" } : MethodName)) ∈ hw_G := hw_in 6 (by decide +kernel) rfl
theorem iw_m6 : (Cond.selects "NearDesk$Chooser" ({ cls := "NearDesk$Chooser", name := "take", desc := "(I)V" } : MethodName) ({ cls := "NearDesk$Chooser", name := "take", desc := "(I)V" } : MethodName)) ∈ hw_G := hw_in 5 (by decide +kernel) rfl
theorem iw_m5 : (Cond.selects "NearDesk$Chooser" ({ cls := "NearDesk$Chooser", name := "isNearestToVector", desc := "(LNearDesk$Documents;II)Z" } : MethodName) ({ cls := "NearDesk$Chooser", name := "isNearestToVector", desc := "(LNearDesk$Documents;II)Z" } : MethodName)) ∈ hw_G := hw_in 4 (by decide +kernel) rfl
theorem iw_m4 : (Cond.selects "NearDesk$Graph" ({ cls := "NearDesk$Graph", name := "link", desc := "(LNearDesk$Documents;II)V" } : MethodName) ({ cls := "NearDesk$Graph", name := "link", desc := "(LNearDesk$Documents;II)V" } : MethodName)) ∈ hw_G := hw_in 3 (by decide +kernel) rfl
theorem iw_m3 : (Cond.selects "NearDesk$Walker" ({ cls := "NearDesk$Walker", name := "lookAround", desc := "(LNearDesk$Links;II)V" } : MethodName) ({ cls := "NearDesk$Walker", name := "lookAround", desc := "(LNearDesk$Links;II)V" } : MethodName)) ∈ hw_G := hw_in 2 (by decide +kernel) rfl
theorem iw_m2 : (Cond.selects "NearDesk$Walker" ({ cls := "NearDesk$Walker", name := "begin", desc := "(I)V" } : MethodName) ({ cls := "NearDesk$Walker", name := "begin", desc := "(I)V" } : MethodName)) ∈ hw_G := hw_in 1 (by decide +kernel) rfl
theorem iw_m1 : (Cond.selects "NearDesk$Ranking" ({ cls := "NearDesk$Ranking", name := "precedes", desc := "(IIII)Z" } : MethodName) ({ cls := "NearDesk$Ranking", name := "precedes", desc := "(IIII)Z" } : MethodName)) ∈ hw_G := hw_in 0 (by decide +kernel) rfl
theorem iw_1 : (Cond.initialized "NearDesk") ∈ hw_G := hw_in 43 (by decide +kernel) rfl
theorem iw_2 : (Cond.initialized "NearDesk$Documents") ∈ hw_G := hw_in 44 (by decide +kernel) rfl
theorem iw_3 : (Cond.initialized "NearDesk$Graph") ∈ hw_G := hw_in 45 (by decide +kernel) rfl
theorem iw_4 : (Cond.initialized "NearDesk$Links") ∈ hw_G := hw_in 46 (by decide +kernel) rfl
theorem iw_5 : (Cond.initialized "NearDesk$Walker") ∈ hw_G := hw_in 47 (by decide +kernel) rfl
theorem iw_6 : (Cond.initialized "NearDesk$Ranking") ∈ hw_G := hw_in 48 (by decide +kernel) rfl
theorem iw_7 : (Cond.initialized "NearDesk$Chooser") ∈ hw_G := hw_in 49 (by decide +kernel) rfl
theorem iw_8 : (Cond.initialized "NearDeskModel") ∈ hw_G := hw_in 50 (by decide +kernel) rfl
theorem iw_10 : (Cond.initialized "java/lang/Integer") ∈ hw_G := hw_in 52 (by decide +kernel) rfl
theorem iw_27 : (Cond.fieldLink "NearDesk$Documents" (11 : Nat) "NearDesk$Documents" "vectors" "[[I") ∈ hw_G := hw_in 69 (by decide +kernel) rfl
theorem iw_28 : (Cond.fieldLink "NearDesk$Documents" (16 : Nat) "NearDesk$Documents" "countsOfWords" "[I") ∈ hw_G := hw_in 70 (by decide +kernel) rfl
theorem iw_29 : (Cond.fieldLink "NearDesk$Documents" (20 : Nat) "NearDesk$Documents" "weights" "[I") ∈ hw_G := hw_in 71 (by decide +kernel) rfl
theorem iw_30 : (Cond.fieldLink "NearDesk$Documents" (27 : Nat) "NearDesk$Documents" "live" "I") ∈ hw_G := hw_in 72 (by decide +kernel) rfl
theorem iw_53 : (Cond.fieldLink "NearDesk$Links" (9 : Nat) "NearDesk$Links" "orders" "[I") ∈ hw_G := hw_in 95 (by decide +kernel) rfl
theorem iw_54 : (Cond.fieldLink "NearDesk$Links" (15 : Nat) "NearDesk$Links" "levels" "[I") ∈ hw_G := hw_in 96 (by decide +kernel) rfl
theorem iw_55 : (Cond.fieldLink "NearDesk$Links" (18 : Nat) "NearDesk$Links" "degrees" "[I") ∈ hw_G := hw_in 97 (by decide +kernel) rfl
theorem iw_56 : (Cond.fieldLink "NearDesk$Links" (21 : Nat) "NearDesk$Links" "rows" "[I") ∈ hw_G := hw_in 98 (by decide +kernel) rfl
theorem iw_57 : (Cond.fieldLink "NearDesk$Links" (24 : Nat) "NearDesk$Links" "queue" "[I") ∈ hw_G := hw_in 99 (by decide +kernel) rfl
theorem iw_58 : (Cond.fieldLink "NearDesk$Links" (27 : Nat) "NearDesk$Links" "size" "I") ∈ hw_G := hw_in 100 (by decide +kernel) rfl
theorem iw_84 : (Cond.fieldLink "NearDesk$Ranking" (9 : Nat) "NearDesk$Ranking" "numbers" "[I") ∈ hw_G := hw_in 126 (by decide +kernel) rfl
theorem iw_85 : (Cond.fieldLink "NearDesk$Ranking" (15 : Nat) "NearDesk$Ranking" "values" "[I") ∈ hw_G := hw_in 127 (by decide +kernel) rfl
theorem iw_86 : (Cond.fieldLink "NearDesk$Ranking" (18 : Nat) "NearDesk$Ranking" "size" "I") ∈ hw_G := hw_in 128 (by decide +kernel) rfl
theorem iw_87 : (Cond.fieldLink "NearDesk$Ranking" (28 : Nat) "NearDesk$Ranking" "room" "I") ∈ hw_G := hw_in 129 (by decide +kernel) rfl
theorem iw_88 : (Cond.fieldLink "NearDesk$Ranking" (31 : Nat) "NearDesk$Ranking" "greatestFirst" "Z") ∈ hw_G := hw_in 130 (by decide +kernel) rfl
theorem iw_100 : (Cond.fieldLink "NearDesk$Walker" (12 : Nat) "NearDesk$Walker" "held" "LNearDesk$Ranking;") ∈ hw_G := hw_in 142 (by decide +kernel) rfl
theorem iw_101 : (Cond.fieldLink "NearDesk$Walker" (18 : Nat) "NearDesk$Walker" "open" "LNearDesk$Ranking;") ∈ hw_G := hw_in 143 (by decide +kernel) rfl
theorem iw_102 : (Cond.fieldLink "NearDesk$Walker" (21 : Nat) "NearDesk$Walker" "distances" "[I") ∈ hw_G := hw_in 144 (by decide +kernel) rfl
theorem iw_103 : (Cond.fieldLink "NearDesk$Walker" (65 : Nat) "NearDesk$Walker" "seen" "I") ∈ hw_G := hw_in 145 (by decide +kernel) rfl
theorem iw_119 : (Cond.fieldLink "NearDesk$Chooser" (9 : Nat) "NearDesk$Chooser" "row" "[I") ∈ hw_G := hw_in 161 (by decide +kernel) rfl
theorem iw_120 : (Cond.fieldLink "NearDesk$Chooser" (15 : Nat) "NearDesk$Chooser" "size" "I") ∈ hw_G := hw_in 162 (by decide +kernel) rfl
theorem iw_121 : (Cond.fieldLink "NearDesk$Chooser" (19 : Nat) "NearDesk$Chooser" "taken" "I") ∈ hw_G := hw_in 163 (by decide +kernel) rfl
theorem iw_131 : (Cond.fieldLink "NearDesk$Graph" (12 : Nat) "NearDesk$Graph" "links" "LNearDesk$Links;") ∈ hw_G := hw_in 173 (by decide +kernel) rfl
theorem iw_133 : (Cond.fieldLink "NearDesk$Graph" (21 : Nat) "NearDesk$Graph" "walker" "LNearDesk$Walker;") ∈ hw_G := hw_in 175 (by decide +kernel) rfl
theorem iw_134 : (Cond.fieldLink "NearDesk$Graph" (28 : Nat) "NearDesk$Graph" "chooser" "LNearDesk$Chooser;") ∈ hw_G := hw_in 176 (by decide +kernel) rfl
theorem iw_135 : (Cond.fieldLink "NearDesk$Graph" (35 : Nat) "NearDesk$Graph" "candidates" "LNearDesk$Ranking;") ∈ hw_G := hw_in 177 (by decide +kernel) rfl
theorem iw_136 : (Cond.fieldLink "NearDesk$Graph" (39 : Nat) "NearDesk$Graph" "entry" "I") ∈ hw_G := hw_in 178 (by decide +kernel) rfl
theorem iw_137 : (Cond.fieldLink "NearDesk$Graph" (47 : Nat) "NearDesk$Graph" "seenInSearches" "I") ∈ hw_G := hw_in 179 (by decide +kernel) rfl
theorem iw_138 : (Cond.fieldLink "NearDesk$Graph" (50 : Nat) "NearDesk$Graph" "seenInEntering" "I") ∈ hw_G := hw_in 180 (by decide +kernel) rfl
theorem iw_156 : (Cond.fieldLink "NearDesk" (12 : Nat) "NearDesk" "documents" "LNearDesk$Documents;") ∈ hw_G := hw_in 198 (by decide +kernel) rfl
theorem iw_157 : (Cond.fieldLink "NearDesk" (19 : Nat) "NearDesk" "graph" "LNearDesk$Graph;") ∈ hw_G := hw_in 199 (by decide +kernel) rfl
theorem iw_158 : (Cond.fieldLink "NearDesk" (26 : Nat) "NearDesk" "results" "LNearDesk$Ranking;") ∈ hw_G := hw_in 200 (by decide +kernel) rfl
theorem iw_159 : (Cond.fieldLink "NearDesk" (30 : Nat) "NearDesk" "scratch" "LNearDesk$Ranking;") ∈ hw_G := hw_in 201 (by decide +kernel) rfl
theorem iw_160 : (Cond.fieldLink "NearDesk" (33 : Nat) "NearDesk" "asked" "[I") ∈ hw_G := hw_in 202 (by decide +kernel) rfl
theorem iw_161 : (Cond.fieldLink "NearDesk" (37 : Nat) "NearDesk" "points" "[I") ∈ hw_G := hw_in 203 (by decide +kernel) rfl
theorem iw_175 : (Cond.methodLink "NearDeskLaw" (13 : Nat) ({ cls := "NearDesk", name := "put", desc := "(IIIII)I" } : MethodName)) ∈ hw_G := hw_in 217 (by decide +kernel) rfl
theorem iw_176 : (Cond.instanceMethod ({ cls := "NearDesk", name := "put", desc := "(IIIII)I" } : MethodName)) ∈ hw_G := hw_in 218 (by decide +kernel) rfl
theorem iw_177 : (Cond.selects "NearDesk" ({ cls := "NearDesk", name := "put", desc := "(IIIII)I" } : MethodName) ({ cls := "NearDesk", name := "put", desc := "(IIIII)I" } : MethodName)) ∈ hw_G := hw_in 219 (by decide +kernel) rfl
theorem iw_179 : (Cond.methodLink "NearDesk" (40 : Nat) ({ cls := "NearDesk", name := "isVector", desc := "(IIII)Z" } : MethodName)) ∈ hw_G := hw_in 221 (by decide +kernel) rfl
theorem iw_180 : (Cond.static ({ cls := "NearDesk", name := "isVector", desc := "(IIII)Z" } : MethodName)) ∈ hw_G := hw_in 222 (by decide +kernel) rfl
theorem iw_182 : (Cond.methodLink "NearDesk" (184 : Nat) ({ cls := "NearDesk", name := "isCoordinate", desc := "(I)Z" } : MethodName)) ∈ hw_G := hw_in 224 (by decide +kernel) rfl
theorem iw_183 : (Cond.static ({ cls := "NearDesk", name := "isCoordinate", desc := "(I)Z" } : MethodName)) ∈ hw_G := hw_in 225 (by decide +kernel) rfl
theorem iw_185 : (Cond.methodLink "NearDesk" (45 : Nat) ({ cls := "NearDesk", name := "isWithin", desc := "(III)Z" } : MethodName)) ∈ hw_G := hw_in 227 (by decide +kernel) rfl
theorem iw_186 : (Cond.static ({ cls := "NearDesk", name := "isWithin", desc := "(III)Z" } : MethodName)) ∈ hw_G := hw_in 228 (by decide +kernel) rfl
theorem iw_188 : (Cond.constant "NearDesk" (44 : Nat) (16777215 : Int32)) ∈ hw_G := hw_in 230 (by decide +kernel) rfl
theorem iw_189 : (Cond.methodLink "NearDesk" (53 : Nat) ({ cls := "NearDesk$Links", name := "freeNumber", desc := "()I" } : MethodName)) ∈ hw_G := hw_in 231 (by decide +kernel) rfl
theorem iw_190 : (Cond.instanceMethod ({ cls := "NearDesk$Links", name := "freeNumber", desc := "()I" } : MethodName)) ∈ hw_G := hw_in 232 (by decide +kernel) rfl
theorem iw_191 : (Cond.selects "NearDesk$Links" ({ cls := "NearDesk$Links", name := "freeNumber", desc := "()I" } : MethodName) ({ cls := "NearDesk$Links", name := "freeNumber", desc := "()I" } : MethodName)) ∈ hw_G := hw_in 233 (by decide +kernel) rfl
theorem iw_193 : (Cond.methodLink "NearDesk" (59 : Nat) ({ cls := "NearDesk$Documents", name := "store", desc := "(IIIIII)V" } : MethodName)) ∈ hw_G := hw_in 235 (by decide +kernel) rfl
theorem iw_194 : (Cond.instanceMethod ({ cls := "NearDesk$Documents", name := "store", desc := "(IIIIII)V" } : MethodName)) ∈ hw_G := hw_in 236 (by decide +kernel) rfl
theorem iw_195 : (Cond.selects "NearDesk$Documents" ({ cls := "NearDesk$Documents", name := "store", desc := "(IIIIII)V" } : MethodName) ({ cls := "NearDesk$Documents", name := "store", desc := "(IIIIII)V" } : MethodName)) ∈ hw_G := hw_in 237 (by decide +kernel) rfl
theorem iw_198 : (Cond.static ({ cls := "NearDesk", name := "writeVector", desc := "([IIIII)V" } : MethodName)) ∈ hw_G := hw_in 240 (by decide +kernel) rfl
theorem iw_200 : (Cond.methodLink "NearDesk" (63 : Nat) ({ cls := "NearDesk$Graph", name := "enter", desc := "(LNearDesk$Documents;I)V" } : MethodName)) ∈ hw_G := hw_in 242 (by decide +kernel) rfl
theorem iw_201 : (Cond.instanceMethod ({ cls := "NearDesk$Graph", name := "enter", desc := "(LNearDesk$Documents;I)V" } : MethodName)) ∈ hw_G := hw_in 243 (by decide +kernel) rfl
theorem iw_202 : (Cond.selects "NearDesk$Graph" ({ cls := "NearDesk$Graph", name := "enter", desc := "(LNearDesk$Documents;I)V" } : MethodName) ({ cls := "NearDesk$Graph", name := "enter", desc := "(LNearDesk$Documents;I)V" } : MethodName)) ∈ hw_G := hw_in 244 (by decide +kernel) rfl
theorem iw_204 : (Cond.methodLink "NearDesk$Graph" (56 : Nat) ({ cls := "NearDesk$Links", name := "addNode", desc := "(I)V" } : MethodName)) ∈ hw_G := hw_in 246 (by decide +kernel) rfl
theorem iw_205 : (Cond.instanceMethod ({ cls := "NearDesk$Links", name := "addNode", desc := "(I)V" } : MethodName)) ∈ hw_G := hw_in 247 (by decide +kernel) rfl
theorem iw_206 : (Cond.selects "NearDesk$Links" ({ cls := "NearDesk$Links", name := "addNode", desc := "(I)V" } : MethodName) ({ cls := "NearDesk$Links", name := "addNode", desc := "(I)V" } : MethodName)) ∈ hw_G := hw_in 248 (by decide +kernel) rfl
theorem iw_208 : (Cond.methodLink "NearDesk$Links" (31 : Nat) ({ cls := "NearDesk$Links", name := "levelOf", desc := "(I)I" } : MethodName)) ∈ hw_G := hw_in 250 (by decide +kernel) rfl
theorem iw_209 : (Cond.static ({ cls := "NearDesk$Links", name := "levelOf", desc := "(I)I" } : MethodName)) ∈ hw_G := hw_in 251 (by decide +kernel) rfl
theorem iw_211 : (Cond.methodLink "NearDesk$Graph" (43 : Nat) ({ cls := "NearDesk$Links", name := "level", desc := "(I)I" } : MethodName)) ∈ hw_G := hw_in 253 (by decide +kernel) rfl
theorem iw_212 : (Cond.instanceMethod ({ cls := "NearDesk$Links", name := "level", desc := "(I)I" } : MethodName)) ∈ hw_G := hw_in 254 (by decide +kernel) rfl
theorem iw_213 : (Cond.selects "NearDesk$Links" ({ cls := "NearDesk$Links", name := "level", desc := "(I)I" } : MethodName) ({ cls := "NearDesk$Links", name := "level", desc := "(I)I" } : MethodName)) ∈ hw_G := hw_in 255 (by decide +kernel) rfl
theorem iw_215 : (Cond.methodLink "NearDesk$Graph" (60 : Nat) ({ cls := "NearDesk$Documents", name := "vector", desc := "(I)[I" } : MethodName)) ∈ hw_G := hw_in 257 (by decide +kernel) rfl
theorem iw_216 : (Cond.instanceMethod ({ cls := "NearDesk$Documents", name := "vector", desc := "(I)[I" } : MethodName)) ∈ hw_G := hw_in 258 (by decide +kernel) rfl
theorem iw_217 : (Cond.selects "NearDesk$Documents" ({ cls := "NearDesk$Documents", name := "vector", desc := "(I)[I" } : MethodName) ({ cls := "NearDesk$Documents", name := "vector", desc := "(I)[I" } : MethodName)) ∈ hw_G := hw_in 259 (by decide +kernel) rfl
theorem iw_219 : (Cond.methodLink "NearDesk$Graph" (66 : Nat) ({ cls := "NearDesk$Walker", name := "standAt", desc := "(LNearDesk$Documents;[II)V" } : MethodName)) ∈ hw_G := hw_in 261 (by decide +kernel) rfl
theorem iw_220 : (Cond.instanceMethod ({ cls := "NearDesk$Walker", name := "standAt", desc := "(LNearDesk$Documents;[II)V" } : MethodName)) ∈ hw_G := hw_in 262 (by decide +kernel) rfl
theorem iw_221 : (Cond.selects "NearDesk$Walker" ({ cls := "NearDesk$Walker", name := "standAt", desc := "(LNearDesk$Documents;[II)V" } : MethodName) ({ cls := "NearDesk$Walker", name := "standAt", desc := "(LNearDesk$Documents;[II)V" } : MethodName)) ∈ hw_G := hw_in 263 (by decide +kernel) rfl
theorem iw_223 : (Cond.methodLink "NearDesk$Walker" (25 : Nat) ({ cls := "NearDesk$Documents", name := "measure", desc := "([I[I)V" } : MethodName)) ∈ hw_G := hw_in 265 (by decide +kernel) rfl
theorem iw_224 : (Cond.instanceMethod ({ cls := "NearDesk$Documents", name := "measure", desc := "([I[I)V" } : MethodName)) ∈ hw_G := hw_in 266 (by decide +kernel) rfl
theorem iw_225 : (Cond.selects "NearDesk$Documents" ({ cls := "NearDesk$Documents", name := "measure", desc := "([I[I)V" } : MethodName) ({ cls := "NearDesk$Documents", name := "measure", desc := "([I[I)V" } : MethodName)) ∈ hw_G := hw_in 267 (by decide +kernel) rfl
theorem iw_228 : (Cond.static ({ cls := "NearDesk", name := "distance", desc := "([I[I)I" } : MethodName)) ∈ hw_G := hw_in 270 (by decide +kernel) rfl
theorem iw_230 : (Cond.methodLink "NearDesk$Walker" (31 : Nat) ({ cls := "NearDesk$Ranking", name := "start", desc := "(IZ)V" } : MethodName)) ∈ hw_G := hw_in 272 (by decide +kernel) rfl
theorem iw_231 : (Cond.instanceMethod ({ cls := "NearDesk$Ranking", name := "start", desc := "(IZ)V" } : MethodName)) ∈ hw_G := hw_in 273 (by decide +kernel) rfl
theorem iw_232 : (Cond.selects "NearDesk$Ranking" ({ cls := "NearDesk$Ranking", name := "start", desc := "(IZ)V" } : MethodName) ({ cls := "NearDesk$Ranking", name := "start", desc := "(IZ)V" } : MethodName)) ∈ hw_G := hw_in 274 (by decide +kernel) rfl
theorem iw_234 : (Cond.methodLink "NearDesk$Ranking" (22 : Nat) ({ cls := "java/lang/Math", name := "min", desc := "(II)I" } : MethodName)) ∈ hw_G := hw_in 276 (by decide +kernel) rfl
theorem iw_237 : (Cond.methodLink "NearDesk$Walker" (35 : Nat) ({ cls := "NearDesk$Ranking", name := "add", desc := "(II)Z" } : MethodName)) ∈ hw_G := hw_in 279 (by decide +kernel) rfl
theorem iw_238 : (Cond.instanceMethod ({ cls := "NearDesk$Ranking", name := "add", desc := "(II)Z" } : MethodName)) ∈ hw_G := hw_in 280 (by decide +kernel) rfl
theorem iw_239 : (Cond.selects "NearDesk$Ranking" ({ cls := "NearDesk$Ranking", name := "add", desc := "(II)Z" } : MethodName) ({ cls := "NearDesk$Ranking", name := "add", desc := "(II)Z" } : MethodName)) ∈ hw_G := hw_in 281 (by decide +kernel) rfl
theorem iw_241 : (Cond.methodLink "NearDesk$Ranking" (39 : Nat) ({ cls := "NearDesk$Ranking", name := "isFull", desc := "()Z" } : MethodName)) ∈ hw_G := hw_in 283 (by decide +kernel) rfl
theorem iw_242 : (Cond.instanceMethod ({ cls := "NearDesk$Ranking", name := "isFull", desc := "()Z" } : MethodName)) ∈ hw_G := hw_in 284 (by decide +kernel) rfl
theorem iw_243 : (Cond.selects "NearDesk$Ranking" ({ cls := "NearDesk$Ranking", name := "isFull", desc := "()Z" } : MethodName) ({ cls := "NearDesk$Ranking", name := "isFull", desc := "()Z" } : MethodName)) ∈ hw_G := hw_in 285 (by decide +kernel) rfl
theorem iw_245 : (Cond.methodLink "NearDesk$Ranking" (35 : Nat) ({ cls := "NearDesk$Ranking", name := "precedes", desc := "(IIII)Z" } : MethodName)) ∈ hw_G := hw_in 287 (by decide +kernel) rfl
theorem iw_247 : (Cond.instanceMethod ({ cls := "NearDesk$Ranking", name := "precedes", desc := "(IIII)Z" } : MethodName)) ∈ hw_G := hw_in 289 (by decide +kernel) rfl
theorem iw_249 : (Cond.methodLink "NearDesk$Graph" (70 : Nat) ({ cls := "NearDesk$Graph", name := "top", desc := "()I" } : MethodName)) ∈ hw_G := hw_in 291 (by decide +kernel) rfl
theorem iw_250 : (Cond.instanceMethod ({ cls := "NearDesk$Graph", name := "top", desc := "()I" } : MethodName)) ∈ hw_G := hw_in 292 (by decide +kernel) rfl
theorem iw_251 : (Cond.selects "NearDesk$Graph" ({ cls := "NearDesk$Graph", name := "top", desc := "()I" } : MethodName) ({ cls := "NearDesk$Graph", name := "top", desc := "()I" } : MethodName)) ∈ hw_G := hw_in 293 (by decide +kernel) rfl
theorem iw_253 : (Cond.methodLink "NearDesk$Graph" (74 : Nat) ({ cls := "NearDesk$Walker", name := "walk", desc := "(LNearDesk$Links;II)I" } : MethodName)) ∈ hw_G := hw_in 295 (by decide +kernel) rfl
theorem iw_254 : (Cond.instanceMethod ({ cls := "NearDesk$Walker", name := "walk", desc := "(LNearDesk$Links;II)I" } : MethodName)) ∈ hw_G := hw_in 296 (by decide +kernel) rfl
theorem iw_255 : (Cond.selects "NearDesk$Walker" ({ cls := "NearDesk$Walker", name := "walk", desc := "(LNearDesk$Links;II)I" } : MethodName) ({ cls := "NearDesk$Walker", name := "walk", desc := "(LNearDesk$Links;II)I" } : MethodName)) ∈ hw_G := hw_in 297 (by decide +kernel) rfl
theorem iw_257 : (Cond.methodLink "NearDesk$Walker" (39 : Nat) ({ cls := "NearDesk$Walker", name := "begin", desc := "(I)V" } : MethodName)) ∈ hw_G := hw_in 299 (by decide +kernel) rfl
theorem iw_259 : (Cond.instanceMethod ({ cls := "NearDesk$Walker", name := "begin", desc := "(I)V" } : MethodName)) ∈ hw_G := hw_in 301 (by decide +kernel) rfl
theorem iw_261 : (Cond.methodLink "NearDesk$Walker" (43 : Nat) ({ cls := "NearDesk$Ranking", name := "size", desc := "()I" } : MethodName)) ∈ hw_G := hw_in 303 (by decide +kernel) rfl
theorem iw_262 : (Cond.instanceMethod ({ cls := "NearDesk$Ranking", name := "size", desc := "()I" } : MethodName)) ∈ hw_G := hw_in 304 (by decide +kernel) rfl
theorem iw_263 : (Cond.selects "NearDesk$Ranking" ({ cls := "NearDesk$Ranking", name := "size", desc := "()I" } : MethodName) ({ cls := "NearDesk$Ranking", name := "size", desc := "()I" } : MethodName)) ∈ hw_G := hw_in 305 (by decide +kernel) rfl
theorem iw_265 : (Cond.methodLink "NearDesk$Walker" (47 : Nat) ({ cls := "NearDesk$Ranking", name := "numberAt", desc := "(I)I" } : MethodName)) ∈ hw_G := hw_in 307 (by decide +kernel) rfl
theorem iw_266 : (Cond.instanceMethod ({ cls := "NearDesk$Ranking", name := "numberAt", desc := "(I)I" } : MethodName)) ∈ hw_G := hw_in 308 (by decide +kernel) rfl
theorem iw_267 : (Cond.selects "NearDesk$Ranking" ({ cls := "NearDesk$Ranking", name := "numberAt", desc := "(I)I" } : MethodName) ({ cls := "NearDesk$Ranking", name := "numberAt", desc := "(I)I" } : MethodName)) ∈ hw_G := hw_in 309 (by decide +kernel) rfl
theorem iw_269 : (Cond.methodLink "NearDesk$Walker" (74 : Nat) ({ cls := "NearDesk$Ranking", name := "changeRoom", desc := "(I)V" } : MethodName)) ∈ hw_G := hw_in 311 (by decide +kernel) rfl
theorem iw_270 : (Cond.instanceMethod ({ cls := "NearDesk$Ranking", name := "changeRoom", desc := "(I)V" } : MethodName)) ∈ hw_G := hw_in 312 (by decide +kernel) rfl
theorem iw_271 : (Cond.selects "NearDesk$Ranking" ({ cls := "NearDesk$Ranking", name := "changeRoom", desc := "(I)V" } : MethodName) ({ cls := "NearDesk$Ranking", name := "changeRoom", desc := "(I)V" } : MethodName)) ∈ hw_G := hw_in 313 (by decide +kernel) rfl
theorem iw_273 : (Cond.methodLink "NearDesk$Walker" (77 : Nat) ({ cls := "NearDesk$Ranking", name := "valueAt", desc := "(I)I" } : MethodName)) ∈ hw_G := hw_in 315 (by decide +kernel) rfl
theorem iw_274 : (Cond.instanceMethod ({ cls := "NearDesk$Ranking", name := "valueAt", desc := "(I)I" } : MethodName)) ∈ hw_G := hw_in 316 (by decide +kernel) rfl
theorem iw_275 : (Cond.selects "NearDesk$Ranking" ({ cls := "NearDesk$Ranking", name := "valueAt", desc := "(I)I" } : MethodName) ({ cls := "NearDesk$Ranking", name := "valueAt", desc := "(I)I" } : MethodName)) ∈ hw_G := hw_in 317 (by decide +kernel) rfl
theorem iw_277 : (Cond.methodLink "NearDesk$Walker" (51 : Nat) ({ cls := "NearDesk$Ranking", name := "dropFirst", desc := "()V" } : MethodName)) ∈ hw_G := hw_in 319 (by decide +kernel) rfl
theorem iw_278 : (Cond.instanceMethod ({ cls := "NearDesk$Ranking", name := "dropFirst", desc := "()V" } : MethodName)) ∈ hw_G := hw_in 320 (by decide +kernel) rfl
theorem iw_279 : (Cond.selects "NearDesk$Ranking" ({ cls := "NearDesk$Ranking", name := "dropFirst", desc := "()V" } : MethodName) ({ cls := "NearDesk$Ranking", name := "dropFirst", desc := "()V" } : MethodName)) ∈ hw_G := hw_in 321 (by decide +kernel) rfl
theorem iw_281 : (Cond.methodLink "NearDesk$Ranking" (43 : Nat) ({ cls := "java/lang/Math", name := "max", desc := "(II)I" } : MethodName)) ∈ hw_G := hw_in 323 (by decide +kernel) rfl
theorem iw_284 : (Cond.methodLink "NearDesk$Walker" (54 : Nat) ({ cls := "NearDesk$Ranking", name := "isFull", desc := "()Z" } : MethodName)) ∈ hw_G := hw_in 326 (by decide +kernel) rfl
theorem iw_285 : (Cond.methodLink "NearDesk$Walker" (58 : Nat) ({ cls := "NearDesk$Ranking", name := "lastPrecedes", desc := "(II)Z" } : MethodName)) ∈ hw_G := hw_in 327 (by decide +kernel) rfl
theorem iw_286 : (Cond.instanceMethod ({ cls := "NearDesk$Ranking", name := "lastPrecedes", desc := "(II)Z" } : MethodName)) ∈ hw_G := hw_in 328 (by decide +kernel) rfl
theorem iw_287 : (Cond.selects "NearDesk$Ranking" ({ cls := "NearDesk$Ranking", name := "lastPrecedes", desc := "(II)Z" } : MethodName) ({ cls := "NearDesk$Ranking", name := "lastPrecedes", desc := "(II)Z" } : MethodName)) ∈ hw_G := hw_in 329 (by decide +kernel) rfl
theorem iw_289 : (Cond.methodLink "NearDesk$Walker" (61 : Nat) ({ cls := "NearDesk$Walker", name := "lookAround", desc := "(LNearDesk$Links;II)V" } : MethodName)) ∈ hw_G := hw_in 331 (by decide +kernel) rfl
theorem iw_291 : (Cond.instanceMethod ({ cls := "NearDesk$Walker", name := "lookAround", desc := "(LNearDesk$Links;II)V" } : MethodName)) ∈ hw_G := hw_in 333 (by decide +kernel) rfl
theorem iw_293 : (Cond.methodLink "NearDesk$Walker" (80 : Nat) ({ cls := "NearDesk$Links", name := "degree", desc := "(II)I" } : MethodName)) ∈ hw_G := hw_in 335 (by decide +kernel) rfl
theorem iw_294 : (Cond.instanceMethod ({ cls := "NearDesk$Links", name := "degree", desc := "(II)I" } : MethodName)) ∈ hw_G := hw_in 336 (by decide +kernel) rfl
theorem iw_295 : (Cond.selects "NearDesk$Links" ({ cls := "NearDesk$Links", name := "degree", desc := "(II)I" } : MethodName) ({ cls := "NearDesk$Links", name := "degree", desc := "(II)I" } : MethodName)) ∈ hw_G := hw_in 337 (by decide +kernel) rfl
theorem iw_297 : (Cond.methodLink "NearDesk$Walker" (86 : Nat) ({ cls := "NearDesk$Links", name := "linked", desc := "(III)I" } : MethodName)) ∈ hw_G := hw_in 339 (by decide +kernel) rfl
theorem iw_298 : (Cond.instanceMethod ({ cls := "NearDesk$Links", name := "linked", desc := "(III)I" } : MethodName)) ∈ hw_G := hw_in 340 (by decide +kernel) rfl
theorem iw_299 : (Cond.selects "NearDesk$Links" ({ cls := "NearDesk$Links", name := "linked", desc := "(III)I" } : MethodName) ({ cls := "NearDesk$Links", name := "linked", desc := "(III)I" } : MethodName)) ∈ hw_G := hw_in 341 (by decide +kernel) rfl
theorem iw_302 : (Cond.static ({ cls := "NearDesk", name := "isIn", desc := "(II)Z" } : MethodName)) ∈ hw_G := hw_in 344 (by decide +kernel) rfl
theorem iw_304 : (Cond.methodLink "NearDesk$Walker" (69 : Nat) ({ cls := "java/lang/Integer", name := "bitCount", desc := "(I)I" } : MethodName)) ∈ hw_G := hw_in 346 (by decide +kernel) rfl
theorem iw_305 : (Cond.static ({ cls := "java/lang/Integer", name := "bitCount", desc := "(I)I" } : MethodName)) ∈ hw_G := hw_in 347 (by decide +kernel) rfl
theorem iw_307 : (Cond.constant "java/lang/Integer" (265 : Nat) (1431655765 : Int32)) ∈ hw_G := hw_in 349 (by decide +kernel) rfl
theorem iw_308 : (Cond.constant "java/lang/Integer" (266 : Nat) (858993459 : Int32)) ∈ hw_G := hw_in 350 (by decide +kernel) rfl
theorem iw_309 : (Cond.constant "java/lang/Integer" (267 : Nat) (252645135 : Int32)) ∈ hw_G := hw_in 351 (by decide +kernel) rfl
theorem iw_310 : (Cond.methodLink "NearDesk$Graph" (78 : Nat) ({ cls := "NearDesk$Graph", name := "link", desc := "(LNearDesk$Documents;II)V" } : MethodName)) ∈ hw_G := hw_in 352 (by decide +kernel) rfl
theorem iw_312 : (Cond.instanceMethod ({ cls := "NearDesk$Graph", name := "link", desc := "(LNearDesk$Documents;II)V" } : MethodName)) ∈ hw_G := hw_in 354 (by decide +kernel) rfl
theorem iw_314 : (Cond.methodLink "NearDesk$Graph" (85 : Nat) ({ cls := "NearDesk$Walker", name := "held", desc := "()LNearDesk$Ranking;" } : MethodName)) ∈ hw_G := hw_in 356 (by decide +kernel) rfl
theorem iw_315 : (Cond.instanceMethod ({ cls := "NearDesk$Walker", name := "held", desc := "()LNearDesk$Ranking;" } : MethodName)) ∈ hw_G := hw_in 357 (by decide +kernel) rfl
theorem iw_316 : (Cond.selects "NearDesk$Walker" ({ cls := "NearDesk$Walker", name := "held", desc := "()LNearDesk$Ranking;" } : MethodName) ({ cls := "NearDesk$Walker", name := "held", desc := "()LNearDesk$Ranking;" } : MethodName)) ∈ hw_G := hw_in 358 (by decide +kernel) rfl
theorem iw_318 : (Cond.methodLink "NearDesk$Graph" (89 : Nat) ({ cls := "NearDesk$Chooser", name := "choose", desc := "(LNearDesk$Documents;LNearDesk$Ranking;I)V" } : MethodName)) ∈ hw_G := hw_in 360 (by decide +kernel) rfl
theorem iw_319 : (Cond.instanceMethod ({ cls := "NearDesk$Chooser", name := "choose", desc := "(LNearDesk$Documents;LNearDesk$Ranking;I)V" } : MethodName)) ∈ hw_G := hw_in 361 (by decide +kernel) rfl
theorem iw_320 : (Cond.selects "NearDesk$Chooser" ({ cls := "NearDesk$Chooser", name := "choose", desc := "(LNearDesk$Documents;LNearDesk$Ranking;I)V" } : MethodName) ({ cls := "NearDesk$Chooser", name := "choose", desc := "(LNearDesk$Documents;LNearDesk$Ranking;I)V" } : MethodName)) ∈ hw_G := hw_in 362 (by decide +kernel) rfl
theorem iw_322 : (Cond.methodLink "NearDesk$Chooser" (22 : Nat) ({ cls := "NearDesk$Ranking", name := "size", desc := "()I" } : MethodName)) ∈ hw_G := hw_in 364 (by decide +kernel) rfl
theorem iw_323 : (Cond.methodLink "NearDesk$Chooser" (27 : Nat) ({ cls := "NearDesk$Ranking", name := "numberAt", desc := "(I)I" } : MethodName)) ∈ hw_G := hw_in 365 (by decide +kernel) rfl
theorem iw_324 : (Cond.methodLink "NearDesk$Chooser" (31 : Nat) ({ cls := "NearDesk$Ranking", name := "valueAt", desc := "(I)I" } : MethodName)) ∈ hw_G := hw_in 366 (by decide +kernel) rfl
theorem iw_325 : (Cond.methodLink "NearDesk$Chooser" (34 : Nat) ({ cls := "NearDesk$Chooser", name := "isNearestToVector", desc := "(LNearDesk$Documents;II)Z" } : MethodName)) ∈ hw_G := hw_in 367 (by decide +kernel) rfl
theorem iw_327 : (Cond.instanceMethod ({ cls := "NearDesk$Chooser", name := "isNearestToVector", desc := "(LNearDesk$Documents;II)Z" } : MethodName)) ∈ hw_G := hw_in 369 (by decide +kernel) rfl
theorem iw_329 : (Cond.methodLink "NearDesk$Chooser" (46 : Nat) ({ cls := "NearDesk$Documents", name := "vector", desc := "(I)[I" } : MethodName)) ∈ hw_G := hw_in 371 (by decide +kernel) rfl
theorem iw_331 : (Cond.methodLink "NearDesk$Chooser" (38 : Nat) ({ cls := "NearDesk$Chooser", name := "take", desc := "(I)V" } : MethodName)) ∈ hw_G := hw_in 373 (by decide +kernel) rfl
theorem iw_333 : (Cond.instanceMethod ({ cls := "NearDesk$Chooser", name := "take", desc := "(I)V" } : MethodName)) ∈ hw_G := hw_in 375 (by decide +kernel) rfl
theorem iw_336 : (Cond.methodLink "NearDesk$Graph" (93 : Nat) ({ cls := "NearDesk$Links", name := "replace", desc := "(IILNearDesk$Chooser;)V" } : MethodName)) ∈ hw_G := hw_in 378 (by decide +kernel) rfl
theorem iw_337 : (Cond.instanceMethod ({ cls := "NearDesk$Links", name := "replace", desc := "(IILNearDesk$Chooser;)V" } : MethodName)) ∈ hw_G := hw_in 379 (by decide +kernel) rfl
theorem iw_338 : (Cond.selects "NearDesk$Links" ({ cls := "NearDesk$Links", name := "replace", desc := "(IILNearDesk$Chooser;)V" } : MethodName) ({ cls := "NearDesk$Links", name := "replace", desc := "(IILNearDesk$Chooser;)V" } : MethodName)) ∈ hw_G := hw_in 380 (by decide +kernel) rfl
theorem iw_340 : (Cond.methodLink "NearDesk$Links" (46 : Nat) ({ cls := "NearDesk$Chooser", name := "size", desc := "()I" } : MethodName)) ∈ hw_G := hw_in 382 (by decide +kernel) rfl
theorem iw_341 : (Cond.instanceMethod ({ cls := "NearDesk$Chooser", name := "size", desc := "()I" } : MethodName)) ∈ hw_G := hw_in 383 (by decide +kernel) rfl
theorem iw_342 : (Cond.selects "NearDesk$Chooser" ({ cls := "NearDesk$Chooser", name := "size", desc := "()I" } : MethodName) ({ cls := "NearDesk$Chooser", name := "size", desc := "()I" } : MethodName)) ∈ hw_G := hw_in 384 (by decide +kernel) rfl
theorem iw_344 : (Cond.methodLink "NearDesk$Links" (51 : Nat) ({ cls := "NearDesk$Chooser", name := "chosen", desc := "(I)I" } : MethodName)) ∈ hw_G := hw_in 386 (by decide +kernel) rfl
theorem iw_345 : (Cond.instanceMethod ({ cls := "NearDesk$Chooser", name := "chosen", desc := "(I)I" } : MethodName)) ∈ hw_G := hw_in 387 (by decide +kernel) rfl
theorem iw_346 : (Cond.selects "NearDesk$Chooser" ({ cls := "NearDesk$Chooser", name := "chosen", desc := "(I)I" } : MethodName) ({ cls := "NearDesk$Chooser", name := "chosen", desc := "(I)I" } : MethodName)) ∈ hw_G := hw_in 388 (by decide +kernel) rfl
theorem iw_348 : (Cond.methodLink "NearDesk$Links" (54 : Nat) ({ cls := "NearDesk$Links", name := "append", desc := "(III)V" } : MethodName)) ∈ hw_G := hw_in 390 (by decide +kernel) rfl
theorem iw_349 : (Cond.instanceMethod ({ cls := "NearDesk$Links", name := "append", desc := "(III)V" } : MethodName)) ∈ hw_G := hw_in 391 (by decide +kernel) rfl
theorem iw_350 : (Cond.selects "NearDesk$Links" ({ cls := "NearDesk$Links", name := "append", desc := "(III)V" } : MethodName) ({ cls := "NearDesk$Links", name := "append", desc := "(III)V" } : MethodName)) ∈ hw_G := hw_in 392 (by decide +kernel) rfl
theorem iw_352 : (Cond.methodLink "NearDesk$Graph" (97 : Nat) ({ cls := "NearDesk$Links", name := "degree", desc := "(II)I" } : MethodName)) ∈ hw_G := hw_in 394 (by decide +kernel) rfl
theorem iw_353 : (Cond.methodLink "NearDesk$Graph" (101 : Nat) ({ cls := "NearDesk$Links", name := "linked", desc := "(III)I" } : MethodName)) ∈ hw_G := hw_in 395 (by decide +kernel) rfl
theorem iw_354 : (Cond.methodLink "NearDesk$Graph" (105 : Nat) ({ cls := "NearDesk$Links", name := "append", desc := "(III)V" } : MethodName)) ∈ hw_G := hw_in 396 (by decide +kernel) rfl
theorem iw_355 : (Cond.methodLink "NearDesk$Graph" (109 : Nat) ({ cls := "NearDesk$Links", name := "most", desc := "(I)I" } : MethodName)) ∈ hw_G := hw_in 397 (by decide +kernel) rfl
theorem iw_356 : (Cond.instanceMethod ({ cls := "NearDesk$Links", name := "most", desc := "(I)I" } : MethodName)) ∈ hw_G := hw_in 398 (by decide +kernel) rfl
theorem iw_357 : (Cond.selects "NearDesk$Links" ({ cls := "NearDesk$Links", name := "most", desc := "(I)I" } : MethodName) ({ cls := "NearDesk$Links", name := "most", desc := "(I)I" } : MethodName)) ∈ hw_G := hw_in 399 (by decide +kernel) rfl
theorem iw_359 : (Cond.methodLink "NearDesk$Graph" (112 : Nat) ({ cls := "NearDesk$Graph", name := "shorten", desc := "(LNearDesk$Documents;II)V" } : MethodName)) ∈ hw_G := hw_in 401 (by decide +kernel) rfl
theorem iw_361 : (Cond.instanceMethod ({ cls := "NearDesk$Graph", name := "shorten", desc := "(LNearDesk$Documents;II)V" } : MethodName)) ∈ hw_G := hw_in 403 (by decide +kernel) rfl
theorem iw_363 : (Cond.methodLink "NearDesk$Graph" (115 : Nat) ({ cls := "NearDesk$Ranking", name := "start", desc := "(IZ)V" } : MethodName)) ∈ hw_G := hw_in 405 (by decide +kernel) rfl
theorem iw_365 : (Cond.methodLink "NearDesk$Graph" (123 : Nat) ({ cls := "NearDesk$Ranking", name := "add", desc := "(II)Z" } : MethodName)) ∈ hw_G := hw_in 407 (by decide +kernel) rfl
theorem iw_366 : (Cond.methodLink "NearDeskLaw" (18 : Nat) ({ cls := "NearDesk", name := "remove", desc := "(I)Z" } : MethodName)) ∈ hw_G := hw_in 408 (by decide +kernel) rfl
theorem iw_367 : (Cond.instanceMethod ({ cls := "NearDesk", name := "remove", desc := "(I)Z" } : MethodName)) ∈ hw_G := hw_in 409 (by decide +kernel) rfl
theorem iw_368 : (Cond.selects "NearDesk" ({ cls := "NearDesk", name := "remove", desc := "(I)Z" } : MethodName) ({ cls := "NearDesk", name := "remove", desc := "(I)Z" } : MethodName)) ∈ hw_G := hw_in 410 (by decide +kernel) rfl
theorem iw_370 : (Cond.methodLink "NearDesk" (67 : Nat) ({ cls := "NearDesk$Documents", name := "retire", desc := "(I)Z" } : MethodName)) ∈ hw_G := hw_in 412 (by decide +kernel) rfl
theorem iw_371 : (Cond.instanceMethod ({ cls := "NearDesk$Documents", name := "retire", desc := "(I)Z" } : MethodName)) ∈ hw_G := hw_in 413 (by decide +kernel) rfl
theorem iw_372 : (Cond.selects "NearDesk$Documents" ({ cls := "NearDesk$Documents", name := "retire", desc := "(I)Z" } : MethodName) ({ cls := "NearDesk$Documents", name := "retire", desc := "(I)Z" } : MethodName)) ∈ hw_G := hw_in 414 (by decide +kernel) rfl
theorem iw_374 : (Cond.methodLink "NearDesk$Documents" (31 : Nat) ({ cls := "NearDesk$Documents", name := "isLive", desc := "(I)Z" } : MethodName)) ∈ hw_G := hw_in 416 (by decide +kernel) rfl
theorem iw_375 : (Cond.instanceMethod ({ cls := "NearDesk$Documents", name := "isLive", desc := "(I)Z" } : MethodName)) ∈ hw_G := hw_in 417 (by decide +kernel) rfl
theorem iw_376 : (Cond.selects "NearDesk$Documents" ({ cls := "NearDesk$Documents", name := "isLive", desc := "(I)Z" } : MethodName) ({ cls := "NearDesk$Documents", name := "isLive", desc := "(I)Z" } : MethodName)) ∈ hw_G := hw_in 418 (by decide +kernel) rfl
theorem iw_379 : (Cond.static ({ cls := "NearDesk", name := "isDocumentNumber", desc := "(I)Z" } : MethodName)) ∈ hw_G := hw_in 421 (by decide +kernel) rfl
theorem iw_382 : (Cond.methodLink "NearDeskLaw" (23 : Nat) ({ cls := "NearDesk", name := "renew", desc := "()I" } : MethodName)) ∈ hw_G := hw_in 424 (by decide +kernel) rfl
theorem iw_383 : (Cond.instanceMethod ({ cls := "NearDesk", name := "renew", desc := "()I" } : MethodName)) ∈ hw_G := hw_in 425 (by decide +kernel) rfl
theorem iw_384 : (Cond.selects "NearDesk" ({ cls := "NearDesk", name := "renew", desc := "()I" } : MethodName) ({ cls := "NearDesk", name := "renew", desc := "()I" } : MethodName)) ∈ hw_G := hw_in 426 (by decide +kernel) rfl
theorem iw_386 : (Cond.methodLink "NearDesk" (71 : Nat) ({ cls := "NearDesk$Links", name := "size", desc := "()I" } : MethodName)) ∈ hw_G := hw_in 428 (by decide +kernel) rfl
theorem iw_387 : (Cond.instanceMethod ({ cls := "NearDesk$Links", name := "size", desc := "()I" } : MethodName)) ∈ hw_G := hw_in 429 (by decide +kernel) rfl
theorem iw_388 : (Cond.selects "NearDesk$Links" ({ cls := "NearDesk$Links", name := "size", desc := "()I" } : MethodName) ({ cls := "NearDesk$Links", name := "size", desc := "()I" } : MethodName)) ∈ hw_G := hw_in 430 (by decide +kernel) rfl
theorem iw_390 : (Cond.methodLink "NearDesk" (74 : Nat) ({ cls := "NearDesk$Documents", name := "liveCount", desc := "()I" } : MethodName)) ∈ hw_G := hw_in 432 (by decide +kernel) rfl
theorem iw_391 : (Cond.instanceMethod ({ cls := "NearDesk$Documents", name := "liveCount", desc := "()I" } : MethodName)) ∈ hw_G := hw_in 433 (by decide +kernel) rfl
theorem iw_392 : (Cond.selects "NearDesk$Documents" ({ cls := "NearDesk$Documents", name := "liveCount", desc := "()I" } : MethodName) ({ cls := "NearDesk$Documents", name := "liveCount", desc := "()I" } : MethodName)) ∈ hw_G := hw_in 434 (by decide +kernel) rfl
theorem iw_394 : (Cond.methodLink "NearDesk$Documents" (42 : Nat) ({ cls := "java/lang/Integer", name := "bitCount", desc := "(I)I" } : MethodName)) ∈ hw_G := hw_in 436 (by decide +kernel) rfl
theorem iw_395 : (Cond.methodLink "NearDesk" (77 : Nat) ({ cls := "NearDesk$Graph", name := "clear", desc := "()V" } : MethodName)) ∈ hw_G := hw_in 437 (by decide +kernel) rfl
theorem iw_396 : (Cond.instanceMethod ({ cls := "NearDesk$Graph", name := "clear", desc := "()V" } : MethodName)) ∈ hw_G := hw_in 438 (by decide +kernel) rfl
theorem iw_397 : (Cond.selects "NearDesk$Graph" ({ cls := "NearDesk$Graph", name := "clear", desc := "()V" } : MethodName) ({ cls := "NearDesk$Graph", name := "clear", desc := "()V" } : MethodName)) ∈ hw_G := hw_in 439 (by decide +kernel) rfl
theorem iw_399 : (Cond.methodLink "NearDesk$Graph" (53 : Nat) ({ cls := "NearDesk$Links", name := "clear", desc := "()V" } : MethodName)) ∈ hw_G := hw_in 441 (by decide +kernel) rfl
theorem iw_400 : (Cond.instanceMethod ({ cls := "NearDesk$Links", name := "clear", desc := "()V" } : MethodName)) ∈ hw_G := hw_in 442 (by decide +kernel) rfl
theorem iw_401 : (Cond.selects "NearDesk$Links" ({ cls := "NearDesk$Links", name := "clear", desc := "()V" } : MethodName) ({ cls := "NearDesk$Links", name := "clear", desc := "()V" } : MethodName)) ∈ hw_G := hw_in 443 (by decide +kernel) rfl
theorem iw_403 : (Cond.methodLink "NearDesk" (80 : Nat) ({ cls := "NearDesk$Documents", name := "isLive", desc := "(I)Z" } : MethodName)) ∈ hw_G := hw_in 445 (by decide +kernel) rfl
theorem iw_404 : (Cond.methodLink "NearDeskLaw" (28 : Nat) ({ cls := "NearDesk", name := "ask", desc := "(IIII)Z" } : MethodName)) ∈ hw_G := hw_in 446 (by decide +kernel) rfl
theorem iw_405 : (Cond.instanceMethod ({ cls := "NearDesk", name := "ask", desc := "(IIII)Z" } : MethodName)) ∈ hw_G := hw_in 447 (by decide +kernel) rfl
theorem iw_406 : (Cond.selects "NearDesk" ({ cls := "NearDesk", name := "ask", desc := "(IIII)Z" } : MethodName) ({ cls := "NearDesk", name := "ask", desc := "(IIII)Z" } : MethodName)) ∈ hw_G := hw_in 448 (by decide +kernel) rfl
theorem iw_408 : (Cond.methodLink "NearDesk" (83 : Nat) ({ cls := "NearDesk", name := "writeVector", desc := "([IIIII)V" } : MethodName)) ∈ hw_G := hw_in 450 (by decide +kernel) rfl
theorem iw_409 : (Cond.methodLink "NearDeskLaw" (33 : Nat) ({ cls := "NearDesk", name := "near", desc := "(II)I" } : MethodName)) ∈ hw_G := hw_in 451 (by decide +kernel) rfl
theorem iw_410 : (Cond.instanceMethod ({ cls := "NearDesk", name := "near", desc := "(II)I" } : MethodName)) ∈ hw_G := hw_in 452 (by decide +kernel) rfl
theorem iw_411 : (Cond.selects "NearDesk" ({ cls := "NearDesk", name := "near", desc := "(II)I" } : MethodName) ({ cls := "NearDesk", name := "near", desc := "(II)I" } : MethodName)) ∈ hw_G := hw_in 453 (by decide +kernel) rfl
theorem iw_413 : (Cond.methodLink "NearDesk" (87 : Nat) ({ cls := "NearDesk$Ranking", name := "start", desc := "(IZ)V" } : MethodName)) ∈ hw_G := hw_in 455 (by decide +kernel) rfl
theorem iw_414 : (Cond.methodLink "NearDesk" (91 : Nat) ({ cls := "java/lang/Math", name := "max", desc := "(II)I" } : MethodName)) ∈ hw_G := hw_in 456 (by decide +kernel) rfl
theorem iw_415 : (Cond.methodLink "NearDesk" (97 : Nat) ({ cls := "NearDesk", name := "searchInto", desc := "(LNearDesk$Ranking;I)V" } : MethodName)) ∈ hw_G := hw_in 457 (by decide +kernel) rfl
theorem iw_417 : (Cond.instanceMethod ({ cls := "NearDesk", name := "searchInto", desc := "(LNearDesk$Ranking;I)V" } : MethodName)) ∈ hw_G := hw_in 459 (by decide +kernel) rfl
theorem iw_419 : (Cond.methodLink "NearDesk" (174 : Nat) ({ cls := "NearDesk$Graph", name := "search", desc := "(LNearDesk$Documents;[II)LNearDesk$Ranking;" } : MethodName)) ∈ hw_G := hw_in 461 (by decide +kernel) rfl
theorem iw_420 : (Cond.instanceMethod ({ cls := "NearDesk$Graph", name := "search", desc := "(LNearDesk$Documents;[II)LNearDesk$Ranking;" } : MethodName)) ∈ hw_G := hw_in 462 (by decide +kernel) rfl
theorem iw_421 : (Cond.selects "NearDesk$Graph" ({ cls := "NearDesk$Graph", name := "search", desc := "(LNearDesk$Documents;[II)LNearDesk$Ranking;" } : MethodName) ({ cls := "NearDesk$Graph", name := "search", desc := "(LNearDesk$Documents;[II)LNearDesk$Ranking;" } : MethodName)) ∈ hw_G := hw_in 463 (by decide +kernel) rfl
theorem iw_423 : (Cond.methodLink "NearDesk$Graph" (82 : Nat) ({ cls := "NearDesk$Walker", name := "standNowhere", desc := "()V" } : MethodName)) ∈ hw_G := hw_in 465 (by decide +kernel) rfl
theorem iw_424 : (Cond.instanceMethod ({ cls := "NearDesk$Walker", name := "standNowhere", desc := "()V" } : MethodName)) ∈ hw_G := hw_in 466 (by decide +kernel) rfl
theorem iw_425 : (Cond.selects "NearDesk$Walker" ({ cls := "NearDesk$Walker", name := "standNowhere", desc := "()V" } : MethodName) ({ cls := "NearDesk$Walker", name := "standNowhere", desc := "()V" } : MethodName)) ∈ hw_G := hw_in 467 (by decide +kernel) rfl
theorem iw_427 : (Cond.methodLink "NearDesk" (101 : Nat) ({ cls := "NearDesk$Ranking", name := "size", desc := "()I" } : MethodName)) ∈ hw_G := hw_in 469 (by decide +kernel) rfl
theorem iw_428 : (Cond.methodLink "NearDesk" (120 : Nat) ({ cls := "NearDesk$Ranking", name := "numberAt", desc := "(I)I" } : MethodName)) ∈ hw_G := hw_in 470 (by decide +kernel) rfl
theorem iw_429 : (Cond.methodLink "NearDesk" (124 : Nat) ({ cls := "NearDesk$Ranking", name := "valueAt", desc := "(I)I" } : MethodName)) ∈ hw_G := hw_in 471 (by decide +kernel) rfl
theorem iw_430 : (Cond.methodLink "NearDesk" (178 : Nat) ({ cls := "NearDesk$Ranking", name := "add", desc := "(II)Z" } : MethodName)) ∈ hw_G := hw_in 472 (by decide +kernel) rfl
theorem iw_431 : (Cond.methodLink "NearDeskLaw" (38 : Nat) ({ cls := "NearDesk", name := "exact", desc := "(I)I" } : MethodName)) ∈ hw_G := hw_in 473 (by decide +kernel) rfl
theorem iw_432 : (Cond.instanceMethod ({ cls := "NearDesk", name := "exact", desc := "(I)I" } : MethodName)) ∈ hw_G := hw_in 474 (by decide +kernel) rfl
theorem iw_433 : (Cond.selects "NearDesk" ({ cls := "NearDesk", name := "exact", desc := "(I)I" } : MethodName) ({ cls := "NearDesk", name := "exact", desc := "(I)I" } : MethodName)) ∈ hw_G := hw_in 475 (by decide +kernel) rfl
theorem iw_435 : (Cond.methodLink "NearDesk" (102 : Nat) ({ cls := "NearDesk$Documents", name := "rankByDistance", desc := "([ILNearDesk$Ranking;)V" } : MethodName)) ∈ hw_G := hw_in 477 (by decide +kernel) rfl
theorem iw_436 : (Cond.instanceMethod ({ cls := "NearDesk$Documents", name := "rankByDistance", desc := "([ILNearDesk$Ranking;)V" } : MethodName)) ∈ hw_G := hw_in 478 (by decide +kernel) rfl
theorem iw_437 : (Cond.selects "NearDesk$Documents" ({ cls := "NearDesk$Documents", name := "rankByDistance", desc := "([ILNearDesk$Ranking;)V" } : MethodName) ({ cls := "NearDesk$Documents", name := "rankByDistance", desc := "([ILNearDesk$Ranking;)V" } : MethodName)) ∈ hw_G := hw_in 479 (by decide +kernel) rfl
theorem iw_439 : (Cond.methodLink "NearDesk$Documents" (52 : Nat) ({ cls := "NearDesk$Ranking", name := "add", desc := "(II)Z" } : MethodName)) ∈ hw_G := hw_in 481 (by decide +kernel) rfl
theorem iw_440 : (Cond.methodLink "NearDeskLaw" (43 : Nat) ({ cls := "NearDesk", name := "match", desc := "(II)I" } : MethodName)) ∈ hw_G := hw_in 482 (by decide +kernel) rfl
theorem iw_441 : (Cond.instanceMethod ({ cls := "NearDesk", name := "match", desc := "(II)I" } : MethodName)) ∈ hw_G := hw_in 483 (by decide +kernel) rfl
theorem iw_442 : (Cond.selects "NearDesk" ({ cls := "NearDesk", name := "match", desc := "(II)I" } : MethodName) ({ cls := "NearDesk", name := "match", desc := "(II)I" } : MethodName)) ∈ hw_G := hw_in 484 (by decide +kernel) rfl
theorem iw_444 : (Cond.methodLink "NearDesk" (106 : Nat) ({ cls := "NearDesk$Documents", name := "rankByScore", desc := "(ILNearDesk$Ranking;)V" } : MethodName)) ∈ hw_G := hw_in 486 (by decide +kernel) rfl
theorem iw_445 : (Cond.instanceMethod ({ cls := "NearDesk$Documents", name := "rankByScore", desc := "(ILNearDesk$Ranking;)V" } : MethodName)) ∈ hw_G := hw_in 487 (by decide +kernel) rfl
theorem iw_446 : (Cond.selects "NearDesk$Documents" ({ cls := "NearDesk$Documents", name := "rankByScore", desc := "(ILNearDesk$Ranking;)V" } : MethodName) ({ cls := "NearDesk$Documents", name := "rankByScore", desc := "(ILNearDesk$Ranking;)V" } : MethodName)) ∈ hw_G := hw_in 488 (by decide +kernel) rfl
theorem iw_448 : (Cond.methodLink "NearDesk$Documents" (57 : Nat) ({ cls := "NearDesk$Documents", name := "weighWords", desc := "()V" } : MethodName)) ∈ hw_G := hw_in 490 (by decide +kernel) rfl
theorem iw_450 : (Cond.instanceMethod ({ cls := "NearDesk$Documents", name := "weighWords", desc := "()V" } : MethodName)) ∈ hw_G := hw_in 492 (by decide +kernel) rfl
theorem iw_452 : (Cond.methodLink "NearDesk$Documents" (64 : Nat) ({ cls := "NearDesk$Documents", name := "liveWith", desc := "(I)I" } : MethodName)) ∈ hw_G := hw_in 494 (by decide +kernel) rfl
theorem iw_454 : (Cond.instanceMethod ({ cls := "NearDesk$Documents", name := "liveWith", desc := "(I)I" } : MethodName)) ∈ hw_G := hw_in 496 (by decide +kernel) rfl
theorem iw_456 : (Cond.methodLink "NearDesk$Documents" (71 : Nat) ({ cls := "NearDesk$Documents", name := "countOfWord", desc := "(II)I" } : MethodName)) ∈ hw_G := hw_in 498 (by decide +kernel) rfl
theorem iw_458 : (Cond.instanceMethod ({ cls := "NearDesk$Documents", name := "countOfWord", desc := "(II)I" } : MethodName)) ∈ hw_G := hw_in 500 (by decide +kernel) rfl
theorem iw_460 : (Cond.methodLink "NearDesk$Documents" (67 : Nat) ({ cls := "NearDesk$Documents", name := "liveCount", desc := "()I" } : MethodName)) ∈ hw_G := hw_in 502 (by decide +kernel) rfl
theorem iw_461 : (Cond.methodLink "NearDesk$Documents" (60 : Nat) ({ cls := "NearDesk$Documents", name := "score", desc := "(II)I" } : MethodName)) ∈ hw_G := hw_in 503 (by decide +kernel) rfl
theorem iw_463 : (Cond.instanceMethod ({ cls := "NearDesk$Documents", name := "score", desc := "(II)I" } : MethodName)) ∈ hw_G := hw_in 505 (by decide +kernel) rfl
theorem iw_465 : (Cond.methodLink "NearDeskLaw" (47 : Nat) ({ cls := "NearDesk", name := "fuse", desc := "(II)I" } : MethodName)) ∈ hw_G := hw_in 507 (by decide +kernel) rfl
theorem iw_466 : (Cond.instanceMethod ({ cls := "NearDesk", name := "fuse", desc := "(II)I" } : MethodName)) ∈ hw_G := hw_in 508 (by decide +kernel) rfl
theorem iw_467 : (Cond.selects "NearDesk" ({ cls := "NearDesk", name := "fuse", desc := "(II)I" } : MethodName) ({ cls := "NearDesk", name := "fuse", desc := "(II)I" } : MethodName)) ∈ hw_G := hw_in 509 (by decide +kernel) rfl
theorem iw_469 : (Cond.methodLink "NearDesk" (110 : Nat) ({ cls := "NearDesk", name := "clearPoints", desc := "()V" } : MethodName)) ∈ hw_G := hw_in 511 (by decide +kernel) rfl
theorem iw_471 : (Cond.instanceMethod ({ cls := "NearDesk", name := "clearPoints", desc := "()V" } : MethodName)) ∈ hw_G := hw_in 513 (by decide +kernel) rfl
theorem iw_473 : (Cond.methodLink "NearDesk" (113 : Nat) ({ cls := "NearDesk", name := "addPoints", desc := "(LNearDesk$Ranking;)V" } : MethodName)) ∈ hw_G := hw_in 515 (by decide +kernel) rfl
theorem iw_475 : (Cond.instanceMethod ({ cls := "NearDesk", name := "addPoints", desc := "(LNearDesk$Ranking;)V" } : MethodName)) ∈ hw_G := hw_in 517 (by decide +kernel) rfl
theorem iw_477 : (Cond.methodLink "NearDesk" (117 : Nat) ({ cls := "NearDesk", name := "rankByPoints", desc := "(LNearDesk$Ranking;)V" } : MethodName)) ∈ hw_G := hw_in 519 (by decide +kernel) rfl
theorem iw_479 : (Cond.instanceMethod ({ cls := "NearDesk", name := "rankByPoints", desc := "(LNearDesk$Ranking;)V" } : MethodName)) ∈ hw_G := hw_in 521 (by decide +kernel) rfl
theorem iw_481 : (Cond.methodLink "NearDeskLaw" (51 : Nat) ({ cls := "NearDesk", name := "found", desc := "(II)I" } : MethodName)) ∈ hw_G := hw_in 523 (by decide +kernel) rfl
theorem iw_482 : (Cond.instanceMethod ({ cls := "NearDesk", name := "found", desc := "(II)I" } : MethodName)) ∈ hw_G := hw_in 524 (by decide +kernel) rfl
theorem iw_483 : (Cond.selects "NearDesk" ({ cls := "NearDesk", name := "found", desc := "(II)I" } : MethodName) ({ cls := "NearDesk", name := "found", desc := "(II)I" } : MethodName)) ∈ hw_G := hw_in 525 (by decide +kernel) rfl
theorem iw_485 : (Cond.methodLink "NearDeskLaw" (55 : Nat) ({ cls := "NearDesk", name := "node", desc := "(II)I" } : MethodName)) ∈ hw_G := hw_in 527 (by decide +kernel) rfl
theorem iw_486 : (Cond.instanceMethod ({ cls := "NearDesk", name := "node", desc := "(II)I" } : MethodName)) ∈ hw_G := hw_in 528 (by decide +kernel) rfl
theorem iw_487 : (Cond.selects "NearDesk" ({ cls := "NearDesk", name := "node", desc := "(II)I" } : MethodName) ({ cls := "NearDesk", name := "node", desc := "(II)I" } : MethodName)) ∈ hw_G := hw_in 529 (by decide +kernel) rfl
theorem iw_489 : (Cond.methodLink "NearDesk" (127 : Nat) ({ cls := "NearDesk$Links", name := "isNode", desc := "(I)Z" } : MethodName)) ∈ hw_G := hw_in 531 (by decide +kernel) rfl
theorem iw_490 : (Cond.instanceMethod ({ cls := "NearDesk$Links", name := "isNode", desc := "(I)Z" } : MethodName)) ∈ hw_G := hw_in 532 (by decide +kernel) rfl
theorem iw_491 : (Cond.selects "NearDesk$Links" ({ cls := "NearDesk$Links", name := "isNode", desc := "(I)Z" } : MethodName) ({ cls := "NearDesk$Links", name := "isNode", desc := "(I)Z" } : MethodName)) ∈ hw_G := hw_in 533 (by decide +kernel) rfl
theorem iw_494 : (Cond.methodLink "NearDesk" (130 : Nat) ({ cls := "NearDesk$Links", name := "isInLayer", desc := "(II)Z" } : MethodName)) ∈ hw_G := hw_in 536 (by decide +kernel) rfl
theorem iw_495 : (Cond.instanceMethod ({ cls := "NearDesk$Links", name := "isInLayer", desc := "(II)Z" } : MethodName)) ∈ hw_G := hw_in 537 (by decide +kernel) rfl
theorem iw_496 : (Cond.selects "NearDesk$Links" ({ cls := "NearDesk$Links", name := "isInLayer", desc := "(II)Z" } : MethodName) ({ cls := "NearDesk$Links", name := "isInLayer", desc := "(II)Z" } : MethodName)) ∈ hw_G := hw_in 538 (by decide +kernel) rfl
theorem iw_498 : (Cond.methodLink "NearDesk$Links" (39 : Nat) ({ cls := "NearDesk$Links", name := "isNode", desc := "(I)Z" } : MethodName)) ∈ hw_G := hw_in 540 (by decide +kernel) rfl
theorem iw_500 : (Cond.methodLink "NearDesk" (134 : Nat) ({ cls := "NearDesk$Links", name := "degree", desc := "(II)I" } : MethodName)) ∈ hw_G := hw_in 542 (by decide +kernel) rfl
theorem iw_501 : (Cond.methodLink "NearDesk" (137 : Nat) ({ cls := "NearDesk$Links", name := "level", desc := "(I)I" } : MethodName)) ∈ hw_G := hw_in 543 (by decide +kernel) rfl
theorem iw_502 : (Cond.methodLink "NearDesk" (140 : Nat) ({ cls := "NearDesk$Links", name := "order", desc := "(I)I" } : MethodName)) ∈ hw_G := hw_in 544 (by decide +kernel) rfl
theorem iw_503 : (Cond.instanceMethod ({ cls := "NearDesk$Links", name := "order", desc := "(I)I" } : MethodName)) ∈ hw_G := hw_in 545 (by decide +kernel) rfl
theorem iw_504 : (Cond.selects "NearDesk$Links" ({ cls := "NearDesk$Links", name := "order", desc := "(I)I" } : MethodName) ({ cls := "NearDesk$Links", name := "order", desc := "(I)I" } : MethodName)) ∈ hw_G := hw_in 546 (by decide +kernel) rfl
theorem iw_506 : (Cond.methodLink "NearDesk" (143 : Nat) ({ cls := "NearDesk$Documents", name := "counts", desc := "(I)I" } : MethodName)) ∈ hw_G := hw_in 548 (by decide +kernel) rfl
theorem iw_507 : (Cond.instanceMethod ({ cls := "NearDesk$Documents", name := "counts", desc := "(I)I" } : MethodName)) ∈ hw_G := hw_in 549 (by decide +kernel) rfl
theorem iw_508 : (Cond.selects "NearDesk$Documents" ({ cls := "NearDesk$Documents", name := "counts", desc := "(I)I" } : MethodName) ({ cls := "NearDesk$Documents", name := "counts", desc := "(I)I" } : MethodName)) ∈ hw_G := hw_in 550 (by decide +kernel) rfl
theorem iw_510 : (Cond.methodLink "NearDesk" (146 : Nat) ({ cls := "NearDesk$Documents", name := "coordinate", desc := "(II)I" } : MethodName)) ∈ hw_G := hw_in 552 (by decide +kernel) rfl
theorem iw_511 : (Cond.instanceMethod ({ cls := "NearDesk$Documents", name := "coordinate", desc := "(II)I" } : MethodName)) ∈ hw_G := hw_in 553 (by decide +kernel) rfl
theorem iw_512 : (Cond.selects "NearDesk$Documents" ({ cls := "NearDesk$Documents", name := "coordinate", desc := "(II)I" } : MethodName) ({ cls := "NearDesk$Documents", name := "coordinate", desc := "(II)I" } : MethodName)) ∈ hw_G := hw_in 554 (by decide +kernel) rfl
theorem iw_514 : (Cond.methodLink "NearDeskLaw" (59 : Nat) ({ cls := "NearDesk", name := "neighbour", desc := "(III)I" } : MethodName)) ∈ hw_G := hw_in 556 (by decide +kernel) rfl
theorem iw_515 : (Cond.instanceMethod ({ cls := "NearDesk", name := "neighbour", desc := "(III)I" } : MethodName)) ∈ hw_G := hw_in 557 (by decide +kernel) rfl
theorem iw_516 : (Cond.selects "NearDesk" ({ cls := "NearDesk", name := "neighbour", desc := "(III)I" } : MethodName) ({ cls := "NearDesk", name := "neighbour", desc := "(III)I" } : MethodName)) ∈ hw_G := hw_in 558 (by decide +kernel) rfl
theorem iw_518 : (Cond.methodLink "NearDesk" (149 : Nat) ({ cls := "NearDesk$Links", name := "linked", desc := "(III)I" } : MethodName)) ∈ hw_G := hw_in 560 (by decide +kernel) rfl
theorem iw_519 : (Cond.methodLink "NearDeskLaw" (64 : Nat) ({ cls := "NearDesk", name := "count", desc := "(I)I" } : MethodName)) ∈ hw_G := hw_in 561 (by decide +kernel) rfl
theorem iw_520 : (Cond.instanceMethod ({ cls := "NearDesk", name := "count", desc := "(I)I" } : MethodName)) ∈ hw_G := hw_in 562 (by decide +kernel) rfl
theorem iw_521 : (Cond.selects "NearDesk" ({ cls := "NearDesk", name := "count", desc := "(I)I" } : MethodName) ({ cls := "NearDesk", name := "count", desc := "(I)I" } : MethodName)) ∈ hw_G := hw_in 563 (by decide +kernel) rfl
theorem iw_523 : (Cond.methodLink "NearDesk" (153 : Nat) ({ cls := "NearDesk$Graph", name := "entry", desc := "()I" } : MethodName)) ∈ hw_G := hw_in 565 (by decide +kernel) rfl
theorem iw_524 : (Cond.instanceMethod ({ cls := "NearDesk$Graph", name := "entry", desc := "()I" } : MethodName)) ∈ hw_G := hw_in 566 (by decide +kernel) rfl
theorem iw_525 : (Cond.selects "NearDesk$Graph" ({ cls := "NearDesk$Graph", name := "entry", desc := "()I" } : MethodName) ({ cls := "NearDesk$Graph", name := "entry", desc := "()I" } : MethodName)) ∈ hw_G := hw_in 567 (by decide +kernel) rfl
theorem iw_527 : (Cond.methodLink "NearDesk" (156 : Nat) ({ cls := "NearDesk$Graph", name := "top", desc := "()I" } : MethodName)) ∈ hw_G := hw_in 569 (by decide +kernel) rfl
theorem iw_528 : (Cond.methodLink "NearDesk" (159 : Nat) ({ cls := "NearDesk$Graph", name := "seenInSearches", desc := "()I" } : MethodName)) ∈ hw_G := hw_in 570 (by decide +kernel) rfl
theorem iw_529 : (Cond.instanceMethod ({ cls := "NearDesk$Graph", name := "seenInSearches", desc := "()I" } : MethodName)) ∈ hw_G := hw_in 571 (by decide +kernel) rfl
theorem iw_530 : (Cond.selects "NearDesk$Graph" ({ cls := "NearDesk$Graph", name := "seenInSearches", desc := "()I" } : MethodName) ({ cls := "NearDesk$Graph", name := "seenInSearches", desc := "()I" } : MethodName)) ∈ hw_G := hw_in 572 (by decide +kernel) rfl
theorem iw_532 : (Cond.methodLink "NearDesk" (162 : Nat) ({ cls := "NearDesk$Graph", name := "seenInEntering", desc := "()I" } : MethodName)) ∈ hw_G := hw_in 574 (by decide +kernel) rfl
theorem iw_533 : (Cond.instanceMethod ({ cls := "NearDesk$Graph", name := "seenInEntering", desc := "()I" } : MethodName)) ∈ hw_G := hw_in 575 (by decide +kernel) rfl
theorem iw_534 : (Cond.selects "NearDesk$Graph" ({ cls := "NearDesk$Graph", name := "seenInEntering", desc := "()I" } : MethodName) ({ cls := "NearDesk$Graph", name := "seenInEntering", desc := "()I" } : MethodName)) ∈ hw_G := hw_in 576 (by decide +kernel) rfl
theorem iw_536 : (Cond.methodLink "NearDesk" (165 : Nat) ({ cls := "NearDesk", name := "foundAmongNearest", desc := "()I" } : MethodName)) ∈ hw_G := hw_in 578 (by decide +kernel) rfl
theorem iw_538 : (Cond.instanceMethod ({ cls := "NearDesk", name := "foundAmongNearest", desc := "()I" } : MethodName)) ∈ hw_G := hw_in 580 (by decide +kernel) rfl
theorem iw_540 : (Cond.methodLink "NearDesk" (181 : Nat) ({ cls := "NearDesk$Ranking", name := "holds", desc := "(I)Z" } : MethodName)) ∈ hw_G := hw_in 582 (by decide +kernel) rfl
theorem iw_541 : (Cond.instanceMethod ({ cls := "NearDesk$Ranking", name := "holds", desc := "(I)Z" } : MethodName)) ∈ hw_G := hw_in 583 (by decide +kernel) rfl
theorem iw_542 : (Cond.selects "NearDesk$Ranking" ({ cls := "NearDesk$Ranking", name := "holds", desc := "(I)Z" } : MethodName) ({ cls := "NearDesk$Ranking", name := "holds", desc := "(I)Z" } : MethodName)) ∈ hw_G := hw_in 584 (by decide +kernel) rfl
theorem iw_544 : (Cond.methodLink "NearDesk" (168 : Nat) ({ cls := "NearDesk$Links", name := "oneSidedPairs", desc := "()I" } : MethodName)) ∈ hw_G := hw_in 586 (by decide +kernel) rfl
theorem iw_545 : (Cond.instanceMethod ({ cls := "NearDesk$Links", name := "oneSidedPairs", desc := "()I" } : MethodName)) ∈ hw_G := hw_in 587 (by decide +kernel) rfl
theorem iw_546 : (Cond.selects "NearDesk$Links" ({ cls := "NearDesk$Links", name := "oneSidedPairs", desc := "()I" } : MethodName) ({ cls := "NearDesk$Links", name := "oneSidedPairs", desc := "()I" } : MethodName)) ∈ hw_G := hw_in 588 (by decide +kernel) rfl
theorem iw_548 : (Cond.methodLink "NearDesk$Links" (58 : Nat) ({ cls := "NearDesk$Links", name := "unreturned", desc := "(I)I" } : MethodName)) ∈ hw_G := hw_in 590 (by decide +kernel) rfl
theorem iw_550 : (Cond.instanceMethod ({ cls := "NearDesk$Links", name := "unreturned", desc := "(I)I" } : MethodName)) ∈ hw_G := hw_in 592 (by decide +kernel) rfl
theorem iw_552 : (Cond.methodLink "NearDesk$Links" (61 : Nat) ({ cls := "NearDesk$Links", name := "degree", desc := "(II)I" } : MethodName)) ∈ hw_G := hw_in 594 (by decide +kernel) rfl
theorem iw_553 : (Cond.methodLink "NearDesk$Links" (65 : Nat) ({ cls := "NearDesk$Links", name := "linked", desc := "(III)I" } : MethodName)) ∈ hw_G := hw_in 595 (by decide +kernel) rfl
theorem iw_554 : (Cond.methodLink "NearDesk$Links" (73 : Nat) ({ cls := "NearDesk$Links", name := "isLinked", desc := "(II)Z" } : MethodName)) ∈ hw_G := hw_in 596 (by decide +kernel) rfl
theorem iw_556 : (Cond.instanceMethod ({ cls := "NearDesk$Links", name := "isLinked", desc := "(II)Z" } : MethodName)) ∈ hw_G := hw_in 598 (by decide +kernel) rfl
theorem iw_558 : (Cond.methodLink "NearDesk" (171 : Nat) ({ cls := "NearDesk$Links", name := "reachedFrom", desc := "(I)I" } : MethodName)) ∈ hw_G := hw_in 600 (by decide +kernel) rfl
theorem iw_559 : (Cond.instanceMethod ({ cls := "NearDesk$Links", name := "reachedFrom", desc := "(I)I" } : MethodName)) ∈ hw_G := hw_in 601 (by decide +kernel) rfl
theorem iw_560 : (Cond.selects "NearDesk$Links" ({ cls := "NearDesk$Links", name := "reachedFrom", desc := "(I)I" } : MethodName) ({ cls := "NearDesk$Links", name := "reachedFrom", desc := "(I)I" } : MethodName)) ∈ hw_G := hw_in 602 (by decide +kernel) rfl
theorem iw_569 : (Cond.fieldLink "NearDeskModel" (7 : Nat) "NearDeskModel" "isNode" "[Z") ∈ hw_G := hw_in 611 (by decide +kernel) rfl
theorem iw_570 : (Cond.fieldLink "NearDeskModel" (13 : Nat) "NearDeskModel" "isLive" "[Z") ∈ hw_G := hw_in 612 (by decide +kernel) rfl
theorem iw_571 : (Cond.fieldLink "NearDeskModel" (16 : Nat) "NearDeskModel" "vector" "[I") ∈ hw_G := hw_in 613 (by decide +kernel) rfl
theorem iw_572 : (Cond.fieldLink "NearDeskModel" (20 : Nat) "NearDeskModel" "words" "[I") ∈ hw_G := hw_in 614 (by decide +kernel) rfl
theorem iw_573 : (Cond.fieldLink "NearDeskModel" (23 : Nat) "NearDeskModel" "level" "[I") ∈ hw_G := hw_in 615 (by decide +kernel) rfl
theorem iw_574 : (Cond.fieldLink "NearDeskModel" (26 : Nat) "NearDeskModel" "entered" "[I") ∈ hw_G := hw_in 616 (by decide +kernel) rfl
theorem iw_575 : (Cond.fieldLink "NearDeskModel" (29 : Nat) "NearDeskModel" "row" "[I") ∈ hw_G := hw_in 617 (by decide +kernel) rfl
theorem iw_576 : (Cond.fieldLink "NearDeskModel" (32 : Nat) "NearDeskModel" "rows" "[I") ∈ hw_G := hw_in 618 (by decide +kernel) rfl
theorem iw_577 : (Cond.fieldLink "NearDeskModel" (35 : Nat) "NearDeskModel" "entry" "I") ∈ hw_G := hw_in 619 (by decide +kernel) rfl
theorem iw_578 : (Cond.fieldLink "NearDeskModel" (114 : Nat) "NearDeskModel" "many" "I") ∈ hw_G := hw_in 620 (by decide +kernel) rfl
theorem iw_579 : (Cond.fieldLink "NearDeskModel" (39 : Nat) "NearDeskModel" "aim" "[I") ∈ hw_G := hw_in 621 (by decide +kernel) rfl
theorem iw_580 : (Cond.fieldLink "NearDeskModel" (42 : Nat) "NearDeskModel" "asked" "[I") ∈ hw_G := hw_in 622 (by decide +kernel) rfl
theorem iw_581 : (Cond.fieldLink "NearDeskModel" (45 : Nat) "NearDeskModel" "seen" "[Z") ∈ hw_G := hw_in 623 (by decide +kernel) rfl
theorem iw_582 : (Cond.fieldLink "NearDeskModel" (48 : Nat) "NearDeskModel" "held" "[Z") ∈ hw_G := hw_in 624 (by decide +kernel) rfl
theorem iw_583 : (Cond.fieldLink "NearDeskModel" (51 : Nat) "NearDeskModel" "open" "[Z") ∈ hw_G := hw_in 625 (by decide +kernel) rfl
theorem iw_584 : (Cond.fieldLink "NearDeskModel" (54 : Nat) "NearDeskModel" "chosen" "[Z") ∈ hw_G := hw_in 626 (by decide +kernel) rfl
theorem iw_585 : (Cond.fieldLink "NearDeskModel" (57 : Nat) "NearDeskModel" "here" "[I") ∈ hw_G := hw_in 627 (by decide +kernel) rfl
theorem iw_586 : (Cond.fieldLink "NearDeskModel" (60 : Nat) "NearDeskModel" "picked" "[I") ∈ hw_G := hw_in 628 (by decide +kernel) rfl
theorem iw_587 : (Cond.fieldLink "NearDeskModel" (63 : Nat) "NearDeskModel" "pool" "[I") ∈ hw_G := hw_in 629 (by decide +kernel) rfl
theorem iw_588 : (Cond.fieldLink "NearDeskModel" (83 : Nat) "NearDeskModel" "heres" "I") ∈ hw_G := hw_in 630 (by decide +kernel) rfl
theorem iw_589 : (Cond.fieldLink "NearDeskModel" (103 : Nat) "NearDeskModel" "picks" "I") ∈ hw_G := hw_in 631 (by decide +kernel) rfl
theorem iw_590 : (Cond.fieldLink "NearDeskModel" (100 : Nat) "NearDeskModel" "pools" "I") ∈ hw_G := hw_in 632 (by decide +kernel) rfl
theorem iw_591 : (Cond.fieldLink "NearDeskModel" (66 : Nat) "NearDeskModel" "number" "[I") ∈ hw_G := hw_in 633 (by decide +kernel) rfl
theorem iw_592 : (Cond.fieldLink "NearDeskModel" (69 : Nat) "NearDeskModel" "worth" "[I") ∈ hw_G := hw_in 634 (by decide +kernel) rfl
theorem iw_593 : (Cond.fieldLink "NearDeskModel" (72 : Nat) "NearDeskModel" "scores" "[I") ∈ hw_G := hw_in 635 (by decide +kernel) rfl
theorem iw_594 : (Cond.fieldLink "NearDeskModel" (153 : Nat) "NearDeskModel" "found" "I") ∈ hw_G := hw_in 636 (by decide +kernel) rfl
theorem iw_595 : (Cond.fieldLink "NearDeskModel" (147 : Nat) "NearDeskModel" "seenAsking" "J") ∈ hw_G := hw_in 637 (by decide +kernel) rfl
theorem iw_596 : (Cond.fieldLink "NearDeskModel" (120 : Nat) "NearDeskModel" "seenEntering" "J") ∈ hw_G := hw_in 638 (by decide +kernel) rfl
theorem iw_655 : (Cond.methodLink "NearDeskLaw" (17 : Nat) ({ cls := "NearDeskModel", name := "put", desc := "(IIIII)I" } : MethodName)) ∈ hw_G := hw_in 697 (by decide +kernel) rfl
theorem iw_656 : (Cond.instanceMethod ({ cls := "NearDeskModel", name := "put", desc := "(IIIII)I" } : MethodName)) ∈ hw_G := hw_in 698 (by decide +kernel) rfl
theorem iw_657 : (Cond.selects "NearDeskModel" ({ cls := "NearDeskModel", name := "put", desc := "(IIIII)I" } : MethodName) ({ cls := "NearDeskModel", name := "put", desc := "(IIIII)I" } : MethodName)) ∈ hw_G := hw_in 699 (by decide +kernel) rfl
theorem iw_659 : (Cond.methodLink "NearDeskModel" (136 : Nat) ({ cls := "NearDeskModel", name := "in", desc := "(III)Z" } : MethodName)) ∈ hw_G := hw_in 701 (by decide +kernel) rfl
theorem iw_660 : (Cond.static ({ cls := "NearDeskModel", name := "in", desc := "(III)Z" } : MethodName)) ∈ hw_G := hw_in 702 (by decide +kernel) rfl
theorem iw_662 : (Cond.constant "NearDeskModel" (140 : Nat) (16777215 : Int32)) ∈ hw_G := hw_in 704 (by decide +kernel) rfl
theorem iw_663 : (Cond.methodLink "NearDeskModel" (141 : Nat) ({ cls := "NearDeskModel", name := "enter", desc := "(I)V" } : MethodName)) ∈ hw_G := hw_in 705 (by decide +kernel) rfl
theorem iw_665 : (Cond.instanceMethod ({ cls := "NearDeskModel", name := "enter", desc := "(I)V" } : MethodName)) ∈ hw_G := hw_in 707 (by decide +kernel) rfl
theorem iw_667 : (Cond.methodLink "NearDeskModel" (117 : Nat) ({ cls := "NearDeskModel", name := "aimAt", desc := "(I)V" } : MethodName)) ∈ hw_G := hw_in 709 (by decide +kernel) rfl
theorem iw_669 : (Cond.instanceMethod ({ cls := "NearDeskModel", name := "aimAt", desc := "(I)V" } : MethodName)) ∈ hw_G := hw_in 711 (by decide +kernel) rfl
theorem iw_671 : (Cond.methodLink "NearDeskModel" (124 : Nat) ({ cls := "NearDeskModel", name := "walk", desc := "(II)I" } : MethodName)) ∈ hw_G := hw_in 713 (by decide +kernel) rfl
theorem iw_673 : (Cond.instanceMethod ({ cls := "NearDeskModel", name := "walk", desc := "(II)I" } : MethodName)) ∈ hw_G := hw_in 715 (by decide +kernel) rfl
theorem iw_675 : (Cond.methodLink "NearDeskModel" (86 : Nat) ({ cls := "NearDeskModel", name := "size", desc := "([Z)I" } : MethodName)) ∈ hw_G := hw_in 717 (by decide +kernel) rfl
theorem iw_676 : (Cond.static ({ cls := "NearDeskModel", name := "size", desc := "([Z)I" } : MethodName)) ∈ hw_G := hw_in 718 (by decide +kernel) rfl
theorem iw_678 : (Cond.methodLink "NearDeskModel" (90 : Nat) ({ cls := "NearDeskModel", name := "farthest", desc := "([Z)I" } : MethodName)) ∈ hw_G := hw_in 720 (by decide +kernel) rfl
theorem iw_680 : (Cond.instanceMethod ({ cls := "NearDeskModel", name := "farthest", desc := "([Z)I" } : MethodName)) ∈ hw_G := hw_in 722 (by decide +kernel) rfl
theorem iw_682 : (Cond.methodLink "NearDeskModel" (79 : Nat) ({ cls := "NearDeskModel", name := "isNearer", desc := "(II)Z" } : MethodName)) ∈ hw_G := hw_in 724 (by decide +kernel) rfl
theorem iw_684 : (Cond.instanceMethod ({ cls := "NearDeskModel", name := "isNearer", desc := "(II)Z" } : MethodName)) ∈ hw_G := hw_in 726 (by decide +kernel) rfl
theorem iw_686 : (Cond.methodLink "NearDeskModel" (75 : Nat) ({ cls := "NearDeskModel", name := "far", desc := "(I)I" } : MethodName)) ∈ hw_G := hw_in 728 (by decide +kernel) rfl
theorem iw_688 : (Cond.instanceMethod ({ cls := "NearDeskModel", name := "far", desc := "(I)I" } : MethodName)) ∈ hw_G := hw_in 730 (by decide +kernel) rfl
theorem iw_690 : (Cond.methodLink "NearDeskModel" (93 : Nat) ({ cls := "NearDeskModel", name := "nearest", desc := "([Z)I" } : MethodName)) ∈ hw_G := hw_in 732 (by decide +kernel) rfl
theorem iw_692 : (Cond.instanceMethod ({ cls := "NearDeskModel", name := "nearest", desc := "([Z)I" } : MethodName)) ∈ hw_G := hw_in 734 (by decide +kernel) rfl
theorem iw_694 : (Cond.methodLink "NearDeskModel" (96 : Nat) ({ cls := "NearDeskModel", name := "look", desc := "(II)V" } : MethodName)) ∈ hw_G := hw_in 736 (by decide +kernel) rfl
theorem iw_696 : (Cond.instanceMethod ({ cls := "NearDeskModel", name := "look", desc := "(II)V" } : MethodName)) ∈ hw_G := hw_in 738 (by decide +kernel) rfl
theorem iw_698 : (Cond.methodLink "NearDeskModel" (127 : Nat) ({ cls := "NearDeskModel", name := "tie", desc := "(II)V" } : MethodName)) ∈ hw_G := hw_in 740 (by decide +kernel) rfl
theorem iw_700 : (Cond.instanceMethod ({ cls := "NearDeskModel", name := "tie", desc := "(II)V" } : MethodName)) ∈ hw_G := hw_in 742 (by decide +kernel) rfl
theorem iw_702 : (Cond.methodLink "NearDeskModel" (130 : Nat) ({ cls := "NearDeskModel", name := "choose", desc := "(I)V" } : MethodName)) ∈ hw_G := hw_in 744 (by decide +kernel) rfl
theorem iw_704 : (Cond.instanceMethod ({ cls := "NearDeskModel", name := "choose", desc := "(I)V" } : MethodName)) ∈ hw_G := hw_in 746 (by decide +kernel) rfl
theorem iw_706 : (Cond.methodLink "NearDeskModel" (106 : Nat) ({ cls := "NearDeskModel", name := "between", desc := "(II)I" } : MethodName)) ∈ hw_G := hw_in 748 (by decide +kernel) rfl
theorem iw_708 : (Cond.instanceMethod ({ cls := "NearDeskModel", name := "between", desc := "(II)I" } : MethodName)) ∈ hw_G := hw_in 750 (by decide +kernel) rfl
theorem iw_710 : (Cond.methodLink "NearDeskModel" (110 : Nat) ({ cls := "NearDeskModel", name := "pick", desc := "(I)V" } : MethodName)) ∈ hw_G := hw_in 752 (by decide +kernel) rfl
theorem iw_712 : (Cond.instanceMethod ({ cls := "NearDeskModel", name := "pick", desc := "(I)V" } : MethodName)) ∈ hw_G := hw_in 754 (by decide +kernel) rfl
theorem iw_714 : (Cond.methodLink "NearDeskModel" (133 : Nat) ({ cls := "NearDeskModel", name := "take", desc := "(I)V" } : MethodName)) ∈ hw_G := hw_in 756 (by decide +kernel) rfl
theorem iw_716 : (Cond.instanceMethod ({ cls := "NearDeskModel", name := "take", desc := "(I)V" } : MethodName)) ∈ hw_G := hw_in 758 (by decide +kernel) rfl
theorem iw_718 : (Cond.methodLink "NearDeskLaw" (22 : Nat) ({ cls := "NearDeskModel", name := "remove", desc := "(I)Z" } : MethodName)) ∈ hw_G := hw_in 760 (by decide +kernel) rfl
theorem iw_719 : (Cond.instanceMethod ({ cls := "NearDeskModel", name := "remove", desc := "(I)Z" } : MethodName)) ∈ hw_G := hw_in 761 (by decide +kernel) rfl
theorem iw_720 : (Cond.selects "NearDeskModel" ({ cls := "NearDeskModel", name := "remove", desc := "(I)Z" } : MethodName) ({ cls := "NearDeskModel", name := "remove", desc := "(I)Z" } : MethodName)) ∈ hw_G := hw_in 762 (by decide +kernel) rfl
theorem iw_722 : (Cond.methodLink "NearDeskLaw" (27 : Nat) ({ cls := "NearDeskModel", name := "renew", desc := "()I" } : MethodName)) ∈ hw_G := hw_in 764 (by decide +kernel) rfl
theorem iw_723 : (Cond.instanceMethod ({ cls := "NearDeskModel", name := "renew", desc := "()I" } : MethodName)) ∈ hw_G := hw_in 765 (by decide +kernel) rfl
theorem iw_724 : (Cond.selects "NearDeskModel" ({ cls := "NearDeskModel", name := "renew", desc := "()I" } : MethodName) ({ cls := "NearDeskModel", name := "renew", desc := "()I" } : MethodName)) ∈ hw_G := hw_in 766 (by decide +kernel) rfl
theorem iw_726 : (Cond.methodLink "NearDeskLaw" (32 : Nat) ({ cls := "NearDeskModel", name := "ask", desc := "(IIII)Z" } : MethodName)) ∈ hw_G := hw_in 768 (by decide +kernel) rfl
theorem iw_727 : (Cond.instanceMethod ({ cls := "NearDeskModel", name := "ask", desc := "(IIII)Z" } : MethodName)) ∈ hw_G := hw_in 769 (by decide +kernel) rfl
theorem iw_728 : (Cond.selects "NearDeskModel" ({ cls := "NearDeskModel", name := "ask", desc := "(IIII)Z" } : MethodName) ({ cls := "NearDeskModel", name := "ask", desc := "(IIII)Z" } : MethodName)) ∈ hw_G := hw_in 770 (by decide +kernel) rfl
theorem iw_730 : (Cond.methodLink "NearDeskLaw" (37 : Nat) ({ cls := "NearDeskModel", name := "near", desc := "(II)I" } : MethodName)) ∈ hw_G := hw_in 772 (by decide +kernel) rfl
theorem iw_731 : (Cond.instanceMethod ({ cls := "NearDeskModel", name := "near", desc := "(II)I" } : MethodName)) ∈ hw_G := hw_in 773 (by decide +kernel) rfl
theorem iw_732 : (Cond.selects "NearDeskModel" ({ cls := "NearDeskModel", name := "near", desc := "(II)I" } : MethodName) ({ cls := "NearDeskModel", name := "near", desc := "(II)I" } : MethodName)) ∈ hw_G := hw_in 774 (by decide +kernel) rfl
theorem iw_734 : (Cond.methodLink "NearDeskModel" (150 : Nat) ({ cls := "NearDeskModel", name := "search", desc := "(I)V" } : MethodName)) ∈ hw_G := hw_in 776 (by decide +kernel) rfl
theorem iw_736 : (Cond.instanceMethod ({ cls := "NearDeskModel", name := "search", desc := "(I)V" } : MethodName)) ∈ hw_G := hw_in 778 (by decide +kernel) rfl
theorem iw_738 : (Cond.methodLink "NearDeskModel" (144 : Nat) ({ cls := "NearDeskModel", name := "aimAsked", desc := "()V" } : MethodName)) ∈ hw_G := hw_in 780 (by decide +kernel) rfl
theorem iw_740 : (Cond.instanceMethod ({ cls := "NearDeskModel", name := "aimAsked", desc := "()V" } : MethodName)) ∈ hw_G := hw_in 782 (by decide +kernel) rfl
theorem iw_742 : (Cond.methodLink "NearDeskLaw" (42 : Nat) ({ cls := "NearDeskModel", name := "exact", desc := "(I)I" } : MethodName)) ∈ hw_G := hw_in 784 (by decide +kernel) rfl
theorem iw_743 : (Cond.instanceMethod ({ cls := "NearDeskModel", name := "exact", desc := "(I)I" } : MethodName)) ∈ hw_G := hw_in 785 (by decide +kernel) rfl
theorem iw_744 : (Cond.selects "NearDeskModel" ({ cls := "NearDeskModel", name := "exact", desc := "(I)I" } : MethodName) ({ cls := "NearDeskModel", name := "exact", desc := "(I)I" } : MethodName)) ∈ hw_G := hw_in 786 (by decide +kernel) rfl
theorem iw_746 : (Cond.methodLink "NearDeskLaw" (46 : Nat) ({ cls := "NearDeskModel", name := "match", desc := "(II)I" } : MethodName)) ∈ hw_G := hw_in 788 (by decide +kernel) rfl
theorem iw_747 : (Cond.instanceMethod ({ cls := "NearDeskModel", name := "match", desc := "(II)I" } : MethodName)) ∈ hw_G := hw_in 789 (by decide +kernel) rfl
theorem iw_748 : (Cond.selects "NearDeskModel" ({ cls := "NearDeskModel", name := "match", desc := "(II)I" } : MethodName) ({ cls := "NearDeskModel", name := "match", desc := "(II)I" } : MethodName)) ∈ hw_G := hw_in 790 (by decide +kernel) rfl
theorem iw_750 : (Cond.methodLink "NearDeskModel" (165 : Nat) ({ cls := "NearDeskModel", name := "score", desc := "(I)V" } : MethodName)) ∈ hw_G := hw_in 792 (by decide +kernel) rfl
theorem iw_752 : (Cond.instanceMethod ({ cls := "NearDeskModel", name := "score", desc := "(I)V" } : MethodName)) ∈ hw_G := hw_in 794 (by decide +kernel) rfl
theorem iw_754 : (Cond.methodLink "NearDeskModel" (159 : Nat) ({ cls := "NearDeskModel", name := "scoreOf", desc := "(II)I" } : MethodName)) ∈ hw_G := hw_in 796 (by decide +kernel) rfl
theorem iw_756 : (Cond.instanceMethod ({ cls := "NearDeskModel", name := "scoreOf", desc := "(II)I" } : MethodName)) ∈ hw_G := hw_in 798 (by decide +kernel) rfl
theorem iw_758 : (Cond.methodLink "NearDeskModel" (156 : Nat) ({ cls := "NearDeskModel", name := "countOf", desc := "(II)I" } : MethodName)) ∈ hw_G := hw_in 800 (by decide +kernel) rfl
theorem iw_760 : (Cond.instanceMethod ({ cls := "NearDeskModel", name := "countOf", desc := "(II)I" } : MethodName)) ∈ hw_G := hw_in 802 (by decide +kernel) rfl
theorem iw_762 : (Cond.methodLink "NearDeskModel" (168 : Nat) ({ cls := "NearDeskModel", name := "best", desc := "(I)I" } : MethodName)) ∈ hw_G := hw_in 804 (by decide +kernel) rfl
theorem iw_764 : (Cond.instanceMethod ({ cls := "NearDeskModel", name := "best", desc := "(I)I" } : MethodName)) ∈ hw_G := hw_in 806 (by decide +kernel) rfl
theorem iw_766 : (Cond.methodLink "NearDeskModel" (162 : Nat) ({ cls := "NearDeskModel", name := "placeOf", desc := "(I)I" } : MethodName)) ∈ hw_G := hw_in 808 (by decide +kernel) rfl
theorem iw_768 : (Cond.instanceMethod ({ cls := "NearDeskModel", name := "placeOf", desc := "(I)I" } : MethodName)) ∈ hw_G := hw_in 810 (by decide +kernel) rfl
theorem iw_770 : (Cond.methodLink "NearDeskLaw" (50 : Nat) ({ cls := "NearDeskModel", name := "fuse", desc := "(II)I" } : MethodName)) ∈ hw_G := hw_in 812 (by decide +kernel) rfl
theorem iw_771 : (Cond.instanceMethod ({ cls := "NearDeskModel", name := "fuse", desc := "(II)I" } : MethodName)) ∈ hw_G := hw_in 813 (by decide +kernel) rfl
theorem iw_772 : (Cond.selects "NearDeskModel" ({ cls := "NearDeskModel", name := "fuse", desc := "(II)I" } : MethodName) ({ cls := "NearDeskModel", name := "fuse", desc := "(II)I" } : MethodName)) ∈ hw_G := hw_in 814 (by decide +kernel) rfl
theorem iw_774 : (Cond.methodLink "NearDeskLaw" (54 : Nat) ({ cls := "NearDeskModel", name := "found", desc := "(II)I" } : MethodName)) ∈ hw_G := hw_in 816 (by decide +kernel) rfl
theorem iw_775 : (Cond.instanceMethod ({ cls := "NearDeskModel", name := "found", desc := "(II)I" } : MethodName)) ∈ hw_G := hw_in 817 (by decide +kernel) rfl
theorem iw_776 : (Cond.selects "NearDeskModel" ({ cls := "NearDeskModel", name := "found", desc := "(II)I" } : MethodName) ({ cls := "NearDeskModel", name := "found", desc := "(II)I" } : MethodName)) ∈ hw_G := hw_in 818 (by decide +kernel) rfl
theorem iw_778 : (Cond.methodLink "NearDeskLaw" (58 : Nat) ({ cls := "NearDeskModel", name := "node", desc := "(II)I" } : MethodName)) ∈ hw_G := hw_in 820 (by decide +kernel) rfl
theorem iw_779 : (Cond.instanceMethod ({ cls := "NearDeskModel", name := "node", desc := "(II)I" } : MethodName)) ∈ hw_G := hw_in 821 (by decide +kernel) rfl
theorem iw_780 : (Cond.selects "NearDeskModel" ({ cls := "NearDeskModel", name := "node", desc := "(II)I" } : MethodName) ({ cls := "NearDeskModel", name := "node", desc := "(II)I" } : MethodName)) ∈ hw_G := hw_in 822 (by decide +kernel) rfl
theorem iw_782 : (Cond.methodLink "NearDeskLaw" (63 : Nat) ({ cls := "NearDeskModel", name := "neighbour", desc := "(III)I" } : MethodName)) ∈ hw_G := hw_in 824 (by decide +kernel) rfl
theorem iw_783 : (Cond.instanceMethod ({ cls := "NearDeskModel", name := "neighbour", desc := "(III)I" } : MethodName)) ∈ hw_G := hw_in 825 (by decide +kernel) rfl
theorem iw_784 : (Cond.selects "NearDeskModel" ({ cls := "NearDeskModel", name := "neighbour", desc := "(III)I" } : MethodName) ({ cls := "NearDeskModel", name := "neighbour", desc := "(III)I" } : MethodName)) ∈ hw_G := hw_in 826 (by decide +kernel) rfl
theorem iw_786 : (Cond.methodLink "NearDeskLaw" (67 : Nat) ({ cls := "NearDeskModel", name := "count", desc := "(I)I" } : MethodName)) ∈ hw_G := hw_in 828 (by decide +kernel) rfl
theorem iw_787 : (Cond.instanceMethod ({ cls := "NearDeskModel", name := "count", desc := "(I)I" } : MethodName)) ∈ hw_G := hw_in 829 (by decide +kernel) rfl
theorem iw_788 : (Cond.selects "NearDeskModel" ({ cls := "NearDeskModel", name := "count", desc := "(I)I" } : MethodName) ({ cls := "NearDeskModel", name := "count", desc := "(I)I" } : MethodName)) ∈ hw_G := hw_in 830 (by decide +kernel) rfl
theorem iw_790 : (Cond.methodLink "NearDeskModel" (174 : Nat) ({ cls := "NearDeskModel", name := "right", desc := "()I" } : MethodName)) ∈ hw_G := hw_in 832 (by decide +kernel) rfl
theorem iw_792 : (Cond.instanceMethod ({ cls := "NearDeskModel", name := "right", desc := "()I" } : MethodName)) ∈ hw_G := hw_in 834 (by decide +kernel) rfl
theorem iw_794 : (Cond.methodLink "NearDeskModel" (178 : Nat) ({ cls := "NearDeskModel", name := "oneSided", desc := "()I" } : MethodName)) ∈ hw_G := hw_in 836 (by decide +kernel) rfl
theorem iw_796 : (Cond.instanceMethod ({ cls := "NearDeskModel", name := "oneSided", desc := "()I" } : MethodName)) ∈ hw_G := hw_in 838 (by decide +kernel) rfl
theorem iw_798 : (Cond.methodLink "NearDeskModel" (171 : Nat) ({ cls := "NearDeskModel", name := "isNeighbour", desc := "(II)Z" } : MethodName)) ∈ hw_G := hw_in 840 (by decide +kernel) rfl
theorem iw_800 : (Cond.instanceMethod ({ cls := "NearDeskModel", name := "isNeighbour", desc := "(II)Z" } : MethodName)) ∈ hw_G := hw_in 842 (by decide +kernel) rfl
theorem iw_802 : (Cond.methodLink "NearDeskModel" (181 : Nat) ({ cls := "NearDeskModel", name := "reached", desc := "()I" } : MethodName)) ∈ hw_G := hw_in 844 (by decide +kernel) rfl
theorem iw_804 : (Cond.instanceMethod ({ cls := "NearDeskModel", name := "reached", desc := "()I" } : MethodName)) ∈ hw_G := hw_in 846 (by decide +kernel) rfl
theorem in_132 : (Cond.fieldLinkNest "NearDesk" (49 : Nat) "NearDesk$Graph" "links" "LNearDesk$Links;" "NearDesk") ∈ hw_NW := hw_inN 174 (by decide +kernel) rfl
theorem in_197 : (Cond.methodLinkNest "NearDesk$Documents" (23 : Nat) ({ cls := "NearDesk", name := "writeVector", desc := "([IIIII)V" } : MethodName) "NearDesk") ∈ hw_NW := hw_inN 239 (by decide +kernel) rfl
theorem in_227 : (Cond.methodLinkNest "NearDesk$Documents" (48 : Nat) ({ cls := "NearDesk", name := "distance", desc := "([I[I)I" } : MethodName) "NearDesk") ∈ hw_NW := hw_inN 269 (by decide +kernel) rfl
theorem in_301 : (Cond.methodLinkNest "NearDesk$Walker" (90 : Nat) ({ cls := "NearDesk", name := "isIn", desc := "(II)Z" } : MethodName) "NearDesk") ∈ hw_NW := hw_inN 343 (by decide +kernel) rfl
theorem in_330 : (Cond.methodLinkNest "NearDesk$Chooser" (52 : Nat) ({ cls := "NearDesk", name := "distance", desc := "([I[I)I" } : MethodName) "NearDesk") ∈ hw_NW := hw_inN 372 (by decide +kernel) rfl
theorem in_335 : (Cond.methodLinkNest "NearDesk$Chooser" (42 : Nat) ({ cls := "NearDesk", name := "isIn", desc := "(II)Z" } : MethodName) "NearDesk") ∈ hw_NW := hw_inN 377 (by decide +kernel) rfl
theorem in_364 : (Cond.methodLinkNest "NearDesk$Graph" (119 : Nat) ({ cls := "NearDesk", name := "distance", desc := "([I[I)I" } : MethodName) "NearDesk") ∈ hw_NW := hw_inN 406 (by decide +kernel) rfl
theorem in_378 : (Cond.methodLinkNest "NearDesk$Documents" (35 : Nat) ({ cls := "NearDesk", name := "isDocumentNumber", desc := "(I)Z" } : MethodName) "NearDesk") ∈ hw_NW := hw_inN 420 (by decide +kernel) rfl
theorem in_381 : (Cond.methodLinkNest "NearDesk$Documents" (38 : Nat) ({ cls := "NearDesk", name := "isIn", desc := "(II)Z" } : MethodName) "NearDesk") ∈ hw_NW := hw_inN 423 (by decide +kernel) rfl
theorem in_493 : (Cond.methodLinkNest "NearDesk$Links" (35 : Nat) ({ cls := "NearDesk", name := "isDocumentNumber", desc := "(I)Z" } : MethodName) "NearDesk") ∈ hw_NW := hw_inN 535 (by decide +kernel) rfl
theorem in_499 : (Cond.methodLinkNest "NearDesk$Links" (42 : Nat) ({ cls := "NearDesk", name := "isWithin", desc := "(III)Z" } : MethodName) "NearDesk") ∈ hw_NW := hw_inN 541 (by decide +kernel) rfl
theorem in_562 : (Cond.methodLinkNest "NearDesk$Links" (69 : Nat) ({ cls := "NearDesk", name := "isIn", desc := "(II)Z" } : MethodName) "NearDesk") ∈ hw_NW := hw_inN 604 (by decide +kernel) rfl
theorem ic_Ch_choose : Cond.code y_Ch_choose b_Ch_choose 6 none ∈ hw_G := hw_in 363 (by decide +kernel) rfl
theorem gy_Ch_choose : GoodIn hw_G ([.instanceMethod y_Ch_choose, .selects R_Ch y_Ch_choose y_Ch_choose, .initialized R_Ch] ++ (.code y_Ch_choose b_Ch_choose 6 none :: hw_G)) := hw_g3 iw_319 iw_320 iw_7 (hw_gc ic_Ch_choose)
theorem ic_Ch_chosen : Cond.code y_Ch_chosen b_Ch_chosen 2 (some .int) ∈ hw_G := hw_in 389 (by decide +kernel) rfl
theorem gy_Ch_chosen : GoodIn hw_G ([.instanceMethod y_Ch_chosen, .selects R_Ch y_Ch_chosen y_Ch_chosen, .initialized R_Ch] ++ (.code y_Ch_chosen b_Ch_chosen 2 (some .int) :: hw_G)) := hw_g3 iw_345 iw_346 iw_7 (hw_gc ic_Ch_chosen)
theorem ic_Ch_isNearestToVector : Cond.code y_Ch_isNearestToVector b_Ch_isNearestToVector 5 (some .boolean) ∈ hw_G := hw_in 370 (by decide +kernel) rfl
theorem gy_Ch_isNearestToVector : GoodIn hw_G ([.instanceMethod y_Ch_isNearestToVector, .selects R_Ch y_Ch_isNearestToVector y_Ch_isNearestToVector, .initialized R_Ch] ++ (.code y_Ch_isNearestToVector b_Ch_isNearestToVector 5 (some .boolean) :: hw_G)) := hw_g3 iw_327 iw_m5 iw_7 (hw_gc ic_Ch_isNearestToVector)
theorem ic_Ch_size : Cond.code y_Ch_size b_Ch_size 1 (some .int) ∈ hw_G := hw_in 385 (by decide +kernel) rfl
theorem gy_Ch_size : GoodIn hw_G ([.instanceMethod y_Ch_size, .selects R_Ch y_Ch_size y_Ch_size, .initialized R_Ch] ++ (.code y_Ch_size b_Ch_size 1 (some .int) :: hw_G)) := hw_g3 iw_341 iw_342 iw_7 (hw_gc ic_Ch_size)
theorem ic_Ch_take : Cond.code y_Ch_take b_Ch_take 2 none ∈ hw_G := hw_in 376 (by decide +kernel) rfl
theorem gy_Ch_take : GoodIn hw_G ([.instanceMethod y_Ch_take, .selects R_Ch y_Ch_take y_Ch_take, .initialized R_Ch] ++ (.code y_Ch_take b_Ch_take 2 none :: hw_G)) := hw_g3 iw_333 iw_m6 iw_7 (hw_gc ic_Ch_take)
theorem ic_Do_coordinate : Cond.code y_Do_coordinate b_Do_coordinate 3 (some .int) ∈ hw_G := hw_in 555 (by decide +kernel) rfl
theorem gy_Do_coordinate : GoodIn hw_G ([.instanceMethod y_Do_coordinate, .selects R_Do y_Do_coordinate y_Do_coordinate, .initialized R_Do] ++ (.code y_Do_coordinate b_Do_coordinate 3 (some .int) :: hw_G)) := hw_g3 iw_511 iw_512 iw_2 (hw_gc ic_Do_coordinate)
theorem ic_Do_countOfWord : Cond.code y_Do_countOfWord b_Do_countOfWord 3 (some .int) ∈ hw_G := hw_in 501 (by decide +kernel) rfl
theorem gy_Do_countOfWord : GoodIn hw_G ([.instanceMethod y_Do_countOfWord, .selects R_Do y_Do_countOfWord y_Do_countOfWord, .initialized R_Do] ++ (.code y_Do_countOfWord b_Do_countOfWord 3 (some .int) :: hw_G)) := hw_g3 iw_458 iw_m11 iw_2 (hw_gc ic_Do_countOfWord)
theorem ic_Do_counts : Cond.code y_Do_counts b_Do_counts 2 (some .int) ∈ hw_G := hw_in 551 (by decide +kernel) rfl
theorem gy_Do_counts : GoodIn hw_G ([.instanceMethod y_Do_counts, .selects R_Do y_Do_counts y_Do_counts, .initialized R_Do] ++ (.code y_Do_counts b_Do_counts 2 (some .int) :: hw_G)) := hw_g3 iw_507 iw_508 iw_2 (hw_gc ic_Do_counts)
theorem ic_Do_isLive : Cond.code y_Do_isLive b_Do_isLive 2 (some .boolean) ∈ hw_G := hw_in 419 (by decide +kernel) rfl
theorem gy_Do_isLive : GoodIn hw_G ([.instanceMethod y_Do_isLive, .selects R_Do y_Do_isLive y_Do_isLive, .initialized R_Do] ++ (.code y_Do_isLive b_Do_isLive 2 (some .boolean) :: hw_G)) := hw_g3 iw_375 iw_376 iw_2 (hw_gc ic_Do_isLive)
theorem ic_Do_liveCount : Cond.code y_Do_liveCount b_Do_liveCount 1 (some .int) ∈ hw_G := hw_in 435 (by decide +kernel) rfl
theorem gy_Do_liveCount : GoodIn hw_G ([.instanceMethod y_Do_liveCount, .selects R_Do y_Do_liveCount y_Do_liveCount, .initialized R_Do] ++ (.code y_Do_liveCount b_Do_liveCount 1 (some .int) :: hw_G)) := hw_g3 iw_391 iw_392 iw_2 (hw_gc ic_Do_liveCount)
theorem ic_Do_liveWith : Cond.code y_Do_liveWith b_Do_liveWith 4 (some .int) ∈ hw_G := hw_in 497 (by decide +kernel) rfl
theorem gy_Do_liveWith : GoodIn hw_G ([.instanceMethod y_Do_liveWith, .selects R_Do y_Do_liveWith y_Do_liveWith, .initialized R_Do] ++ (.code y_Do_liveWith b_Do_liveWith 4 (some .int) :: hw_G)) := hw_g3 iw_454 iw_m10 iw_2 (hw_gc ic_Do_liveWith)
theorem ic_Do_measure : Cond.code y_Do_measure b_Do_measure 4 none ∈ hw_G := hw_in 268 (by decide +kernel) rfl
theorem gy_Do_measure : GoodIn hw_G ([.instanceMethod y_Do_measure, .selects R_Do y_Do_measure y_Do_measure, .initialized R_Do] ++ (.code y_Do_measure b_Do_measure 4 none :: hw_G)) := hw_g3 iw_224 iw_225 iw_2 (hw_gc ic_Do_measure)
theorem ic_Do_rankByDistance : Cond.code y_Do_rankByDistance b_Do_rankByDistance 4 none ∈ hw_G := hw_in 480 (by decide +kernel) rfl
theorem gy_Do_rankByDistance : GoodIn hw_G ([.instanceMethod y_Do_rankByDistance, .selects R_Do y_Do_rankByDistance y_Do_rankByDistance, .initialized R_Do] ++ (.code y_Do_rankByDistance b_Do_rankByDistance 4 none :: hw_G)) := hw_g3 iw_436 iw_437 iw_2 (hw_gc ic_Do_rankByDistance)
theorem ic_Do_rankByScore : Cond.code y_Do_rankByScore b_Do_rankByScore 5 none ∈ hw_G := hw_in 489 (by decide +kernel) rfl
theorem gy_Do_rankByScore : GoodIn hw_G ([.instanceMethod y_Do_rankByScore, .selects R_Do y_Do_rankByScore y_Do_rankByScore, .initialized R_Do] ++ (.code y_Do_rankByScore b_Do_rankByScore 5 none :: hw_G)) := hw_g3 iw_445 iw_446 iw_2 (hw_gc ic_Do_rankByScore)
theorem ic_Do_retire : Cond.code y_Do_retire b_Do_retire 2 (some .boolean) ∈ hw_G := hw_in 415 (by decide +kernel) rfl
theorem gy_Do_retire : GoodIn hw_G ([.instanceMethod y_Do_retire, .selects R_Do y_Do_retire y_Do_retire, .initialized R_Do] ++ (.code y_Do_retire b_Do_retire 2 (some .boolean) :: hw_G)) := hw_g3 iw_371 iw_372 iw_2 (hw_gc ic_Do_retire)
theorem ic_Do_score : Cond.code y_Do_score b_Do_score 6 (some .int) ∈ hw_G := hw_in 506 (by decide +kernel) rfl
theorem gy_Do_score : GoodIn hw_G ([.instanceMethod y_Do_score, .selects R_Do y_Do_score y_Do_score, .initialized R_Do] ++ (.code y_Do_score b_Do_score 6 (some .int) :: hw_G)) := hw_g3 iw_463 iw_m12 iw_2 (hw_gc ic_Do_score)
theorem ic_Do_store : Cond.code y_Do_store b_Do_store 7 none ∈ hw_G := hw_in 238 (by decide +kernel) rfl
theorem gy_Do_store : GoodIn hw_G ([.instanceMethod y_Do_store, .selects R_Do y_Do_store y_Do_store, .initialized R_Do] ++ (.code y_Do_store b_Do_store 7 none :: hw_G)) := hw_g3 iw_194 iw_195 iw_2 (hw_gc ic_Do_store)
theorem ic_Do_vector : Cond.code y_Do_vector b_Do_vector 2 (some (.array .int)) ∈ hw_G := hw_in 260 (by decide +kernel) rfl
theorem gy_Do_vector : GoodIn hw_G ([.instanceMethod y_Do_vector, .selects R_Do y_Do_vector y_Do_vector, .initialized R_Do] ++ (.code y_Do_vector b_Do_vector 2 (some (.array .int)) :: hw_G)) := hw_g3 iw_216 iw_217 iw_2 (hw_gc ic_Do_vector)
theorem ic_Do_weighWords : Cond.code y_Do_weighWords b_Do_weighWords 3 none ∈ hw_G := hw_in 493 (by decide +kernel) rfl
theorem gy_Do_weighWords : GoodIn hw_G ([.instanceMethod y_Do_weighWords, .selects R_Do y_Do_weighWords y_Do_weighWords, .initialized R_Do] ++ (.code y_Do_weighWords b_Do_weighWords 3 none :: hw_G)) := hw_g3 iw_450 iw_m9 iw_2 (hw_gc ic_Do_weighWords)
theorem ic_Gr_clear : Cond.code y_Gr_clear b_Gr_clear 1 none ∈ hw_G := hw_in 440 (by decide +kernel) rfl
theorem gy_Gr_clear : GoodIn hw_G ([.instanceMethod y_Gr_clear, .selects R_Gr y_Gr_clear y_Gr_clear, .initialized R_Gr] ++ (.code y_Gr_clear b_Gr_clear 1 none :: hw_G)) := hw_g3 iw_396 iw_397 iw_3 (hw_gc ic_Gr_clear)
theorem ic_Gr_enter : Cond.code y_Gr_enter b_Gr_enter 6 none ∈ hw_G := hw_in 245 (by decide +kernel) rfl
theorem gy_Gr_enter : GoodIn hw_G ([.instanceMethod y_Gr_enter, .selects R_Gr y_Gr_enter y_Gr_enter, .initialized R_Gr] ++ (.code y_Gr_enter b_Gr_enter 6 none :: hw_G)) := hw_g3 iw_201 iw_202 iw_3 (hw_gc ic_Gr_enter)
theorem ic_Gr_entry : Cond.code y_Gr_entry b_Gr_entry 1 (some .int) ∈ hw_G := hw_in 568 (by decide +kernel) rfl
theorem gy_Gr_entry : GoodIn hw_G ([.instanceMethod y_Gr_entry, .selects R_Gr y_Gr_entry y_Gr_entry, .initialized R_Gr] ++ (.code y_Gr_entry b_Gr_entry 1 (some .int) :: hw_G)) := hw_g3 iw_524 iw_525 iw_3 (hw_gc ic_Gr_entry)
theorem ic_Gr_link : Cond.code y_Gr_link b_Gr_link 6 none ∈ hw_G := hw_in 355 (by decide +kernel) rfl
theorem gy_Gr_link : GoodIn hw_G ([.instanceMethod y_Gr_link, .selects R_Gr y_Gr_link y_Gr_link, .initialized R_Gr] ++ (.code y_Gr_link b_Gr_link 6 none :: hw_G)) := hw_g3 iw_312 iw_m4 iw_3 (hw_gc ic_Gr_link)
theorem ic_Gr_search : Cond.code y_Gr_search b_Gr_search 5 (some (.object "NearDesk$Ranking")) ∈ hw_G := hw_in 464 (by decide +kernel) rfl
theorem gy_Gr_search : GoodIn hw_G ([.instanceMethod y_Gr_search, .selects R_Gr y_Gr_search y_Gr_search, .initialized R_Gr] ++ (.code y_Gr_search b_Gr_search 5 (some (.object "NearDesk$Ranking")) :: hw_G)) := hw_g3 iw_420 iw_421 iw_3 (hw_gc ic_Gr_search)
theorem ic_Gr_seenInEntering : Cond.code y_Gr_seenInEntering b_Gr_seenInEntering 1 (some .int) ∈ hw_G := hw_in 577 (by decide +kernel) rfl
theorem gy_Gr_seenInEntering : GoodIn hw_G ([.instanceMethod y_Gr_seenInEntering, .selects R_Gr y_Gr_seenInEntering y_Gr_seenInEntering, .initialized R_Gr] ++ (.code y_Gr_seenInEntering b_Gr_seenInEntering 1 (some .int) :: hw_G)) := hw_g3 iw_533 iw_534 iw_3 (hw_gc ic_Gr_seenInEntering)
theorem ic_Gr_seenInSearches : Cond.code y_Gr_seenInSearches b_Gr_seenInSearches 1 (some .int) ∈ hw_G := hw_in 573 (by decide +kernel) rfl
theorem gy_Gr_seenInSearches : GoodIn hw_G ([.instanceMethod y_Gr_seenInSearches, .selects R_Gr y_Gr_seenInSearches y_Gr_seenInSearches, .initialized R_Gr] ++ (.code y_Gr_seenInSearches b_Gr_seenInSearches 1 (some .int) :: hw_G)) := hw_g3 iw_529 iw_530 iw_3 (hw_gc ic_Gr_seenInSearches)
theorem ic_Gr_shorten : Cond.code y_Gr_shorten b_Gr_shorten 6 none ∈ hw_G := hw_in 404 (by decide +kernel) rfl
theorem gy_Gr_shorten : GoodIn hw_G ([.instanceMethod y_Gr_shorten, .selects R_Gr y_Gr_shorten y_Gr_shorten, .initialized R_Gr] ++ (.code y_Gr_shorten b_Gr_shorten 6 none :: hw_G)) := hw_g3 iw_361 iw_m7 iw_3 (hw_gc ic_Gr_shorten)
theorem ic_Gr_top : Cond.code y_Gr_top b_Gr_top 1 (some .int) ∈ hw_G := hw_in 294 (by decide +kernel) rfl
theorem gy_Gr_top : GoodIn hw_G ([.instanceMethod y_Gr_top, .selects R_Gr y_Gr_top y_Gr_top, .initialized R_Gr] ++ (.code y_Gr_top b_Gr_top 1 (some .int) :: hw_G)) := hw_g3 iw_250 iw_251 iw_3 (hw_gc ic_Gr_top)
theorem ic_In_bitCount : Cond.code y_In_bitCount b_In_bitCount 1 (some .int) ∈ hw_G := hw_in 348 (by decide +kernel) rfl
theorem gs_In_bitCount : GoodIn hw_G ([.static y_In_bitCount, .initialized R_In] ++ (.code y_In_bitCount b_In_bitCount 1 (some .int) :: hw_G)) := hw_g2 iw_305 iw_10 (hw_gc ic_In_bitCount)
theorem ic_Li_addNode : Cond.code y_Li_addNode b_Li_addNode 3 none ∈ hw_G := hw_in 249 (by decide +kernel) rfl
theorem gy_Li_addNode : GoodIn hw_G ([.instanceMethod y_Li_addNode, .selects R_Li y_Li_addNode y_Li_addNode, .initialized R_Li] ++ (.code y_Li_addNode b_Li_addNode 3 none :: hw_G)) := hw_g3 iw_205 iw_206 iw_4 (hw_gc ic_Li_addNode)
theorem ic_Li_append : Cond.code y_Li_append b_Li_append 5 none ∈ hw_G := hw_in 393 (by decide +kernel) rfl
theorem gy_Li_append : GoodIn hw_G ([.instanceMethod y_Li_append, .selects R_Li y_Li_append y_Li_append, .initialized R_Li] ++ (.code y_Li_append b_Li_append 5 none :: hw_G)) := hw_g3 iw_349 iw_350 iw_4 (hw_gc ic_Li_append)
theorem ic_Li_clear : Cond.code y_Li_clear b_Li_clear 2 none ∈ hw_G := hw_in 444 (by decide +kernel) rfl
theorem gy_Li_clear : GoodIn hw_G ([.instanceMethod y_Li_clear, .selects R_Li y_Li_clear y_Li_clear, .initialized R_Li] ++ (.code y_Li_clear b_Li_clear 2 none :: hw_G)) := hw_g3 iw_400 iw_401 iw_4 (hw_gc ic_Li_clear)
theorem ic_Li_degree : Cond.code y_Li_degree b_Li_degree 3 (some .int) ∈ hw_G := hw_in 338 (by decide +kernel) rfl
theorem gy_Li_degree : GoodIn hw_G ([.instanceMethod y_Li_degree, .selects R_Li y_Li_degree y_Li_degree, .initialized R_Li] ++ (.code y_Li_degree b_Li_degree 3 (some .int) :: hw_G)) := hw_g3 iw_294 iw_295 iw_4 (hw_gc ic_Li_degree)
theorem ic_Li_freeNumber : Cond.code y_Li_freeNumber b_Li_freeNumber 2 (some .int) ∈ hw_G := hw_in 234 (by decide +kernel) rfl
theorem gy_Li_freeNumber : GoodIn hw_G ([.instanceMethod y_Li_freeNumber, .selects R_Li y_Li_freeNumber y_Li_freeNumber, .initialized R_Li] ++ (.code y_Li_freeNumber b_Li_freeNumber 2 (some .int) :: hw_G)) := hw_g3 iw_190 iw_191 iw_4 (hw_gc ic_Li_freeNumber)
theorem ic_Li_isInLayer : Cond.code y_Li_isInLayer b_Li_isInLayer 3 (some .boolean) ∈ hw_G := hw_in 539 (by decide +kernel) rfl
theorem gy_Li_isInLayer : GoodIn hw_G ([.instanceMethod y_Li_isInLayer, .selects R_Li y_Li_isInLayer y_Li_isInLayer, .initialized R_Li] ++ (.code y_Li_isInLayer b_Li_isInLayer 3 (some .boolean) :: hw_G)) := hw_g3 iw_495 iw_496 iw_4 (hw_gc ic_Li_isInLayer)
theorem ic_Li_isLinked : Cond.code y_Li_isLinked b_Li_isLinked 4 (some .boolean) ∈ hw_G := hw_in 599 (by decide +kernel) rfl
theorem gy_Li_isLinked : GoodIn hw_G ([.instanceMethod y_Li_isLinked, .selects R_Li y_Li_isLinked y_Li_isLinked, .initialized R_Li] ++ (.code y_Li_isLinked b_Li_isLinked 4 (some .boolean) :: hw_G)) := hw_g3 iw_556 iw_m18 iw_4 (hw_gc ic_Li_isLinked)
theorem ic_Li_isNode : Cond.code y_Li_isNode b_Li_isNode 2 (some .boolean) ∈ hw_G := hw_in 534 (by decide +kernel) rfl
theorem gy_Li_isNode : GoodIn hw_G ([.instanceMethod y_Li_isNode, .selects R_Li y_Li_isNode y_Li_isNode, .initialized R_Li] ++ (.code y_Li_isNode b_Li_isNode 2 (some .boolean) :: hw_G)) := hw_g3 iw_490 iw_491 iw_4 (hw_gc ic_Li_isNode)
theorem ic_Li_level : Cond.code y_Li_level b_Li_level 2 (some .int) ∈ hw_G := hw_in 256 (by decide +kernel) rfl
theorem gy_Li_level : GoodIn hw_G ([.instanceMethod y_Li_level, .selects R_Li y_Li_level y_Li_level, .initialized R_Li] ++ (.code y_Li_level b_Li_level 2 (some .int) :: hw_G)) := hw_g3 iw_212 iw_213 iw_4 (hw_gc ic_Li_level)
theorem ic_Li_levelOf : Cond.code y_Li_levelOf b_Li_levelOf 3 (some .int) ∈ hw_G := hw_in 252 (by decide +kernel) rfl
theorem gs_Li_levelOf : GoodIn hw_G ([.static y_Li_levelOf, .initialized R_Li] ++ (.code y_Li_levelOf b_Li_levelOf 3 (some .int) :: hw_G)) := hw_g2 iw_209 iw_4 (hw_gc ic_Li_levelOf)
theorem ic_Li_linked : Cond.code y_Li_linked b_Li_linked 4 (some .int) ∈ hw_G := hw_in 342 (by decide +kernel) rfl
theorem gy_Li_linked : GoodIn hw_G ([.instanceMethod y_Li_linked, .selects R_Li y_Li_linked y_Li_linked, .initialized R_Li] ++ (.code y_Li_linked b_Li_linked 4 (some .int) :: hw_G)) := hw_g3 iw_298 iw_299 iw_4 (hw_gc ic_Li_linked)
theorem ic_Li_most : Cond.code y_Li_most b_Li_most 2 (some .int) ∈ hw_G := hw_in 400 (by decide +kernel) rfl
theorem gy_Li_most : GoodIn hw_G ([.instanceMethod y_Li_most, .selects R_Li y_Li_most y_Li_most, .initialized R_Li] ++ (.code y_Li_most b_Li_most 2 (some .int) :: hw_G)) := hw_g3 iw_356 iw_357 iw_4 (hw_gc ic_Li_most)
theorem ic_Li_oneSidedPairs : Cond.code y_Li_oneSidedPairs b_Li_oneSidedPairs 3 (some .int) ∈ hw_G := hw_in 589 (by decide +kernel) rfl
theorem gy_Li_oneSidedPairs : GoodIn hw_G ([.instanceMethod y_Li_oneSidedPairs, .selects R_Li y_Li_oneSidedPairs y_Li_oneSidedPairs, .initialized R_Li] ++ (.code y_Li_oneSidedPairs b_Li_oneSidedPairs 3 (some .int) :: hw_G)) := hw_g3 iw_545 iw_546 iw_4 (hw_gc ic_Li_oneSidedPairs)
theorem ic_Li_order : Cond.code y_Li_order b_Li_order 2 (some .int) ∈ hw_G := hw_in 547 (by decide +kernel) rfl
theorem gy_Li_order : GoodIn hw_G ([.instanceMethod y_Li_order, .selects R_Li y_Li_order y_Li_order, .initialized R_Li] ++ (.code y_Li_order b_Li_order 2 (some .int) :: hw_G)) := hw_g3 iw_503 iw_504 iw_4 (hw_gc ic_Li_order)
theorem ic_Li_reachedFrom : Cond.code y_Li_reachedFrom b_Li_reachedFrom 7 (some .int) ∈ hw_G := hw_in 603 (by decide +kernel) rfl
theorem gy_Li_reachedFrom : GoodIn hw_G ([.instanceMethod y_Li_reachedFrom, .selects R_Li y_Li_reachedFrom y_Li_reachedFrom, .initialized R_Li] ++ (.code y_Li_reachedFrom b_Li_reachedFrom 7 (some .int) :: hw_G)) := hw_g3 iw_559 iw_560 iw_4 (hw_gc ic_Li_reachedFrom)
theorem ic_Li_replace : Cond.code y_Li_replace b_Li_replace 5 none ∈ hw_G := hw_in 381 (by decide +kernel) rfl
theorem gy_Li_replace : GoodIn hw_G ([.instanceMethod y_Li_replace, .selects R_Li y_Li_replace y_Li_replace, .initialized R_Li] ++ (.code y_Li_replace b_Li_replace 5 none :: hw_G)) := hw_g3 iw_337 iw_338 iw_4 (hw_gc ic_Li_replace)
theorem ic_Li_size : Cond.code y_Li_size b_Li_size 1 (some .int) ∈ hw_G := hw_in 431 (by decide +kernel) rfl
theorem gy_Li_size : GoodIn hw_G ([.instanceMethod y_Li_size, .selects R_Li y_Li_size y_Li_size, .initialized R_Li] ++ (.code y_Li_size b_Li_size 1 (some .int) :: hw_G)) := hw_g3 iw_387 iw_388 iw_4 (hw_gc ic_Li_size)
theorem ic_Li_unreturned : Cond.code y_Li_unreturned b_Li_unreturned 4 (some .int) ∈ hw_G := hw_in 593 (by decide +kernel) rfl
theorem gy_Li_unreturned : GoodIn hw_G ([.instanceMethod y_Li_unreturned, .selects R_Li y_Li_unreturned y_Li_unreturned, .initialized R_Li] ++ (.code y_Li_unreturned b_Li_unreturned 4 (some .int) :: hw_G)) := hw_g3 iw_550 iw_m17 iw_4 (hw_gc ic_Li_unreturned)
theorem ic_Mo_aimAsked : Cond.code y_Mo_aimAsked b_Mo_aimAsked 2 none ∈ hw_G := hw_in 783 (by decide +kernel) rfl
theorem gy_Mo_aimAsked : GoodIn hw_G ([.instanceMethod y_Mo_aimAsked, .selects R_Mo y_Mo_aimAsked y_Mo_aimAsked, .initialized R_Mo] ++ (.code y_Mo_aimAsked b_Mo_aimAsked 2 none :: hw_G)) := hw_g3 iw_740 iw_m33 iw_8 (hw_gc ic_Mo_aimAsked)
theorem ic_Mo_aimAt : Cond.code y_Mo_aimAt b_Mo_aimAt 3 none ∈ hw_G := hw_in 712 (by decide +kernel) rfl
theorem gy_Mo_aimAt : GoodIn hw_G ([.instanceMethod y_Mo_aimAt, .selects R_Mo y_Mo_aimAt y_Mo_aimAt, .initialized R_Mo] ++ (.code y_Mo_aimAt b_Mo_aimAt 3 none :: hw_G)) := hw_g3 iw_669 iw_m20 iw_8 (hw_gc ic_Mo_aimAt)
theorem ic_Mo_ask : Cond.code y_Mo_ask b_Mo_ask 5 (some .boolean) ∈ hw_G := hw_in 771 (by decide +kernel) rfl
theorem gy_Mo_ask : GoodIn hw_G ([.instanceMethod y_Mo_ask, .selects R_Mo y_Mo_ask y_Mo_ask, .initialized R_Mo] ++ (.code y_Mo_ask b_Mo_ask 5 (some .boolean) :: hw_G)) := hw_g3 iw_727 iw_728 iw_8 (hw_gc ic_Mo_ask)
theorem ic_Mo_best : Cond.code y_Mo_best b_Mo_best 4 (some .int) ∈ hw_G := hw_in 807 (by decide +kernel) rfl
theorem gy_Mo_best : GoodIn hw_G ([.instanceMethod y_Mo_best, .selects R_Mo y_Mo_best y_Mo_best, .initialized R_Mo] ++ (.code y_Mo_best b_Mo_best 4 (some .int) :: hw_G)) := hw_g3 iw_764 iw_m37 iw_8 (hw_gc ic_Mo_best)
theorem ic_Mo_between : Cond.code y_Mo_between b_Mo_between 5 (some .int) ∈ hw_G := hw_in 751 (by decide +kernel) rfl
theorem gy_Mo_between : GoodIn hw_G ([.instanceMethod y_Mo_between, .selects R_Mo y_Mo_between y_Mo_between, .initialized R_Mo] ++ (.code y_Mo_between b_Mo_between 5 (some .int) :: hw_G)) := hw_g3 iw_708 iw_m29 iw_8 (hw_gc ic_Mo_between)
theorem ic_Mo_choose : Cond.code y_Mo_choose b_Mo_choose 6 none ∈ hw_G := hw_in 747 (by decide +kernel) rfl
theorem gy_Mo_choose : GoodIn hw_G ([.instanceMethod y_Mo_choose, .selects R_Mo y_Mo_choose y_Mo_choose, .initialized R_Mo] ++ (.code y_Mo_choose b_Mo_choose 6 none :: hw_G)) := hw_g3 iw_704 iw_m28 iw_8 (hw_gc ic_Mo_choose)
theorem ic_Mo_count : Cond.code y_Mo_count b_Mo_count 2 (some .int) ∈ hw_G := hw_in 831 (by decide +kernel) rfl
theorem gy_Mo_count : GoodIn hw_G ([.instanceMethod y_Mo_count, .selects R_Mo y_Mo_count y_Mo_count, .initialized R_Mo] ++ (.code y_Mo_count b_Mo_count 2 (some .int) :: hw_G)) := hw_g3 iw_787 iw_788 iw_8 (hw_gc ic_Mo_count)
theorem ic_Mo_countOf : Cond.code y_Mo_countOf b_Mo_countOf 3 (some .int) ∈ hw_G := hw_in 803 (by decide +kernel) rfl
theorem gy_Mo_countOf : GoodIn hw_G ([.instanceMethod y_Mo_countOf, .selects R_Mo y_Mo_countOf y_Mo_countOf, .initialized R_Mo] ++ (.code y_Mo_countOf b_Mo_countOf 3 (some .int) :: hw_G)) := hw_g3 iw_760 iw_m36 iw_8 (hw_gc ic_Mo_countOf)
theorem ic_Mo_enter : Cond.code y_Mo_enter b_Mo_enter 5 none ∈ hw_G := hw_in 708 (by decide +kernel) rfl
theorem gy_Mo_enter : GoodIn hw_G ([.instanceMethod y_Mo_enter, .selects R_Mo y_Mo_enter y_Mo_enter, .initialized R_Mo] ++ (.code y_Mo_enter b_Mo_enter 5 none :: hw_G)) := hw_g3 iw_665 iw_m19 iw_8 (hw_gc ic_Mo_enter)
theorem ic_Mo_exact : Cond.code y_Mo_exact b_Mo_exact 3 (some .int) ∈ hw_G := hw_in 787 (by decide +kernel) rfl
theorem gy_Mo_exact : GoodIn hw_G ([.instanceMethod y_Mo_exact, .selects R_Mo y_Mo_exact y_Mo_exact, .initialized R_Mo] ++ (.code y_Mo_exact b_Mo_exact 3 (some .int) :: hw_G)) := hw_g3 iw_743 iw_744 iw_8 (hw_gc ic_Mo_exact)
theorem ic_Mo_far : Cond.code y_Mo_far b_Mo_far 4 (some .int) ∈ hw_G := hw_in 731 (by decide +kernel) rfl
theorem gy_Mo_far : GoodIn hw_G ([.instanceMethod y_Mo_far, .selects R_Mo y_Mo_far y_Mo_far, .initialized R_Mo] ++ (.code y_Mo_far b_Mo_far 4 (some .int) :: hw_G)) := hw_g3 iw_688 iw_m24 iw_8 (hw_gc ic_Mo_far)
theorem ic_Mo_farthest : Cond.code y_Mo_farthest b_Mo_farthest 4 (some .int) ∈ hw_G := hw_in 723 (by decide +kernel) rfl
theorem gy_Mo_farthest : GoodIn hw_G ([.instanceMethod y_Mo_farthest, .selects R_Mo y_Mo_farthest y_Mo_farthest, .initialized R_Mo] ++ (.code y_Mo_farthest b_Mo_farthest 4 (some .int) :: hw_G)) := hw_g3 iw_680 iw_m22 iw_8 (hw_gc ic_Mo_farthest)
theorem ic_Mo_found : Cond.code y_Mo_found b_Mo_found 3 (some .int) ∈ hw_G := hw_in 819 (by decide +kernel) rfl
theorem gy_Mo_found : GoodIn hw_G ([.instanceMethod y_Mo_found, .selects R_Mo y_Mo_found y_Mo_found, .initialized R_Mo] ++ (.code y_Mo_found b_Mo_found 3 (some .int) :: hw_G)) := hw_g3 iw_775 iw_776 iw_8 (hw_gc ic_Mo_found)
theorem ic_Mo_fuse : Cond.code y_Mo_fuse b_Mo_fuse 5 (some .int) ∈ hw_G := hw_in 815 (by decide +kernel) rfl
theorem gy_Mo_fuse : GoodIn hw_G ([.instanceMethod y_Mo_fuse, .selects R_Mo y_Mo_fuse y_Mo_fuse, .initialized R_Mo] ++ (.code y_Mo_fuse b_Mo_fuse 5 (some .int) :: hw_G)) := hw_g3 iw_771 iw_772 iw_8 (hw_gc ic_Mo_fuse)
theorem ic_Mo_in : Cond.code y_Mo_in b_Mo_in 3 (some .boolean) ∈ hw_G := hw_in 703 (by decide +kernel) rfl
theorem gs_Mo_in : GoodIn hw_G ([.static y_Mo_in, .initialized R_Mo] ++ (.code y_Mo_in b_Mo_in 3 (some .boolean) :: hw_G)) := hw_g2 iw_660 iw_8 (hw_gc ic_Mo_in)
theorem ic_Mo_isNearer : Cond.code y_Mo_isNearer b_Mo_isNearer 3 (some .boolean) ∈ hw_G := hw_in 727 (by decide +kernel) rfl
theorem gy_Mo_isNearer : GoodIn hw_G ([.instanceMethod y_Mo_isNearer, .selects R_Mo y_Mo_isNearer y_Mo_isNearer, .initialized R_Mo] ++ (.code y_Mo_isNearer b_Mo_isNearer 3 (some .boolean) :: hw_G)) := hw_g3 iw_684 iw_m23 iw_8 (hw_gc ic_Mo_isNearer)
theorem ic_Mo_isNeighbour : Cond.code y_Mo_isNeighbour b_Mo_isNeighbour 4 (some .boolean) ∈ hw_G := hw_in 843 (by decide +kernel) rfl
theorem gy_Mo_isNeighbour : GoodIn hw_G ([.instanceMethod y_Mo_isNeighbour, .selects R_Mo y_Mo_isNeighbour y_Mo_isNeighbour, .initialized R_Mo] ++ (.code y_Mo_isNeighbour b_Mo_isNeighbour 4 (some .boolean) :: hw_G)) := hw_g3 iw_800 iw_m41 iw_8 (hw_gc ic_Mo_isNeighbour)
theorem ic_Mo_look : Cond.code y_Mo_look b_Mo_look 3 none ∈ hw_G := hw_in 739 (by decide +kernel) rfl
theorem gy_Mo_look : GoodIn hw_G ([.instanceMethod y_Mo_look, .selects R_Mo y_Mo_look y_Mo_look, .initialized R_Mo] ++ (.code y_Mo_look b_Mo_look 3 none :: hw_G)) := hw_g3 iw_696 iw_m26 iw_8 (hw_gc ic_Mo_look)
theorem ic_Mo_match : Cond.code y_Mo_match b_Mo_match 3 (some .int) ∈ hw_G := hw_in 791 (by decide +kernel) rfl
theorem gy_Mo_match : GoodIn hw_G ([.instanceMethod y_Mo_match, .selects R_Mo y_Mo_match y_Mo_match, .initialized R_Mo] ++ (.code y_Mo_match b_Mo_match 3 (some .int) :: hw_G)) := hw_g3 iw_747 iw_748 iw_8 (hw_gc ic_Mo_match)
theorem ic_Mo_near : Cond.code y_Mo_near b_Mo_near 4 (some .int) ∈ hw_G := hw_in 775 (by decide +kernel) rfl
theorem gy_Mo_near : GoodIn hw_G ([.instanceMethod y_Mo_near, .selects R_Mo y_Mo_near y_Mo_near, .initialized R_Mo] ++ (.code y_Mo_near b_Mo_near 4 (some .int) :: hw_G)) := hw_g3 iw_731 iw_732 iw_8 (hw_gc ic_Mo_near)
theorem ic_Mo_nearest : Cond.code y_Mo_nearest b_Mo_nearest 4 (some .int) ∈ hw_G := hw_in 735 (by decide +kernel) rfl
theorem gy_Mo_nearest : GoodIn hw_G ([.instanceMethod y_Mo_nearest, .selects R_Mo y_Mo_nearest y_Mo_nearest, .initialized R_Mo] ++ (.code y_Mo_nearest b_Mo_nearest 4 (some .int) :: hw_G)) := hw_g3 iw_692 iw_m25 iw_8 (hw_gc ic_Mo_nearest)
theorem ic_Mo_neighbour : Cond.code y_Mo_neighbour b_Mo_neighbour 4 (some .int) ∈ hw_G := hw_in 827 (by decide +kernel) rfl
theorem gy_Mo_neighbour : GoodIn hw_G ([.instanceMethod y_Mo_neighbour, .selects R_Mo y_Mo_neighbour y_Mo_neighbour, .initialized R_Mo] ++ (.code y_Mo_neighbour b_Mo_neighbour 4 (some .int) :: hw_G)) := hw_g3 iw_783 iw_784 iw_8 (hw_gc ic_Mo_neighbour)
theorem ic_Mo_node : Cond.code y_Mo_node b_Mo_node 3 (some .int) ∈ hw_G := hw_in 823 (by decide +kernel) rfl
theorem gy_Mo_node : GoodIn hw_G ([.instanceMethod y_Mo_node, .selects R_Mo y_Mo_node y_Mo_node, .initialized R_Mo] ++ (.code y_Mo_node b_Mo_node 3 (some .int) :: hw_G)) := hw_g3 iw_779 iw_780 iw_8 (hw_gc ic_Mo_node)
theorem ic_Mo_oneSided : Cond.code y_Mo_oneSided b_Mo_oneSided 4 (some .int) ∈ hw_G := hw_in 839 (by decide +kernel) rfl
theorem gy_Mo_oneSided : GoodIn hw_G ([.instanceMethod y_Mo_oneSided, .selects R_Mo y_Mo_oneSided y_Mo_oneSided, .initialized R_Mo] ++ (.code y_Mo_oneSided b_Mo_oneSided 4 (some .int) :: hw_G)) := hw_g3 iw_796 iw_m40 iw_8 (hw_gc ic_Mo_oneSided)
theorem ic_Mo_pick : Cond.code y_Mo_pick b_Mo_pick 2 none ∈ hw_G := hw_in 755 (by decide +kernel) rfl
theorem gy_Mo_pick : GoodIn hw_G ([.instanceMethod y_Mo_pick, .selects R_Mo y_Mo_pick y_Mo_pick, .initialized R_Mo] ++ (.code y_Mo_pick b_Mo_pick 2 none :: hw_G)) := hw_g3 iw_712 iw_m30 iw_8 (hw_gc ic_Mo_pick)
theorem ic_Mo_placeOf : Cond.code y_Mo_placeOf b_Mo_placeOf 4 (some .int) ∈ hw_G := hw_in 811 (by decide +kernel) rfl
theorem gy_Mo_placeOf : GoodIn hw_G ([.instanceMethod y_Mo_placeOf, .selects R_Mo y_Mo_placeOf y_Mo_placeOf, .initialized R_Mo] ++ (.code y_Mo_placeOf b_Mo_placeOf 4 (some .int) :: hw_G)) := hw_g3 iw_768 iw_m38 iw_8 (hw_gc ic_Mo_placeOf)
theorem ic_Mo_put : Cond.code y_Mo_put b_Mo_put 7 (some .int) ∈ hw_G := hw_in 700 (by decide +kernel) rfl
theorem gy_Mo_put : GoodIn hw_G ([.instanceMethod y_Mo_put, .selects R_Mo y_Mo_put y_Mo_put, .initialized R_Mo] ++ (.code y_Mo_put b_Mo_put 7 (some .int) :: hw_G)) := hw_g3 iw_656 iw_657 iw_8 (hw_gc ic_Mo_put)
theorem ic_Mo_reached : Cond.code y_Mo_reached b_Mo_reached 4 (some .int) ∈ hw_G := hw_in 847 (by decide +kernel) rfl
theorem gy_Mo_reached : GoodIn hw_G ([.instanceMethod y_Mo_reached, .selects R_Mo y_Mo_reached y_Mo_reached, .initialized R_Mo] ++ (.code y_Mo_reached b_Mo_reached 4 (some .int) :: hw_G)) := hw_g3 iw_804 iw_m42 iw_8 (hw_gc ic_Mo_reached)
theorem ic_Mo_remove : Cond.code y_Mo_remove b_Mo_remove 2 (some .boolean) ∈ hw_G := hw_in 763 (by decide +kernel) rfl
theorem gy_Mo_remove : GoodIn hw_G ([.instanceMethod y_Mo_remove, .selects R_Mo y_Mo_remove y_Mo_remove, .initialized R_Mo] ++ (.code y_Mo_remove b_Mo_remove 2 (some .boolean) :: hw_G)) := hw_g3 iw_719 iw_720 iw_8 (hw_gc ic_Mo_remove)
theorem ic_Mo_renew : Cond.code y_Mo_renew b_Mo_renew 3 (some .int) ∈ hw_G := hw_in 767 (by decide +kernel) rfl
theorem gy_Mo_renew : GoodIn hw_G ([.instanceMethod y_Mo_renew, .selects R_Mo y_Mo_renew y_Mo_renew, .initialized R_Mo] ++ (.code y_Mo_renew b_Mo_renew 3 (some .int) :: hw_G)) := hw_g3 iw_723 iw_724 iw_8 (hw_gc ic_Mo_renew)
theorem ic_Mo_right : Cond.code y_Mo_right b_Mo_right 5 (some .int) ∈ hw_G := hw_in 835 (by decide +kernel) rfl
theorem gy_Mo_right : GoodIn hw_G ([.instanceMethod y_Mo_right, .selects R_Mo y_Mo_right y_Mo_right, .initialized R_Mo] ++ (.code y_Mo_right b_Mo_right 5 (some .int) :: hw_G)) := hw_g3 iw_792 iw_m39 iw_8 (hw_gc ic_Mo_right)
theorem ic_Mo_score : Cond.code y_Mo_score b_Mo_score 3 none ∈ hw_G := hw_in 795 (by decide +kernel) rfl
theorem gy_Mo_score : GoodIn hw_G ([.instanceMethod y_Mo_score, .selects R_Mo y_Mo_score y_Mo_score, .initialized R_Mo] ++ (.code y_Mo_score b_Mo_score 3 none :: hw_G)) := hw_g3 iw_752 iw_m34 iw_8 (hw_gc ic_Mo_score)
theorem ic_Mo_scoreOf : Cond.code y_Mo_scoreOf b_Mo_scoreOf 9 (some .int) ∈ hw_G := hw_in 799 (by decide +kernel) rfl
theorem gy_Mo_scoreOf : GoodIn hw_G ([.instanceMethod y_Mo_scoreOf, .selects R_Mo y_Mo_scoreOf y_Mo_scoreOf, .initialized R_Mo] ++ (.code y_Mo_scoreOf b_Mo_scoreOf 9 (some .int) :: hw_G)) := hw_g3 iw_756 iw_m35 iw_8 (hw_gc ic_Mo_scoreOf)
theorem ic_Mo_search : Cond.code y_Mo_search b_Mo_search 4 none ∈ hw_G := hw_in 779 (by decide +kernel) rfl
theorem gy_Mo_search : GoodIn hw_G ([.instanceMethod y_Mo_search, .selects R_Mo y_Mo_search y_Mo_search, .initialized R_Mo] ++ (.code y_Mo_search b_Mo_search 4 none :: hw_G)) := hw_g3 iw_736 iw_m32 iw_8 (hw_gc ic_Mo_search)
theorem ic_Mo_size : Cond.code y_Mo_size b_Mo_size 3 (some .int) ∈ hw_G := hw_in 719 (by decide +kernel) rfl
theorem gs_Mo_size : GoodIn hw_G ([.static y_Mo_size, .initialized R_Mo] ++ (.code y_Mo_size b_Mo_size 3 (some .int) :: hw_G)) := hw_g2 iw_676 iw_8 (hw_gc ic_Mo_size)
theorem ic_Mo_take : Cond.code y_Mo_take b_Mo_take 3 none ∈ hw_G := hw_in 759 (by decide +kernel) rfl
theorem gy_Mo_take : GoodIn hw_G ([.instanceMethod y_Mo_take, .selects R_Mo y_Mo_take y_Mo_take, .initialized R_Mo] ++ (.code y_Mo_take b_Mo_take 3 none :: hw_G)) := hw_g3 iw_716 iw_m31 iw_8 (hw_gc ic_Mo_take)
theorem ic_Mo_tie : Cond.code y_Mo_tie b_Mo_tie 8 none ∈ hw_G := hw_in 743 (by decide +kernel) rfl
theorem gy_Mo_tie : GoodIn hw_G ([.instanceMethod y_Mo_tie, .selects R_Mo y_Mo_tie y_Mo_tie, .initialized R_Mo] ++ (.code y_Mo_tie b_Mo_tie 8 none :: hw_G)) := hw_g3 iw_700 iw_m27 iw_8 (hw_gc ic_Mo_tie)
theorem ic_Mo_walk : Cond.code y_Mo_walk b_Mo_walk 7 (some .int) ∈ hw_G := hw_in 716 (by decide +kernel) rfl
theorem gy_Mo_walk : GoodIn hw_G ([.instanceMethod y_Mo_walk, .selects R_Mo y_Mo_walk y_Mo_walk, .initialized R_Mo] ++ (.code y_Mo_walk b_Mo_walk 7 (some .int) :: hw_G)) := hw_g3 iw_673 iw_m21 iw_8 (hw_gc ic_Mo_walk)
theorem ic_Nd_addPoints : Cond.code y_Nd_addPoints b_Nd_addPoints 3 none ∈ hw_G := hw_in 518 (by decide +kernel) rfl
theorem gy_Nd_addPoints : GoodIn hw_G ([.instanceMethod y_Nd_addPoints, .selects R_Nd y_Nd_addPoints y_Nd_addPoints, .initialized R_Nd] ++ (.code y_Nd_addPoints b_Nd_addPoints 3 none :: hw_G)) := hw_g3 iw_475 iw_m14 iw_1 (hw_gc ic_Nd_addPoints)
theorem ic_Nd_ask : Cond.code y_Nd_ask b_Nd_ask 5 (some .boolean) ∈ hw_G := hw_in 449 (by decide +kernel) rfl
theorem gy_Nd_ask : GoodIn hw_G ([.instanceMethod y_Nd_ask, .selects R_Nd y_Nd_ask y_Nd_ask, .initialized R_Nd] ++ (.code y_Nd_ask b_Nd_ask 5 (some .boolean) :: hw_G)) := hw_g3 iw_405 iw_406 iw_1 (hw_gc ic_Nd_ask)
theorem ic_Nd_clearPoints : Cond.code y_Nd_clearPoints b_Nd_clearPoints 2 none ∈ hw_G := hw_in 514 (by decide +kernel) rfl
theorem gy_Nd_clearPoints : GoodIn hw_G ([.instanceMethod y_Nd_clearPoints, .selects R_Nd y_Nd_clearPoints y_Nd_clearPoints, .initialized R_Nd] ++ (.code y_Nd_clearPoints b_Nd_clearPoints 2 none :: hw_G)) := hw_g3 iw_471 iw_m13 iw_1 (hw_gc ic_Nd_clearPoints)
theorem ic_Nd_count : Cond.code y_Nd_count b_Nd_count 2 (some .int) ∈ hw_G := hw_in 564 (by decide +kernel) rfl
theorem gy_Nd_count : GoodIn hw_G ([.instanceMethod y_Nd_count, .selects R_Nd y_Nd_count y_Nd_count, .initialized R_Nd] ++ (.code y_Nd_count b_Nd_count 2 (some .int) :: hw_G)) := hw_g3 iw_520 iw_521 iw_1 (hw_gc ic_Nd_count)
theorem ic_Nd_distance : Cond.code y_Nd_distance b_Nd_distance 5 (some .int) ∈ hw_G := hw_in 271 (by decide +kernel) rfl
theorem gs_Nd_distance : GoodIn hw_G ([.static y_Nd_distance, .initialized R_Nd] ++ (.code y_Nd_distance b_Nd_distance 5 (some .int) :: hw_G)) := hw_g2 iw_228 iw_1 (hw_gc ic_Nd_distance)
theorem ic_Nd_exact : Cond.code y_Nd_exact b_Nd_exact 2 (some .int) ∈ hw_G := hw_in 476 (by decide +kernel) rfl
theorem gy_Nd_exact : GoodIn hw_G ([.instanceMethod y_Nd_exact, .selects R_Nd y_Nd_exact y_Nd_exact, .initialized R_Nd] ++ (.code y_Nd_exact b_Nd_exact 2 (some .int) :: hw_G)) := hw_g3 iw_432 iw_433 iw_1 (hw_gc ic_Nd_exact)
theorem ic_Nd_found : Cond.code y_Nd_found b_Nd_found 4 (some .int) ∈ hw_G := hw_in 526 (by decide +kernel) rfl
theorem gy_Nd_found : GoodIn hw_G ([.instanceMethod y_Nd_found, .selects R_Nd y_Nd_found y_Nd_found, .initialized R_Nd] ++ (.code y_Nd_found b_Nd_found 4 (some .int) :: hw_G)) := hw_g3 iw_482 iw_483 iw_1 (hw_gc ic_Nd_found)
theorem ic_Nd_foundAmongNearest : Cond.code y_Nd_foundAmongNearest b_Nd_foundAmongNearest 3 (some .int) ∈ hw_G := hw_in 581 (by decide +kernel) rfl
theorem gy_Nd_foundAmongNearest : GoodIn hw_G ([.instanceMethod y_Nd_foundAmongNearest, .selects R_Nd y_Nd_foundAmongNearest y_Nd_foundAmongNearest, .initialized R_Nd] ++ (.code y_Nd_foundAmongNearest b_Nd_foundAmongNearest 3 (some .int) :: hw_G)) := hw_g3 iw_538 iw_m16 iw_1 (hw_gc ic_Nd_foundAmongNearest)
theorem ic_Nd_fuse : Cond.code y_Nd_fuse b_Nd_fuse 3 (some .int) ∈ hw_G := hw_in 510 (by decide +kernel) rfl
theorem gy_Nd_fuse : GoodIn hw_G ([.instanceMethod y_Nd_fuse, .selects R_Nd y_Nd_fuse y_Nd_fuse, .initialized R_Nd] ++ (.code y_Nd_fuse b_Nd_fuse 3 (some .int) :: hw_G)) := hw_g3 iw_466 iw_467 iw_1 (hw_gc ic_Nd_fuse)
theorem ic_Nd_isCoordinate : Cond.code y_Nd_isCoordinate b_Nd_isCoordinate 1 (some .boolean) ∈ hw_G := hw_in 226 (by decide +kernel) rfl
theorem gs_Nd_isCoordinate : GoodIn hw_G ([.static y_Nd_isCoordinate, .initialized R_Nd] ++ (.code y_Nd_isCoordinate b_Nd_isCoordinate 1 (some .boolean) :: hw_G)) := hw_g2 iw_183 iw_1 (hw_gc ic_Nd_isCoordinate)
theorem ic_Nd_isDocumentNumber : Cond.code y_Nd_isDocumentNumber b_Nd_isDocumentNumber 1 (some .boolean) ∈ hw_G := hw_in 422 (by decide +kernel) rfl
theorem gs_Nd_isDocumentNumber : GoodIn hw_G ([.static y_Nd_isDocumentNumber, .initialized R_Nd] ++ (.code y_Nd_isDocumentNumber b_Nd_isDocumentNumber 1 (some .boolean) :: hw_G)) := hw_g2 iw_379 iw_1 (hw_gc ic_Nd_isDocumentNumber)
theorem ic_Nd_isIn : Cond.code y_Nd_isIn b_Nd_isIn 2 (some .boolean) ∈ hw_G := hw_in 345 (by decide +kernel) rfl
theorem gs_Nd_isIn : GoodIn hw_G ([.static y_Nd_isIn, .initialized R_Nd] ++ (.code y_Nd_isIn b_Nd_isIn 2 (some .boolean) :: hw_G)) := hw_g2 iw_302 iw_1 (hw_gc ic_Nd_isIn)
theorem ic_Nd_isVector : Cond.code y_Nd_isVector b_Nd_isVector 4 (some .boolean) ∈ hw_G := hw_in 223 (by decide +kernel) rfl
theorem gs_Nd_isVector : GoodIn hw_G ([.static y_Nd_isVector, .initialized R_Nd] ++ (.code y_Nd_isVector b_Nd_isVector 4 (some .boolean) :: hw_G)) := hw_g2 iw_180 iw_1 (hw_gc ic_Nd_isVector)
theorem ic_Nd_isWithin : Cond.code y_Nd_isWithin b_Nd_isWithin 3 (some .boolean) ∈ hw_G := hw_in 229 (by decide +kernel) rfl
theorem gs_Nd_isWithin : GoodIn hw_G ([.static y_Nd_isWithin, .initialized R_Nd] ++ (.code y_Nd_isWithin b_Nd_isWithin 3 (some .boolean) :: hw_G)) := hw_g2 iw_186 iw_1 (hw_gc ic_Nd_isWithin)
theorem ic_Nd_match : Cond.code y_Nd_match b_Nd_match 3 (some .int) ∈ hw_G := hw_in 485 (by decide +kernel) rfl
theorem gy_Nd_match : GoodIn hw_G ([.instanceMethod y_Nd_match, .selects R_Nd y_Nd_match y_Nd_match, .initialized R_Nd] ++ (.code y_Nd_match b_Nd_match 3 (some .int) :: hw_G)) := hw_g3 iw_441 iw_442 iw_1 (hw_gc ic_Nd_match)
theorem ic_Nd_near : Cond.code y_Nd_near b_Nd_near 3 (some .int) ∈ hw_G := hw_in 454 (by decide +kernel) rfl
theorem gy_Nd_near : GoodIn hw_G ([.instanceMethod y_Nd_near, .selects R_Nd y_Nd_near y_Nd_near, .initialized R_Nd] ++ (.code y_Nd_near b_Nd_near 3 (some .int) :: hw_G)) := hw_g3 iw_410 iw_411 iw_1 (hw_gc ic_Nd_near)
theorem ic_Nd_neighbour : Cond.code y_Nd_neighbour b_Nd_neighbour 4 (some .int) ∈ hw_G := hw_in 559 (by decide +kernel) rfl
theorem gy_Nd_neighbour : GoodIn hw_G ([.instanceMethod y_Nd_neighbour, .selects R_Nd y_Nd_neighbour y_Nd_neighbour, .initialized R_Nd] ++ (.code y_Nd_neighbour b_Nd_neighbour 4 (some .int) :: hw_G)) := hw_g3 iw_515 iw_516 iw_1 (hw_gc ic_Nd_neighbour)
theorem ic_Nd_node : Cond.code y_Nd_node b_Nd_node 4 (some .int) ∈ hw_G := hw_in 530 (by decide +kernel) rfl
theorem gy_Nd_node : GoodIn hw_G ([.instanceMethod y_Nd_node, .selects R_Nd y_Nd_node y_Nd_node, .initialized R_Nd] ++ (.code y_Nd_node b_Nd_node 4 (some .int) :: hw_G)) := hw_g3 iw_486 iw_487 iw_1 (hw_gc ic_Nd_node)
theorem ic_Nd_put : Cond.code y_Nd_put b_Nd_put 7 (some .int) ∈ hw_G := hw_in 220 (by decide +kernel) rfl
theorem gy_Nd_put : GoodIn hw_G ([.instanceMethod y_Nd_put, .selects R_Nd y_Nd_put y_Nd_put, .initialized R_Nd] ++ (.code y_Nd_put b_Nd_put 7 (some .int) :: hw_G)) := hw_g3 iw_176 iw_177 iw_1 (hw_gc ic_Nd_put)
theorem ic_Nd_rankByPoints : Cond.code y_Nd_rankByPoints b_Nd_rankByPoints 3 none ∈ hw_G := hw_in 522 (by decide +kernel) rfl
theorem gy_Nd_rankByPoints : GoodIn hw_G ([.instanceMethod y_Nd_rankByPoints, .selects R_Nd y_Nd_rankByPoints y_Nd_rankByPoints, .initialized R_Nd] ++ (.code y_Nd_rankByPoints b_Nd_rankByPoints 3 none :: hw_G)) := hw_g3 iw_479 iw_m15 iw_1 (hw_gc ic_Nd_rankByPoints)
theorem ic_Nd_remove : Cond.code y_Nd_remove b_Nd_remove 2 (some .boolean) ∈ hw_G := hw_in 411 (by decide +kernel) rfl
theorem gy_Nd_remove : GoodIn hw_G ([.instanceMethod y_Nd_remove, .selects R_Nd y_Nd_remove y_Nd_remove, .initialized R_Nd] ++ (.code y_Nd_remove b_Nd_remove 2 (some .boolean) :: hw_G)) := hw_g3 iw_367 iw_368 iw_1 (hw_gc ic_Nd_remove)
theorem ic_Nd_renew : Cond.code y_Nd_renew b_Nd_renew 3 (some .int) ∈ hw_G := hw_in 427 (by decide +kernel) rfl
theorem gy_Nd_renew : GoodIn hw_G ([.instanceMethod y_Nd_renew, .selects R_Nd y_Nd_renew y_Nd_renew, .initialized R_Nd] ++ (.code y_Nd_renew b_Nd_renew 3 (some .int) :: hw_G)) := hw_g3 iw_383 iw_384 iw_1 (hw_gc ic_Nd_renew)
theorem ic_Nd_searchInto : Cond.code y_Nd_searchInto b_Nd_searchInto 6 none ∈ hw_G := hw_in 460 (by decide +kernel) rfl
theorem gy_Nd_searchInto : GoodIn hw_G ([.instanceMethod y_Nd_searchInto, .selects R_Nd y_Nd_searchInto y_Nd_searchInto, .initialized R_Nd] ++ (.code y_Nd_searchInto b_Nd_searchInto 6 none :: hw_G)) := hw_g3 iw_417 iw_m8 iw_1 (hw_gc ic_Nd_searchInto)
theorem ic_Nd_writeVector : Cond.code y_Nd_writeVector b_Nd_writeVector 5 none ∈ hw_G := hw_in 241 (by decide +kernel) rfl
theorem gs_Nd_writeVector : GoodIn hw_G ([.static y_Nd_writeVector, .initialized R_Nd] ++ (.code y_Nd_writeVector b_Nd_writeVector 5 none :: hw_G)) := hw_g2 iw_198 iw_1 (hw_gc ic_Nd_writeVector)
theorem ic_Rk_add : Cond.code y_Rk_add b_Rk_add 4 (some .boolean) ∈ hw_G := hw_in 282 (by decide +kernel) rfl
theorem gy_Rk_add : GoodIn hw_G ([.instanceMethod y_Rk_add, .selects R_Rk y_Rk_add y_Rk_add, .initialized R_Rk] ++ (.code y_Rk_add b_Rk_add 4 (some .boolean) :: hw_G)) := hw_g3 iw_238 iw_239 iw_6 (hw_gc ic_Rk_add)
theorem ic_Rk_changeRoom : Cond.code y_Rk_changeRoom b_Rk_changeRoom 2 none ∈ hw_G := hw_in 314 (by decide +kernel) rfl
theorem gy_Rk_changeRoom : GoodIn hw_G ([.instanceMethod y_Rk_changeRoom, .selects R_Rk y_Rk_changeRoom y_Rk_changeRoom, .initialized R_Rk] ++ (.code y_Rk_changeRoom b_Rk_changeRoom 2 none :: hw_G)) := hw_g3 iw_270 iw_271 iw_6 (hw_gc ic_Rk_changeRoom)
theorem ic_Rk_dropFirst : Cond.code y_Rk_dropFirst b_Rk_dropFirst 2 none ∈ hw_G := hw_in 322 (by decide +kernel) rfl
theorem gy_Rk_dropFirst : GoodIn hw_G ([.instanceMethod y_Rk_dropFirst, .selects R_Rk y_Rk_dropFirst y_Rk_dropFirst, .initialized R_Rk] ++ (.code y_Rk_dropFirst b_Rk_dropFirst 2 none :: hw_G)) := hw_g3 iw_278 iw_279 iw_6 (hw_gc ic_Rk_dropFirst)
theorem ic_Rk_holds : Cond.code y_Rk_holds b_Rk_holds 3 (some .boolean) ∈ hw_G := hw_in 585 (by decide +kernel) rfl
theorem gy_Rk_holds : GoodIn hw_G ([.instanceMethod y_Rk_holds, .selects R_Rk y_Rk_holds y_Rk_holds, .initialized R_Rk] ++ (.code y_Rk_holds b_Rk_holds 3 (some .boolean) :: hw_G)) := hw_g3 iw_541 iw_542 iw_6 (hw_gc ic_Rk_holds)
theorem ic_Rk_isFull : Cond.code y_Rk_isFull b_Rk_isFull 1 (some .boolean) ∈ hw_G := hw_in 286 (by decide +kernel) rfl
theorem gy_Rk_isFull : GoodIn hw_G ([.instanceMethod y_Rk_isFull, .selects R_Rk y_Rk_isFull y_Rk_isFull, .initialized R_Rk] ++ (.code y_Rk_isFull b_Rk_isFull 1 (some .boolean) :: hw_G)) := hw_g3 iw_242 iw_243 iw_6 (hw_gc ic_Rk_isFull)
theorem ic_Rk_lastPrecedes : Cond.code y_Rk_lastPrecedes b_Rk_lastPrecedes 3 (some .boolean) ∈ hw_G := hw_in 330 (by decide +kernel) rfl
theorem gy_Rk_lastPrecedes : GoodIn hw_G ([.instanceMethod y_Rk_lastPrecedes, .selects R_Rk y_Rk_lastPrecedes y_Rk_lastPrecedes, .initialized R_Rk] ++ (.code y_Rk_lastPrecedes b_Rk_lastPrecedes 3 (some .boolean) :: hw_G)) := hw_g3 iw_286 iw_287 iw_6 (hw_gc ic_Rk_lastPrecedes)
theorem ic_Rk_numberAt : Cond.code y_Rk_numberAt b_Rk_numberAt 2 (some .int) ∈ hw_G := hw_in 310 (by decide +kernel) rfl
theorem gy_Rk_numberAt : GoodIn hw_G ([.instanceMethod y_Rk_numberAt, .selects R_Rk y_Rk_numberAt y_Rk_numberAt, .initialized R_Rk] ++ (.code y_Rk_numberAt b_Rk_numberAt 2 (some .int) :: hw_G)) := hw_g3 iw_266 iw_267 iw_6 (hw_gc ic_Rk_numberAt)
theorem ic_Rk_precedes : Cond.code y_Rk_precedes b_Rk_precedes 5 (some .boolean) ∈ hw_G := hw_in 290 (by decide +kernel) rfl
theorem gy_Rk_precedes : GoodIn hw_G ([.instanceMethod y_Rk_precedes, .selects R_Rk y_Rk_precedes y_Rk_precedes, .initialized R_Rk] ++ (.code y_Rk_precedes b_Rk_precedes 5 (some .boolean) :: hw_G)) := hw_g3 iw_247 iw_m1 iw_6 (hw_gc ic_Rk_precedes)
theorem ic_Rk_size : Cond.code y_Rk_size b_Rk_size 1 (some .int) ∈ hw_G := hw_in 306 (by decide +kernel) rfl
theorem gy_Rk_size : GoodIn hw_G ([.instanceMethod y_Rk_size, .selects R_Rk y_Rk_size y_Rk_size, .initialized R_Rk] ++ (.code y_Rk_size b_Rk_size 1 (some .int) :: hw_G)) := hw_g3 iw_262 iw_263 iw_6 (hw_gc ic_Rk_size)
theorem ic_Rk_start : Cond.code y_Rk_start b_Rk_start 3 none ∈ hw_G := hw_in 275 (by decide +kernel) rfl
theorem gy_Rk_start : GoodIn hw_G ([.instanceMethod y_Rk_start, .selects R_Rk y_Rk_start y_Rk_start, .initialized R_Rk] ++ (.code y_Rk_start b_Rk_start 3 none :: hw_G)) := hw_g3 iw_231 iw_232 iw_6 (hw_gc ic_Rk_start)
theorem ic_Rk_valueAt : Cond.code y_Rk_valueAt b_Rk_valueAt 2 (some .int) ∈ hw_G := hw_in 318 (by decide +kernel) rfl
theorem gy_Rk_valueAt : GoodIn hw_G ([.instanceMethod y_Rk_valueAt, .selects R_Rk y_Rk_valueAt y_Rk_valueAt, .initialized R_Rk] ++ (.code y_Rk_valueAt b_Rk_valueAt 2 (some .int) :: hw_G)) := hw_g3 iw_274 iw_275 iw_6 (hw_gc ic_Rk_valueAt)
theorem ic_Wa_begin : Cond.code y_Wa_begin b_Wa_begin 3 none ∈ hw_G := hw_in 302 (by decide +kernel) rfl
theorem gy_Wa_begin : GoodIn hw_G ([.instanceMethod y_Wa_begin, .selects R_Wa y_Wa_begin y_Wa_begin, .initialized R_Wa] ++ (.code y_Wa_begin b_Wa_begin 3 none :: hw_G)) := hw_g3 iw_259 iw_m2 iw_5 (hw_gc ic_Wa_begin)
theorem ic_Wa_held : Cond.code y_Wa_held b_Wa_held 1 (some (.object "NearDesk$Ranking")) ∈ hw_G := hw_in 359 (by decide +kernel) rfl
theorem gy_Wa_held : GoodIn hw_G ([.instanceMethod y_Wa_held, .selects R_Wa y_Wa_held y_Wa_held, .initialized R_Wa] ++ (.code y_Wa_held b_Wa_held 1 (some (.object "NearDesk$Ranking")) :: hw_G)) := hw_g3 iw_315 iw_316 iw_5 (hw_gc ic_Wa_held)
theorem ic_Wa_lookAround : Cond.code y_Wa_lookAround b_Wa_lookAround 6 none ∈ hw_G := hw_in 334 (by decide +kernel) rfl
theorem gy_Wa_lookAround : GoodIn hw_G ([.instanceMethod y_Wa_lookAround, .selects R_Wa y_Wa_lookAround y_Wa_lookAround, .initialized R_Wa] ++ (.code y_Wa_lookAround b_Wa_lookAround 6 none :: hw_G)) := hw_g3 iw_291 iw_m3 iw_5 (hw_gc ic_Wa_lookAround)
theorem ic_Wa_standAt : Cond.code y_Wa_standAt b_Wa_standAt 4 none ∈ hw_G := hw_in 264 (by decide +kernel) rfl
theorem gy_Wa_standAt : GoodIn hw_G ([.instanceMethod y_Wa_standAt, .selects R_Wa y_Wa_standAt y_Wa_standAt, .initialized R_Wa] ++ (.code y_Wa_standAt b_Wa_standAt 4 none :: hw_G)) := hw_g3 iw_220 iw_221 iw_5 (hw_gc ic_Wa_standAt)
theorem ic_Wa_standNowhere : Cond.code y_Wa_standNowhere b_Wa_standNowhere 1 none ∈ hw_G := hw_in 468 (by decide +kernel) rfl
theorem gy_Wa_standNowhere : GoodIn hw_G ([.instanceMethod y_Wa_standNowhere, .selects R_Wa y_Wa_standNowhere y_Wa_standNowhere, .initialized R_Wa] ++ (.code y_Wa_standNowhere b_Wa_standNowhere 1 none :: hw_G)) := hw_g3 iw_424 iw_425 iw_5 (hw_gc ic_Wa_standNowhere)
theorem ic_Wa_walk : Cond.code y_Wa_walk b_Wa_walk 6 (some .int) ∈ hw_G := hw_in 298 (by decide +kernel) rfl
theorem gy_Wa_walk : GoodIn hw_G ([.instanceMethod y_Wa_walk, .selects R_Wa y_Wa_walk y_Wa_walk, .initialized R_Wa] ++ (.code y_Wa_walk b_Wa_walk 6 (some .int) :: hw_G)) := hw_g3 iw_254 iw_255 iw_5 (hw_gc ic_Wa_walk)
theorem iw_max_static : Cond.static Lib.Math.max.name ∈ hw_G := hw_in 324 (by decide +kernel) rfl
theorem iw_max_code : Cond.code Lib.Math.max.name Lib.Math.max.code 2 (some .int) ∈ hw_G := hw_in 325 (by decide +kernel) rfl
theorem iw_min_static : Cond.static Lib.Math.min.name ∈ hw_G := hw_in 277 (by decide +kernel) rfl
theorem iw_min_code : Cond.code Lib.Math.min.name Lib.Math.min.code 2 (some .int) ∈ hw_G := hw_in 278 (by decide +kernel) rfl
theorem iw_math_init : Cond.initialized "java/lang/Math" ∈ hw_G := hw_in 51 (by decide +kernel) rfl
