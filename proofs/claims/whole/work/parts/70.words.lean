theorem iw_obj_inst : Cond.instanceMethod objectInit ∈ hw_G := hw_in 59 (by decide +kernel) rfl
theorem iw_obj_code : Cond.code objectInit ⟨#[0xb1]⟩ 1 none ∈ hw_G := hw_in 60 (by decide +kernel) rfl
theorem iw_11 : (Cond.classLink "NearDeskLaw" (7 : Nat) "NearDesk") ∈ hw_G := hw_in 53 (by decide +kernel) rfl
theorem iw_12 : (Cond.instantiable "NearDesk" (6 : Nat)) ∈ hw_G := hw_in 54 (by decide +kernel) rfl
theorem iw_13 : (Cond.methodLink "NearDeskLaw" (9 : Nat) ({ cls := "NearDesk", name := "<init>", desc := "()V" } : MethodName)) ∈ hw_G := hw_in 55 (by decide +kernel) rfl
theorem iw_14 : (Cond.instanceMethod ({ cls := "NearDesk", name := "<init>", desc := "()V" } : MethodName)) ∈ hw_G := hw_in 56 (by decide +kernel) rfl
theorem iw_16 : (Cond.methodLink "NearDesk" (3 : Nat) ({ cls := "java/lang/Object", name := "<init>", desc := "()V" } : MethodName)) ∈ hw_G := hw_in 58 (by decide +kernel) rfl
theorem iw_19 : (Cond.classLink "NearDesk" (9 : Nat) "NearDesk$Documents") ∈ hw_G := hw_in 61 (by decide +kernel) rfl
theorem iw_20 : (Cond.instantiable "NearDesk$Documents" (4 : Nat)) ∈ hw_G := hw_in 62 (by decide +kernel) rfl
theorem iw_22 : (Cond.instanceMethod ({ cls := "NearDesk$Documents", name := "<init>", desc := "()V" } : MethodName)) ∈ hw_G := hw_in 64 (by decide +kernel) rfl
theorem iw_24 : (Cond.methodLink "NearDesk$Documents" (3 : Nat) ({ cls := "java/lang/Object", name := "<init>", desc := "()V" } : MethodName)) ∈ hw_G := hw_in 66 (by decide +kernel) rfl
theorem iw_25 : (Cond.classLink "NearDesk$Documents" (9 : Nat) "[[I") ∈ hw_G := hw_in 67 (by decide +kernel) rfl
theorem iw_40 : (Cond.arrayClass FieldType.int) ∈ hw_G := hw_in 82 (by decide +kernel) rfl
theorem iw_41 : (Cond.classLink "NearDesk" (16 : Nat) "NearDesk$Graph") ∈ hw_G := hw_in 83 (by decide +kernel) rfl
theorem iw_42 : (Cond.instantiable "NearDesk$Graph" (7 : Nat)) ∈ hw_G := hw_in 84 (by decide +kernel) rfl
theorem iw_44 : (Cond.instanceMethod ({ cls := "NearDesk$Graph", name := "<init>", desc := "()V" } : MethodName)) ∈ hw_G := hw_in 86 (by decide +kernel) rfl
theorem iw_46 : (Cond.methodLink "NearDesk$Graph" (3 : Nat) ({ cls := "java/lang/Object", name := "<init>", desc := "()V" } : MethodName)) ∈ hw_G := hw_in 88 (by decide +kernel) rfl
theorem iw_47 : (Cond.classLink "NearDesk$Graph" (9 : Nat) "NearDesk$Links") ∈ hw_G := hw_in 89 (by decide +kernel) rfl
theorem iw_48 : (Cond.instantiable "NearDesk$Links" (6 : Nat)) ∈ hw_G := hw_in 90 (by decide +kernel) rfl
theorem iw_50 : (Cond.instanceMethod ({ cls := "NearDesk$Links", name := "<init>", desc := "()V" } : MethodName)) ∈ hw_G := hw_in 92 (by decide +kernel) rfl
theorem iw_52 : (Cond.methodLink "NearDesk$Links" (3 : Nat) ({ cls := "java/lang/Object", name := "<init>", desc := "()V" } : MethodName)) ∈ hw_G := hw_in 94 (by decide +kernel) rfl
theorem iw_72 : (Cond.classLink "NearDesk$Graph" (18 : Nat) "NearDesk$Walker") ∈ hw_G := hw_in 114 (by decide +kernel) rfl
theorem iw_73 : (Cond.instantiable "NearDesk$Walker" (4 : Nat)) ∈ hw_G := hw_in 115 (by decide +kernel) rfl
theorem iw_75 : (Cond.instanceMethod ({ cls := "NearDesk$Walker", name := "<init>", desc := "()V" } : MethodName)) ∈ hw_G := hw_in 117 (by decide +kernel) rfl
theorem iw_77 : (Cond.methodLink "NearDesk$Walker" (3 : Nat) ({ cls := "java/lang/Object", name := "<init>", desc := "()V" } : MethodName)) ∈ hw_G := hw_in 119 (by decide +kernel) rfl
theorem iw_78 : (Cond.classLink "NearDesk$Walker" (9 : Nat) "NearDesk$Ranking") ∈ hw_G := hw_in 120 (by decide +kernel) rfl
theorem iw_79 : (Cond.instantiable "NearDesk$Ranking" (5 : Nat)) ∈ hw_G := hw_in 121 (by decide +kernel) rfl
theorem iw_81 : (Cond.instanceMethod ({ cls := "NearDesk$Ranking", name := "<init>", desc := "()V" } : MethodName)) ∈ hw_G := hw_in 123 (by decide +kernel) rfl
theorem iw_83 : (Cond.methodLink "NearDesk$Ranking" (3 : Nat) ({ cls := "java/lang/Object", name := "<init>", desc := "()V" } : MethodName)) ∈ hw_G := hw_in 125 (by decide +kernel) rfl
theorem iw_113 : (Cond.classLink "NearDesk$Graph" (25 : Nat) "NearDesk$Chooser") ∈ hw_G := hw_in 155 (by decide +kernel) rfl
theorem iw_114 : (Cond.instantiable "NearDesk$Chooser" (3 : Nat)) ∈ hw_G := hw_in 156 (by decide +kernel) rfl
theorem iw_116 : (Cond.instanceMethod ({ cls := "NearDesk$Chooser", name := "<init>", desc := "()V" } : MethodName)) ∈ hw_G := hw_in 158 (by decide +kernel) rfl
theorem iw_118 : (Cond.methodLink "NearDesk$Chooser" (3 : Nat) ({ cls := "java/lang/Object", name := "<init>", desc := "()V" } : MethodName)) ∈ hw_G := hw_in 160 (by decide +kernel) rfl
theorem iw_129 : (Cond.classLink "NearDesk$Graph" (32 : Nat) "NearDesk$Ranking") ∈ hw_G := hw_in 171 (by decide +kernel) rfl
theorem iw_154 : (Cond.classLink "NearDesk" (23 : Nat) "NearDesk$Ranking") ∈ hw_G := hw_in 196 (by decide +kernel) rfl
theorem iw_563 : (Cond.classLink "NearDeskLaw" (10 : Nat) "NearDeskModel") ∈ hw_G := hw_in 605 (by decide +kernel) rfl
theorem iw_564 : (Cond.instantiable "NearDeskModel" (28 : Nat)) ∈ hw_G := hw_in 606 (by decide +kernel) rfl
theorem iw_565 : (Cond.methodLink "NearDeskLaw" (12 : Nat) ({ cls := "NearDeskModel", name := "<init>", desc := "()V" } : MethodName)) ∈ hw_G := hw_in 607 (by decide +kernel) rfl
theorem iw_566 : (Cond.instanceMethod ({ cls := "NearDeskModel", name := "<init>", desc := "()V" } : MethodName)) ∈ hw_G := hw_in 608 (by decide +kernel) rfl
theorem iw_568 : (Cond.methodLink "NearDeskModel" (1 : Nat) ({ cls := "java/lang/Object", name := "<init>", desc := "()V" } : MethodName)) ∈ hw_G := hw_in 610 (by decide +kernel) rfl
theorem iw_654 : (Cond.arrayClass FieldType.boolean) ∈ hw_G := hw_in 696 (by decide +kernel) rfl
theorem in_21 : (Cond.methodLinkNest "NearDesk" (11 : Nat) ({ cls := "NearDesk$Documents", name := "<init>", desc := "()V" } : MethodName) "NearDesk") ∈ hw_NW := hw_inN 63 (by decide +kernel) rfl
theorem in_43 : (Cond.methodLinkNest "NearDesk" (18 : Nat) ({ cls := "NearDesk$Graph", name := "<init>", desc := "()V" } : MethodName) "NearDesk") ∈ hw_NW := hw_inN 85 (by decide +kernel) rfl
theorem in_49 : (Cond.methodLinkNest "NearDesk$Graph" (11 : Nat) ({ cls := "NearDesk$Links", name := "<init>", desc := "()V" } : MethodName) "NearDesk") ∈ hw_NW := hw_inN 91 (by decide +kernel) rfl
theorem in_74 : (Cond.methodLinkNest "NearDesk$Graph" (20 : Nat) ({ cls := "NearDesk$Walker", name := "<init>", desc := "()V" } : MethodName) "NearDesk") ∈ hw_NW := hw_inN 116 (by decide +kernel) rfl
theorem in_80 : (Cond.methodLinkNest "NearDesk$Walker" (11 : Nat) ({ cls := "NearDesk$Ranking", name := "<init>", desc := "()V" } : MethodName) "NearDesk") ∈ hw_NW := hw_inN 122 (by decide +kernel) rfl
theorem in_115 : (Cond.methodLinkNest "NearDesk$Graph" (27 : Nat) ({ cls := "NearDesk$Chooser", name := "<init>", desc := "()V" } : MethodName) "NearDesk") ∈ hw_NW := hw_inN 157 (by decide +kernel) rfl
theorem in_130 : (Cond.methodLinkNest "NearDesk$Graph" (34 : Nat) ({ cls := "NearDesk$Ranking", name := "<init>", desc := "()V" } : MethodName) "NearDesk") ∈ hw_NW := hw_inN 172 (by decide +kernel) rfl
theorem in_155 : (Cond.methodLinkNest "NearDesk" (25 : Nat) ({ cls := "NearDesk$Ranking", name := "<init>", desc := "()V" } : MethodName) "NearDesk") ∈ hw_NW := hw_inN 197 (by decide +kernel) rfl
theorem ic_Ch_init : Cond.code y_Ch_init b_Ch_init 1 none ∈ hw_G := hw_in 159 (by decide +kernel) rfl
theorem ic_Do_init : Cond.code y_Do_init b_Do_init 1 none ∈ hw_G := hw_in 65 (by decide +kernel) rfl
theorem ic_Gr_init : Cond.code y_Gr_init b_Gr_init 1 none ∈ hw_G := hw_in 87 (by decide +kernel) rfl
theorem ic_Li_init : Cond.code y_Li_init b_Li_init 1 none ∈ hw_G := hw_in 93 (by decide +kernel) rfl
theorem ic_Mo_init : Cond.code y_Mo_init b_Mo_init 1 none ∈ hw_G := hw_in 609 (by decide +kernel) rfl
theorem ic_Nd_init : Cond.code y_Nd_init b_Nd_init 1 none ∈ hw_G := hw_in 57 (by decide +kernel) rfl
theorem ic_Rk_init : Cond.code y_Rk_init b_Rk_init 1 none ∈ hw_G := hw_in 124 (by decide +kernel) rfl
theorem ic_Wa_init : Cond.code y_Wa_init b_Wa_init 1 none ∈ hw_G := hw_in 118 (by decide +kernel) rfl
