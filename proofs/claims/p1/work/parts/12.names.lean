/-! More names: the law and its helpers. -/
abbrev y_La_transition : MethodName := { cls := "NetUnfolderLaw", name := "transition", desc := "(LNetUnfolder;II[J)I" }
abbrev y_La_first : MethodName := { cls := "NetUnfolderLaw", name := "first", desc := "(LNetUnfolder;I)I" }
abbrev y_La_reach : MethodName := { cls := "NetUnfolderLaw", name := "reach", desc := "(LNetUnfolder;I[J)I" }
abbrev y_La_deadlock : MethodName := { cls := "NetUnfolderLaw", name := "deadlock", desc := "(LNetUnfolder;[J)I" }
abbrev y_La_play : MethodName := { cls := "NetUnfolderLaw", name := "play", desc := "(LNetUnfolder;I[J)I" }
set_option maxRecDepth 20000 in
theorem wd_3_4 : (Jvm.Cond.classLink "NetUnfolderLaw" (13 : Nat) "java/lang/IllegalArgumentException") ∈ wsA := wA_3 (List.mem_of_getElem? (i := 4) rfl) rfl
set_option maxRecDepth 20000 in
theorem wd_3_5 : (Jvm.Cond.classLink "NetUnfolderLaw" (15 : Nat) "java/lang/IllegalStateException") ∈ wsA := wA_3 (List.mem_of_getElem? (i := 5) rfl) rfl
set_option maxRecDepth 20000 in
theorem wd_3_6 : (Jvm.Cond.methodLink "NetUnfolderLaw" (7 : Nat) ({ cls := "NetUnfolder", name := "transition", desc := "(II)I" } : Jvm.MethodName)) ∈ wsA := wA_3 (List.mem_of_getElem? (i := 6) rfl) rfl
set_option maxRecDepth 20000 in
theorem wd_3_7 : (Jvm.Cond.instanceMethod ({ cls := "NetUnfolder", name := "transition", desc := "(II)I" } : Jvm.MethodName)) ∈ wsA := wA_3 (List.mem_of_getElem? (i := 7) rfl) rfl
set_option maxRecDepth 20000 in
theorem wd_3_8 : (Jvm.Cond.selects "NetUnfolder" ({ cls := "NetUnfolder", name := "transition", desc := "(II)I" } : Jvm.MethodName) ({ cls := "NetUnfolder", name := "transition", desc := "(II)I" } : Jvm.MethodName)) ∈ wsA := wA_3 (List.mem_of_getElem? (i := 8) rfl) rfl
set_option maxRecDepth 20000 in
theorem wd_3_9 : (Jvm.Cond.code ({ cls := "NetUnfolder", name := "transition", desc := "(II)I" } : Jvm.MethodName) prog_1_method_2_code (3 : Nat) (Option.some Jvm.ClassFile.FieldType.int)) ∈ wsA := wA_3 (List.mem_of_getElem? (i := 9) rfl) rfl
set_option maxRecDepth 20000 in
theorem wd_3_97 : (Jvm.Cond.methodLink "NetUnfolderLaw" (17 : Nat) ({ cls := "NetUnfolder", name := "first", desc := "(I)V" } : Jvm.MethodName)) ∈ wsA := wA_3 (List.mem_of_getElem? (i := 97) rfl) rfl
set_option maxRecDepth 20000 in
theorem wd_3_98 : (Jvm.Cond.instanceMethod ({ cls := "NetUnfolder", name := "first", desc := "(I)V" } : Jvm.MethodName)) ∈ wsA := wA_3 (List.mem_of_getElem? (i := 98) rfl) rfl
set_option maxRecDepth 20000 in
theorem wd_3_99 : (Jvm.Cond.selects "NetUnfolder" ({ cls := "NetUnfolder", name := "first", desc := "(I)V" } : Jvm.MethodName) ({ cls := "NetUnfolder", name := "first", desc := "(I)V" } : Jvm.MethodName)) ∈ wsA := wA_3 (List.mem_of_getElem? (i := 99) rfl) rfl
set_option maxRecDepth 20000 in
theorem wd_3_100 : (Jvm.Cond.code ({ cls := "NetUnfolder", name := "first", desc := "(I)V" } : Jvm.MethodName) prog_1_method_3_code (2 : Nat) (Option.none : Option Jvm.ClassFile.FieldType)) ∈ wsA := wA_3 (List.mem_of_getElem? (i := 100) rfl) rfl
set_option maxRecDepth 20000 in
theorem wd_3_104 : (Jvm.Cond.methodLink "NetUnfolderLaw" (21 : Nat) ({ cls := "NetUnfolder", name := "reach", desc := "(I)I" } : Jvm.MethodName)) ∈ wsA := wA_3 (List.mem_of_getElem? (i := 104) rfl) rfl
set_option maxRecDepth 20000 in
theorem wd_3_105 : (Jvm.Cond.instanceMethod ({ cls := "NetUnfolder", name := "reach", desc := "(I)I" } : Jvm.MethodName)) ∈ wsA := wA_3 (List.mem_of_getElem? (i := 105) rfl) rfl
set_option maxRecDepth 20000 in
theorem wd_3_106 : (Jvm.Cond.selects "NetUnfolder" ({ cls := "NetUnfolder", name := "reach", desc := "(I)I" } : Jvm.MethodName) ({ cls := "NetUnfolder", name := "reach", desc := "(I)I" } : Jvm.MethodName)) ∈ wsA := wA_3 (List.mem_of_getElem? (i := 106) rfl) rfl
set_option maxRecDepth 20000 in
theorem wd_3_107 : (Jvm.Cond.code ({ cls := "NetUnfolder", name := "reach", desc := "(I)I" } : Jvm.MethodName) prog_1_method_6_code (2 : Nat) (Option.some Jvm.ClassFile.FieldType.int)) ∈ wsA := wA_3 (List.mem_of_getElem? (i := 107) rfl) rfl
set_option maxRecDepth 20000 in
theorem wd_3_214 : (Jvm.Cond.methodLink "NetUnfolderLaw" (25 : Nat) ({ cls := "NetUnfolder", name := "deadlock", desc := "()I" } : Jvm.MethodName)) ∈ wsA := wA_3 (List.mem_of_getElem? (i := 214) rfl) rfl
set_option maxRecDepth 20000 in
theorem wd_3_215 : (Jvm.Cond.instanceMethod ({ cls := "NetUnfolder", name := "deadlock", desc := "()I" } : Jvm.MethodName)) ∈ wsA := wA_3 (List.mem_of_getElem? (i := 215) rfl) rfl
set_option maxRecDepth 20000 in
theorem wd_3_216 : (Jvm.Cond.selects "NetUnfolder" ({ cls := "NetUnfolder", name := "deadlock", desc := "()I" } : Jvm.MethodName) ({ cls := "NetUnfolder", name := "deadlock", desc := "()I" } : Jvm.MethodName)) ∈ wsA := wA_3 (List.mem_of_getElem? (i := 216) rfl) rfl
set_option maxRecDepth 20000 in
theorem wd_3_217 : (Jvm.Cond.code ({ cls := "NetUnfolder", name := "deadlock", desc := "()I" } : Jvm.MethodName) prog_1_method_7_code (1 : Nat) (Option.some Jvm.ClassFile.FieldType.int)) ∈ wsA := wA_3 (List.mem_of_getElem? (i := 217) rfl) rfl
set_option maxRecDepth 20000 in
theorem wd_3_225 : (Jvm.Cond.methodLink "NetUnfolderLaw" (29 : Nat) ({ cls := "NetUnfolder", name := "play", desc := "(I)I" } : Jvm.MethodName)) ∈ wsA := wA_3 (List.mem_of_getElem? (i := 225) rfl) rfl
set_option maxRecDepth 20000 in
theorem wd_3_226 : (Jvm.Cond.instanceMethod ({ cls := "NetUnfolder", name := "play", desc := "(I)I" } : Jvm.MethodName)) ∈ wsA := wA_3 (List.mem_of_getElem? (i := 226) rfl) rfl
set_option maxRecDepth 20000 in
theorem wd_3_227 : (Jvm.Cond.selects "NetUnfolder" ({ cls := "NetUnfolder", name := "play", desc := "(I)I" } : Jvm.MethodName) ({ cls := "NetUnfolder", name := "play", desc := "(I)I" } : Jvm.MethodName)) ∈ wsA := wA_3 (List.mem_of_getElem? (i := 227) rfl) rfl
set_option maxRecDepth 20000 in
theorem wd_3_228 : (Jvm.Cond.code ({ cls := "NetUnfolder", name := "play", desc := "(I)I" } : Jvm.MethodName) prog_1_method_9_code (6 : Nat) (Option.some Jvm.ClassFile.FieldType.int)) ∈ wsA := wA_3 (List.mem_of_getElem? (i := 228) rfl) rfl
