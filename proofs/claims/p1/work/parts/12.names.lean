/-! More names: the law and its helpers. -/
abbrev y_La_transition : MethodName := { cls := "NetUnfolderLaw", name := "transition", desc := "(LNetUnfolder;II[J)I" }
abbrev y_La_first : MethodName := { cls := "NetUnfolderLaw", name := "first", desc := "(LNetUnfolder;I)I" }
abbrev y_La_reach : MethodName := { cls := "NetUnfolderLaw", name := "reach", desc := "(LNetUnfolder;I[J)I" }
abbrev y_La_deadlock : MethodName := { cls := "NetUnfolderLaw", name := "deadlock", desc := "(LNetUnfolder;[J)I" }
abbrev y_La_play : MethodName := { cls := "NetUnfolderLaw", name := "play", desc := "(LNetUnfolder;I[J)I" }
abbrev y_La_law : MethodName := { cls := "NetUnfolderLaw", name := "law", desc := "([I)Z" }
set_option maxRecDepth 20000 in
theorem wd_1_0 : (Jvm.Cond.initialized "NetUnfolderLaw") ∈ wsA := wA_1 (List.mem_of_getElem? (i := 0) rfl) rfl
set_option maxRecDepth 20000 in
theorem wd_1_19 : (Jvm.Cond.classLink "NetUnfolderLaw" (8 : Nat) "NetUnfolder") ∈ wsA := wA_1 (List.mem_of_getElem? (i := 19) rfl) rfl
set_option maxRecDepth 20000 in
theorem wd_1_20 : (Jvm.Cond.instantiable "NetUnfolder" (5 : Nat)) ∈ wsA := wA_1 (List.mem_of_getElem? (i := 20) rfl) rfl
set_option maxRecDepth 20000 in
theorem wd_1_21 : (Jvm.Cond.methodLink "NetUnfolderLaw" (32 : Nat) ({ cls := "NetUnfolder", name := "<init>", desc := "()V" } : Jvm.MethodName)) ∈ wsA := wA_1 (List.mem_of_getElem? (i := 21) rfl) rfl
set_option maxRecDepth 20000 in
theorem wd_1_22 : (Jvm.Cond.instanceMethod ({ cls := "NetUnfolder", name := "<init>", desc := "()V" } : Jvm.MethodName)) ∈ wsA := wA_1 (List.mem_of_getElem? (i := 22) rfl) rfl
set_option maxRecDepth 20000 in
theorem wd_1_23 : (Jvm.Cond.code ({ cls := "NetUnfolder", name := "<init>", desc := "()V" } : Jvm.MethodName) prog_1_method_1_code (1 : Nat) (Option.none : Option Jvm.ClassFile.FieldType)) ∈ wsA := wA_1 (List.mem_of_getElem? (i := 23) rfl) rfl
set_option maxRecDepth 20000 in
theorem wd_2_52 : (Jvm.Cond.methodLink "NetUnfolderLaw" (49 : Nat) ({ cls := "NetUnfolder", name := "clear", desc := "()V" } : Jvm.MethodName)) ∈ wsA := wA_2 (List.mem_of_getElem? (i := 52) rfl) rfl
set_option maxRecDepth 20000 in
theorem wd_2_53 : (Jvm.Cond.instanceMethod ({ cls := "NetUnfolder", name := "clear", desc := "()V" } : Jvm.MethodName)) ∈ wsA := wA_2 (List.mem_of_getElem? (i := 53) rfl) rfl
set_option maxRecDepth 20000 in
theorem wd_2_54 : (Jvm.Cond.selects "NetUnfolder" ({ cls := "NetUnfolder", name := "clear", desc := "()V" } : Jvm.MethodName) ({ cls := "NetUnfolder", name := "clear", desc := "()V" } : Jvm.MethodName)) ∈ wsA := wA_2 (List.mem_of_getElem? (i := 54) rfl) rfl
set_option maxRecDepth 20000 in
theorem wd_2_55 : (Jvm.Cond.code ({ cls := "NetUnfolder", name := "clear", desc := "()V" } : Jvm.MethodName) prog_1_method_4_code (1 : Nat) (Option.none : Option Jvm.ClassFile.FieldType)) ∈ wsA := wA_2 (List.mem_of_getElem? (i := 55) rfl) rfl
set_option maxRecDepth 20000 in
theorem wd_2_75 : (Jvm.Cond.methodLink "NetUnfolderLaw" (53 : Nat) ({ cls := "NetUnfolder", name := "unfold", desc := "()I" } : Jvm.MethodName)) ∈ wsA := wA_2 (List.mem_of_getElem? (i := 75) rfl) rfl
set_option maxRecDepth 20000 in
theorem wd_2_76 : (Jvm.Cond.instanceMethod ({ cls := "NetUnfolder", name := "unfold", desc := "()I" } : Jvm.MethodName)) ∈ wsA := wA_2 (List.mem_of_getElem? (i := 76) rfl) rfl
set_option maxRecDepth 20000 in
theorem wd_2_77 : (Jvm.Cond.selects "NetUnfolder" ({ cls := "NetUnfolder", name := "unfold", desc := "()I" } : Jvm.MethodName) ({ cls := "NetUnfolder", name := "unfold", desc := "()I" } : Jvm.MethodName)) ∈ wsA := wA_2 (List.mem_of_getElem? (i := 77) rfl) rfl
set_option maxRecDepth 20000 in
theorem wd_2_78 : (Jvm.Cond.code ({ cls := "NetUnfolder", name := "unfold", desc := "()I" } : Jvm.MethodName) prog_1_method_5_code (2 : Nat) (Option.some Jvm.ClassFile.FieldType.int)) ∈ wsA := wA_2 (List.mem_of_getElem? (i := 78) rfl) rfl
set_option maxRecDepth 20000 in
theorem wd_2_194 : (Jvm.Cond.methodLink "NetUnfolderLaw" (65 : Nat) ({ cls := "NetUnfolder", name := "way", desc := "(I)I" } : Jvm.MethodName)) ∈ wsA := wA_2 (List.mem_of_getElem? (i := 194) rfl) rfl
set_option maxRecDepth 20000 in
theorem wd_2_195 : (Jvm.Cond.instanceMethod ({ cls := "NetUnfolder", name := "way", desc := "(I)I" } : Jvm.MethodName)) ∈ wsA := wA_2 (List.mem_of_getElem? (i := 195) rfl) rfl
set_option maxRecDepth 20000 in
theorem wd_2_196 : (Jvm.Cond.selects "NetUnfolder" ({ cls := "NetUnfolder", name := "way", desc := "(I)I" } : Jvm.MethodName) ({ cls := "NetUnfolder", name := "way", desc := "(I)I" } : Jvm.MethodName)) ∈ wsA := wA_2 (List.mem_of_getElem? (i := 196) rfl) rfl
set_option maxRecDepth 20000 in
theorem wd_2_197 : (Jvm.Cond.code ({ cls := "NetUnfolder", name := "way", desc := "(I)I" } : Jvm.MethodName) prog_1_method_8_code (2 : Nat) (Option.some Jvm.ClassFile.FieldType.int)) ∈ wsA := wA_2 (List.mem_of_getElem? (i := 197) rfl) rfl
set_option maxRecDepth 20000 in
theorem wd_2_202 : (Jvm.Cond.methodLink "NetUnfolderLaw" (72 : Nat) ({ cls := "NetUnfolder", name := "count", desc := "(I)I" } : Jvm.MethodName)) ∈ wsA := wA_2 (List.mem_of_getElem? (i := 202) rfl) rfl
set_option maxRecDepth 20000 in
theorem wd_2_203 : (Jvm.Cond.instanceMethod ({ cls := "NetUnfolder", name := "count", desc := "(I)I" } : Jvm.MethodName)) ∈ wsA := wA_2 (List.mem_of_getElem? (i := 203) rfl) rfl
set_option maxRecDepth 20000 in
theorem wd_2_204 : (Jvm.Cond.selects "NetUnfolder" ({ cls := "NetUnfolder", name := "count", desc := "(I)I" } : Jvm.MethodName) ({ cls := "NetUnfolder", name := "count", desc := "(I)I" } : Jvm.MethodName)) ∈ wsA := wA_2 (List.mem_of_getElem? (i := 204) rfl) rfl
set_option maxRecDepth 20000 in
theorem wd_2_205 : (Jvm.Cond.code ({ cls := "NetUnfolder", name := "count", desc := "(I)I" } : Jvm.MethodName) prog_1_method_10_code (2 : Nat) (Option.some Jvm.ClassFile.FieldType.int)) ∈ wsA := wA_2 (List.mem_of_getElem? (i := 205) rfl) rfl
set_option maxRecDepth 20000 in
theorem wd_2_207 : (Jvm.Cond.methodLink "NetUnfolderLaw" (76 : Nat) ({ cls := "NetUnfolder", name := "event", desc := "(II)I" } : Jvm.MethodName)) ∈ wsA := wA_2 (List.mem_of_getElem? (i := 207) rfl) rfl
set_option maxRecDepth 20000 in
theorem wd_2_208 : (Jvm.Cond.instanceMethod ({ cls := "NetUnfolder", name := "event", desc := "(II)I" } : Jvm.MethodName)) ∈ wsA := wA_2 (List.mem_of_getElem? (i := 208) rfl) rfl
set_option maxRecDepth 20000 in
theorem wd_2_209 : (Jvm.Cond.selects "NetUnfolder" ({ cls := "NetUnfolder", name := "event", desc := "(II)I" } : Jvm.MethodName) ({ cls := "NetUnfolder", name := "event", desc := "(II)I" } : Jvm.MethodName)) ∈ wsA := wA_2 (List.mem_of_getElem? (i := 209) rfl) rfl
set_option maxRecDepth 20000 in
theorem wd_2_210 : (Jvm.Cond.code ({ cls := "NetUnfolder", name := "event", desc := "(II)I" } : Jvm.MethodName) prog_1_method_11_code (3 : Nat) (Option.some Jvm.ClassFile.FieldType.int)) ∈ wsA := wA_2 (List.mem_of_getElem? (i := 210) rfl) rfl
set_option maxRecDepth 20000 in
theorem wd_2_215 : (Jvm.Cond.methodLink "NetUnfolderLaw" (80 : Nat) ({ cls := "NetUnfolder", name := "takes", desc := "(II)I" } : Jvm.MethodName)) ∈ wsA := wA_2 (List.mem_of_getElem? (i := 215) rfl) rfl
set_option maxRecDepth 20000 in
theorem wd_2_216 : (Jvm.Cond.instanceMethod ({ cls := "NetUnfolder", name := "takes", desc := "(II)I" } : Jvm.MethodName)) ∈ wsA := wA_2 (List.mem_of_getElem? (i := 216) rfl) rfl
set_option maxRecDepth 20000 in
theorem wd_2_217 : (Jvm.Cond.selects "NetUnfolder" ({ cls := "NetUnfolder", name := "takes", desc := "(II)I" } : Jvm.MethodName) ({ cls := "NetUnfolder", name := "takes", desc := "(II)I" } : Jvm.MethodName)) ∈ wsA := wA_2 (List.mem_of_getElem? (i := 217) rfl) rfl
set_option maxRecDepth 20000 in
theorem wd_2_218 : (Jvm.Cond.code ({ cls := "NetUnfolder", name := "takes", desc := "(II)I" } : Jvm.MethodName) prog_1_method_12_code (3 : Nat) (Option.some Jvm.ClassFile.FieldType.int)) ∈ wsA := wA_2 (List.mem_of_getElem? (i := 218) rfl) rfl
set_option maxRecDepth 20000 in
theorem wd_2_232 : (Jvm.Cond.methodLink "NetUnfolderLaw" (84 : Nat) ({ cls := "NetUnfolder", name := "condition", desc := "(II)I" } : Jvm.MethodName)) ∈ wsA := wA_2 (List.mem_of_getElem? (i := 232) rfl) rfl
set_option maxRecDepth 20000 in
theorem wd_2_233 : (Jvm.Cond.instanceMethod ({ cls := "NetUnfolder", name := "condition", desc := "(II)I" } : Jvm.MethodName)) ∈ wsA := wA_2 (List.mem_of_getElem? (i := 233) rfl) rfl
set_option maxRecDepth 20000 in
theorem wd_2_234 : (Jvm.Cond.selects "NetUnfolder" ({ cls := "NetUnfolder", name := "condition", desc := "(II)I" } : Jvm.MethodName) ({ cls := "NetUnfolder", name := "condition", desc := "(II)I" } : Jvm.MethodName)) ∈ wsA := wA_2 (List.mem_of_getElem? (i := 234) rfl) rfl
set_option maxRecDepth 20000 in
theorem wd_2_235 : (Jvm.Cond.code ({ cls := "NetUnfolder", name := "condition", desc := "(II)I" } : Jvm.MethodName) prog_1_method_13_code (3 : Nat) (Option.some Jvm.ClassFile.FieldType.int)) ∈ wsA := wA_2 (List.mem_of_getElem? (i := 235) rfl) rfl
set_option maxRecDepth 20000 in
theorem wd_2_236 : (Jvm.Cond.methodLink "NetUnfolderLaw" (88 : Nat) ({ cls := "NetUnfolder", name := "concurrent", desc := "(II)Z" } : Jvm.MethodName)) ∈ wsA := wA_2 (List.mem_of_getElem? (i := 236) rfl) rfl
set_option maxRecDepth 20000 in
theorem wd_2_237 : (Jvm.Cond.instanceMethod ({ cls := "NetUnfolder", name := "concurrent", desc := "(II)Z" } : Jvm.MethodName)) ∈ wsA := wA_2 (List.mem_of_getElem? (i := 237) rfl) rfl
set_option maxRecDepth 20000 in
theorem wd_2_238 : (Jvm.Cond.selects "NetUnfolder" ({ cls := "NetUnfolder", name := "concurrent", desc := "(II)Z" } : Jvm.MethodName) ({ cls := "NetUnfolder", name := "concurrent", desc := "(II)Z" } : Jvm.MethodName)) ∈ wsA := wA_2 (List.mem_of_getElem? (i := 238) rfl) rfl
set_option maxRecDepth 20000 in
theorem wd_2_239 : (Jvm.Cond.code ({ cls := "NetUnfolder", name := "concurrent", desc := "(II)Z" } : Jvm.MethodName) prog_1_method_14_code (3 : Nat) (Option.some Jvm.ClassFile.FieldType.boolean)) ∈ wsA := wA_2 (List.mem_of_getElem? (i := 239) rfl) rfl
set_option maxRecDepth 20000 in
theorem wd_3_1 : (Jvm.Cond.methodLink "NetUnfolderLaw" (36 : Nat) ({ cls := "NetUnfolderLaw", name := "transition", desc := "(LNetUnfolder;II[J)I" } : Jvm.MethodName)) ∈ wsA := wA_3 (List.mem_of_getElem? (i := 1) rfl) rfl
set_option maxRecDepth 20000 in
theorem wd_3_2 : (Jvm.Cond.static ({ cls := "NetUnfolderLaw", name := "transition", desc := "(LNetUnfolder;II[J)I" } : Jvm.MethodName)) ∈ wsA := wA_3 (List.mem_of_getElem? (i := 2) rfl) rfl
set_option maxRecDepth 20000 in
theorem wd_3_3 : (Jvm.Cond.codeWith ({ cls := "NetUnfolderLaw", name := "transition", desc := "(LNetUnfolder;II[J)I" } : Jvm.MethodName) method_3_code (5 : Nat) (Option.some Jvm.ClassFile.FieldType.int) [((0 : Nat), (10 : Nat), (13 : Nat), (13 : Nat)), ((0 : Nat), (10 : Nat), (17 : Nat), (15 : Nat))]) ∈ wsA := wA_3 (List.mem_of_getElem? (i := 3) rfl) rfl
set_option maxRecDepth 20000 in
theorem wd_3_4 : (Jvm.Cond.classLink "NetUnfolderLaw" (13 : Nat) "java/lang/IllegalArgumentException") ∈ wsA := wA_3 (List.mem_of_getElem? (i := 4) rfl) rfl
set_option maxRecDepth 20000 in
theorem wd_3_5 : (Jvm.Cond.classLink "NetUnfolderLaw" (15 : Nat) "java/lang/IllegalStateException") ∈ wsA := wA_3 (List.mem_of_getElem? (i := 5) rfl) rfl
set_option maxRecDepth 20000 in
theorem wd_3_6 : (Jvm.Cond.methodLink "NetUnfolderLaw" (7 : Nat) ({ cls := "NetUnfolder", name := "transition", desc := "(II)I" } : Jvm.MethodName)) ∈ wsA := wA_3 (List.mem_of_getElem? (i := 6) rfl) rfl
set_option maxRecDepth 20000 in
theorem wd_3_7 : (Jvm.Cond.instanceMethod ({ cls := "NetUnfolder", name := "transition", desc := "(II)I" } : Jvm.MethodName)) ∈ wsA := wA_3 (List.mem_of_getElem? (i := 7) rfl) rfl
set_option maxRecDepth 20000 in
theorem wd_3_8 : (Jvm.Cond.selects "NetUnfolder" ({ cls := "NetUnfolder", name := "transition", desc := "(II)I" } : Jvm.MethodName) ({ cls := "NetUnfolder", name := "transition", desc := "(II)I" } : Jvm.MethodName)) ∈ wsA := wA_3 (List.mem_of_getElem? (i := 8) rfl) rfl
set_option maxRecDepth 20000 in
theorem wd_3_9 : (Jvm.Cond.code ({ cls := "NetUnfolder", name := "transition", desc := "(II)I" } : Jvm.MethodName) prog_1_method_2_code (3 : Nat) (Option.some Jvm.ClassFile.FieldType.int)) ∈ wsA := wA_3 (List.mem_of_getElem? (i := 9) rfl) rfl
set_option maxRecDepth 20000 in
theorem wd_3_94 : (Jvm.Cond.methodLink "NetUnfolderLaw" (45 : Nat) ({ cls := "NetUnfolderLaw", name := "first", desc := "(LNetUnfolder;I)I" } : Jvm.MethodName)) ∈ wsA := wA_3 (List.mem_of_getElem? (i := 94) rfl) rfl
set_option maxRecDepth 20000 in
theorem wd_3_95 : (Jvm.Cond.static ({ cls := "NetUnfolderLaw", name := "first", desc := "(LNetUnfolder;I)I" } : Jvm.MethodName)) ∈ wsA := wA_3 (List.mem_of_getElem? (i := 95) rfl) rfl
set_option maxRecDepth 20000 in
theorem wd_3_96 : (Jvm.Cond.codeWith ({ cls := "NetUnfolderLaw", name := "first", desc := "(LNetUnfolder;I)I" } : Jvm.MethodName) method_4_code (3 : Nat) (Option.some Jvm.ClassFile.FieldType.int) [((0 : Nat), (5 : Nat), (8 : Nat), (13 : Nat))]) ∈ wsA := wA_3 (List.mem_of_getElem? (i := 96) rfl) rfl
set_option maxRecDepth 20000 in
theorem wd_3_97 : (Jvm.Cond.methodLink "NetUnfolderLaw" (17 : Nat) ({ cls := "NetUnfolder", name := "first", desc := "(I)V" } : Jvm.MethodName)) ∈ wsA := wA_3 (List.mem_of_getElem? (i := 97) rfl) rfl
set_option maxRecDepth 20000 in
theorem wd_3_98 : (Jvm.Cond.instanceMethod ({ cls := "NetUnfolder", name := "first", desc := "(I)V" } : Jvm.MethodName)) ∈ wsA := wA_3 (List.mem_of_getElem? (i := 98) rfl) rfl
set_option maxRecDepth 20000 in
theorem wd_3_99 : (Jvm.Cond.selects "NetUnfolder" ({ cls := "NetUnfolder", name := "first", desc := "(I)V" } : Jvm.MethodName) ({ cls := "NetUnfolder", name := "first", desc := "(I)V" } : Jvm.MethodName)) ∈ wsA := wA_3 (List.mem_of_getElem? (i := 99) rfl) rfl
set_option maxRecDepth 20000 in
theorem wd_3_100 : (Jvm.Cond.code ({ cls := "NetUnfolder", name := "first", desc := "(I)V" } : Jvm.MethodName) prog_1_method_3_code (2 : Nat) (Option.none : Option Jvm.ClassFile.FieldType)) ∈ wsA := wA_3 (List.mem_of_getElem? (i := 100) rfl) rfl
set_option maxRecDepth 20000 in
theorem wd_3_101 : (Jvm.Cond.methodLink "NetUnfolderLaw" (57 : Nat) ({ cls := "NetUnfolderLaw", name := "reach", desc := "(LNetUnfolder;I[J)I" } : Jvm.MethodName)) ∈ wsA := wA_3 (List.mem_of_getElem? (i := 101) rfl) rfl
set_option maxRecDepth 20000 in
theorem wd_3_102 : (Jvm.Cond.static ({ cls := "NetUnfolderLaw", name := "reach", desc := "(LNetUnfolder;I[J)I" } : Jvm.MethodName)) ∈ wsA := wA_3 (List.mem_of_getElem? (i := 102) rfl) rfl
set_option maxRecDepth 20000 in
theorem wd_3_103 : (Jvm.Cond.codeWith ({ cls := "NetUnfolderLaw", name := "reach", desc := "(LNetUnfolder;I[J)I" } : Jvm.MethodName) method_5_code (4 : Nat) (Option.some Jvm.ClassFile.FieldType.int) [((0 : Nat), (9 : Nat), (12 : Nat), (13 : Nat)), ((0 : Nat), (9 : Nat), (15 : Nat), (15 : Nat))]) ∈ wsA := wA_3 (List.mem_of_getElem? (i := 103) rfl) rfl
set_option maxRecDepth 20000 in
theorem wd_3_104 : (Jvm.Cond.methodLink "NetUnfolderLaw" (21 : Nat) ({ cls := "NetUnfolder", name := "reach", desc := "(I)I" } : Jvm.MethodName)) ∈ wsA := wA_3 (List.mem_of_getElem? (i := 104) rfl) rfl
set_option maxRecDepth 20000 in
theorem wd_3_105 : (Jvm.Cond.instanceMethod ({ cls := "NetUnfolder", name := "reach", desc := "(I)I" } : Jvm.MethodName)) ∈ wsA := wA_3 (List.mem_of_getElem? (i := 105) rfl) rfl
set_option maxRecDepth 20000 in
theorem wd_3_106 : (Jvm.Cond.selects "NetUnfolder" ({ cls := "NetUnfolder", name := "reach", desc := "(I)I" } : Jvm.MethodName) ({ cls := "NetUnfolder", name := "reach", desc := "(I)I" } : Jvm.MethodName)) ∈ wsA := wA_3 (List.mem_of_getElem? (i := 106) rfl) rfl
set_option maxRecDepth 20000 in
theorem wd_3_107 : (Jvm.Cond.code ({ cls := "NetUnfolder", name := "reach", desc := "(I)I" } : Jvm.MethodName) prog_1_method_6_code (2 : Nat) (Option.some Jvm.ClassFile.FieldType.int)) ∈ wsA := wA_3 (List.mem_of_getElem? (i := 107) rfl) rfl
set_option maxRecDepth 20000 in
theorem wd_3_211 : (Jvm.Cond.methodLink "NetUnfolderLaw" (61 : Nat) ({ cls := "NetUnfolderLaw", name := "deadlock", desc := "(LNetUnfolder;[J)I" } : Jvm.MethodName)) ∈ wsA := wA_3 (List.mem_of_getElem? (i := 211) rfl) rfl
set_option maxRecDepth 20000 in
theorem wd_3_212 : (Jvm.Cond.static ({ cls := "NetUnfolderLaw", name := "deadlock", desc := "(LNetUnfolder;[J)I" } : Jvm.MethodName)) ∈ wsA := wA_3 (List.mem_of_getElem? (i := 212) rfl) rfl
set_option maxRecDepth 20000 in
theorem wd_3_213 : (Jvm.Cond.codeWith ({ cls := "NetUnfolderLaw", name := "deadlock", desc := "(LNetUnfolder;[J)I" } : Jvm.MethodName) method_6_code (3 : Nat) (Option.some Jvm.ClassFile.FieldType.int) [((0 : Nat), (8 : Nat), (11 : Nat), (15 : Nat))]) ∈ wsA := wA_3 (List.mem_of_getElem? (i := 213) rfl) rfl
set_option maxRecDepth 20000 in
theorem wd_3_214 : (Jvm.Cond.methodLink "NetUnfolderLaw" (25 : Nat) ({ cls := "NetUnfolder", name := "deadlock", desc := "()I" } : Jvm.MethodName)) ∈ wsA := wA_3 (List.mem_of_getElem? (i := 214) rfl) rfl
set_option maxRecDepth 20000 in
theorem wd_3_215 : (Jvm.Cond.instanceMethod ({ cls := "NetUnfolder", name := "deadlock", desc := "()I" } : Jvm.MethodName)) ∈ wsA := wA_3 (List.mem_of_getElem? (i := 215) rfl) rfl
set_option maxRecDepth 20000 in
theorem wd_3_216 : (Jvm.Cond.selects "NetUnfolder" ({ cls := "NetUnfolder", name := "deadlock", desc := "()I" } : Jvm.MethodName) ({ cls := "NetUnfolder", name := "deadlock", desc := "()I" } : Jvm.MethodName)) ∈ wsA := wA_3 (List.mem_of_getElem? (i := 216) rfl) rfl
set_option maxRecDepth 20000 in
theorem wd_3_217 : (Jvm.Cond.code ({ cls := "NetUnfolder", name := "deadlock", desc := "()I" } : Jvm.MethodName) prog_1_method_7_code (1 : Nat) (Option.some Jvm.ClassFile.FieldType.int)) ∈ wsA := wA_3 (List.mem_of_getElem? (i := 217) rfl) rfl
set_option maxRecDepth 20000 in
theorem wd_3_222 : (Jvm.Cond.methodLink "NetUnfolderLaw" (69 : Nat) ({ cls := "NetUnfolderLaw", name := "play", desc := "(LNetUnfolder;I[J)I" } : Jvm.MethodName)) ∈ wsA := wA_3 (List.mem_of_getElem? (i := 222) rfl) rfl
set_option maxRecDepth 20000 in
theorem wd_3_223 : (Jvm.Cond.static ({ cls := "NetUnfolderLaw", name := "play", desc := "(LNetUnfolder;I[J)I" } : Jvm.MethodName)) ∈ wsA := wA_3 (List.mem_of_getElem? (i := 223) rfl) rfl
set_option maxRecDepth 20000 in
theorem wd_3_224 : (Jvm.Cond.codeWith ({ cls := "NetUnfolderLaw", name := "play", desc := "(LNetUnfolder;I[J)I" } : Jvm.MethodName) method_7_code (4 : Nat) (Option.some Jvm.ClassFile.FieldType.int) [((0 : Nat), (9 : Nat), (12 : Nat), (13 : Nat)), ((0 : Nat), (9 : Nat), (15 : Nat), (15 : Nat))]) ∈ wsA := wA_3 (List.mem_of_getElem? (i := 224) rfl) rfl
set_option maxRecDepth 20000 in
theorem wd_3_225 : (Jvm.Cond.methodLink "NetUnfolderLaw" (29 : Nat) ({ cls := "NetUnfolder", name := "play", desc := "(I)I" } : Jvm.MethodName)) ∈ wsA := wA_3 (List.mem_of_getElem? (i := 225) rfl) rfl
set_option maxRecDepth 20000 in
theorem wd_3_226 : (Jvm.Cond.instanceMethod ({ cls := "NetUnfolder", name := "play", desc := "(I)I" } : Jvm.MethodName)) ∈ wsA := wA_3 (List.mem_of_getElem? (i := 226) rfl) rfl
set_option maxRecDepth 20000 in
theorem wd_3_227 : (Jvm.Cond.selects "NetUnfolder" ({ cls := "NetUnfolder", name := "play", desc := "(I)I" } : Jvm.MethodName) ({ cls := "NetUnfolder", name := "play", desc := "(I)I" } : Jvm.MethodName)) ∈ wsA := wA_3 (List.mem_of_getElem? (i := 227) rfl) rfl
set_option maxRecDepth 20000 in
theorem wd_3_228 : (Jvm.Cond.code ({ cls := "NetUnfolder", name := "play", desc := "(I)I" } : Jvm.MethodName) prog_1_method_9_code (6 : Nat) (Option.some Jvm.ClassFile.FieldType.int)) ∈ wsA := wA_3 (List.mem_of_getElem? (i := 228) rfl) rfl
set_option maxRecDepth 20000 in
theorem wd_3_234 : (Jvm.Cond.classLink "NetUnfolderLaw" (33 : Nat) "NetUnfolderModel") ∈ wsA := wA_3 (List.mem_of_getElem? (i := 234) rfl) rfl
set_option maxRecDepth 20000 in
theorem wd_3_235 : (Jvm.Cond.instantiable "NetUnfolderModel" (28 : Nat)) ∈ wsA := wA_3 (List.mem_of_getElem? (i := 235) rfl) rfl
set_option maxRecDepth 20000 in
theorem wd_3_236 : (Jvm.Cond.methodLink "NetUnfolderLaw" (35 : Nat) ({ cls := "NetUnfolderModel", name := "<init>", desc := "()V" } : Jvm.MethodName)) ∈ wsA := wA_3 (List.mem_of_getElem? (i := 236) rfl) rfl
set_option maxRecDepth 20000 in
theorem wd_3_237 : (Jvm.Cond.instanceMethod ({ cls := "NetUnfolderModel", name := "<init>", desc := "()V" } : Jvm.MethodName)) ∈ wsA := wA_3 (List.mem_of_getElem? (i := 237) rfl) rfl
set_option maxRecDepth 20000 in
theorem wd_3_238 : (Jvm.Cond.code ({ cls := "NetUnfolderModel", name := "<init>", desc := "()V" } : Jvm.MethodName) prog_11_method_1_code (1 : Nat) (Option.none : Option Jvm.ClassFile.FieldType)) ∈ wsA := wA_3 (List.mem_of_getElem? (i := 238) rfl) rfl
set_option maxRecDepth 20000 in
theorem wd_4_86 : (Jvm.Cond.methodLink "NetUnfolderLaw" (42 : Nat) ({ cls := "NetUnfolderModel", name := "thrown", desc := "()I" } : Jvm.MethodName)) ∈ wsA := wA_4 (List.mem_of_getElem? (i := 86) rfl) rfl
set_option maxRecDepth 20000 in
theorem wd_4_87 : (Jvm.Cond.instanceMethod ({ cls := "NetUnfolderModel", name := "thrown", desc := "()I" } : Jvm.MethodName)) ∈ wsA := wA_4 (List.mem_of_getElem? (i := 87) rfl) rfl
set_option maxRecDepth 20000 in
theorem wd_4_88 : (Jvm.Cond.selects "NetUnfolderModel" ({ cls := "NetUnfolderModel", name := "thrown", desc := "()I" } : Jvm.MethodName) ({ cls := "NetUnfolderModel", name := "thrown", desc := "()I" } : Jvm.MethodName)) ∈ wsA := wA_4 (List.mem_of_getElem? (i := 88) rfl) rfl
set_option maxRecDepth 20000 in
theorem wd_4_89 : (Jvm.Cond.code ({ cls := "NetUnfolderModel", name := "thrown", desc := "()I" } : Jvm.MethodName) prog_11_method_2_code (1 : Nat) (Option.some Jvm.ClassFile.FieldType.int)) ∈ wsA := wA_4 (List.mem_of_getElem? (i := 89) rfl) rfl
set_option maxRecDepth 20000 in
theorem wd_4_90 : (Jvm.Cond.methodLink "NetUnfolderLaw" (41 : Nat) ({ cls := "NetUnfolderModel", name := "transition", desc := "(II)I" } : Jvm.MethodName)) ∈ wsA := wA_4 (List.mem_of_getElem? (i := 90) rfl) rfl
set_option maxRecDepth 20000 in
theorem wd_4_91 : (Jvm.Cond.instanceMethod ({ cls := "NetUnfolderModel", name := "transition", desc := "(II)I" } : Jvm.MethodName)) ∈ wsA := wA_4 (List.mem_of_getElem? (i := 91) rfl) rfl
set_option maxRecDepth 20000 in
theorem wd_4_92 : (Jvm.Cond.selects "NetUnfolderModel" ({ cls := "NetUnfolderModel", name := "transition", desc := "(II)I" } : Jvm.MethodName) ({ cls := "NetUnfolderModel", name := "transition", desc := "(II)I" } : Jvm.MethodName)) ∈ wsA := wA_4 (List.mem_of_getElem? (i := 92) rfl) rfl
set_option maxRecDepth 20000 in
theorem wd_4_93 : (Jvm.Cond.code ({ cls := "NetUnfolderModel", name := "transition", desc := "(II)I" } : Jvm.MethodName) prog_11_method_7_code (3 : Nat) (Option.some Jvm.ClassFile.FieldType.int)) ∈ wsA := wA_4 (List.mem_of_getElem? (i := 93) rfl) rfl
set_option maxRecDepth 20000 in
theorem wd_4_101 : (Jvm.Cond.methodLink "NetUnfolderLaw" (48 : Nat) ({ cls := "NetUnfolderModel", name := "first", desc := "(I)V" } : Jvm.MethodName)) ∈ wsA := wA_4 (List.mem_of_getElem? (i := 101) rfl) rfl
set_option maxRecDepth 20000 in
theorem wd_4_102 : (Jvm.Cond.instanceMethod ({ cls := "NetUnfolderModel", name := "first", desc := "(I)V" } : Jvm.MethodName)) ∈ wsA := wA_4 (List.mem_of_getElem? (i := 102) rfl) rfl
set_option maxRecDepth 20000 in
theorem wd_4_103 : (Jvm.Cond.selects "NetUnfolderModel" ({ cls := "NetUnfolderModel", name := "first", desc := "(I)V" } : Jvm.MethodName) ({ cls := "NetUnfolderModel", name := "first", desc := "(I)V" } : Jvm.MethodName)) ∈ wsA := wA_4 (List.mem_of_getElem? (i := 103) rfl) rfl
set_option maxRecDepth 20000 in
theorem wd_4_104 : (Jvm.Cond.code ({ cls := "NetUnfolderModel", name := "first", desc := "(I)V" } : Jvm.MethodName) prog_11_method_8_code (2 : Nat) (Option.none : Option Jvm.ClassFile.FieldType)) ∈ wsA := wA_4 (List.mem_of_getElem? (i := 104) rfl) rfl
set_option maxRecDepth 20000 in
theorem wd_4_105 : (Jvm.Cond.methodLink "NetUnfolderLaw" (52 : Nat) ({ cls := "NetUnfolderModel", name := "clear", desc := "()V" } : Jvm.MethodName)) ∈ wsA := wA_4 (List.mem_of_getElem? (i := 105) rfl) rfl
set_option maxRecDepth 20000 in
theorem wd_4_106 : (Jvm.Cond.instanceMethod ({ cls := "NetUnfolderModel", name := "clear", desc := "()V" } : Jvm.MethodName)) ∈ wsA := wA_4 (List.mem_of_getElem? (i := 106) rfl) rfl
set_option maxRecDepth 20000 in
theorem wd_4_107 : (Jvm.Cond.selects "NetUnfolderModel" ({ cls := "NetUnfolderModel", name := "clear", desc := "()V" } : Jvm.MethodName) ({ cls := "NetUnfolderModel", name := "clear", desc := "()V" } : Jvm.MethodName)) ∈ wsA := wA_4 (List.mem_of_getElem? (i := 107) rfl) rfl
set_option maxRecDepth 20000 in
theorem wd_4_108 : (Jvm.Cond.code ({ cls := "NetUnfolderModel", name := "clear", desc := "()V" } : Jvm.MethodName) prog_11_method_9_code (1 : Nat) (Option.none : Option Jvm.ClassFile.FieldType)) ∈ wsA := wA_4 (List.mem_of_getElem? (i := 108) rfl) rfl
set_option maxRecDepth 20000 in
theorem wd_4_109 : (Jvm.Cond.methodLink "NetUnfolderLaw" (56 : Nat) ({ cls := "NetUnfolderModel", name := "unfold", desc := "()I" } : Jvm.MethodName)) ∈ wsA := wA_4 (List.mem_of_getElem? (i := 109) rfl) rfl
set_option maxRecDepth 20000 in
theorem wd_4_110 : (Jvm.Cond.instanceMethod ({ cls := "NetUnfolderModel", name := "unfold", desc := "()I" } : Jvm.MethodName)) ∈ wsA := wA_4 (List.mem_of_getElem? (i := 110) rfl) rfl
set_option maxRecDepth 20000 in
theorem wd_4_111 : (Jvm.Cond.selects "NetUnfolderModel" ({ cls := "NetUnfolderModel", name := "unfold", desc := "()I" } : Jvm.MethodName) ({ cls := "NetUnfolderModel", name := "unfold", desc := "()I" } : Jvm.MethodName)) ∈ wsA := wA_4 (List.mem_of_getElem? (i := 111) rfl) rfl
set_option maxRecDepth 20000 in
theorem wd_4_112 : (Jvm.Cond.code ({ cls := "NetUnfolderModel", name := "unfold", desc := "()I" } : Jvm.MethodName) prog_11_method_29_code (3 : Nat) (Option.some Jvm.ClassFile.FieldType.int)) ∈ wsA := wA_4 (List.mem_of_getElem? (i := 112) rfl) rfl
set_option maxRecDepth 20000 in
theorem wd_4_192 : (Jvm.Cond.methodLink "NetUnfolderLaw" (60 : Nat) ({ cls := "NetUnfolderModel", name := "reach", desc := "(I)I" } : Jvm.MethodName)) ∈ wsA := wA_4 (List.mem_of_getElem? (i := 192) rfl) rfl
set_option maxRecDepth 20000 in
theorem wd_4_193 : (Jvm.Cond.instanceMethod ({ cls := "NetUnfolderModel", name := "reach", desc := "(I)I" } : Jvm.MethodName)) ∈ wsA := wA_4 (List.mem_of_getElem? (i := 193) rfl) rfl
set_option maxRecDepth 20000 in
theorem wd_4_194 : (Jvm.Cond.selects "NetUnfolderModel" ({ cls := "NetUnfolderModel", name := "reach", desc := "(I)I" } : Jvm.MethodName) ({ cls := "NetUnfolderModel", name := "reach", desc := "(I)I" } : Jvm.MethodName)) ∈ wsA := wA_4 (List.mem_of_getElem? (i := 194) rfl) rfl
set_option maxRecDepth 20000 in
theorem wd_4_195 : (Jvm.Cond.code ({ cls := "NetUnfolderModel", name := "reach", desc := "(I)I" } : Jvm.MethodName) prog_11_method_33_code (2 : Nat) (Option.some Jvm.ClassFile.FieldType.int)) ∈ wsA := wA_4 (List.mem_of_getElem? (i := 195) rfl) rfl
set_option maxRecDepth 20000 in
theorem wd_4_208 : (Jvm.Cond.methodLink "NetUnfolderLaw" (64 : Nat) ({ cls := "NetUnfolderModel", name := "deadlock", desc := "()I" } : Jvm.MethodName)) ∈ wsA := wA_4 (List.mem_of_getElem? (i := 208) rfl) rfl
set_option maxRecDepth 20000 in
theorem wd_4_209 : (Jvm.Cond.instanceMethod ({ cls := "NetUnfolderModel", name := "deadlock", desc := "()I" } : Jvm.MethodName)) ∈ wsA := wA_4 (List.mem_of_getElem? (i := 209) rfl) rfl
set_option maxRecDepth 20000 in
theorem wd_4_210 : (Jvm.Cond.selects "NetUnfolderModel" ({ cls := "NetUnfolderModel", name := "deadlock", desc := "()I" } : Jvm.MethodName) ({ cls := "NetUnfolderModel", name := "deadlock", desc := "()I" } : Jvm.MethodName)) ∈ wsA := wA_4 (List.mem_of_getElem? (i := 210) rfl) rfl
set_option maxRecDepth 20000 in
theorem wd_4_211 : (Jvm.Cond.code ({ cls := "NetUnfolderModel", name := "deadlock", desc := "()I" } : Jvm.MethodName) prog_11_method_34_code (1 : Nat) (Option.some Jvm.ClassFile.FieldType.int)) ∈ wsA := wA_4 (List.mem_of_getElem? (i := 211) rfl) rfl
set_option maxRecDepth 20000 in
theorem wd_4_212 : (Jvm.Cond.methodLink "NetUnfolderLaw" (68 : Nat) ({ cls := "NetUnfolderModel", name := "way", desc := "(I)I" } : Jvm.MethodName)) ∈ wsA := wA_4 (List.mem_of_getElem? (i := 212) rfl) rfl
set_option maxRecDepth 20000 in
theorem wd_4_213 : (Jvm.Cond.instanceMethod ({ cls := "NetUnfolderModel", name := "way", desc := "(I)I" } : Jvm.MethodName)) ∈ wsA := wA_4 (List.mem_of_getElem? (i := 213) rfl) rfl
set_option maxRecDepth 20000 in
theorem wd_4_214 : (Jvm.Cond.selects "NetUnfolderModel" ({ cls := "NetUnfolderModel", name := "way", desc := "(I)I" } : Jvm.MethodName) ({ cls := "NetUnfolderModel", name := "way", desc := "(I)I" } : Jvm.MethodName)) ∈ wsA := wA_4 (List.mem_of_getElem? (i := 214) rfl) rfl
set_option maxRecDepth 20000 in
theorem wd_4_215 : (Jvm.Cond.code ({ cls := "NetUnfolderModel", name := "way", desc := "(I)I" } : Jvm.MethodName) prog_11_method_35_code (2 : Nat) (Option.some Jvm.ClassFile.FieldType.int)) ∈ wsA := wA_4 (List.mem_of_getElem? (i := 215) rfl) rfl
set_option maxRecDepth 20000 in
theorem wd_4_216 : (Jvm.Cond.methodLink "NetUnfolderLaw" (71 : Nat) ({ cls := "NetUnfolderModel", name := "play", desc := "(I)I" } : Jvm.MethodName)) ∈ wsA := wA_4 (List.mem_of_getElem? (i := 216) rfl) rfl
set_option maxRecDepth 20000 in
theorem wd_4_217 : (Jvm.Cond.instanceMethod ({ cls := "NetUnfolderModel", name := "play", desc := "(I)I" } : Jvm.MethodName)) ∈ wsA := wA_4 (List.mem_of_getElem? (i := 217) rfl) rfl
set_option maxRecDepth 20000 in
theorem wd_4_218 : (Jvm.Cond.selects "NetUnfolderModel" ({ cls := "NetUnfolderModel", name := "play", desc := "(I)I" } : Jvm.MethodName) ({ cls := "NetUnfolderModel", name := "play", desc := "(I)I" } : Jvm.MethodName)) ∈ wsA := wA_4 (List.mem_of_getElem? (i := 218) rfl) rfl
set_option maxRecDepth 20000 in
theorem wd_4_219 : (Jvm.Cond.code ({ cls := "NetUnfolderModel", name := "play", desc := "(I)I" } : Jvm.MethodName) prog_11_method_36_code (4 : Nat) (Option.some Jvm.ClassFile.FieldType.int)) ∈ wsA := wA_4 (List.mem_of_getElem? (i := 219) rfl) rfl
set_option maxRecDepth 20000 in
theorem wd_4_224 : (Jvm.Cond.methodLink "NetUnfolderLaw" (75 : Nat) ({ cls := "NetUnfolderModel", name := "count", desc := "(I)I" } : Jvm.MethodName)) ∈ wsA := wA_4 (List.mem_of_getElem? (i := 224) rfl) rfl
set_option maxRecDepth 20000 in
theorem wd_4_225 : (Jvm.Cond.instanceMethod ({ cls := "NetUnfolderModel", name := "count", desc := "(I)I" } : Jvm.MethodName)) ∈ wsA := wA_4 (List.mem_of_getElem? (i := 225) rfl) rfl
set_option maxRecDepth 20000 in
theorem wd_4_226 : (Jvm.Cond.selects "NetUnfolderModel" ({ cls := "NetUnfolderModel", name := "count", desc := "(I)I" } : Jvm.MethodName) ({ cls := "NetUnfolderModel", name := "count", desc := "(I)I" } : Jvm.MethodName)) ∈ wsA := wA_4 (List.mem_of_getElem? (i := 226) rfl) rfl
set_option maxRecDepth 20000 in
theorem wd_4_227 : (Jvm.Cond.code ({ cls := "NetUnfolderModel", name := "count", desc := "(I)I" } : Jvm.MethodName) prog_11_method_37_code (4 : Nat) (Option.some Jvm.ClassFile.FieldType.int)) ∈ wsA := wA_4 (List.mem_of_getElem? (i := 227) rfl) rfl
set_option maxRecDepth 20000 in
theorem wd_4_228 : (Jvm.Cond.methodLink "NetUnfolderLaw" (79 : Nat) ({ cls := "NetUnfolderModel", name := "event", desc := "(II)I" } : Jvm.MethodName)) ∈ wsA := wA_4 (List.mem_of_getElem? (i := 228) rfl) rfl
set_option maxRecDepth 20000 in
theorem wd_4_229 : (Jvm.Cond.instanceMethod ({ cls := "NetUnfolderModel", name := "event", desc := "(II)I" } : Jvm.MethodName)) ∈ wsA := wA_4 (List.mem_of_getElem? (i := 229) rfl) rfl
set_option maxRecDepth 20000 in
theorem wd_4_230 : (Jvm.Cond.selects "NetUnfolderModel" ({ cls := "NetUnfolderModel", name := "event", desc := "(II)I" } : Jvm.MethodName) ({ cls := "NetUnfolderModel", name := "event", desc := "(II)I" } : Jvm.MethodName)) ∈ wsA := wA_4 (List.mem_of_getElem? (i := 230) rfl) rfl
set_option maxRecDepth 20000 in
theorem wd_4_231 : (Jvm.Cond.code ({ cls := "NetUnfolderModel", name := "event", desc := "(II)I" } : Jvm.MethodName) prog_11_method_38_code (3 : Nat) (Option.some Jvm.ClassFile.FieldType.int)) ∈ wsA := wA_4 (List.mem_of_getElem? (i := 231) rfl) rfl
set_option maxRecDepth 20000 in
theorem wd_4_232 : (Jvm.Cond.methodLink "NetUnfolderLaw" (83 : Nat) ({ cls := "NetUnfolderModel", name := "takes", desc := "(II)I" } : Jvm.MethodName)) ∈ wsA := wA_4 (List.mem_of_getElem? (i := 232) rfl) rfl
set_option maxRecDepth 20000 in
theorem wd_4_233 : (Jvm.Cond.instanceMethod ({ cls := "NetUnfolderModel", name := "takes", desc := "(II)I" } : Jvm.MethodName)) ∈ wsA := wA_4 (List.mem_of_getElem? (i := 233) rfl) rfl
set_option maxRecDepth 20000 in
theorem wd_4_234 : (Jvm.Cond.selects "NetUnfolderModel" ({ cls := "NetUnfolderModel", name := "takes", desc := "(II)I" } : Jvm.MethodName) ({ cls := "NetUnfolderModel", name := "takes", desc := "(II)I" } : Jvm.MethodName)) ∈ wsA := wA_4 (List.mem_of_getElem? (i := 234) rfl) rfl
set_option maxRecDepth 20000 in
theorem wd_4_235 : (Jvm.Cond.code ({ cls := "NetUnfolderModel", name := "takes", desc := "(II)I" } : Jvm.MethodName) prog_11_method_39_code (3 : Nat) (Option.some Jvm.ClassFile.FieldType.int)) ∈ wsA := wA_4 (List.mem_of_getElem? (i := 235) rfl) rfl
set_option maxRecDepth 20000 in
theorem wd_4_236 : (Jvm.Cond.methodLink "NetUnfolderLaw" (87 : Nat) ({ cls := "NetUnfolderModel", name := "condition", desc := "(II)I" } : Jvm.MethodName)) ∈ wsA := wA_4 (List.mem_of_getElem? (i := 236) rfl) rfl
set_option maxRecDepth 20000 in
theorem wd_4_237 : (Jvm.Cond.instanceMethod ({ cls := "NetUnfolderModel", name := "condition", desc := "(II)I" } : Jvm.MethodName)) ∈ wsA := wA_4 (List.mem_of_getElem? (i := 237) rfl) rfl
set_option maxRecDepth 20000 in
theorem wd_4_238 : (Jvm.Cond.selects "NetUnfolderModel" ({ cls := "NetUnfolderModel", name := "condition", desc := "(II)I" } : Jvm.MethodName) ({ cls := "NetUnfolderModel", name := "condition", desc := "(II)I" } : Jvm.MethodName)) ∈ wsA := wA_4 (List.mem_of_getElem? (i := 238) rfl) rfl
set_option maxRecDepth 20000 in
theorem wd_4_239 : (Jvm.Cond.code ({ cls := "NetUnfolderModel", name := "condition", desc := "(II)I" } : Jvm.MethodName) prog_11_method_40_code (5 : Nat) (Option.some Jvm.ClassFile.FieldType.int)) ∈ wsA := wA_4 (List.mem_of_getElem? (i := 239) rfl) rfl
set_option maxRecDepth 20000 in
theorem wd_5_0 : (Jvm.Cond.methodLink "NetUnfolderLaw" (92 : Nat) ({ cls := "NetUnfolderModel", name := "concurrent", desc := "(II)Z" } : Jvm.MethodName)) ∈ wsA := wA_5 (List.mem_of_getElem? (i := 0) rfl) rfl
set_option maxRecDepth 20000 in
theorem wd_5_1 : (Jvm.Cond.instanceMethod ({ cls := "NetUnfolderModel", name := "concurrent", desc := "(II)Z" } : Jvm.MethodName)) ∈ wsA := wA_5 (List.mem_of_getElem? (i := 1) rfl) rfl
set_option maxRecDepth 20000 in
theorem wd_5_2 : (Jvm.Cond.selects "NetUnfolderModel" ({ cls := "NetUnfolderModel", name := "concurrent", desc := "(II)Z" } : Jvm.MethodName) ({ cls := "NetUnfolderModel", name := "concurrent", desc := "(II)Z" } : Jvm.MethodName)) ∈ wsA := wA_5 (List.mem_of_getElem? (i := 2) rfl) rfl
set_option maxRecDepth 20000 in
theorem wd_5_3 : (Jvm.Cond.code ({ cls := "NetUnfolderModel", name := "concurrent", desc := "(II)Z" } : Jvm.MethodName) prog_11_method_41_code (3 : Nat) (Option.some Jvm.ClassFile.FieldType.boolean)) ∈ wsA := wA_5 (List.mem_of_getElem? (i := 3) rfl) rfl
