/-! Names: printed by my program (wip/gen). -/
def T_NU : u_T := fun k => match k with
  | 0 => ("NetUnfolder", "net", "LNetUnfolder$Net;", true)
  | 1 => ("NetUnfolder", "prefix", "LNetUnfolder$Prefix;", true)
  | 2 => ("NetUnfolder", "latest", "LNetUnfolder$Way;", true)
  | 3 => ("NetUnfolder", "unfolding", "LNetUnfolder$Unfolding;", true)
  | _ => ("NetUnfolder", "question", "LNetUnfolder$Question;", true)
def ty_NU : Nat → FieldType := fun k => match k with
  | 0 => .object "NetUnfolder$Net"
  | 1 => .object "NetUnfolder$Prefix"
  | 2 => .object "NetUnfolder$Way"
  | 3 => .object "NetUnfolder$Unfolding"
  | _ => .object "NetUnfolder$Question"
theorem nm_NU : ∀ a, a < 5 → ∀ b, b < 5 → a ≠ b → (T_NU a).2.1 ≠ (T_NU b).2.1 := by decide +kernel
theorem ok_NU : ∀ k, k < 5 → parseFieldDescriptor (T_NU k).2.2.1 = some (ty_NU k) := by decide +kernel
def T_Ne : u_T := fun k => match k with
  | 0 => ("NetUnfolder$Net", "preset", "[I", true)
  | 1 => ("NetUnfolder$Net", "postset", "[I", true)
  | 2 => ("NetUnfolder$Net", "size", "I", false)
  | _ => ("NetUnfolder$Net", "first", "I", false)
def ty_Ne : Nat → FieldType := fun k => match k with
  | 0 => .array .int
  | 1 => .array .int
  | 2 => .int
  | _ => .int
theorem nm_Ne : ∀ a, a < 4 → ∀ b, b < 4 → a ≠ b → (T_Ne a).2.1 ≠ (T_Ne b).2.1 := by decide +kernel
theorem ok_Ne : ∀ k, k < 4 → parseFieldDescriptor (T_Ne k).2.2.1 = some (ty_Ne k) := by decide +kernel
def T_Pf : u_T := fun k => match k with
  | 0 => ("NetUnfolder$Prefix", "conditions", "I", false)
  | 1 => ("NetUnfolder$Prefix", "place", "[I", true)
  | 2 => ("NetUnfolder$Prefix", "maker", "[I", true)
  | 3 => ("NetUnfolder$Prefix", "takers", "[I", true)
  | 4 => ("NetUnfolder$Prefix", "beside", "[J", true)
  | 5 => ("NetUnfolder$Prefix", "ofPlace", "[J", true)
  | 6 => ("NetUnfolder$Prefix", "events", "I", false)
  | 7 => ("NetUnfolder$Prefix", "transition", "[I", true)
  | 8 => ("NetUnfolder$Prefix", "taken", "[J", true)
  | 9 => ("NetUnfolder$Prefix", "causes", "[I", true)
  | 10 => ("NetUnfolder$Prefix", "marking", "[I", true)
  | 11 => ("NetUnfolder$Prefix", "rank", "[J", true)
  | 12 => ("NetUnfolder$Prefix", "cutOffs", "I", false)
  | _ => ("NetUnfolder$Prefix", "whole", "Z", false)
def ty_Pf : Nat → FieldType := fun k => match k with
  | 0 => .int
  | 1 => .array .int
  | 2 => .array .int
  | 3 => .array .int
  | 4 => .array .long
  | 5 => .array .long
  | 6 => .int
  | 7 => .array .int
  | 8 => .array .long
  | 9 => .array .int
  | 10 => .array .int
  | 11 => .array .long
  | 12 => .int
  | _ => .boolean
theorem nm_Pf : ∀ a, a < 14 → ∀ b, b < 14 → a ≠ b → (T_Pf a).2.1 ≠ (T_Pf b).2.1 := by decide +kernel
theorem ok_Pf : ∀ k, k < 14 → parseFieldDescriptor (T_Pf k).2.2.1 = some (ty_Pf k) := by decide +kernel
def T_Wa : u_T := fun k => match k with
  | 0 => ("NetUnfolder$Way", "steps", "[I", true)
  | _ => ("NetUnfolder$Way", "length", "I", false)
def ty_Wa : Nat → FieldType := fun k => match k with
  | 0 => .array .int
  | _ => .int
theorem nm_Wa : ∀ a, a < 2 → ∀ b, b < 2 → a ≠ b → (T_Wa a).2.1 ≠ (T_Wa b).2.1 := by decide +kernel
theorem ok_Wa : ∀ k, k < 2 → parseFieldDescriptor (T_Wa k).2.2.1 = some (ty_Wa k) := by decide +kernel
def T_Un : u_T := fun k => match k with
  | 0 => ("NetUnfolder$Unfolding", "net", "LNetUnfolder$Net;", true)
  | 1 => ("NetUnfolder$Unfolding", "prefix", "LNetUnfolder$Prefix;", true)
  | 2 => ("NetUnfolder$Unfolding", "way", "LNetUnfolder$Way;", true)
  | _ => ("NetUnfolder$Unfolding", "possible", "LNetUnfolder$Possible;", true)
def ty_Un : Nat → FieldType := fun k => match k with
  | 0 => .object "NetUnfolder$Net"
  | 1 => .object "NetUnfolder$Prefix"
  | 2 => .object "NetUnfolder$Way"
  | _ => .object "NetUnfolder$Possible"
theorem nm_Un : ∀ a, a < 4 → ∀ b, b < 4 → a ≠ b → (T_Un a).2.1 ≠ (T_Un b).2.1 := by decide +kernel
theorem ok_Un : ∀ k, k < 4 → parseFieldDescriptor (T_Un k).2.2.1 = some (ty_Un k) := by decide +kernel
def T_Po : u_T := fun k => match k with
  | 0 => ("NetUnfolder$Possible", "prefix", "LNetUnfolder$Prefix;", true)
  | 1 => ("NetUnfolder$Possible", "size", "I", false)
  | 2 => ("NetUnfolder$Possible", "transition", "[I", true)
  | 3 => ("NetUnfolder$Possible", "taken", "[J", true)
  | _ => ("NetUnfolder$Possible", "rank", "[J", true)
def ty_Po : Nat → FieldType := fun k => match k with
  | 0 => .object "NetUnfolder$Prefix"
  | 1 => .int
  | 2 => .array .int
  | 3 => .array .long
  | _ => .array .long
theorem nm_Po : ∀ a, a < 5 → ∀ b, b < 5 → a ≠ b → (T_Po a).2.1 ≠ (T_Po b).2.1 := by decide +kernel
theorem ok_Po : ∀ k, k < 5 → parseFieldDescriptor (T_Po k).2.2.1 = some (ty_Po k) := by decide +kernel
def T_Qu : u_T := fun k => match k with
  | 0 => ("NetUnfolder$Question", "net", "LNetUnfolder$Net;", true)
  | 1 => ("NetUnfolder$Question", "prefix", "LNetUnfolder$Prefix;", true)
  | 2 => ("NetUnfolder$Question", "way", "LNetUnfolder$Way;", true)
  | 3 => ("NetUnfolder$Question", "clauses", "LNetUnfolder$Clauses;", true)
  | 4 => ("NetUnfolder$Question", "search", "LNetUnfolder$Search;", true)
  | _ => ("NetUnfolder$Question", "usable", "I", false)
def ty_Qu : Nat → FieldType := fun k => match k with
  | 0 => .object "NetUnfolder$Net"
  | 1 => .object "NetUnfolder$Prefix"
  | 2 => .object "NetUnfolder$Way"
  | 3 => .object "NetUnfolder$Clauses"
  | 4 => .object "NetUnfolder$Search"
  | _ => .int
theorem nm_Qu : ∀ a, a < 6 → ∀ b, b < 6 → a ≠ b → (T_Qu a).2.1 ≠ (T_Qu b).2.1 := by decide +kernel
theorem ok_Qu : ∀ k, k < 6 → parseFieldDescriptor (T_Qu k).2.2.1 = some (ty_Qu k) := by decide +kernel
def T_Cs : u_T := fun k => match k with
  | 0 => ("NetUnfolder$Clauses", "yes", "[J", true)
  | 1 => ("NetUnfolder$Clauses", "no", "[J", true)
  | 2 => ("NetUnfolder$Clauses", "size", "I", false)
  | _ => ("NetUnfolder$Clauses", "given", "I", false)
def ty_Cs : Nat → FieldType := fun k => match k with
  | 0 => .array .long
  | 1 => .array .long
  | 2 => .int
  | _ => .int
theorem nm_Cs : ∀ a, a < 4 → ∀ b, b < 4 → a ≠ b → (T_Cs a).2.1 ≠ (T_Cs b).2.1 := by decide +kernel
theorem ok_Cs : ∀ k, k < 4 → parseFieldDescriptor (T_Cs k).2.2.1 = some (ty_Cs k) := by decide +kernel
def T_Se : u_T := fun k => match k with
  | 0 => ("NetUnfolder$Search", "clauses", "LNetUnfolder$Clauses;", true)
  | 1 => ("NetUnfolder$Search", "yes", "J", false)
  | 2 => ("NetUnfolder$Search", "no", "J", false)
  | 3 => ("NetUnfolder$Search", "level", "I", false)
  | 4 => ("NetUnfolder$Search", "setAt", "[J", true)
  | 5 => ("NetUnfolder$Search", "trail", "[I", true)
  | 6 => ("NetUnfolder$Search", "trailSize", "I", false)
  | _ => ("NetUnfolder$Search", "reason", "[I", true)
def ty_Se : Nat → FieldType := fun k => match k with
  | 0 => .object "NetUnfolder$Clauses"
  | 1 => .long
  | 2 => .long
  | 3 => .int
  | 4 => .array .long
  | 5 => .array .int
  | 6 => .int
  | _ => .array .int
theorem nm_Se : ∀ a, a < 8 → ∀ b, b < 8 → a ≠ b → (T_Se a).2.1 ≠ (T_Se b).2.1 := by decide +kernel
theorem ok_Se : ∀ k, k < 8 → parseFieldDescriptor (T_Se k).2.2.1 = some (ty_Se k) := by decide +kernel
def T_Mo : u_T := fun k => match k with
  | 0 => ("NetUnfolderModel", "thrown", "I", false)
  | 1 => ("NetUnfolderModel", "transitions", "I", false)
  | 2 => ("NetUnfolderModel", "pre", "[I", true)
  | 3 => ("NetUnfolderModel", "post", "[I", true)
  | 4 => ("NetUnfolderModel", "first", "I", false)
  | 5 => ("NetUnfolderModel", "conditions", "I", false)
  | 6 => ("NetUnfolderModel", "place", "[I", true)
  | 7 => ("NetUnfolderModel", "maker", "[I", true)
  | 8 => ("NetUnfolderModel", "behind", "[I", true)
  | 9 => ("NetUnfolderModel", "beside", "[J", true)
  | 10 => ("NetUnfolderModel", "events", "I", false)
  | 11 => ("NetUnfolderModel", "transition", "[I", true)
  | 12 => ("NetUnfolderModel", "causes", "[I", true)
  | 13 => ("NetUnfolderModel", "taken", "[J", true)
  | 14 => ("NetUnfolderModel", "takes", "[I", true)
  | 15 => ("NetUnfolderModel", "rank", "[J", true)
  | 16 => ("NetUnfolderModel", "marking", "[I", true)
  | 17 => ("NetUnfolderModel", "cut", "[Z", true)
  | 18 => ("NetUnfolderModel", "whole", "Z", false)
  | 19 => ("NetUnfolderModel", "possible", "I", false)
  | 20 => ("NetUnfolderModel", "chosen", "[I", true)
  | 21 => ("NetUnfolderModel", "open", "[J", true)
  | 22 => ("NetUnfolderModel", "leastRank", "J", false)
  | 23 => ("NetUnfolderModel", "leastTransition", "I", false)
  | 24 => ("NetUnfolderModel", "leastMany", "I", false)
  | 25 => ("NetUnfolderModel", "least", "[I", true)
  | 26 => ("NetUnfolderModel", "length", "I", false)
  | _ => ("NetUnfolderModel", "way", "[I", true)
def ty_Mo : Nat → FieldType := fun k => match k with
  | 0 => .int
  | 1 => .int
  | 2 => .array .int
  | 3 => .array .int
  | 4 => .int
  | 5 => .int
  | 6 => .array .int
  | 7 => .array .int
  | 8 => .array .int
  | 9 => .array .long
  | 10 => .int
  | 11 => .array .int
  | 12 => .array .int
  | 13 => .array .long
  | 14 => .array .int
  | 15 => .array .long
  | 16 => .array .int
  | 17 => .array .boolean
  | 18 => .boolean
  | 19 => .int
  | 20 => .array .int
  | 21 => .array .long
  | 22 => .long
  | 23 => .int
  | 24 => .int
  | 25 => .array .int
  | 26 => .int
  | _ => .array .int
theorem nm_Mo : ∀ a, a < 28 → ∀ b, b < 28 → a ≠ b → (T_Mo a).2.1 ≠ (T_Mo b).2.1 := by decide +kernel
theorem ok_Mo : ∀ k, k < 28 → parseFieldDescriptor (T_Mo k).2.2.1 = some (ty_Mo k) := by decide +kernel
abbrev clA : List vw_C := [("NetUnfolder", T_NU, 5), ("NetUnfolder$Net", T_Ne, 4), ("NetUnfolder$Prefix", T_Pf, 14), ("NetUnfolder$Way", T_Wa, 2), ("NetUnfolder$Unfolding", T_Un, 4), ("NetUnfolder$Possible", T_Po, 5), ("NetUnfolder$Question", T_Qu, 6), ("NetUnfolder$Clauses", T_Cs, 4), ("NetUnfolder$Search", T_Se, 8), ("NetUnfolderModel", T_Mo, 28)]
def NwA (U : State) : Prop := va_Nw (Jvm.Cond.methodLinkNest "NetUnfolder" (9 : Nat) ({ cls := "NetUnfolder$Net", name := "<init>", desc := "()V" } : Jvm.MethodName) "NetUnfolder") U ∧ va_Nw (Jvm.Cond.methodLinkNest "NetUnfolder" (18 : Nat) ({ cls := "NetUnfolder$Prefix", name := "<init>", desc := "()V" } : Jvm.MethodName) "NetUnfolder") U ∧ va_Nw (Jvm.Cond.methodLinkNest "NetUnfolder" (25 : Nat) ({ cls := "NetUnfolder$Way", name := "<init>", desc := "()V" } : Jvm.MethodName) "NetUnfolder") U ∧ va_Nw (Jvm.Cond.methodLinkNest "NetUnfolder$Question" (11 : Nat) ({ cls := "NetUnfolder$Clauses", name := "<init>", desc := "()V" } : Jvm.MethodName) "NetUnfolder") U ∧ va_Nw (Jvm.Cond.methodLinkNest "NetUnfolder$Prefix" (63 : Nat) ({ cls := "NetUnfolder", name := "has", desc := "(JI)Z" } : Jvm.MethodName) "NetUnfolder") U ∧ va_Nw (Jvm.Cond.methodLinkNest "NetUnfolder$Unfolding" (103 : Nat) ({ cls := "NetUnfolder", name := "has", desc := "(JI)Z" } : Jvm.MethodName) "NetUnfolder") U ∧ va_Nw (Jvm.Cond.methodLinkNest "NetUnfolder$Prefix" (83 : Nat) ({ cls := "NetUnfolder", name := "least", desc := "(J)I" } : Jvm.MethodName) "NetUnfolder") U ∧ va_Nw (Jvm.Cond.methodLinkNest "NetUnfolder$Question" (42 : Nat) ({ cls := "NetUnfolder", name := "has", desc := "(JI)Z" } : Jvm.MethodName) "NetUnfolder") U ∧ va_Nw (Jvm.Cond.methodLinkNest "NetUnfolder$Search" (55 : Nat) ({ cls := "NetUnfolder", name := "least", desc := "(J)I" } : Jvm.MethodName) "NetUnfolder") U ∧ va_Nw (Jvm.Cond.methodLinkNest "NetUnfolder$Search" (30 : Nat) ({ cls := "NetUnfolder", name := "has", desc := "(JI)Z" } : Jvm.MethodName) "NetUnfolder") U
theorem NwA.warm {s U : State} (hW : s.WarmedH U.vm) (h : NwA s) : NwA U := ⟨va_Nw.warmM hW h.1, va_Nw.warmM hW h.2.1, va_Nw.warmM hW h.2.2.1, va_Nw.warmM hW h.2.2.2.1, va_Nw.warmM hW h.2.2.2.2.1, va_Nw.warmM hW h.2.2.2.2.2.1, va_Nw.warmM hW h.2.2.2.2.2.2.1, va_Nw.warmM hW h.2.2.2.2.2.2.2.1, va_Nw.warmM hW h.2.2.2.2.2.2.2.2.1, va_Nw.warmM hW h.2.2.2.2.2.2.2.2.2⟩
theorem NwA.same {u U : State} (h : u.vm = U.vm) (hN : NwA u) : NwA U := ⟨va_Nw.same rfl h hN.1, va_Nw.same rfl h hN.2.1, va_Nw.same rfl h hN.2.2.1, va_Nw.same rfl h hN.2.2.2.1, va_Nw.same rfl h hN.2.2.2.2.1, va_Nw.same rfl h hN.2.2.2.2.2.1, va_Nw.same rfl h hN.2.2.2.2.2.2.1, va_Nw.same rfl h hN.2.2.2.2.2.2.2.1, va_Nw.same rfl h hN.2.2.2.2.2.2.2.2.1, va_Nw.same rfl h hN.2.2.2.2.2.2.2.2.2⟩
abbrev y_NU_init : MethodName := { cls := "NetUnfolder", name := "<init>", desc := "()V" }
abbrev y_NU_clear : MethodName := { cls := "NetUnfolder", name := "clear", desc := "()V" }
abbrev y_NU_concurrent : MethodName := { cls := "NetUnfolder", name := "concurrent", desc := "(II)Z" }
abbrev y_NU_condition : MethodName := { cls := "NetUnfolder", name := "condition", desc := "(II)I" }
abbrev y_NU_count : MethodName := { cls := "NetUnfolder", name := "count", desc := "(I)I" }
abbrev y_NU_deadlock : MethodName := { cls := "NetUnfolder", name := "deadlock", desc := "()I" }
abbrev y_NU_dropPrefixAndWay : MethodName := { cls := "NetUnfolder", name := "dropPrefixAndWay", desc := "()V" }
abbrev y_NU_event : MethodName := { cls := "NetUnfolder", name := "event", desc := "(II)I" }
abbrev y_NU_first : MethodName := { cls := "NetUnfolder", name := "first", desc := "(I)V" }
abbrev y_NU_has : MethodName := { cls := "NetUnfolder", name := "has", desc := "(JI)Z" }
abbrev y_NU_isMarking : MethodName := { cls := "NetUnfolder", name := "isMarking", desc := "(I)Z" }
abbrev y_NU_least : MethodName := { cls := "NetUnfolder", name := "least", desc := "(J)I" }
abbrev y_NU_play : MethodName := { cls := "NetUnfolder", name := "play", desc := "(I)I" }
abbrev y_NU_reach : MethodName := { cls := "NetUnfolder", name := "reach", desc := "(I)I" }
abbrev y_NU_takes : MethodName := { cls := "NetUnfolder", name := "takes", desc := "(II)I" }
abbrev y_NU_transition : MethodName := { cls := "NetUnfolder", name := "transition", desc := "(II)I" }
abbrev y_NU_unfold : MethodName := { cls := "NetUnfolder", name := "unfold", desc := "()I" }
abbrev y_NU_way : MethodName := { cls := "NetUnfolder", name := "way", desc := "(I)I" }
abbrev y_Cs_init : MethodName := { cls := "NetUnfolder$Clauses", name := "<init>", desc := "()V" }
abbrev y_Cs_give : MethodName := { cls := "NetUnfolder$Clauses", name := "give", desc := "(JJ)V" }
abbrev y_Cs_isFull : MethodName := { cls := "NetUnfolder$Clauses", name := "isFull", desc := "()Z" }
abbrev y_Cs_learn : MethodName := { cls := "NetUnfolder$Clauses", name := "learn", desc := "(JJ)V" }
abbrev y_Cs_move : MethodName := { cls := "NetUnfolder$Clauses", name := "move", desc := "(II)V" }
abbrev y_Cs_wipe : MethodName := { cls := "NetUnfolder$Clauses", name := "wipe", desc := "()V" }
abbrev y_Ne_init : MethodName := { cls := "NetUnfolder$Net", name := "<init>", desc := "()V" }
abbrev y_Ne_add : MethodName := { cls := "NetUnfolder$Net", name := "add", desc := "(II)I" }
abbrev y_Ne_enables : MethodName := { cls := "NetUnfolder$Net", name := "enables", desc := "(II)Z" }
abbrev y_Ne_fire : MethodName := { cls := "NetUnfolder$Net", name := "fire", desc := "(II)I" }
abbrev y_Ne_wipe : MethodName := { cls := "NetUnfolder$Net", name := "wipe", desc := "()V" }
abbrev y_Po_init : MethodName := { cls := "NetUnfolder$Possible", name := "<init>", desc := "(LNetUnfolder$Prefix;)V" }
abbrev y_Po_add : MethodName := { cls := "NetUnfolder$Possible", name := "add", desc := "(IJJ)V" }
abbrev y_Po_comesBefore : MethodName := { cls := "NetUnfolder$Possible", name := "comesBefore", desc := "(II)Z" }
abbrev y_Po_next : MethodName := { cls := "NetUnfolder$Possible", name := "next", desc := "()I" }
abbrev y_Po_remove : MethodName := { cls := "NetUnfolder$Possible", name := "remove", desc := "(I)V" }
abbrev y_Po_tooMany : MethodName := { cls := "NetUnfolder$Possible", name := "tooMany", desc := "()Z" }
abbrev y_Po_wipe : MethodName := { cls := "NetUnfolder$Possible", name := "wipe", desc := "()V" }
abbrev y_Pf_init : MethodName := { cls := "NetUnfolder$Prefix", name := "<init>", desc := "()V" }
abbrev y_Pf_addConditions : MethodName := { cls := "NetUnfolder$Prefix", name := "addConditions", desc := "(IIJ)J" }
abbrev y_Pf_addEvent : MethodName := { cls := "NetUnfolder$Prefix", name := "addEvent", desc := "(IJJ)I" }
abbrev y_Pf_allConditions : MethodName := { cls := "NetUnfolder$Prefix", name := "allConditions", desc := "()J" }
abbrev y_Pf_besideAll : MethodName := { cls := "NetUnfolder$Prefix", name := "besideAll", desc := "(J)J" }
abbrev y_Pf_causesOf : MethodName := { cls := "NetUnfolder$Prefix", name := "causesOf", desc := "(J)I" }
abbrev y_Pf_isCutOff : MethodName := { cls := "NetUnfolder$Prefix", name := "isCutOff", desc := "(I)Z" }
abbrev y_Pf_markingOf : MethodName := { cls := "NetUnfolder$Prefix", name := "markingOf", desc := "(I)I" }
abbrev y_Pf_rankOf : MethodName := { cls := "NetUnfolder$Prefix", name := "rankOf", desc := "(II)J" }
abbrev y_Pf_takenBy : MethodName := { cls := "NetUnfolder$Prefix", name := "takenBy", desc := "(II)I" }
abbrev y_Pf_wipe : MethodName := { cls := "NetUnfolder$Prefix", name := "wipe", desc := "()V" }
abbrev y_Qu_init : MethodName := { cls := "NetUnfolder$Question", name := "<init>", desc := "(LNetUnfolder$Net;LNetUnfolder$Prefix;LNetUnfolder$Way;)V" }
abbrev y_Qu_answer : MethodName := { cls := "NetUnfolder$Question", name := "answer", desc := "()I" }
abbrev y_Qu_askDeadlock : MethodName := { cls := "NetUnfolder$Question", name := "askDeadlock", desc := "()I" }
abbrev y_Qu_askMarking : MethodName := { cls := "NetUnfolder$Question", name := "askMarking", desc := "(I)I" }
abbrev y_Qu_describeCondition : MethodName := { cls := "NetUnfolder$Question", name := "describeCondition", desc := "(I)V" }
abbrev y_Qu_describeEvent : MethodName := { cls := "NetUnfolder$Question", name := "describeEvent", desc := "(I)V" }
abbrev y_Qu_describePrefix : MethodName := { cls := "NetUnfolder$Question", name := "describePrefix", desc := "()V" }
abbrev y_Qu_makersOf : MethodName := { cls := "NetUnfolder$Question", name := "makersOf", desc := "(II)J" }
abbrev y_Qu_placeBit : MethodName := { cls := "NetUnfolder$Question", name := "placeBit", desc := "(I)J" }
abbrev y_Se_init : MethodName := { cls := "NetUnfolder$Search", name := "<init>", desc := "(LNetUnfolder$Clauses;)V" }
abbrev y_Se_assign : MethodName := { cls := "NetUnfolder$Search", name := "assign", desc := "(IZI)V" }
abbrev y_Se_begin : MethodName := { cls := "NetUnfolder$Search", name := "begin", desc := "()V" }
abbrev y_Se_decide : MethodName := { cls := "NetUnfolder$Search", name := "decide", desc := "(I)V" }
abbrev y_Se_forcedBy : MethodName := { cls := "NetUnfolder$Search", name := "forcedBy", desc := "(I)I" }
abbrev y_Se_forgetIdle : MethodName := { cls := "NetUnfolder$Search", name := "forgetIdle", desc := "()V" }
abbrev y_Se_goBack : MethodName := { cls := "NetUnfolder$Search", name := "goBack", desc := "(I)V" }
abbrev y_Se_learnFrom : MethodName := { cls := "NetUnfolder$Search", name := "learnFrom", desc := "(I)V" }
abbrev y_Se_levelBelow : MethodName := { cls := "NetUnfolder$Search", name := "levelBelow", desc := "(J)I" }
abbrev y_Se_propagate : MethodName := { cls := "NetUnfolder$Search", name := "propagate", desc := "()I" }
abbrev y_Se_says : MethodName := { cls := "NetUnfolder$Search", name := "says", desc := "(I)Z" }
abbrev y_Se_solve : MethodName := { cls := "NetUnfolder$Search", name := "solve", desc := "(J)Z" }
abbrev y_Un_init : MethodName := { cls := "NetUnfolder$Unfolding", name := "<init>", desc := "(LNetUnfolder$Net;LNetUnfolder$Prefix;LNetUnfolder$Way;)V" }
abbrev y_Un_begin : MethodName := { cls := "NetUnfolder$Unfolding", name := "begin", desc := "()V" }
abbrev y_Un_choose : MethodName := { cls := "NetUnfolder$Unfolding", name := "choose", desc := "(IIJJJ)V" }
abbrev y_Un_findPossible : MethodName := { cls := "NetUnfolder$Unfolding", name := "findPossible", desc := "(JJ)V" }
abbrev y_Un_leadsToNothingNew : MethodName := { cls := "NetUnfolder$Unfolding", name := "leadsToNothingNew", desc := "(IJ)Z" }
abbrev y_Un_letCome : MethodName := { cls := "NetUnfolder$Unfolding", name := "letCome", desc := "(I)Z" }
abbrev y_Un_rivalOf : MethodName := { cls := "NetUnfolder$Unfolding", name := "rivalOf", desc := "(I)I" }
abbrev y_Un_run : MethodName := { cls := "NetUnfolder$Unfolding", name := "run", desc := "()I" }
abbrev y_Un_tellTransitions : MethodName := { cls := "NetUnfolder$Unfolding", name := "tellTransitions", desc := "(I)V" }
abbrev y_Un_tellWay : MethodName := { cls := "NetUnfolder$Unfolding", name := "tellWay", desc := "(II)V" }
abbrev y_Wa_init : MethodName := { cls := "NetUnfolder$Way", name := "<init>", desc := "()V" }
abbrev y_Wa_add : MethodName := { cls := "NetUnfolder$Way", name := "add", desc := "(I)V" }
abbrev y_Wa_begin : MethodName := { cls := "NetUnfolder$Way", name := "begin", desc := "()V" }
abbrev y_Wa_drop : MethodName := { cls := "NetUnfolder$Way", name := "drop", desc := "()V" }
abbrev y_Wa_step : MethodName := { cls := "NetUnfolder$Way", name := "step", desc := "(I)I" }
abbrev y_La_deadlock : MethodName := { cls := "NetUnfolderLaw", name := "deadlock", desc := "(LNetUnfolder;[J)I" }
abbrev y_La_first : MethodName := { cls := "NetUnfolderLaw", name := "first", desc := "(LNetUnfolder;I)I" }
abbrev y_La_play : MethodName := { cls := "NetUnfolderLaw", name := "play", desc := "(LNetUnfolder;I[J)I" }
abbrev y_La_reach : MethodName := { cls := "NetUnfolderLaw", name := "reach", desc := "(LNetUnfolder;I[J)I" }
abbrev y_La_transition : MethodName := { cls := "NetUnfolderLaw", name := "transition", desc := "(LNetUnfolder;II[J)I" }
abbrev y_Mo_init : MethodName := { cls := "NetUnfolderModel", name := "<init>", desc := "()V" }
abbrev y_Mo_addWay : MethodName := { cls := "NetUnfolderModel", name := "addWay", desc := "(J)V" }
abbrev y_Mo_answer : MethodName := { cls := "NetUnfolderModel", name := "answer", desc := "(I)I" }
abbrev y_Mo_behindAll : MethodName := { cls := "NetUnfolderModel", name := "behindAll", desc := "(I)I" }
abbrev y_Mo_besideLeast : MethodName := { cls := "NetUnfolderModel", name := "besideLeast", desc := "()J" }
abbrev y_Mo_choices : MethodName := { cls := "NetUnfolderModel", name := "choices", desc := "(I)V" }
abbrev y_Mo_clear : MethodName := { cls := "NetUnfolderModel", name := "clear", desc := "()V" }
abbrev y_Mo_come : MethodName := { cls := "NetUnfolderModel", name := "come", desc := "()Z" }
abbrev y_Mo_concurrent : MethodName := { cls := "NetUnfolderModel", name := "concurrent", desc := "(II)Z" }
abbrev y_Mo_condition_II : MethodName := { cls := "NetUnfolderModel", name := "condition", desc := "(II)I" }
abbrev y_Mo_condition_III : MethodName := { cls := "NetUnfolderModel", name := "condition", desc := "(III)V" }
abbrev y_Mo_count : MethodName := { cls := "NetUnfolderModel", name := "count", desc := "(I)I" }
abbrev y_Mo_deadlock : MethodName := { cls := "NetUnfolderModel", name := "deadlock", desc := "()I" }
abbrev y_Mo_event : MethodName := { cls := "NetUnfolderModel", name := "event", desc := "(II)I" }
abbrev y_Mo_fire : MethodName := { cls := "NetUnfolderModel", name := "fire", desc := "(III)I" }
abbrev y_Mo_first : MethodName := { cls := "NetUnfolderModel", name := "first", desc := "(I)V" }
abbrev y_Mo_fits : MethodName := { cls := "NetUnfolderModel", name := "fits", desc := "(JI)Z" }
abbrev y_Mo_forget : MethodName := { cls := "NetUnfolderModel", name := "forget", desc := "()V" }
abbrev y_Mo_found : MethodName := { cls := "NetUnfolderModel", name := "found", desc := "(II)V" }
abbrev y_Mo_further : MethodName := { cls := "NetUnfolderModel", name := "further", desc := "(IIJ)I" }
abbrev y_Mo_has : MethodName := { cls := "NetUnfolderModel", name := "has", desc := "(JI)Z" }
abbrev y_Mo_isThere : MethodName := { cls := "NetUnfolderModel", name := "isThere", desc := "(II)Z" }
abbrev y_Mo_markingOf : MethodName := { cls := "NetUnfolderModel", name := "markingOf", desc := "(J)I" }
abbrev y_Mo_outside : MethodName := { cls := "NetUnfolderModel", name := "outside", desc := "(III)Z" }
abbrev y_Mo_placeOf : MethodName := { cls := "NetUnfolderModel", name := "placeOf", desc := "(II)I" }
abbrev y_Mo_play : MethodName := { cls := "NetUnfolderModel", name := "play", desc := "(I)I" }
abbrev y_Mo_rankOf : MethodName := { cls := "NetUnfolderModel", name := "rankOf", desc := "(II)J" }
abbrev y_Mo_reach : MethodName := { cls := "NetUnfolderModel", name := "reach", desc := "(I)I" }
abbrev y_Mo_refuse : MethodName := { cls := "NetUnfolderModel", name := "refuse", desc := "(I)I" }
abbrev y_Mo_search : MethodName := { cls := "NetUnfolderModel", name := "search", desc := "()V" }
abbrev y_Mo_setOf : MethodName := { cls := "NetUnfolderModel", name := "setOf", desc := "(I)J" }
abbrev y_Mo_sizeOf : MethodName := { cls := "NetUnfolderModel", name := "sizeOf", desc := "(I)I" }
abbrev y_Mo_stuck : MethodName := { cls := "NetUnfolderModel", name := "stuck", desc := "(I)Z" }
abbrev y_Mo_takenBy : MethodName := { cls := "NetUnfolderModel", name := "takenBy", desc := "(J)J" }
abbrev y_Mo_takes : MethodName := { cls := "NetUnfolderModel", name := "takes", desc := "(II)I" }
abbrev y_Mo_together : MethodName := { cls := "NetUnfolderModel", name := "together", desc := "(II)Z" }
abbrev y_Mo_transition : MethodName := { cls := "NetUnfolderModel", name := "transition", desc := "(II)I" }
abbrev y_Mo_twice : MethodName := { cls := "NetUnfolderModel", name := "twice", desc := "()I" }
abbrev y_Mo_unfold : MethodName := { cls := "NetUnfolderModel", name := "unfold", desc := "()I" }
abbrev y_Mo_way : MethodName := { cls := "NetUnfolderModel", name := "way", desc := "(I)I" }
abbrev y_Ig_bitCount : MethodName := { cls := "java/lang/Integer", name := "bitCount", desc := "(I)I" }
abbrev y_Lo_bitCount : MethodName := { cls := "java/lang/Long", name := "bitCount", desc := "(J)I" }
abbrev y_Ar_fill : MethodName := { cls := "java/util/Arrays", name := "fill", desc := "([JJ)V" }
set_option maxRecDepth 20000 in
theorem wd_1_0 : (Jvm.Cond.initialized "NetUnfolderLaw") ∈ wsA := wA_1 (List.mem_of_getElem? (i := 0) rfl) rfl
set_option maxRecDepth 20000 in
theorem wd_1_1 : (Jvm.Cond.initialized "NetUnfolder") ∈ wsA := wA_1 (List.mem_of_getElem? (i := 1) rfl) rfl
set_option maxRecDepth 20000 in
theorem wd_1_2 : (Jvm.Cond.initialized "NetUnfolder$Net") ∈ wsA := wA_1 (List.mem_of_getElem? (i := 2) rfl) rfl
set_option maxRecDepth 20000 in
theorem wd_1_3 : (Jvm.Cond.initialized "NetUnfolder$Prefix") ∈ wsA := wA_1 (List.mem_of_getElem? (i := 3) rfl) rfl
set_option maxRecDepth 20000 in
theorem wd_1_4 : (Jvm.Cond.initialized "NetUnfolder$Way") ∈ wsA := wA_1 (List.mem_of_getElem? (i := 4) rfl) rfl
set_option maxRecDepth 20000 in
theorem wd_1_5 : (Jvm.Cond.initialized "NetUnfolder$Unfolding") ∈ wsA := wA_1 (List.mem_of_getElem? (i := 5) rfl) rfl
set_option maxRecDepth 20000 in
theorem wd_1_6 : (Jvm.Cond.initialized "NetUnfolder$Possible") ∈ wsA := wA_1 (List.mem_of_getElem? (i := 6) rfl) rfl
set_option maxRecDepth 20000 in
theorem wd_1_7 : (Jvm.Cond.initialized "NetUnfolder$Question") ∈ wsA := wA_1 (List.mem_of_getElem? (i := 7) rfl) rfl
set_option maxRecDepth 20000 in
theorem wd_1_8 : (Jvm.Cond.initialized "NetUnfolder$Clauses") ∈ wsA := wA_1 (List.mem_of_getElem? (i := 8) rfl) rfl
set_option maxRecDepth 20000 in
theorem wd_1_9 : (Jvm.Cond.initialized "NetUnfolder$Search") ∈ wsA := wA_1 (List.mem_of_getElem? (i := 9) rfl) rfl
set_option maxRecDepth 20000 in
theorem wd_1_10 : (Jvm.Cond.initialized "NetUnfolderModel") ∈ wsA := wA_1 (List.mem_of_getElem? (i := 10) rfl) rfl
set_option maxRecDepth 20000 in
theorem wd_1_14 : (Jvm.Cond.initialized "java/lang/IllegalArgumentException") ∈ wsA := wA_1 (List.mem_of_getElem? (i := 14) rfl) rfl
set_option maxRecDepth 20000 in
theorem wd_1_15 : (Jvm.Cond.initialized "java/lang/IllegalStateException") ∈ wsA := wA_1 (List.mem_of_getElem? (i := 15) rfl) rfl
set_option maxRecDepth 20000 in
theorem wd_1_16 : (Jvm.Cond.initialized "java/util/Arrays") ∈ wsA := wA_1 (List.mem_of_getElem? (i := 16) rfl) rfl
set_option maxRecDepth 20000 in
theorem wd_1_17 : (Jvm.Cond.initialized "java/lang/Integer") ∈ wsA := wA_1 (List.mem_of_getElem? (i := 17) rfl) rfl
set_option maxRecDepth 20000 in
theorem wd_1_18 : (Jvm.Cond.initialized "java/lang/Long") ∈ wsA := wA_1 (List.mem_of_getElem? (i := 18) rfl) rfl
set_option maxRecDepth 20000 in
theorem wd_1_19 : (Jvm.Cond.classLink "NetUnfolderLaw" (8 : Nat) "NetUnfolder") ∈ wsA := wA_1 (List.mem_of_getElem? (i := 19) rfl) rfl
set_option maxRecDepth 20000 in
theorem wd_1_20 : (Jvm.Cond.instantiable "NetUnfolder" (5 : Nat)) ∈ wsA := wA_1 (List.mem_of_getElem? (i := 20) rfl) rfl
set_option maxRecDepth 20000 in
theorem wd_1_21 : (Jvm.Cond.methodLink "NetUnfolderLaw" (32 : Nat) ({ cls := "NetUnfolder", name := "<init>", desc := "()V" } : Jvm.MethodName)) ∈ wsA := wA_1 (List.mem_of_getElem? (i := 21) rfl) rfl
set_option maxRecDepth 20000 in
theorem wd_1_22 : (Jvm.Cond.instanceMethod ({ cls := "NetUnfolder", name := "<init>", desc := "()V" } : Jvm.MethodName)) ∈ wsA := wA_1 (List.mem_of_getElem? (i := 22) rfl) rfl
set_option maxRecDepth 20000 in
theorem wd_1_23 : (Jvm.Cond.code ({ cls := "NetUnfolder", name := "<init>", desc := "()V" } : Jvm.MethodName) prog_1_method_1_code (1 : Nat) (Option.none : Option Jvm.ClassFile.FieldType)) ∈ wsA := wA_1 (List.mem_of_getElem? (i := 23) rfl) rfl
set_option maxRecDepth 20000 in
theorem wd_1_24 : (Jvm.Cond.methodLink "NetUnfolder" (1 : Nat) ({ cls := "java/lang/Object", name := "<init>", desc := "()V" } : Jvm.MethodName)) ∈ wsA := wA_1 (List.mem_of_getElem? (i := 24) rfl) rfl
set_option maxRecDepth 20000 in
theorem wd_1_25 : (Jvm.Cond.instanceMethod ({ cls := "java/lang/Object", name := "<init>", desc := "()V" } : Jvm.MethodName)) ∈ wsA := wA_1 (List.mem_of_getElem? (i := 25) rfl) rfl
set_option maxRecDepth 20000 in
theorem wd_1_26 : (Jvm.Cond.code ({ cls := "java/lang/Object", name := "<init>", desc := "()V" } : Jvm.MethodName) object_method_1_code (1 : Nat) (Option.none : Option Jvm.ClassFile.FieldType)) ∈ wsA := wA_1 (List.mem_of_getElem? (i := 26) rfl) rfl
set_option maxRecDepth 20000 in
theorem wd_1_27 : (Jvm.Cond.classLink "NetUnfolder" (7 : Nat) "NetUnfolder$Net") ∈ wsA := wA_1 (List.mem_of_getElem? (i := 27) rfl) rfl
set_option maxRecDepth 20000 in
theorem wd_1_28 : (Jvm.Cond.instantiable "NetUnfolder$Net" (4 : Nat)) ∈ wsA := wA_1 (List.mem_of_getElem? (i := 28) rfl) rfl
set_option maxRecDepth 20000 in
theorem wd_1_30 : (Jvm.Cond.instanceMethod ({ cls := "NetUnfolder$Net", name := "<init>", desc := "()V" } : Jvm.MethodName)) ∈ wsA := wA_1 (List.mem_of_getElem? (i := 30) rfl) rfl
set_option maxRecDepth 20000 in
theorem wd_1_31 : (Jvm.Cond.code ({ cls := "NetUnfolder$Net", name := "<init>", desc := "()V" } : Jvm.MethodName) prog_3_method_1_code (1 : Nat) (Option.none : Option Jvm.ClassFile.FieldType)) ∈ wsA := wA_1 (List.mem_of_getElem? (i := 31) rfl) rfl
set_option maxRecDepth 20000 in
theorem wd_1_32 : (Jvm.Cond.methodLink "NetUnfolder$Net" (3 : Nat) ({ cls := "java/lang/Object", name := "<init>", desc := "()V" } : Jvm.MethodName)) ∈ wsA := wA_1 (List.mem_of_getElem? (i := 32) rfl) rfl
set_option maxRecDepth 20000 in
theorem wd_1_33 : (Jvm.Cond.fieldLink "NetUnfolder$Net" (9 : Nat) "NetUnfolder$Net" "preset" "[I") ∈ wsA := wA_1 (List.mem_of_getElem? (i := 33) rfl) rfl
set_option maxRecDepth 20000 in
theorem wd_1_34 : (Jvm.Cond.fieldLink "NetUnfolder$Question" (64 : Nat) "NetUnfolder$Net" "preset" "[I") ∈ wsA := wA_1 (List.mem_of_getElem? (i := 34) rfl) rfl
set_option maxRecDepth 20000 in
theorem wd_1_35 : (Jvm.Cond.fieldLink "NetUnfolder$Unfolding" (170 : Nat) "NetUnfolder$Net" "preset" "[I") ∈ wsA := wA_1 (List.mem_of_getElem? (i := 35) rfl) rfl
set_option maxRecDepth 20000 in
theorem wd_1_36 : (Jvm.Cond.fieldLink "NetUnfolder$Net" (15 : Nat) "NetUnfolder$Net" "postset" "[I") ∈ wsA := wA_1 (List.mem_of_getElem? (i := 36) rfl) rfl
set_option maxRecDepth 20000 in
theorem wd_1_37 : (Jvm.Cond.fieldLink "NetUnfolder$Unfolding" (85 : Nat) "NetUnfolder$Net" "postset" "[I") ∈ wsA := wA_1 (List.mem_of_getElem? (i := 37) rfl) rfl
set_option maxRecDepth 20000 in
theorem wd_1_38 : (Jvm.Cond.fieldLink "NetUnfolder$Net" (18 : Nat) "NetUnfolder$Net" "size" "I") ∈ wsA := wA_1 (List.mem_of_getElem? (i := 38) rfl) rfl
set_option maxRecDepth 20000 in
theorem wd_1_39 : (Jvm.Cond.fieldLink "NetUnfolder" (53 : Nat) "NetUnfolder$Net" "size" "I") ∈ wsA := wA_1 (List.mem_of_getElem? (i := 39) rfl) rfl
set_option maxRecDepth 20000 in
theorem wd_1_40 : (Jvm.Cond.fieldLink "NetUnfolder$Question" (58 : Nat) "NetUnfolder$Net" "size" "I") ∈ wsA := wA_1 (List.mem_of_getElem? (i := 40) rfl) rfl
set_option maxRecDepth 20000 in
theorem wd_1_41 : (Jvm.Cond.fieldLink "NetUnfolder$Unfolding" (158 : Nat) "NetUnfolder$Net" "size" "I") ∈ wsA := wA_1 (List.mem_of_getElem? (i := 41) rfl) rfl
set_option maxRecDepth 20000 in
theorem wd_1_42 : (Jvm.Cond.fieldLink "NetUnfolder$Net" (22 : Nat) "NetUnfolder$Net" "first" "I") ∈ wsA := wA_1 (List.mem_of_getElem? (i := 42) rfl) rfl
set_option maxRecDepth 20000 in
theorem wd_1_43 : (Jvm.Cond.fieldLink "NetUnfolder$Unfolding" (72 : Nat) "NetUnfolder$Net" "first" "I") ∈ wsA := wA_1 (List.mem_of_getElem? (i := 43) rfl) rfl
set_option maxRecDepth 20000 in
theorem wd_1_44 : (Jvm.Cond.fieldLink "NetUnfolder" (67 : Nat) "NetUnfolder$Net" "first" "I") ∈ wsA := wA_1 (List.mem_of_getElem? (i := 44) rfl) rfl
set_option maxRecDepth 20000 in
theorem wd_1_45 : (Jvm.Cond.fieldLink "NetUnfolder$Question" (119 : Nat) "NetUnfolder$Net" "first" "I") ∈ wsA := wA_1 (List.mem_of_getElem? (i := 45) rfl) rfl
set_option maxRecDepth 20000 in
theorem wd_1_46 : (Jvm.Cond.laysFinal "NetUnfolder$Net" "NetUnfolder$Net" "preset" "[I") ∈ wsA := wA_1 (List.mem_of_getElem? (i := 46) rfl) rfl
set_option maxRecDepth 20000 in
theorem wd_1_48 : (Jvm.Cond.laysFinal "NetUnfolder$Net" "NetUnfolder$Net" "postset" "[I") ∈ wsA := wA_1 (List.mem_of_getElem? (i := 48) rfl) rfl
set_option maxRecDepth 20000 in
theorem wd_1_50 : (Jvm.Cond.lays "NetUnfolder$Net" "NetUnfolder$Net" "size" "I") ∈ wsA := wA_1 (List.mem_of_getElem? (i := 50) rfl) rfl
set_option maxRecDepth 20000 in
theorem wd_1_52 : (Jvm.Cond.lays "NetUnfolder$Net" "NetUnfolder$Net" "first" "I") ∈ wsA := wA_1 (List.mem_of_getElem? (i := 52) rfl) rfl
set_option maxRecDepth 20000 in
theorem wd_1_55 : (Jvm.Cond.arrayClass Jvm.ClassFile.FieldType.int) ∈ wsA := wA_1 (List.mem_of_getElem? (i := 55) rfl) rfl
set_option maxRecDepth 20000 in
theorem wd_1_56 : (Jvm.Cond.classLink "NetUnfolder" (16 : Nat) "NetUnfolder$Prefix") ∈ wsA := wA_1 (List.mem_of_getElem? (i := 56) rfl) rfl
set_option maxRecDepth 20000 in
theorem wd_1_57 : (Jvm.Cond.instantiable "NetUnfolder$Prefix" (14 : Nat)) ∈ wsA := wA_1 (List.mem_of_getElem? (i := 57) rfl) rfl
set_option maxRecDepth 20000 in
theorem wd_1_59 : (Jvm.Cond.instanceMethod ({ cls := "NetUnfolder$Prefix", name := "<init>", desc := "()V" } : Jvm.MethodName)) ∈ wsA := wA_1 (List.mem_of_getElem? (i := 59) rfl) rfl
set_option maxRecDepth 20000 in
theorem wd_1_60 : (Jvm.Cond.code ({ cls := "NetUnfolder$Prefix", name := "<init>", desc := "()V" } : Jvm.MethodName) prog_5_method_1_code (1 : Nat) (Option.none : Option Jvm.ClassFile.FieldType)) ∈ wsA := wA_1 (List.mem_of_getElem? (i := 60) rfl) rfl
set_option maxRecDepth 20000 in
theorem wd_1_61 : (Jvm.Cond.methodLink "NetUnfolder$Prefix" (3 : Nat) ({ cls := "java/lang/Object", name := "<init>", desc := "()V" } : Jvm.MethodName)) ∈ wsA := wA_1 (List.mem_of_getElem? (i := 61) rfl) rfl
set_option maxRecDepth 20000 in
theorem wd_1_62 : (Jvm.Cond.fieldLink "NetUnfolder$Prefix" (43 : Nat) "NetUnfolder$Prefix" "conditions" "I") ∈ wsA := wA_1 (List.mem_of_getElem? (i := 62) rfl) rfl
set_option maxRecDepth 20000 in
theorem wd_1_63 : (Jvm.Cond.fieldLink "NetUnfolder$Unfolding" (100 : Nat) "NetUnfolder$Prefix" "conditions" "I") ∈ wsA := wA_1 (List.mem_of_getElem? (i := 63) rfl) rfl
set_option maxRecDepth 20000 in
theorem wd_1_64 : (Jvm.Cond.fieldLink "NetUnfolder$Question" (113 : Nat) "NetUnfolder$Prefix" "conditions" "I") ∈ wsA := wA_1 (List.mem_of_getElem? (i := 64) rfl) rfl
set_option maxRecDepth 20000 in
theorem wd_1_65 : (Jvm.Cond.fieldLink "NetUnfolder" (104 : Nat) "NetUnfolder$Prefix" "conditions" "I") ∈ wsA := wA_1 (List.mem_of_getElem? (i := 65) rfl) rfl
set_option maxRecDepth 20000 in
theorem wd_1_66 : (Jvm.Cond.fieldLink "NetUnfolder$Prefix" (9 : Nat) "NetUnfolder$Prefix" "place" "[I") ∈ wsA := wA_1 (List.mem_of_getElem? (i := 66) rfl) rfl
set_option maxRecDepth 20000 in
theorem wd_1_67 : (Jvm.Cond.fieldLink "NetUnfolder$Unfolding" (107 : Nat) "NetUnfolder$Prefix" "place" "[I") ∈ wsA := wA_1 (List.mem_of_getElem? (i := 67) rfl) rfl
set_option maxRecDepth 20000 in
theorem wd_1_68 : (Jvm.Cond.fieldLink "NetUnfolder$Question" (133 : Nat) "NetUnfolder$Prefix" "place" "[I") ∈ wsA := wA_1 (List.mem_of_getElem? (i := 68) rfl) rfl
set_option maxRecDepth 20000 in
theorem wd_1_69 : (Jvm.Cond.fieldLink "NetUnfolder" (131 : Nat) "NetUnfolder$Prefix" "place" "[I") ∈ wsA := wA_1 (List.mem_of_getElem? (i := 69) rfl) rfl
set_option maxRecDepth 20000 in
theorem wd_1_70 : (Jvm.Cond.fieldLink "NetUnfolder$Prefix" (15 : Nat) "NetUnfolder$Prefix" "maker" "[I") ∈ wsA := wA_1 (List.mem_of_getElem? (i := 70) rfl) rfl
set_option maxRecDepth 20000 in
theorem wd_1_71 : (Jvm.Cond.fieldLink "NetUnfolder$Question" (139 : Nat) "NetUnfolder$Prefix" "maker" "[I") ∈ wsA := wA_1 (List.mem_of_getElem? (i := 71) rfl) rfl
set_option maxRecDepth 20000 in
theorem wd_1_72 : (Jvm.Cond.fieldLink "NetUnfolder" (134 : Nat) "NetUnfolder$Prefix" "maker" "[I") ∈ wsA := wA_1 (List.mem_of_getElem? (i := 72) rfl) rfl
set_option maxRecDepth 20000 in
theorem wd_1_73 : (Jvm.Cond.fieldLink "NetUnfolder$Prefix" (18 : Nat) "NetUnfolder$Prefix" "takers" "[I") ∈ wsA := wA_1 (List.mem_of_getElem? (i := 73) rfl) rfl
set_option maxRecDepth 20000 in
theorem wd_1_74 : (Jvm.Cond.fieldLink "NetUnfolder$Question" (136 : Nat) "NetUnfolder$Prefix" "takers" "[I") ∈ wsA := wA_1 (List.mem_of_getElem? (i := 74) rfl) rfl
set_option maxRecDepth 20000 in
theorem wd_1_75 : (Jvm.Cond.fieldLink "NetUnfolder" (137 : Nat) "NetUnfolder$Prefix" "takers" "[I") ∈ wsA := wA_1 (List.mem_of_getElem? (i := 75) rfl) rfl
set_option maxRecDepth 20000 in
theorem wd_1_76 : (Jvm.Cond.fieldLink "NetUnfolder$Prefix" (21 : Nat) "NetUnfolder$Prefix" "beside" "[J") ∈ wsA := wA_1 (List.mem_of_getElem? (i := 76) rfl) rfl
set_option maxRecDepth 20000 in
theorem wd_1_77 : (Jvm.Cond.fieldLink "NetUnfolder$Unfolding" (176 : Nat) "NetUnfolder$Prefix" "beside" "[J") ∈ wsA := wA_1 (List.mem_of_getElem? (i := 77) rfl) rfl
set_option maxRecDepth 20000 in
theorem wd_1_78 : (Jvm.Cond.fieldLink "NetUnfolder" (140 : Nat) "NetUnfolder$Prefix" "beside" "[J") ∈ wsA := wA_1 (List.mem_of_getElem? (i := 78) rfl) rfl
set_option maxRecDepth 20000 in
theorem wd_1_79 : (Jvm.Cond.fieldLink "NetUnfolder$Prefix" (25 : Nat) "NetUnfolder$Prefix" "ofPlace" "[J") ∈ wsA := wA_1 (List.mem_of_getElem? (i := 79) rfl) rfl
set_option maxRecDepth 20000 in
theorem wd_1_80 : (Jvm.Cond.fieldLink "NetUnfolder$Possible" (38 : Nat) "NetUnfolder$Prefix" "ofPlace" "[J") ∈ wsA := wA_1 (List.mem_of_getElem? (i := 80) rfl) rfl
set_option maxRecDepth 20000 in
theorem wd_1_81 : (Jvm.Cond.fieldLink "NetUnfolder$Unfolding" (173 : Nat) "NetUnfolder$Prefix" "ofPlace" "[J") ∈ wsA := wA_1 (List.mem_of_getElem? (i := 81) rfl) rfl
set_option maxRecDepth 20000 in
theorem wd_1_82 : (Jvm.Cond.fieldLink "NetUnfolder$Prefix" (53 : Nat) "NetUnfolder$Prefix" "events" "I") ∈ wsA := wA_1 (List.mem_of_getElem? (i := 82) rfl) rfl
set_option maxRecDepth 20000 in
theorem wd_1_83 : (Jvm.Cond.fieldLink "NetUnfolder$Unfolding" (49 : Nat) "NetUnfolder$Prefix" "events" "I") ∈ wsA := wA_1 (List.mem_of_getElem? (i := 83) rfl) rfl
set_option maxRecDepth 20000 in
theorem wd_1_84 : (Jvm.Cond.fieldLink "NetUnfolder$Question" (85 : Nat) "NetUnfolder$Prefix" "events" "I") ∈ wsA := wA_1 (List.mem_of_getElem? (i := 84) rfl) rfl
set_option maxRecDepth 20000 in
theorem wd_1_85 : (Jvm.Cond.fieldLink "NetUnfolder" (101 : Nat) "NetUnfolder$Prefix" "events" "I") ∈ wsA := wA_1 (List.mem_of_getElem? (i := 85) rfl) rfl
set_option maxRecDepth 20000 in
theorem wd_1_86 : (Jvm.Cond.fieldLink "NetUnfolder$Prefix" (28 : Nat) "NetUnfolder$Prefix" "transition" "[I") ∈ wsA := wA_1 (List.mem_of_getElem? (i := 86) rfl) rfl
set_option maxRecDepth 20000 in
theorem wd_1_87 : (Jvm.Cond.fieldLink "NetUnfolder$Question" (94 : Nat) "NetUnfolder$Prefix" "transition" "[I") ∈ wsA := wA_1 (List.mem_of_getElem? (i := 87) rfl) rfl
set_option maxRecDepth 20000 in
theorem wd_1_88 : (Jvm.Cond.fieldLink "NetUnfolder$Unfolding" (124 : Nat) "NetUnfolder$Prefix" "transition" "[I") ∈ wsA := wA_1 (List.mem_of_getElem? (i := 88) rfl) rfl
set_option maxRecDepth 20000 in
theorem wd_1_89 : (Jvm.Cond.fieldLink "NetUnfolder" (115 : Nat) "NetUnfolder$Prefix" "transition" "[I") ∈ wsA := wA_1 (List.mem_of_getElem? (i := 89) rfl) rfl
set_option maxRecDepth 20000 in
theorem wd_1_90 : (Jvm.Cond.fieldLink "NetUnfolder$Prefix" (31 : Nat) "NetUnfolder$Prefix" "taken" "[J") ∈ wsA := wA_1 (List.mem_of_getElem? (i := 90) rfl) rfl
set_option maxRecDepth 20000 in
theorem wd_1_91 : (Jvm.Cond.fieldLink "NetUnfolder$Question" (129 : Nat) "NetUnfolder$Prefix" "taken" "[J") ∈ wsA := wA_1 (List.mem_of_getElem? (i := 91) rfl) rfl
set_option maxRecDepth 20000 in
theorem wd_1_92 : (Jvm.Cond.fieldLink "NetUnfolder$Prefix" (34 : Nat) "NetUnfolder$Prefix" "causes" "[I") ∈ wsA := wA_1 (List.mem_of_getElem? (i := 92) rfl) rfl
set_option maxRecDepth 20000 in
theorem wd_1_93 : (Jvm.Cond.fieldLink "NetUnfolder$Question" (126 : Nat) "NetUnfolder$Prefix" "causes" "[I") ∈ wsA := wA_1 (List.mem_of_getElem? (i := 93) rfl) rfl
set_option maxRecDepth 20000 in
theorem wd_1_94 : (Jvm.Cond.fieldLink "NetUnfolder" (119 : Nat) "NetUnfolder$Prefix" "causes" "[I") ∈ wsA := wA_1 (List.mem_of_getElem? (i := 94) rfl) rfl
set_option maxRecDepth 20000 in
theorem wd_1_95 : (Jvm.Cond.fieldLink "NetUnfolder$Prefix" (37 : Nat) "NetUnfolder$Prefix" "marking" "[I") ∈ wsA := wA_1 (List.mem_of_getElem? (i := 95) rfl) rfl
set_option maxRecDepth 20000 in
theorem wd_1_96 : (Jvm.Cond.fieldLink "NetUnfolder$Unfolding" (151 : Nat) "NetUnfolder$Prefix" "marking" "[I") ∈ wsA := wA_1 (List.mem_of_getElem? (i := 96) rfl) rfl
set_option maxRecDepth 20000 in
theorem wd_1_97 : (Jvm.Cond.fieldLink "NetUnfolder" (122 : Nat) "NetUnfolder$Prefix" "marking" "[I") ∈ wsA := wA_1 (List.mem_of_getElem? (i := 97) rfl) rfl
set_option maxRecDepth 20000 in
theorem wd_1_98 : (Jvm.Cond.fieldLink "NetUnfolder$Prefix" (40 : Nat) "NetUnfolder$Prefix" "rank" "[J") ∈ wsA := wA_1 (List.mem_of_getElem? (i := 98) rfl) rfl
set_option maxRecDepth 20000 in
theorem wd_1_99 : (Jvm.Cond.fieldLink "NetUnfolder$Unfolding" (157 : Nat) "NetUnfolder$Prefix" "rank" "[J") ∈ wsA := wA_1 (List.mem_of_getElem? (i := 99) rfl) rfl
set_option maxRecDepth 20000 in
theorem wd_1_100 : (Jvm.Cond.fieldLink "NetUnfolder$Prefix" (56 : Nat) "NetUnfolder$Prefix" "cutOffs" "I") ∈ wsA := wA_1 (List.mem_of_getElem? (i := 100) rfl) rfl
set_option maxRecDepth 20000 in
theorem wd_1_101 : (Jvm.Cond.fieldLink "NetUnfolder$Question" (107 : Nat) "NetUnfolder$Prefix" "cutOffs" "I") ∈ wsA := wA_1 (List.mem_of_getElem? (i := 101) rfl) rfl
set_option maxRecDepth 20000 in
theorem wd_1_102 : (Jvm.Cond.fieldLink "NetUnfolder$Unfolding" (154 : Nat) "NetUnfolder$Prefix" "cutOffs" "I") ∈ wsA := wA_1 (List.mem_of_getElem? (i := 102) rfl) rfl
set_option maxRecDepth 20000 in
theorem wd_1_103 : (Jvm.Cond.fieldLink "NetUnfolder" (107 : Nat) "NetUnfolder$Prefix" "cutOffs" "I") ∈ wsA := wA_1 (List.mem_of_getElem? (i := 103) rfl) rfl
set_option maxRecDepth 20000 in
theorem wd_1_104 : (Jvm.Cond.fieldLink "NetUnfolder$Prefix" (59 : Nat) "NetUnfolder$Prefix" "whole" "Z") ∈ wsA := wA_1 (List.mem_of_getElem? (i := 104) rfl) rfl
set_option maxRecDepth 20000 in
theorem wd_1_105 : (Jvm.Cond.fieldLink "NetUnfolder$Unfolding" (43 : Nat) "NetUnfolder$Prefix" "whole" "Z") ∈ wsA := wA_1 (List.mem_of_getElem? (i := 105) rfl) rfl
set_option maxRecDepth 20000 in
theorem wd_1_106 : (Jvm.Cond.fieldLink "NetUnfolder" (77 : Nat) "NetUnfolder$Prefix" "whole" "Z") ∈ wsA := wA_1 (List.mem_of_getElem? (i := 106) rfl) rfl
set_option maxRecDepth 20000 in
theorem wd_1_107 : (Jvm.Cond.lays "NetUnfolder$Prefix" "NetUnfolder$Prefix" "conditions" "I") ∈ wsA := wA_1 (List.mem_of_getElem? (i := 107) rfl) rfl
set_option maxRecDepth 20000 in
theorem wd_1_109 : (Jvm.Cond.laysFinal "NetUnfolder$Prefix" "NetUnfolder$Prefix" "place" "[I") ∈ wsA := wA_1 (List.mem_of_getElem? (i := 109) rfl) rfl
set_option maxRecDepth 20000 in
theorem wd_1_111 : (Jvm.Cond.laysFinal "NetUnfolder$Prefix" "NetUnfolder$Prefix" "maker" "[I") ∈ wsA := wA_1 (List.mem_of_getElem? (i := 111) rfl) rfl
set_option maxRecDepth 20000 in
theorem wd_1_113 : (Jvm.Cond.laysFinal "NetUnfolder$Prefix" "NetUnfolder$Prefix" "takers" "[I") ∈ wsA := wA_1 (List.mem_of_getElem? (i := 113) rfl) rfl
set_option maxRecDepth 20000 in
theorem wd_1_115 : (Jvm.Cond.laysFinal "NetUnfolder$Prefix" "NetUnfolder$Prefix" "beside" "[J") ∈ wsA := wA_1 (List.mem_of_getElem? (i := 115) rfl) rfl
set_option maxRecDepth 20000 in
theorem wd_1_117 : (Jvm.Cond.laysFinal "NetUnfolder$Prefix" "NetUnfolder$Prefix" "ofPlace" "[J") ∈ wsA := wA_1 (List.mem_of_getElem? (i := 117) rfl) rfl
set_option maxRecDepth 20000 in
theorem wd_1_119 : (Jvm.Cond.lays "NetUnfolder$Prefix" "NetUnfolder$Prefix" "events" "I") ∈ wsA := wA_1 (List.mem_of_getElem? (i := 119) rfl) rfl
set_option maxRecDepth 20000 in
theorem wd_1_121 : (Jvm.Cond.laysFinal "NetUnfolder$Prefix" "NetUnfolder$Prefix" "transition" "[I") ∈ wsA := wA_1 (List.mem_of_getElem? (i := 121) rfl) rfl
set_option maxRecDepth 20000 in
theorem wd_1_123 : (Jvm.Cond.laysFinal "NetUnfolder$Prefix" "NetUnfolder$Prefix" "taken" "[J") ∈ wsA := wA_1 (List.mem_of_getElem? (i := 123) rfl) rfl
set_option maxRecDepth 20000 in
theorem wd_1_125 : (Jvm.Cond.laysFinal "NetUnfolder$Prefix" "NetUnfolder$Prefix" "causes" "[I") ∈ wsA := wA_1 (List.mem_of_getElem? (i := 125) rfl) rfl
set_option maxRecDepth 20000 in
theorem wd_1_127 : (Jvm.Cond.laysFinal "NetUnfolder$Prefix" "NetUnfolder$Prefix" "marking" "[I") ∈ wsA := wA_1 (List.mem_of_getElem? (i := 127) rfl) rfl
set_option maxRecDepth 20000 in
theorem wd_1_129 : (Jvm.Cond.laysFinal "NetUnfolder$Prefix" "NetUnfolder$Prefix" "rank" "[J") ∈ wsA := wA_1 (List.mem_of_getElem? (i := 129) rfl) rfl
set_option maxRecDepth 20000 in
theorem wd_1_131 : (Jvm.Cond.lays "NetUnfolder$Prefix" "NetUnfolder$Prefix" "cutOffs" "I") ∈ wsA := wA_1 (List.mem_of_getElem? (i := 131) rfl) rfl
set_option maxRecDepth 20000 in
theorem wd_1_133 : (Jvm.Cond.lays "NetUnfolder$Prefix" "NetUnfolder$Prefix" "whole" "Z") ∈ wsA := wA_1 (List.mem_of_getElem? (i := 133) rfl) rfl
set_option maxRecDepth 20000 in
theorem wd_1_136 : (Jvm.Cond.arrayClass Jvm.ClassFile.FieldType.long) ∈ wsA := wA_1 (List.mem_of_getElem? (i := 136) rfl) rfl
set_option maxRecDepth 20000 in
theorem wd_1_137 : (Jvm.Cond.classLink "NetUnfolder" (23 : Nat) "NetUnfolder$Way") ∈ wsA := wA_1 (List.mem_of_getElem? (i := 137) rfl) rfl
set_option maxRecDepth 20000 in
theorem wd_1_138 : (Jvm.Cond.instantiable "NetUnfolder$Way" (2 : Nat)) ∈ wsA := wA_1 (List.mem_of_getElem? (i := 138) rfl) rfl
set_option maxRecDepth 20000 in
theorem wd_1_140 : (Jvm.Cond.instanceMethod ({ cls := "NetUnfolder$Way", name := "<init>", desc := "()V" } : Jvm.MethodName)) ∈ wsA := wA_1 (List.mem_of_getElem? (i := 140) rfl) rfl
set_option maxRecDepth 20000 in
theorem wd_1_141 : (Jvm.Cond.code ({ cls := "NetUnfolder$Way", name := "<init>", desc := "()V" } : Jvm.MethodName) prog_9_method_1_code (1 : Nat) (Option.none : Option Jvm.ClassFile.FieldType)) ∈ wsA := wA_1 (List.mem_of_getElem? (i := 141) rfl) rfl
set_option maxRecDepth 20000 in
theorem wd_1_142 : (Jvm.Cond.methodLink "NetUnfolder$Way" (3 : Nat) ({ cls := "java/lang/Object", name := "<init>", desc := "()V" } : Jvm.MethodName)) ∈ wsA := wA_1 (List.mem_of_getElem? (i := 142) rfl) rfl
set_option maxRecDepth 20000 in
theorem wd_1_143 : (Jvm.Cond.fieldLink "NetUnfolder$Way" (9 : Nat) "NetUnfolder$Way" "steps" "[I") ∈ wsA := wA_1 (List.mem_of_getElem? (i := 143) rfl) rfl
set_option maxRecDepth 20000 in
theorem wd_1_144 : (Jvm.Cond.fieldLink "NetUnfolder$Way" (15 : Nat) "NetUnfolder$Way" "length" "I") ∈ wsA := wA_1 (List.mem_of_getElem? (i := 144) rfl) rfl
set_option maxRecDepth 20000 in
theorem wd_1_145 : (Jvm.Cond.fieldLink "NetUnfolder$Question" (101 : Nat) "NetUnfolder$Way" "length" "I") ∈ wsA := wA_1 (List.mem_of_getElem? (i := 145) rfl) rfl
set_option maxRecDepth 20000 in
theorem wd_1_146 : (Jvm.Cond.fieldLink "NetUnfolder" (91 : Nat) "NetUnfolder$Way" "length" "I") ∈ wsA := wA_1 (List.mem_of_getElem? (i := 146) rfl) rfl
set_option maxRecDepth 20000 in
theorem wd_1_147 : (Jvm.Cond.laysFinal "NetUnfolder$Way" "NetUnfolder$Way" "steps" "[I") ∈ wsA := wA_1 (List.mem_of_getElem? (i := 147) rfl) rfl
set_option maxRecDepth 20000 in
theorem wd_1_149 : (Jvm.Cond.lays "NetUnfolder$Way" "NetUnfolder$Way" "length" "I") ∈ wsA := wA_1 (List.mem_of_getElem? (i := 149) rfl) rfl
set_option maxRecDepth 20000 in
theorem wd_1_152 : (Jvm.Cond.classLink "NetUnfolder" (30 : Nat) "NetUnfolder$Unfolding") ∈ wsA := wA_1 (List.mem_of_getElem? (i := 152) rfl) rfl
set_option maxRecDepth 20000 in
theorem wd_1_153 : (Jvm.Cond.instantiable "NetUnfolder$Unfolding" (4 : Nat)) ∈ wsA := wA_1 (List.mem_of_getElem? (i := 153) rfl) rfl
set_option maxRecDepth 20000 in
theorem wd_1_154 : (Jvm.Cond.methodLink "NetUnfolder" (32 : Nat) ({ cls := "NetUnfolder$Unfolding", name := "<init>", desc := "(LNetUnfolder$Net;LNetUnfolder$Prefix;LNetUnfolder$Way;)V" } : Jvm.MethodName)) ∈ wsA := wA_1 (List.mem_of_getElem? (i := 154) rfl) rfl
set_option maxRecDepth 20000 in
theorem wd_1_155 : (Jvm.Cond.instanceMethod ({ cls := "NetUnfolder$Unfolding", name := "<init>", desc := "(LNetUnfolder$Net;LNetUnfolder$Prefix;LNetUnfolder$Way;)V" } : Jvm.MethodName)) ∈ wsA := wA_1 (List.mem_of_getElem? (i := 155) rfl) rfl
set_option maxRecDepth 20000 in
theorem wd_1_156 : (Jvm.Cond.code ({ cls := "NetUnfolder$Unfolding", name := "<init>", desc := "(LNetUnfolder$Net;LNetUnfolder$Prefix;LNetUnfolder$Way;)V" } : Jvm.MethodName) prog_8_method_1_code (4 : Nat) (Option.none : Option Jvm.ClassFile.FieldType)) ∈ wsA := wA_1 (List.mem_of_getElem? (i := 156) rfl) rfl
set_option maxRecDepth 20000 in
theorem wd_1_157 : (Jvm.Cond.methodLink "NetUnfolder$Unfolding" (3 : Nat) ({ cls := "java/lang/Object", name := "<init>", desc := "()V" } : Jvm.MethodName)) ∈ wsA := wA_1 (List.mem_of_getElem? (i := 157) rfl) rfl
set_option maxRecDepth 20000 in
theorem wd_1_158 : (Jvm.Cond.classLink "NetUnfolder$Unfolding" (23 : Nat) "NetUnfolder$Possible") ∈ wsA := wA_1 (List.mem_of_getElem? (i := 158) rfl) rfl
set_option maxRecDepth 20000 in
theorem wd_1_159 : (Jvm.Cond.instantiable "NetUnfolder$Possible" (5 : Nat)) ∈ wsA := wA_1 (List.mem_of_getElem? (i := 159) rfl) rfl
set_option maxRecDepth 20000 in
theorem wd_1_160 : (Jvm.Cond.methodLink "NetUnfolder$Unfolding" (25 : Nat) ({ cls := "NetUnfolder$Possible", name := "<init>", desc := "(LNetUnfolder$Prefix;)V" } : Jvm.MethodName)) ∈ wsA := wA_1 (List.mem_of_getElem? (i := 160) rfl) rfl
set_option maxRecDepth 20000 in
theorem wd_1_161 : (Jvm.Cond.instanceMethod ({ cls := "NetUnfolder$Possible", name := "<init>", desc := "(LNetUnfolder$Prefix;)V" } : Jvm.MethodName)) ∈ wsA := wA_1 (List.mem_of_getElem? (i := 161) rfl) rfl
set_option maxRecDepth 20000 in
theorem wd_1_162 : (Jvm.Cond.code ({ cls := "NetUnfolder$Possible", name := "<init>", desc := "(LNetUnfolder$Prefix;)V" } : Jvm.MethodName) prog_4_method_1_code (2 : Nat) (Option.none : Option Jvm.ClassFile.FieldType)) ∈ wsA := wA_1 (List.mem_of_getElem? (i := 162) rfl) rfl
set_option maxRecDepth 20000 in
theorem wd_1_163 : (Jvm.Cond.methodLink "NetUnfolder$Possible" (3 : Nat) ({ cls := "java/lang/Object", name := "<init>", desc := "()V" } : Jvm.MethodName)) ∈ wsA := wA_1 (List.mem_of_getElem? (i := 163) rfl) rfl
set_option maxRecDepth 20000 in
theorem wd_1_164 : (Jvm.Cond.fieldLink "NetUnfolder$Possible" (22 : Nat) "NetUnfolder$Possible" "prefix" "LNetUnfolder$Prefix;") ∈ wsA := wA_1 (List.mem_of_getElem? (i := 164) rfl) rfl
set_option maxRecDepth 20000 in
theorem wd_1_165 : (Jvm.Cond.fieldLink "NetUnfolder$Possible" (26 : Nat) "NetUnfolder$Possible" "size" "I") ∈ wsA := wA_1 (List.mem_of_getElem? (i := 165) rfl) rfl
set_option maxRecDepth 20000 in
theorem wd_1_166 : (Jvm.Cond.fieldLink "NetUnfolder$Unfolding" (39 : Nat) "NetUnfolder$Possible" "size" "I") ∈ wsA := wA_1 (List.mem_of_getElem? (i := 166) rfl) rfl
set_option maxRecDepth 20000 in
theorem wd_1_167 : (Jvm.Cond.fieldLink "NetUnfolder$Possible" (9 : Nat) "NetUnfolder$Possible" "transition" "[I") ∈ wsA := wA_1 (List.mem_of_getElem? (i := 167) rfl) rfl
set_option maxRecDepth 20000 in
theorem wd_1_168 : (Jvm.Cond.fieldLink "NetUnfolder$Unfolding" (89 : Nat) "NetUnfolder$Possible" "transition" "[I") ∈ wsA := wA_1 (List.mem_of_getElem? (i := 168) rfl) rfl
set_option maxRecDepth 20000 in
theorem wd_1_169 : (Jvm.Cond.fieldLink "NetUnfolder$Possible" (15 : Nat) "NetUnfolder$Possible" "taken" "[J") ∈ wsA := wA_1 (List.mem_of_getElem? (i := 169) rfl) rfl
set_option maxRecDepth 20000 in
theorem wd_1_170 : (Jvm.Cond.fieldLink "NetUnfolder$Unfolding" (92 : Nat) "NetUnfolder$Possible" "taken" "[J") ∈ wsA := wA_1 (List.mem_of_getElem? (i := 170) rfl) rfl
set_option maxRecDepth 20000 in
theorem wd_1_171 : (Jvm.Cond.fieldLink "NetUnfolder$Possible" (19 : Nat) "NetUnfolder$Possible" "rank" "[J") ∈ wsA := wA_1 (List.mem_of_getElem? (i := 171) rfl) rfl
set_option maxRecDepth 20000 in
theorem wd_1_172 : (Jvm.Cond.fieldLink "NetUnfolder$Unfolding" (125 : Nat) "NetUnfolder$Possible" "rank" "[J") ∈ wsA := wA_1 (List.mem_of_getElem? (i := 172) rfl) rfl
set_option maxRecDepth 20000 in
theorem wd_1_173 : (Jvm.Cond.laysFinal "NetUnfolder$Possible" "NetUnfolder$Possible" "prefix" "LNetUnfolder$Prefix;") ∈ wsA := wA_1 (List.mem_of_getElem? (i := 173) rfl) rfl
set_option maxRecDepth 20000 in
theorem wd_1_175 : (Jvm.Cond.lays "NetUnfolder$Possible" "NetUnfolder$Possible" "size" "I") ∈ wsA := wA_1 (List.mem_of_getElem? (i := 175) rfl) rfl
set_option maxRecDepth 20000 in
theorem wd_1_177 : (Jvm.Cond.laysFinal "NetUnfolder$Possible" "NetUnfolder$Possible" "transition" "[I") ∈ wsA := wA_1 (List.mem_of_getElem? (i := 177) rfl) rfl
set_option maxRecDepth 20000 in
theorem wd_1_179 : (Jvm.Cond.laysFinal "NetUnfolder$Possible" "NetUnfolder$Possible" "taken" "[J") ∈ wsA := wA_1 (List.mem_of_getElem? (i := 179) rfl) rfl
set_option maxRecDepth 20000 in
theorem wd_1_181 : (Jvm.Cond.laysFinal "NetUnfolder$Possible" "NetUnfolder$Possible" "rank" "[J") ∈ wsA := wA_1 (List.mem_of_getElem? (i := 181) rfl) rfl
set_option maxRecDepth 20000 in
theorem wd_1_184 : (Jvm.Cond.fieldLink "NetUnfolder$Unfolding" (9 : Nat) "NetUnfolder$Unfolding" "net" "LNetUnfolder$Net;") ∈ wsA := wA_1 (List.mem_of_getElem? (i := 184) rfl) rfl
set_option maxRecDepth 20000 in
theorem wd_1_185 : (Jvm.Cond.fieldLink "NetUnfolder$Unfolding" (15 : Nat) "NetUnfolder$Unfolding" "prefix" "LNetUnfolder$Prefix;") ∈ wsA := wA_1 (List.mem_of_getElem? (i := 185) rfl) rfl
set_option maxRecDepth 20000 in
theorem wd_1_186 : (Jvm.Cond.fieldLink "NetUnfolder$Unfolding" (19 : Nat) "NetUnfolder$Unfolding" "way" "LNetUnfolder$Way;") ∈ wsA := wA_1 (List.mem_of_getElem? (i := 186) rfl) rfl
set_option maxRecDepth 20000 in
theorem wd_1_187 : (Jvm.Cond.fieldLink "NetUnfolder$Unfolding" (28 : Nat) "NetUnfolder$Unfolding" "possible" "LNetUnfolder$Possible;") ∈ wsA := wA_1 (List.mem_of_getElem? (i := 187) rfl) rfl
set_option maxRecDepth 20000 in
theorem wd_1_188 : (Jvm.Cond.laysFinal "NetUnfolder$Unfolding" "NetUnfolder$Unfolding" "net" "LNetUnfolder$Net;") ∈ wsA := wA_1 (List.mem_of_getElem? (i := 188) rfl) rfl
set_option maxRecDepth 20000 in
theorem wd_1_190 : (Jvm.Cond.laysFinal "NetUnfolder$Unfolding" "NetUnfolder$Unfolding" "prefix" "LNetUnfolder$Prefix;") ∈ wsA := wA_1 (List.mem_of_getElem? (i := 190) rfl) rfl
set_option maxRecDepth 20000 in
theorem wd_1_192 : (Jvm.Cond.laysFinal "NetUnfolder$Unfolding" "NetUnfolder$Unfolding" "way" "LNetUnfolder$Way;") ∈ wsA := wA_1 (List.mem_of_getElem? (i := 192) rfl) rfl
set_option maxRecDepth 20000 in
theorem wd_1_194 : (Jvm.Cond.laysFinal "NetUnfolder$Unfolding" "NetUnfolder$Unfolding" "possible" "LNetUnfolder$Possible;") ∈ wsA := wA_1 (List.mem_of_getElem? (i := 194) rfl) rfl
set_option maxRecDepth 20000 in
theorem wd_1_197 : (Jvm.Cond.classLink "NetUnfolder" (39 : Nat) "NetUnfolder$Question") ∈ wsA := wA_1 (List.mem_of_getElem? (i := 197) rfl) rfl
set_option maxRecDepth 20000 in
theorem wd_1_198 : (Jvm.Cond.instantiable "NetUnfolder$Question" (6 : Nat)) ∈ wsA := wA_1 (List.mem_of_getElem? (i := 198) rfl) rfl
set_option maxRecDepth 20000 in
theorem wd_1_199 : (Jvm.Cond.methodLink "NetUnfolder" (41 : Nat) ({ cls := "NetUnfolder$Question", name := "<init>", desc := "(LNetUnfolder$Net;LNetUnfolder$Prefix;LNetUnfolder$Way;)V" } : Jvm.MethodName)) ∈ wsA := wA_1 (List.mem_of_getElem? (i := 199) rfl) rfl
set_option maxRecDepth 20000 in
theorem wd_1_200 : (Jvm.Cond.instanceMethod ({ cls := "NetUnfolder$Question", name := "<init>", desc := "(LNetUnfolder$Net;LNetUnfolder$Prefix;LNetUnfolder$Way;)V" } : Jvm.MethodName)) ∈ wsA := wA_1 (List.mem_of_getElem? (i := 200) rfl) rfl
set_option maxRecDepth 20000 in
theorem wd_1_201 : (Jvm.Cond.code ({ cls := "NetUnfolder$Question", name := "<init>", desc := "(LNetUnfolder$Net;LNetUnfolder$Prefix;LNetUnfolder$Way;)V" } : Jvm.MethodName) prog_6_method_1_code (4 : Nat) (Option.none : Option Jvm.ClassFile.FieldType)) ∈ wsA := wA_1 (List.mem_of_getElem? (i := 201) rfl) rfl
set_option maxRecDepth 20000 in
theorem wd_1_202 : (Jvm.Cond.methodLink "NetUnfolder$Question" (3 : Nat) ({ cls := "java/lang/Object", name := "<init>", desc := "()V" } : Jvm.MethodName)) ∈ wsA := wA_1 (List.mem_of_getElem? (i := 202) rfl) rfl
set_option maxRecDepth 20000 in
theorem wd_1_203 : (Jvm.Cond.classLink "NetUnfolder$Question" (9 : Nat) "NetUnfolder$Clauses") ∈ wsA := wA_1 (List.mem_of_getElem? (i := 203) rfl) rfl
set_option maxRecDepth 20000 in
theorem wd_1_204 : (Jvm.Cond.instantiable "NetUnfolder$Clauses" (4 : Nat)) ∈ wsA := wA_1 (List.mem_of_getElem? (i := 204) rfl) rfl
set_option maxRecDepth 20000 in
theorem wd_1_206 : (Jvm.Cond.instanceMethod ({ cls := "NetUnfolder$Clauses", name := "<init>", desc := "()V" } : Jvm.MethodName)) ∈ wsA := wA_1 (List.mem_of_getElem? (i := 206) rfl) rfl
set_option maxRecDepth 20000 in
theorem wd_1_207 : (Jvm.Cond.code ({ cls := "NetUnfolder$Clauses", name := "<init>", desc := "()V" } : Jvm.MethodName) prog_2_method_1_code (1 : Nat) (Option.none : Option Jvm.ClassFile.FieldType)) ∈ wsA := wA_1 (List.mem_of_getElem? (i := 207) rfl) rfl
set_option maxRecDepth 20000 in
theorem wd_1_208 : (Jvm.Cond.methodLink "NetUnfolder$Clauses" (3 : Nat) ({ cls := "java/lang/Object", name := "<init>", desc := "()V" } : Jvm.MethodName)) ∈ wsA := wA_1 (List.mem_of_getElem? (i := 208) rfl) rfl
set_option maxRecDepth 20000 in
theorem wd_1_209 : (Jvm.Cond.fieldLink "NetUnfolder$Clauses" (11 : Nat) "NetUnfolder$Clauses" "yes" "[J") ∈ wsA := wA_1 (List.mem_of_getElem? (i := 209) rfl) rfl
set_option maxRecDepth 20000 in
theorem wd_1_210 : (Jvm.Cond.fieldLink "NetUnfolder$Search" (80 : Nat) "NetUnfolder$Clauses" "yes" "[J") ∈ wsA := wA_1 (List.mem_of_getElem? (i := 210) rfl) rfl
set_option maxRecDepth 20000 in
theorem wd_1_211 : (Jvm.Cond.fieldLink "NetUnfolder$Clauses" (15 : Nat) "NetUnfolder$Clauses" "no" "[J") ∈ wsA := wA_1 (List.mem_of_getElem? (i := 211) rfl) rfl
set_option maxRecDepth 20000 in
theorem wd_1_212 : (Jvm.Cond.fieldLink "NetUnfolder$Search" (82 : Nat) "NetUnfolder$Clauses" "no" "[J") ∈ wsA := wA_1 (List.mem_of_getElem? (i := 212) rfl) rfl
set_option maxRecDepth 20000 in
theorem wd_1_213 : (Jvm.Cond.fieldLink "NetUnfolder$Clauses" (18 : Nat) "NetUnfolder$Clauses" "size" "I") ∈ wsA := wA_1 (List.mem_of_getElem? (i := 213) rfl) rfl
set_option maxRecDepth 20000 in
theorem wd_1_214 : (Jvm.Cond.fieldLink "NetUnfolder$Search" (75 : Nat) "NetUnfolder$Clauses" "size" "I") ∈ wsA := wA_1 (List.mem_of_getElem? (i := 214) rfl) rfl
set_option maxRecDepth 20000 in
theorem wd_1_215 : (Jvm.Cond.fieldLink "NetUnfolder$Clauses" (22 : Nat) "NetUnfolder$Clauses" "given" "I") ∈ wsA := wA_1 (List.mem_of_getElem? (i := 215) rfl) rfl
set_option maxRecDepth 20000 in
theorem wd_1_216 : (Jvm.Cond.fieldLink "NetUnfolder$Search" (106 : Nat) "NetUnfolder$Clauses" "given" "I") ∈ wsA := wA_1 (List.mem_of_getElem? (i := 216) rfl) rfl
set_option maxRecDepth 20000 in
theorem wd_1_217 : (Jvm.Cond.laysFinal "NetUnfolder$Clauses" "NetUnfolder$Clauses" "yes" "[J") ∈ wsA := wA_1 (List.mem_of_getElem? (i := 217) rfl) rfl
set_option maxRecDepth 20000 in
theorem wd_1_219 : (Jvm.Cond.laysFinal "NetUnfolder$Clauses" "NetUnfolder$Clauses" "no" "[J") ∈ wsA := wA_1 (List.mem_of_getElem? (i := 219) rfl) rfl
set_option maxRecDepth 20000 in
theorem wd_1_221 : (Jvm.Cond.lays "NetUnfolder$Clauses" "NetUnfolder$Clauses" "size" "I") ∈ wsA := wA_1 (List.mem_of_getElem? (i := 221) rfl) rfl
set_option maxRecDepth 20000 in
theorem wd_1_223 : (Jvm.Cond.lays "NetUnfolder$Clauses" "NetUnfolder$Clauses" "given" "I") ∈ wsA := wA_1 (List.mem_of_getElem? (i := 223) rfl) rfl
set_option maxRecDepth 20000 in
theorem wd_1_226 : (Jvm.Cond.classLink "NetUnfolder$Question" (18 : Nat) "NetUnfolder$Search") ∈ wsA := wA_1 (List.mem_of_getElem? (i := 226) rfl) rfl
set_option maxRecDepth 20000 in
theorem wd_1_227 : (Jvm.Cond.instantiable "NetUnfolder$Search" (8 : Nat)) ∈ wsA := wA_1 (List.mem_of_getElem? (i := 227) rfl) rfl
set_option maxRecDepth 20000 in
theorem wd_1_228 : (Jvm.Cond.methodLink "NetUnfolder$Question" (20 : Nat) ({ cls := "NetUnfolder$Search", name := "<init>", desc := "(LNetUnfolder$Clauses;)V" } : Jvm.MethodName)) ∈ wsA := wA_1 (List.mem_of_getElem? (i := 228) rfl) rfl
set_option maxRecDepth 20000 in
theorem wd_1_229 : (Jvm.Cond.instanceMethod ({ cls := "NetUnfolder$Search", name := "<init>", desc := "(LNetUnfolder$Clauses;)V" } : Jvm.MethodName)) ∈ wsA := wA_1 (List.mem_of_getElem? (i := 229) rfl) rfl
set_option maxRecDepth 20000 in
theorem wd_1_230 : (Jvm.Cond.code ({ cls := "NetUnfolder$Search", name := "<init>", desc := "(LNetUnfolder$Clauses;)V" } : Jvm.MethodName) prog_7_method_1_code (2 : Nat) (Option.none : Option Jvm.ClassFile.FieldType)) ∈ wsA := wA_1 (List.mem_of_getElem? (i := 230) rfl) rfl
set_option maxRecDepth 20000 in
theorem wd_1_231 : (Jvm.Cond.methodLink "NetUnfolder$Search" (3 : Nat) ({ cls := "java/lang/Object", name := "<init>", desc := "()V" } : Jvm.MethodName)) ∈ wsA := wA_1 (List.mem_of_getElem? (i := 231) rfl) rfl
set_option maxRecDepth 20000 in
theorem wd_1_232 : (Jvm.Cond.fieldLink "NetUnfolder$Search" (22 : Nat) "NetUnfolder$Search" "clauses" "LNetUnfolder$Clauses;") ∈ wsA := wA_1 (List.mem_of_getElem? (i := 232) rfl) rfl
set_option maxRecDepth 20000 in
theorem wd_1_233 : (Jvm.Cond.fieldLink "NetUnfolder$Search" (26 : Nat) "NetUnfolder$Search" "yes" "J") ∈ wsA := wA_1 (List.mem_of_getElem? (i := 233) rfl) rfl
set_option maxRecDepth 20000 in
theorem wd_1_234 : (Jvm.Cond.fieldLink "NetUnfolder$Search" (42 : Nat) "NetUnfolder$Search" "no" "J") ∈ wsA := wA_1 (List.mem_of_getElem? (i := 234) rfl) rfl
set_option maxRecDepth 20000 in
theorem wd_1_235 : (Jvm.Cond.fieldLink "NetUnfolder$Search" (47 : Nat) "NetUnfolder$Search" "level" "I") ∈ wsA := wA_1 (List.mem_of_getElem? (i := 235) rfl) rfl
set_option maxRecDepth 20000 in
theorem wd_1_236 : (Jvm.Cond.fieldLink "NetUnfolder$Search" (11 : Nat) "NetUnfolder$Search" "setAt" "[J") ∈ wsA := wA_1 (List.mem_of_getElem? (i := 236) rfl) rfl
set_option maxRecDepth 20000 in
theorem wd_1_237 : (Jvm.Cond.fieldLink "NetUnfolder$Search" (15 : Nat) "NetUnfolder$Search" "trail" "[I") ∈ wsA := wA_1 (List.mem_of_getElem? (i := 237) rfl) rfl
set_option maxRecDepth 20000 in
theorem wd_1_238 : (Jvm.Cond.fieldLink "NetUnfolder$Search" (62 : Nat) "NetUnfolder$Search" "trailSize" "I") ∈ wsA := wA_1 (List.mem_of_getElem? (i := 238) rfl) rfl
set_option maxRecDepth 20000 in
theorem wd_1_239 : (Jvm.Cond.fieldLink "NetUnfolder$Search" (19 : Nat) "NetUnfolder$Search" "reason" "[I") ∈ wsA := wA_1 (List.mem_of_getElem? (i := 239) rfl) rfl
set_option maxRecDepth 20000 in
theorem wd_2_0 : (Jvm.Cond.laysFinal "NetUnfolder$Search" "NetUnfolder$Search" "clauses" "LNetUnfolder$Clauses;") ∈ wsA := wA_2 (List.mem_of_getElem? (i := 0) rfl) rfl
set_option maxRecDepth 20000 in
theorem wd_2_2 : (Jvm.Cond.lays "NetUnfolder$Search" "NetUnfolder$Search" "yes" "J") ∈ wsA := wA_2 (List.mem_of_getElem? (i := 2) rfl) rfl
set_option maxRecDepth 20000 in
theorem wd_2_4 : (Jvm.Cond.lays "NetUnfolder$Search" "NetUnfolder$Search" "no" "J") ∈ wsA := wA_2 (List.mem_of_getElem? (i := 4) rfl) rfl
set_option maxRecDepth 20000 in
theorem wd_2_6 : (Jvm.Cond.lays "NetUnfolder$Search" "NetUnfolder$Search" "level" "I") ∈ wsA := wA_2 (List.mem_of_getElem? (i := 6) rfl) rfl
set_option maxRecDepth 20000 in
theorem wd_2_8 : (Jvm.Cond.laysFinal "NetUnfolder$Search" "NetUnfolder$Search" "setAt" "[J") ∈ wsA := wA_2 (List.mem_of_getElem? (i := 8) rfl) rfl
set_option maxRecDepth 20000 in
theorem wd_2_10 : (Jvm.Cond.laysFinal "NetUnfolder$Search" "NetUnfolder$Search" "trail" "[I") ∈ wsA := wA_2 (List.mem_of_getElem? (i := 10) rfl) rfl
set_option maxRecDepth 20000 in
theorem wd_2_12 : (Jvm.Cond.lays "NetUnfolder$Search" "NetUnfolder$Search" "trailSize" "I") ∈ wsA := wA_2 (List.mem_of_getElem? (i := 12) rfl) rfl
set_option maxRecDepth 20000 in
theorem wd_2_14 : (Jvm.Cond.laysFinal "NetUnfolder$Search" "NetUnfolder$Search" "reason" "[I") ∈ wsA := wA_2 (List.mem_of_getElem? (i := 14) rfl) rfl
set_option maxRecDepth 20000 in
theorem wd_2_17 : (Jvm.Cond.fieldLink "NetUnfolder$Question" (27 : Nat) "NetUnfolder$Question" "net" "LNetUnfolder$Net;") ∈ wsA := wA_2 (List.mem_of_getElem? (i := 17) rfl) rfl
set_option maxRecDepth 20000 in
theorem wd_2_18 : (Jvm.Cond.fieldLink "NetUnfolder$Question" (31 : Nat) "NetUnfolder$Question" "prefix" "LNetUnfolder$Prefix;") ∈ wsA := wA_2 (List.mem_of_getElem? (i := 18) rfl) rfl
set_option maxRecDepth 20000 in
theorem wd_2_19 : (Jvm.Cond.fieldLink "NetUnfolder$Question" (35 : Nat) "NetUnfolder$Question" "way" "LNetUnfolder$Way;") ∈ wsA := wA_2 (List.mem_of_getElem? (i := 19) rfl) rfl
set_option maxRecDepth 20000 in
theorem wd_2_20 : (Jvm.Cond.fieldLink "NetUnfolder$Question" (12 : Nat) "NetUnfolder$Question" "clauses" "LNetUnfolder$Clauses;") ∈ wsA := wA_2 (List.mem_of_getElem? (i := 20) rfl) rfl
set_option maxRecDepth 20000 in
theorem wd_2_21 : (Jvm.Cond.fieldLink "NetUnfolder$Question" (23 : Nat) "NetUnfolder$Question" "search" "LNetUnfolder$Search;") ∈ wsA := wA_2 (List.mem_of_getElem? (i := 21) rfl) rfl
set_option maxRecDepth 20000 in
theorem wd_2_22 : (Jvm.Cond.fieldLink "NetUnfolder$Question" (73 : Nat) "NetUnfolder$Question" "usable" "I") ∈ wsA := wA_2 (List.mem_of_getElem? (i := 22) rfl) rfl
set_option maxRecDepth 20000 in
theorem wd_2_23 : (Jvm.Cond.laysFinal "NetUnfolder$Question" "NetUnfolder$Question" "net" "LNetUnfolder$Net;") ∈ wsA := wA_2 (List.mem_of_getElem? (i := 23) rfl) rfl
set_option maxRecDepth 20000 in
theorem wd_2_25 : (Jvm.Cond.laysFinal "NetUnfolder$Question" "NetUnfolder$Question" "prefix" "LNetUnfolder$Prefix;") ∈ wsA := wA_2 (List.mem_of_getElem? (i := 25) rfl) rfl
set_option maxRecDepth 20000 in
theorem wd_2_27 : (Jvm.Cond.laysFinal "NetUnfolder$Question" "NetUnfolder$Question" "way" "LNetUnfolder$Way;") ∈ wsA := wA_2 (List.mem_of_getElem? (i := 27) rfl) rfl
set_option maxRecDepth 20000 in
theorem wd_2_29 : (Jvm.Cond.laysFinal "NetUnfolder$Question" "NetUnfolder$Question" "clauses" "LNetUnfolder$Clauses;") ∈ wsA := wA_2 (List.mem_of_getElem? (i := 29) rfl) rfl
set_option maxRecDepth 20000 in
theorem wd_2_31 : (Jvm.Cond.laysFinal "NetUnfolder$Question" "NetUnfolder$Question" "search" "LNetUnfolder$Search;") ∈ wsA := wA_2 (List.mem_of_getElem? (i := 31) rfl) rfl
set_option maxRecDepth 20000 in
theorem wd_2_33 : (Jvm.Cond.lays "NetUnfolder$Question" "NetUnfolder$Question" "usable" "I") ∈ wsA := wA_2 (List.mem_of_getElem? (i := 33) rfl) rfl
set_option maxRecDepth 20000 in
theorem wd_2_36 : (Jvm.Cond.fieldLink "NetUnfolder" (10 : Nat) "NetUnfolder" "net" "LNetUnfolder$Net;") ∈ wsA := wA_2 (List.mem_of_getElem? (i := 36) rfl) rfl
set_option maxRecDepth 20000 in
theorem wd_2_37 : (Jvm.Cond.fieldLink "NetUnfolder" (19 : Nat) "NetUnfolder" "prefix" "LNetUnfolder$Prefix;") ∈ wsA := wA_2 (List.mem_of_getElem? (i := 37) rfl) rfl
set_option maxRecDepth 20000 in
theorem wd_2_38 : (Jvm.Cond.fieldLink "NetUnfolder" (26 : Nat) "NetUnfolder" "latest" "LNetUnfolder$Way;") ∈ wsA := wA_2 (List.mem_of_getElem? (i := 38) rfl) rfl
set_option maxRecDepth 20000 in
theorem wd_2_39 : (Jvm.Cond.fieldLink "NetUnfolder" (35 : Nat) "NetUnfolder" "unfolding" "LNetUnfolder$Unfolding;") ∈ wsA := wA_2 (List.mem_of_getElem? (i := 39) rfl) rfl
set_option maxRecDepth 20000 in
theorem wd_2_40 : (Jvm.Cond.fieldLink "NetUnfolder" (42 : Nat) "NetUnfolder" "question" "LNetUnfolder$Question;") ∈ wsA := wA_2 (List.mem_of_getElem? (i := 40) rfl) rfl
set_option maxRecDepth 20000 in
theorem wd_2_41 : (Jvm.Cond.laysFinal "NetUnfolder" "NetUnfolder" "net" "LNetUnfolder$Net;") ∈ wsA := wA_2 (List.mem_of_getElem? (i := 41) rfl) rfl
set_option maxRecDepth 20000 in
theorem wd_2_43 : (Jvm.Cond.laysFinal "NetUnfolder" "NetUnfolder" "prefix" "LNetUnfolder$Prefix;") ∈ wsA := wA_2 (List.mem_of_getElem? (i := 43) rfl) rfl
set_option maxRecDepth 20000 in
theorem wd_2_45 : (Jvm.Cond.laysFinal "NetUnfolder" "NetUnfolder" "latest" "LNetUnfolder$Way;") ∈ wsA := wA_2 (List.mem_of_getElem? (i := 45) rfl) rfl
set_option maxRecDepth 20000 in
theorem wd_2_47 : (Jvm.Cond.laysFinal "NetUnfolder" "NetUnfolder" "unfolding" "LNetUnfolder$Unfolding;") ∈ wsA := wA_2 (List.mem_of_getElem? (i := 47) rfl) rfl
set_option maxRecDepth 20000 in
theorem wd_2_49 : (Jvm.Cond.laysFinal "NetUnfolder" "NetUnfolder" "question" "LNetUnfolder$Question;") ∈ wsA := wA_2 (List.mem_of_getElem? (i := 49) rfl) rfl
set_option maxRecDepth 20000 in
theorem wd_2_52 : (Jvm.Cond.methodLink "NetUnfolderLaw" (46 : Nat) ({ cls := "NetUnfolder", name := "clear", desc := "()V" } : Jvm.MethodName)) ∈ wsA := wA_2 (List.mem_of_getElem? (i := 52) rfl) rfl
set_option maxRecDepth 20000 in
theorem wd_2_53 : (Jvm.Cond.instanceMethod ({ cls := "NetUnfolder", name := "clear", desc := "()V" } : Jvm.MethodName)) ∈ wsA := wA_2 (List.mem_of_getElem? (i := 53) rfl) rfl
set_option maxRecDepth 20000 in
theorem wd_2_54 : (Jvm.Cond.selects "NetUnfolder" ({ cls := "NetUnfolder", name := "clear", desc := "()V" } : Jvm.MethodName) ({ cls := "NetUnfolder", name := "clear", desc := "()V" } : Jvm.MethodName)) ∈ wsA := wA_2 (List.mem_of_getElem? (i := 54) rfl) rfl
set_option maxRecDepth 20000 in
theorem wd_2_55 : (Jvm.Cond.code ({ cls := "NetUnfolder", name := "clear", desc := "()V" } : Jvm.MethodName) prog_1_method_4_code (1 : Nat) (Option.none : Option Jvm.ClassFile.FieldType)) ∈ wsA := wA_2 (List.mem_of_getElem? (i := 55) rfl) rfl
set_option maxRecDepth 20000 in
theorem wd_2_56 : (Jvm.Cond.methodLink "NetUnfolder" (60 : Nat) ({ cls := "NetUnfolder", name := "dropPrefixAndWay", desc := "()V" } : Jvm.MethodName)) ∈ wsA := wA_2 (List.mem_of_getElem? (i := 56) rfl) rfl
set_option maxRecDepth 20000 in
theorem wd_2_58 : (Jvm.Cond.instanceMethod ({ cls := "NetUnfolder", name := "dropPrefixAndWay", desc := "()V" } : Jvm.MethodName)) ∈ wsA := wA_2 (List.mem_of_getElem? (i := 58) rfl) rfl
set_option maxRecDepth 20000 in
theorem wd_2_59 : (Jvm.Cond.code ({ cls := "NetUnfolder", name := "dropPrefixAndWay", desc := "()V" } : Jvm.MethodName) prog_1_method_15_code (1 : Nat) (Option.none : Option Jvm.ClassFile.FieldType)) ∈ wsA := wA_2 (List.mem_of_getElem? (i := 59) rfl) rfl
set_option maxRecDepth 20000 in
theorem wd_2_60 : (Jvm.Cond.methodLink "NetUnfolder" (148 : Nat) ({ cls := "NetUnfolder$Prefix", name := "wipe", desc := "()V" } : Jvm.MethodName)) ∈ wsA := wA_2 (List.mem_of_getElem? (i := 60) rfl) rfl
set_option maxRecDepth 20000 in
theorem wd_2_61 : (Jvm.Cond.instanceMethod ({ cls := "NetUnfolder$Prefix", name := "wipe", desc := "()V" } : Jvm.MethodName)) ∈ wsA := wA_2 (List.mem_of_getElem? (i := 61) rfl) rfl
set_option maxRecDepth 20000 in
theorem wd_2_62 : (Jvm.Cond.selects "NetUnfolder$Prefix" ({ cls := "NetUnfolder$Prefix", name := "wipe", desc := "()V" } : Jvm.MethodName) ({ cls := "NetUnfolder$Prefix", name := "wipe", desc := "()V" } : Jvm.MethodName)) ∈ wsA := wA_2 (List.mem_of_getElem? (i := 62) rfl) rfl
set_option maxRecDepth 20000 in
theorem wd_2_63 : (Jvm.Cond.code ({ cls := "NetUnfolder$Prefix", name := "wipe", desc := "()V" } : Jvm.MethodName) prog_5_method_2_code (1 : Nat) (Option.none : Option Jvm.ClassFile.FieldType)) ∈ wsA := wA_2 (List.mem_of_getElem? (i := 63) rfl) rfl
set_option maxRecDepth 20000 in
theorem wd_2_64 : (Jvm.Cond.methodLink "NetUnfolder$Prefix" (47 : Nat) ({ cls := "java/util/Arrays", name := "fill", desc := "([JJ)V" } : Jvm.MethodName)) ∈ wsA := wA_2 (List.mem_of_getElem? (i := 64) rfl) rfl
set_option maxRecDepth 20000 in
theorem wd_2_65 : (Jvm.Cond.static ({ cls := "java/util/Arrays", name := "fill", desc := "([JJ)V" } : Jvm.MethodName)) ∈ wsA := wA_2 (List.mem_of_getElem? (i := 65) rfl) rfl
set_option maxRecDepth 20000 in
theorem wd_2_66 : (Jvm.Cond.code ({ cls := "java/util/Arrays", name := "fill", desc := "([JJ)V" } : Jvm.MethodName) prog_19_method_101_code (5 : Nat) (Option.none : Option Jvm.ClassFile.FieldType)) ∈ wsA := wA_2 (List.mem_of_getElem? (i := 66) rfl) rfl
set_option maxRecDepth 20000 in
theorem wd_2_67 : (Jvm.Cond.methodLink "NetUnfolder" (149 : Nat) ({ cls := "NetUnfolder$Way", name := "drop", desc := "()V" } : Jvm.MethodName)) ∈ wsA := wA_2 (List.mem_of_getElem? (i := 67) rfl) rfl
set_option maxRecDepth 20000 in
theorem wd_2_68 : (Jvm.Cond.instanceMethod ({ cls := "NetUnfolder$Way", name := "drop", desc := "()V" } : Jvm.MethodName)) ∈ wsA := wA_2 (List.mem_of_getElem? (i := 68) rfl) rfl
set_option maxRecDepth 20000 in
theorem wd_2_69 : (Jvm.Cond.selects "NetUnfolder$Way" ({ cls := "NetUnfolder$Way", name := "drop", desc := "()V" } : Jvm.MethodName) ({ cls := "NetUnfolder$Way", name := "drop", desc := "()V" } : Jvm.MethodName)) ∈ wsA := wA_2 (List.mem_of_getElem? (i := 69) rfl) rfl
set_option maxRecDepth 20000 in
theorem wd_2_70 : (Jvm.Cond.code ({ cls := "NetUnfolder$Way", name := "drop", desc := "()V" } : Jvm.MethodName) prog_9_method_2_code (1 : Nat) (Option.none : Option Jvm.ClassFile.FieldType)) ∈ wsA := wA_2 (List.mem_of_getElem? (i := 70) rfl) rfl
set_option maxRecDepth 20000 in
theorem wd_2_71 : (Jvm.Cond.methodLink "NetUnfolder" (70 : Nat) ({ cls := "NetUnfolder$Net", name := "wipe", desc := "()V" } : Jvm.MethodName)) ∈ wsA := wA_2 (List.mem_of_getElem? (i := 71) rfl) rfl
set_option maxRecDepth 20000 in
theorem wd_2_72 : (Jvm.Cond.instanceMethod ({ cls := "NetUnfolder$Net", name := "wipe", desc := "()V" } : Jvm.MethodName)) ∈ wsA := wA_2 (List.mem_of_getElem? (i := 72) rfl) rfl
set_option maxRecDepth 20000 in
theorem wd_2_73 : (Jvm.Cond.selects "NetUnfolder$Net" ({ cls := "NetUnfolder$Net", name := "wipe", desc := "()V" } : Jvm.MethodName) ({ cls := "NetUnfolder$Net", name := "wipe", desc := "()V" } : Jvm.MethodName)) ∈ wsA := wA_2 (List.mem_of_getElem? (i := 73) rfl) rfl
set_option maxRecDepth 20000 in
theorem wd_2_74 : (Jvm.Cond.code ({ cls := "NetUnfolder$Net", name := "wipe", desc := "()V" } : Jvm.MethodName) prog_3_method_2_code (1 : Nat) (Option.none : Option Jvm.ClassFile.FieldType)) ∈ wsA := wA_2 (List.mem_of_getElem? (i := 74) rfl) rfl
set_option maxRecDepth 20000 in
theorem wd_2_75 : (Jvm.Cond.methodLink "NetUnfolderLaw" (50 : Nat) ({ cls := "NetUnfolder", name := "unfold", desc := "()I" } : Jvm.MethodName)) ∈ wsA := wA_2 (List.mem_of_getElem? (i := 75) rfl) rfl
set_option maxRecDepth 20000 in
theorem wd_2_76 : (Jvm.Cond.instanceMethod ({ cls := "NetUnfolder", name := "unfold", desc := "()I" } : Jvm.MethodName)) ∈ wsA := wA_2 (List.mem_of_getElem? (i := 76) rfl) rfl
set_option maxRecDepth 20000 in
theorem wd_2_77 : (Jvm.Cond.selects "NetUnfolder" ({ cls := "NetUnfolder", name := "unfold", desc := "()I" } : Jvm.MethodName) ({ cls := "NetUnfolder", name := "unfold", desc := "()I" } : Jvm.MethodName)) ∈ wsA := wA_2 (List.mem_of_getElem? (i := 77) rfl) rfl
set_option maxRecDepth 20000 in
theorem wd_2_78 : (Jvm.Cond.code ({ cls := "NetUnfolder", name := "unfold", desc := "()I" } : Jvm.MethodName) prog_1_method_5_code (2 : Nat) (Option.some Jvm.ClassFile.FieldType.int)) ∈ wsA := wA_2 (List.mem_of_getElem? (i := 78) rfl) rfl
set_option maxRecDepth 20000 in
theorem wd_2_79 : (Jvm.Cond.methodLink "NetUnfolder" (73 : Nat) ({ cls := "NetUnfolder$Unfolding", name := "run", desc := "()I" } : Jvm.MethodName)) ∈ wsA := wA_2 (List.mem_of_getElem? (i := 79) rfl) rfl
set_option maxRecDepth 20000 in
theorem wd_2_80 : (Jvm.Cond.instanceMethod ({ cls := "NetUnfolder$Unfolding", name := "run", desc := "()I" } : Jvm.MethodName)) ∈ wsA := wA_2 (List.mem_of_getElem? (i := 80) rfl) rfl
set_option maxRecDepth 20000 in
theorem wd_2_81 : (Jvm.Cond.selects "NetUnfolder$Unfolding" ({ cls := "NetUnfolder$Unfolding", name := "run", desc := "()I" } : Jvm.MethodName) ({ cls := "NetUnfolder$Unfolding", name := "run", desc := "()I" } : Jvm.MethodName)) ∈ wsA := wA_2 (List.mem_of_getElem? (i := 81) rfl) rfl
set_option maxRecDepth 20000 in
theorem wd_2_82 : (Jvm.Cond.code ({ cls := "NetUnfolder$Unfolding", name := "run", desc := "()I" } : Jvm.MethodName) prog_8_method_2_code (4 : Nat) (Option.some Jvm.ClassFile.FieldType.int)) ∈ wsA := wA_2 (List.mem_of_getElem? (i := 82) rfl) rfl
set_option maxRecDepth 20000 in
theorem wd_2_83 : (Jvm.Cond.methodLink "NetUnfolder$Unfolding" (32 : Nat) ({ cls := "NetUnfolder$Unfolding", name := "begin", desc := "()V" } : Jvm.MethodName)) ∈ wsA := wA_2 (List.mem_of_getElem? (i := 83) rfl) rfl
set_option maxRecDepth 20000 in
theorem wd_2_85 : (Jvm.Cond.instanceMethod ({ cls := "NetUnfolder$Unfolding", name := "begin", desc := "()V" } : Jvm.MethodName)) ∈ wsA := wA_2 (List.mem_of_getElem? (i := 85) rfl) rfl
set_option maxRecDepth 20000 in
theorem wd_2_86 : (Jvm.Cond.code ({ cls := "NetUnfolder$Unfolding", name := "begin", desc := "()V" } : Jvm.MethodName) prog_8_method_3_code (3 : Nat) (Option.none : Option Jvm.ClassFile.FieldType)) ∈ wsA := wA_2 (List.mem_of_getElem? (i := 86) rfl) rfl
set_option maxRecDepth 20000 in
theorem wd_2_87 : (Jvm.Cond.methodLink "NetUnfolder$Unfolding" (68 : Nat) ({ cls := "NetUnfolder$Prefix", name := "wipe", desc := "()V" } : Jvm.MethodName)) ∈ wsA := wA_2 (List.mem_of_getElem? (i := 87) rfl) rfl
set_option maxRecDepth 20000 in
theorem wd_2_88 : (Jvm.Cond.methodLink "NetUnfolder$Unfolding" (71 : Nat) ({ cls := "NetUnfolder$Possible", name := "wipe", desc := "()V" } : Jvm.MethodName)) ∈ wsA := wA_2 (List.mem_of_getElem? (i := 88) rfl) rfl
set_option maxRecDepth 20000 in
theorem wd_2_89 : (Jvm.Cond.instanceMethod ({ cls := "NetUnfolder$Possible", name := "wipe", desc := "()V" } : Jvm.MethodName)) ∈ wsA := wA_2 (List.mem_of_getElem? (i := 89) rfl) rfl
set_option maxRecDepth 20000 in
theorem wd_2_90 : (Jvm.Cond.selects "NetUnfolder$Possible" ({ cls := "NetUnfolder$Possible", name := "wipe", desc := "()V" } : Jvm.MethodName) ({ cls := "NetUnfolder$Possible", name := "wipe", desc := "()V" } : Jvm.MethodName)) ∈ wsA := wA_2 (List.mem_of_getElem? (i := 90) rfl) rfl
set_option maxRecDepth 20000 in
theorem wd_2_91 : (Jvm.Cond.code ({ cls := "NetUnfolder$Possible", name := "wipe", desc := "()V" } : Jvm.MethodName) prog_4_method_2_code (1 : Nat) (Option.none : Option Jvm.ClassFile.FieldType)) ∈ wsA := wA_2 (List.mem_of_getElem? (i := 91) rfl) rfl
set_option maxRecDepth 20000 in
theorem wd_2_92 : (Jvm.Cond.methodLink "NetUnfolder$Unfolding" (77 : Nat) ({ cls := "NetUnfolder$Prefix", name := "addConditions", desc := "(IIJ)J" } : Jvm.MethodName)) ∈ wsA := wA_2 (List.mem_of_getElem? (i := 92) rfl) rfl
set_option maxRecDepth 20000 in
theorem wd_2_93 : (Jvm.Cond.instanceMethod ({ cls := "NetUnfolder$Prefix", name := "addConditions", desc := "(IIJ)J" } : Jvm.MethodName)) ∈ wsA := wA_2 (List.mem_of_getElem? (i := 93) rfl) rfl
set_option maxRecDepth 20000 in
theorem wd_2_94 : (Jvm.Cond.selects "NetUnfolder$Prefix" ({ cls := "NetUnfolder$Prefix", name := "addConditions", desc := "(IIJ)J" } : Jvm.MethodName) ({ cls := "NetUnfolder$Prefix", name := "addConditions", desc := "(IIJ)J" } : Jvm.MethodName)) ∈ wsA := wA_2 (List.mem_of_getElem? (i := 94) rfl) rfl
set_option maxRecDepth 20000 in
theorem wd_2_95 : (Jvm.Cond.code ({ cls := "NetUnfolder$Prefix", name := "addConditions", desc := "(IIJ)J" } : Jvm.MethodName) prog_5_method_5_code (10 : Nat) (Option.some Jvm.ClassFile.FieldType.long)) ∈ wsA := wA_2 (List.mem_of_getElem? (i := 95) rfl) rfl
set_option maxRecDepth 20000 in
theorem wd_2_96 : (Jvm.Cond.methodLink "NetUnfolder$Prefix" (67 : Nat) ({ cls := "NetUnfolder$Prefix", name := "allConditions", desc := "()J" } : Jvm.MethodName)) ∈ wsA := wA_2 (List.mem_of_getElem? (i := 96) rfl) rfl
set_option maxRecDepth 20000 in
theorem wd_2_97 : (Jvm.Cond.instanceMethod ({ cls := "NetUnfolder$Prefix", name := "allConditions", desc := "()J" } : Jvm.MethodName)) ∈ wsA := wA_2 (List.mem_of_getElem? (i := 97) rfl) rfl
set_option maxRecDepth 20000 in
theorem wd_2_98 : (Jvm.Cond.selects "NetUnfolder$Prefix" ({ cls := "NetUnfolder$Prefix", name := "allConditions", desc := "()J" } : Jvm.MethodName) ({ cls := "NetUnfolder$Prefix", name := "allConditions", desc := "()J" } : Jvm.MethodName)) ∈ wsA := wA_2 (List.mem_of_getElem? (i := 98) rfl) rfl
set_option maxRecDepth 20000 in
theorem wd_2_99 : (Jvm.Cond.code ({ cls := "NetUnfolder$Prefix", name := "allConditions", desc := "()J" } : Jvm.MethodName) prog_5_method_4_code (1 : Nat) (Option.some Jvm.ClassFile.FieldType.long)) ∈ wsA := wA_2 (List.mem_of_getElem? (i := 99) rfl) rfl
set_option maxRecDepth 20000 in
theorem wd_2_101 : (Jvm.Cond.static ({ cls := "NetUnfolder", name := "has", desc := "(JI)Z" } : Jvm.MethodName)) ∈ wsA := wA_2 (List.mem_of_getElem? (i := 101) rfl) rfl
set_option maxRecDepth 20000 in
theorem wd_2_102 : (Jvm.Cond.code ({ cls := "NetUnfolder", name := "has", desc := "(JI)Z" } : Jvm.MethodName) prog_1_method_17_code (3 : Nat) (Option.some Jvm.ClassFile.FieldType.boolean)) ∈ wsA := wA_2 (List.mem_of_getElem? (i := 102) rfl) rfl
set_option maxRecDepth 20000 in
theorem wd_2_103 : (Jvm.Cond.constantLong "NetUnfolder$Prefix" (71 : Nat) (-1 : Int64)) ∈ wsA := wA_2 (List.mem_of_getElem? (i := 103) rfl) rfl
set_option maxRecDepth 20000 in
theorem wd_2_104 : (Jvm.Cond.methodLink "NetUnfolder$Unfolding" (81 : Nat) ({ cls := "NetUnfolder$Unfolding", name := "findPossible", desc := "(JJ)V" } : Jvm.MethodName)) ∈ wsA := wA_2 (List.mem_of_getElem? (i := 104) rfl) rfl
set_option maxRecDepth 20000 in
theorem wd_2_106 : (Jvm.Cond.instanceMethod ({ cls := "NetUnfolder$Unfolding", name := "findPossible", desc := "(JJ)V" } : Jvm.MethodName)) ∈ wsA := wA_2 (List.mem_of_getElem? (i := 106) rfl) rfl
set_option maxRecDepth 20000 in
theorem wd_2_107 : (Jvm.Cond.code ({ cls := "NetUnfolder$Unfolding", name := "findPossible", desc := "(JJ)V" } : Jvm.MethodName) prog_8_method_9_code (6 : Nat) (Option.none : Option Jvm.ClassFile.FieldType)) ∈ wsA := wA_2 (List.mem_of_getElem? (i := 107) rfl) rfl
set_option maxRecDepth 20000 in
theorem wd_2_108 : (Jvm.Cond.methodLink "NetUnfolder$Unfolding" (159 : Nat) ({ cls := "NetUnfolder$Unfolding", name := "choose", desc := "(IIJJJ)V" } : Jvm.MethodName)) ∈ wsA := wA_2 (List.mem_of_getElem? (i := 108) rfl) rfl
set_option maxRecDepth 20000 in
theorem wd_2_110 : (Jvm.Cond.instanceMethod ({ cls := "NetUnfolder$Unfolding", name := "choose", desc := "(IIJJJ)V" } : Jvm.MethodName)) ∈ wsA := wA_2 (List.mem_of_getElem? (i := 110) rfl) rfl
set_option maxRecDepth 20000 in
theorem wd_2_111 : (Jvm.Cond.code ({ cls := "NetUnfolder$Unfolding", name := "choose", desc := "(IIJJJ)V" } : Jvm.MethodName) prog_8_method_10_code (12 : Nat) (Option.none : Option Jvm.ClassFile.FieldType)) ∈ wsA := wA_2 (List.mem_of_getElem? (i := 111) rfl) rfl
set_option maxRecDepth 20000 in
theorem wd_2_112 : (Jvm.Cond.methodLink "NetUnfolder$Unfolding" (35 : Nat) ({ cls := "NetUnfolder$Possible", name := "tooMany", desc := "()Z" } : Jvm.MethodName)) ∈ wsA := wA_2 (List.mem_of_getElem? (i := 112) rfl) rfl
set_option maxRecDepth 20000 in
theorem wd_2_113 : (Jvm.Cond.instanceMethod ({ cls := "NetUnfolder$Possible", name := "tooMany", desc := "()Z" } : Jvm.MethodName)) ∈ wsA := wA_2 (List.mem_of_getElem? (i := 113) rfl) rfl
set_option maxRecDepth 20000 in
theorem wd_2_114 : (Jvm.Cond.selects "NetUnfolder$Possible" ({ cls := "NetUnfolder$Possible", name := "tooMany", desc := "()Z" } : Jvm.MethodName) ({ cls := "NetUnfolder$Possible", name := "tooMany", desc := "()Z" } : Jvm.MethodName)) ∈ wsA := wA_2 (List.mem_of_getElem? (i := 114) rfl) rfl
set_option maxRecDepth 20000 in
theorem wd_2_115 : (Jvm.Cond.code ({ cls := "NetUnfolder$Possible", name := "tooMany", desc := "()Z" } : Jvm.MethodName) prog_4_method_3_code (1 : Nat) (Option.some Jvm.ClassFile.FieldType.boolean)) ∈ wsA := wA_2 (List.mem_of_getElem? (i := 115) rfl) rfl
set_option maxRecDepth 20000 in
theorem wd_2_116 : (Jvm.Cond.methodLink "NetUnfolder$Unfolding" (110 : Nat) ({ cls := "NetUnfolder$Prefix", name := "causesOf", desc := "(J)I" } : Jvm.MethodName)) ∈ wsA := wA_2 (List.mem_of_getElem? (i := 116) rfl) rfl
set_option maxRecDepth 20000 in
theorem wd_2_117 : (Jvm.Cond.instanceMethod ({ cls := "NetUnfolder$Prefix", name := "causesOf", desc := "(J)I" } : Jvm.MethodName)) ∈ wsA := wA_2 (List.mem_of_getElem? (i := 117) rfl) rfl
set_option maxRecDepth 20000 in
theorem wd_2_118 : (Jvm.Cond.selects "NetUnfolder$Prefix" ({ cls := "NetUnfolder$Prefix", name := "causesOf", desc := "(J)I" } : Jvm.MethodName) ({ cls := "NetUnfolder$Prefix", name := "causesOf", desc := "(J)I" } : Jvm.MethodName)) ∈ wsA := wA_2 (List.mem_of_getElem? (i := 118) rfl) rfl
set_option maxRecDepth 20000 in
theorem wd_2_119 : (Jvm.Cond.code ({ cls := "NetUnfolder$Prefix", name := "causesOf", desc := "(J)I" } : Jvm.MethodName) prog_5_method_7_code (5 : Nat) (Option.some Jvm.ClassFile.FieldType.int)) ∈ wsA := wA_2 (List.mem_of_getElem? (i := 119) rfl) rfl
set_option maxRecDepth 20000 in
theorem wd_2_120 : (Jvm.Cond.methodLink "NetUnfolder$Unfolding" (163 : Nat) ({ cls := "NetUnfolder$Prefix", name := "rankOf", desc := "(II)J" } : Jvm.MethodName)) ∈ wsA := wA_2 (List.mem_of_getElem? (i := 120) rfl) rfl
set_option maxRecDepth 20000 in
theorem wd_2_121 : (Jvm.Cond.instanceMethod ({ cls := "NetUnfolder$Prefix", name := "rankOf", desc := "(II)J" } : Jvm.MethodName)) ∈ wsA := wA_2 (List.mem_of_getElem? (i := 121) rfl) rfl
set_option maxRecDepth 20000 in
theorem wd_2_122 : (Jvm.Cond.selects "NetUnfolder$Prefix" ({ cls := "NetUnfolder$Prefix", name := "rankOf", desc := "(II)J" } : Jvm.MethodName) ({ cls := "NetUnfolder$Prefix", name := "rankOf", desc := "(II)J" } : Jvm.MethodName)) ∈ wsA := wA_2 (List.mem_of_getElem? (i := 122) rfl) rfl
set_option maxRecDepth 20000 in
theorem wd_2_123 : (Jvm.Cond.code ({ cls := "NetUnfolder$Prefix", name := "rankOf", desc := "(II)J" } : Jvm.MethodName) prog_5_method_10_code (8 : Nat) (Option.some Jvm.ClassFile.FieldType.long)) ∈ wsA := wA_2 (List.mem_of_getElem? (i := 123) rfl) rfl
set_option maxRecDepth 20000 in
theorem wd_2_124 : (Jvm.Cond.methodLink "NetUnfolder$Prefix" (77 : Nat) ({ cls := "java/lang/Integer", name := "bitCount", desc := "(I)I" } : Jvm.MethodName)) ∈ wsA := wA_2 (List.mem_of_getElem? (i := 124) rfl) rfl
set_option maxRecDepth 20000 in
theorem wd_2_125 : (Jvm.Cond.static ({ cls := "java/lang/Integer", name := "bitCount", desc := "(I)I" } : Jvm.MethodName)) ∈ wsA := wA_2 (List.mem_of_getElem? (i := 125) rfl) rfl
set_option maxRecDepth 20000 in
theorem wd_2_126 : (Jvm.Cond.code ({ cls := "java/lang/Integer", name := "bitCount", desc := "(I)I" } : Jvm.MethodName) prog_15_method_49_code (1 : Nat) (Option.some Jvm.ClassFile.FieldType.int)) ∈ wsA := wA_2 (List.mem_of_getElem? (i := 126) rfl) rfl
set_option maxRecDepth 20000 in
theorem wd_2_127 : (Jvm.Cond.constant "java/lang/Integer" (265 : Nat) (1431655765 : Int32)) ∈ wsA := wA_2 (List.mem_of_getElem? (i := 127) rfl) rfl
set_option maxRecDepth 20000 in
theorem wd_2_128 : (Jvm.Cond.constant "java/lang/Integer" (266 : Nat) (858993459 : Int32)) ∈ wsA := wA_2 (List.mem_of_getElem? (i := 128) rfl) rfl
set_option maxRecDepth 20000 in
theorem wd_2_129 : (Jvm.Cond.constant "java/lang/Integer" (267 : Nat) (252645135 : Int32)) ∈ wsA := wA_2 (List.mem_of_getElem? (i := 129) rfl) rfl
set_option maxRecDepth 20000 in
theorem wd_2_130 : (Jvm.Cond.methodLink "NetUnfolder$Unfolding" (167 : Nat) ({ cls := "NetUnfolder$Possible", name := "add", desc := "(IJJ)V" } : Jvm.MethodName)) ∈ wsA := wA_2 (List.mem_of_getElem? (i := 130) rfl) rfl
set_option maxRecDepth 20000 in
theorem wd_2_131 : (Jvm.Cond.instanceMethod ({ cls := "NetUnfolder$Possible", name := "add", desc := "(IJJ)V" } : Jvm.MethodName)) ∈ wsA := wA_2 (List.mem_of_getElem? (i := 131) rfl) rfl
set_option maxRecDepth 20000 in
theorem wd_2_132 : (Jvm.Cond.selects "NetUnfolder$Possible" ({ cls := "NetUnfolder$Possible", name := "add", desc := "(IJJ)V" } : Jvm.MethodName) ({ cls := "NetUnfolder$Possible", name := "add", desc := "(IJJ)V" } : Jvm.MethodName)) ∈ wsA := wA_2 (List.mem_of_getElem? (i := 132) rfl) rfl
set_option maxRecDepth 20000 in
theorem wd_2_133 : (Jvm.Cond.code ({ cls := "NetUnfolder$Possible", name := "add", desc := "(IJJ)V" } : Jvm.MethodName) prog_4_method_4_code (6 : Nat) (Option.none : Option Jvm.ClassFile.FieldType)) ∈ wsA := wA_2 (List.mem_of_getElem? (i := 133) rfl) rfl
set_option maxRecDepth 20000 in
theorem wd_2_134 : (Jvm.Cond.methodLink "NetUnfolder$Possible" (30 : Nat) ({ cls := "NetUnfolder$Possible", name := "tooMany", desc := "()Z" } : Jvm.MethodName)) ∈ wsA := wA_2 (List.mem_of_getElem? (i := 134) rfl) rfl
set_option maxRecDepth 20000 in
theorem wd_2_136 : (Jvm.Cond.methodLink "NetUnfolder$Unfolding" (52 : Nat) ({ cls := "NetUnfolder$Possible", name := "next", desc := "()I" } : Jvm.MethodName)) ∈ wsA := wA_2 (List.mem_of_getElem? (i := 136) rfl) rfl
set_option maxRecDepth 20000 in
theorem wd_2_137 : (Jvm.Cond.instanceMethod ({ cls := "NetUnfolder$Possible", name := "next", desc := "()I" } : Jvm.MethodName)) ∈ wsA := wA_2 (List.mem_of_getElem? (i := 137) rfl) rfl
set_option maxRecDepth 20000 in
theorem wd_2_138 : (Jvm.Cond.selects "NetUnfolder$Possible" ({ cls := "NetUnfolder$Possible", name := "next", desc := "()I" } : Jvm.MethodName) ({ cls := "NetUnfolder$Possible", name := "next", desc := "()I" } : Jvm.MethodName)) ∈ wsA := wA_2 (List.mem_of_getElem? (i := 138) rfl) rfl
set_option maxRecDepth 20000 in
theorem wd_2_139 : (Jvm.Cond.code ({ cls := "NetUnfolder$Possible", name := "next", desc := "()I" } : Jvm.MethodName) prog_4_method_6_code (3 : Nat) (Option.some Jvm.ClassFile.FieldType.int)) ∈ wsA := wA_2 (List.mem_of_getElem? (i := 139) rfl) rfl
set_option maxRecDepth 20000 in
theorem wd_2_140 : (Jvm.Cond.methodLink "NetUnfolder$Possible" (34 : Nat) ({ cls := "NetUnfolder$Possible", name := "comesBefore", desc := "(II)Z" } : Jvm.MethodName)) ∈ wsA := wA_2 (List.mem_of_getElem? (i := 140) rfl) rfl
set_option maxRecDepth 20000 in
theorem wd_2_142 : (Jvm.Cond.instanceMethod ({ cls := "NetUnfolder$Possible", name := "comesBefore", desc := "(II)Z" } : Jvm.MethodName)) ∈ wsA := wA_2 (List.mem_of_getElem? (i := 142) rfl) rfl
set_option maxRecDepth 20000 in
theorem wd_2_143 : (Jvm.Cond.code ({ cls := "NetUnfolder$Possible", name := "comesBefore", desc := "(II)Z" } : Jvm.MethodName) prog_4_method_7_code (8 : Nat) (Option.some Jvm.ClassFile.FieldType.boolean)) ∈ wsA := wA_2 (List.mem_of_getElem? (i := 143) rfl) rfl
set_option maxRecDepth 20000 in
theorem wd_2_144 : (Jvm.Cond.methodLink "NetUnfolder$Unfolding" (56 : Nat) ({ cls := "NetUnfolder$Unfolding", name := "rivalOf", desc := "(I)I" } : Jvm.MethodName)) ∈ wsA := wA_2 (List.mem_of_getElem? (i := 144) rfl) rfl
set_option maxRecDepth 20000 in
theorem wd_2_146 : (Jvm.Cond.instanceMethod ({ cls := "NetUnfolder$Unfolding", name := "rivalOf", desc := "(I)I" } : Jvm.MethodName)) ∈ wsA := wA_2 (List.mem_of_getElem? (i := 146) rfl) rfl
set_option maxRecDepth 20000 in
theorem wd_2_147 : (Jvm.Cond.code ({ cls := "NetUnfolder$Unfolding", name := "rivalOf", desc := "(I)I" } : Jvm.MethodName) prog_8_method_4_code (6 : Nat) (Option.some Jvm.ClassFile.FieldType.int)) ∈ wsA := wA_2 (List.mem_of_getElem? (i := 147) rfl) rfl
set_option maxRecDepth 20000 in
theorem wd_2_148 : (Jvm.Cond.methodLink "NetUnfolder$Unfolding" (96 : Nat) ({ cls := "NetUnfolder$Prefix", name := "besideAll", desc := "(J)J" } : Jvm.MethodName)) ∈ wsA := wA_2 (List.mem_of_getElem? (i := 148) rfl) rfl
set_option maxRecDepth 20000 in
theorem wd_2_149 : (Jvm.Cond.instanceMethod ({ cls := "NetUnfolder$Prefix", name := "besideAll", desc := "(J)J" } : Jvm.MethodName)) ∈ wsA := wA_2 (List.mem_of_getElem? (i := 149) rfl) rfl
set_option maxRecDepth 20000 in
theorem wd_2_150 : (Jvm.Cond.selects "NetUnfolder$Prefix" ({ cls := "NetUnfolder$Prefix", name := "besideAll", desc := "(J)J" } : Jvm.MethodName) ({ cls := "NetUnfolder$Prefix", name := "besideAll", desc := "(J)J" } : Jvm.MethodName)) ∈ wsA := wA_2 (List.mem_of_getElem? (i := 150) rfl) rfl
set_option maxRecDepth 20000 in
theorem wd_2_151 : (Jvm.Cond.code ({ cls := "NetUnfolder$Prefix", name := "besideAll", desc := "(J)J" } : Jvm.MethodName) prog_5_method_8_code (6 : Nat) (Option.some Jvm.ClassFile.FieldType.long)) ∈ wsA := wA_2 (List.mem_of_getElem? (i := 151) rfl) rfl
set_option maxRecDepth 20000 in
theorem wd_2_152 : (Jvm.Cond.methodLink "NetUnfolder$Unfolding" (60 : Nat) ({ cls := "NetUnfolder$Unfolding", name := "tellWay", desc := "(II)V" } : Jvm.MethodName)) ∈ wsA := wA_2 (List.mem_of_getElem? (i := 152) rfl) rfl
set_option maxRecDepth 20000 in
theorem wd_2_154 : (Jvm.Cond.instanceMethod ({ cls := "NetUnfolder$Unfolding", name := "tellWay", desc := "(II)V" } : Jvm.MethodName)) ∈ wsA := wA_2 (List.mem_of_getElem? (i := 154) rfl) rfl
set_option maxRecDepth 20000 in
theorem wd_2_155 : (Jvm.Cond.code ({ cls := "NetUnfolder$Unfolding", name := "tellWay", desc := "(II)V" } : Jvm.MethodName) prog_8_method_5_code (5 : Nat) (Option.none : Option Jvm.ClassFile.FieldType)) ∈ wsA := wA_2 (List.mem_of_getElem? (i := 155) rfl) rfl
set_option maxRecDepth 20000 in
theorem wd_2_156 : (Jvm.Cond.methodLink "NetUnfolder$Unfolding" (114 : Nat) ({ cls := "NetUnfolder$Way", name := "begin", desc := "()V" } : Jvm.MethodName)) ∈ wsA := wA_2 (List.mem_of_getElem? (i := 156) rfl) rfl
set_option maxRecDepth 20000 in
theorem wd_2_157 : (Jvm.Cond.instanceMethod ({ cls := "NetUnfolder$Way", name := "begin", desc := "()V" } : Jvm.MethodName)) ∈ wsA := wA_2 (List.mem_of_getElem? (i := 157) rfl) rfl
set_option maxRecDepth 20000 in
theorem wd_2_158 : (Jvm.Cond.selects "NetUnfolder$Way" ({ cls := "NetUnfolder$Way", name := "begin", desc := "()V" } : Jvm.MethodName) ({ cls := "NetUnfolder$Way", name := "begin", desc := "()V" } : Jvm.MethodName)) ∈ wsA := wA_2 (List.mem_of_getElem? (i := 158) rfl) rfl
set_option maxRecDepth 20000 in
theorem wd_2_159 : (Jvm.Cond.code ({ cls := "NetUnfolder$Way", name := "begin", desc := "()V" } : Jvm.MethodName) prog_9_method_3_code (1 : Nat) (Option.none : Option Jvm.ClassFile.FieldType)) ∈ wsA := wA_2 (List.mem_of_getElem? (i := 159) rfl) rfl
set_option maxRecDepth 20000 in
theorem wd_2_160 : (Jvm.Cond.methodLink "NetUnfolder$Unfolding" (117 : Nat) ({ cls := "NetUnfolder$Unfolding", name := "tellTransitions", desc := "(I)V" } : Jvm.MethodName)) ∈ wsA := wA_2 (List.mem_of_getElem? (i := 160) rfl) rfl
set_option maxRecDepth 20000 in
theorem wd_2_162 : (Jvm.Cond.instanceMethod ({ cls := "NetUnfolder$Unfolding", name := "tellTransitions", desc := "(I)V" } : Jvm.MethodName)) ∈ wsA := wA_2 (List.mem_of_getElem? (i := 162) rfl) rfl
set_option maxRecDepth 20000 in
theorem wd_2_163 : (Jvm.Cond.code ({ cls := "NetUnfolder$Unfolding", name := "tellTransitions", desc := "(I)V" } : Jvm.MethodName) prog_8_method_6_code (3 : Nat) (Option.none : Option Jvm.ClassFile.FieldType)) ∈ wsA := wA_2 (List.mem_of_getElem? (i := 163) rfl) rfl
set_option maxRecDepth 20000 in
theorem wd_2_164 : (Jvm.Cond.methodLink "NetUnfolder$Unfolding" (121 : Nat) ({ cls := "NetUnfolder$Way", name := "add", desc := "(I)V" } : Jvm.MethodName)) ∈ wsA := wA_2 (List.mem_of_getElem? (i := 164) rfl) rfl
set_option maxRecDepth 20000 in
theorem wd_2_165 : (Jvm.Cond.instanceMethod ({ cls := "NetUnfolder$Way", name := "add", desc := "(I)V" } : Jvm.MethodName)) ∈ wsA := wA_2 (List.mem_of_getElem? (i := 165) rfl) rfl
set_option maxRecDepth 20000 in
theorem wd_2_166 : (Jvm.Cond.selects "NetUnfolder$Way" ({ cls := "NetUnfolder$Way", name := "add", desc := "(I)V" } : Jvm.MethodName) ({ cls := "NetUnfolder$Way", name := "add", desc := "(I)V" } : Jvm.MethodName)) ∈ wsA := wA_2 (List.mem_of_getElem? (i := 166) rfl) rfl
set_option maxRecDepth 20000 in
theorem wd_2_167 : (Jvm.Cond.code ({ cls := "NetUnfolder$Way", name := "add", desc := "(I)V" } : Jvm.MethodName) prog_9_method_4_code (2 : Nat) (Option.none : Option Jvm.ClassFile.FieldType)) ∈ wsA := wA_2 (List.mem_of_getElem? (i := 167) rfl) rfl
set_option maxRecDepth 20000 in
theorem wd_2_168 : (Jvm.Cond.methodLink "NetUnfolder$Unfolding" (64 : Nat) ({ cls := "NetUnfolder$Unfolding", name := "letCome", desc := "(I)Z" } : Jvm.MethodName)) ∈ wsA := wA_2 (List.mem_of_getElem? (i := 168) rfl) rfl
set_option maxRecDepth 20000 in
theorem wd_2_170 : (Jvm.Cond.instanceMethod ({ cls := "NetUnfolder$Unfolding", name := "letCome", desc := "(I)Z" } : Jvm.MethodName)) ∈ wsA := wA_2 (List.mem_of_getElem? (i := 170) rfl) rfl
set_option maxRecDepth 20000 in
theorem wd_2_171 : (Jvm.Cond.code ({ cls := "NetUnfolder$Unfolding", name := "letCome", desc := "(I)Z" } : Jvm.MethodName) prog_8_method_7_code (15 : Nat) (Option.some Jvm.ClassFile.FieldType.boolean)) ∈ wsA := wA_2 (List.mem_of_getElem? (i := 171) rfl) rfl
set_option maxRecDepth 20000 in
theorem wd_2_172 : (Jvm.Cond.methodLink "NetUnfolder$Unfolding" (128 : Nat) ({ cls := "NetUnfolder$Prefix", name := "markingOf", desc := "(I)I" } : Jvm.MethodName)) ∈ wsA := wA_2 (List.mem_of_getElem? (i := 172) rfl) rfl
set_option maxRecDepth 20000 in
theorem wd_2_173 : (Jvm.Cond.instanceMethod ({ cls := "NetUnfolder$Prefix", name := "markingOf", desc := "(I)I" } : Jvm.MethodName)) ∈ wsA := wA_2 (List.mem_of_getElem? (i := 173) rfl) rfl
set_option maxRecDepth 20000 in
theorem wd_2_174 : (Jvm.Cond.selects "NetUnfolder$Prefix" ({ cls := "NetUnfolder$Prefix", name := "markingOf", desc := "(I)I" } : Jvm.MethodName) ({ cls := "NetUnfolder$Prefix", name := "markingOf", desc := "(I)I" } : Jvm.MethodName)) ∈ wsA := wA_2 (List.mem_of_getElem? (i := 174) rfl) rfl
set_option maxRecDepth 20000 in
theorem wd_2_175 : (Jvm.Cond.code ({ cls := "NetUnfolder$Prefix", name := "markingOf", desc := "(I)I" } : Jvm.MethodName) prog_5_method_9_code (5 : Nat) (Option.some Jvm.ClassFile.FieldType.int)) ∈ wsA := wA_2 (List.mem_of_getElem? (i := 175) rfl) rfl
set_option maxRecDepth 20000 in
theorem wd_2_176 : (Jvm.Cond.methodLink "NetUnfolder$Unfolding" (131 : Nat) ({ cls := "NetUnfolder$Net", name := "fire", desc := "(II)I" } : Jvm.MethodName)) ∈ wsA := wA_2 (List.mem_of_getElem? (i := 176) rfl) rfl
set_option maxRecDepth 20000 in
theorem wd_2_177 : (Jvm.Cond.instanceMethod ({ cls := "NetUnfolder$Net", name := "fire", desc := "(II)I" } : Jvm.MethodName)) ∈ wsA := wA_2 (List.mem_of_getElem? (i := 177) rfl) rfl
set_option maxRecDepth 20000 in
theorem wd_2_178 : (Jvm.Cond.selects "NetUnfolder$Net" ({ cls := "NetUnfolder$Net", name := "fire", desc := "(II)I" } : Jvm.MethodName) ({ cls := "NetUnfolder$Net", name := "fire", desc := "(II)I" } : Jvm.MethodName)) ∈ wsA := wA_2 (List.mem_of_getElem? (i := 178) rfl) rfl
set_option maxRecDepth 20000 in
theorem wd_2_179 : (Jvm.Cond.code ({ cls := "NetUnfolder$Net", name := "fire", desc := "(II)I" } : Jvm.MethodName) prog_3_method_5_code (3 : Nat) (Option.some Jvm.ClassFile.FieldType.int)) ∈ wsA := wA_2 (List.mem_of_getElem? (i := 179) rfl) rfl
set_option maxRecDepth 20000 in
theorem wd_2_180 : (Jvm.Cond.methodLink "NetUnfolder$Unfolding" (135 : Nat) ({ cls := "NetUnfolder$Unfolding", name := "leadsToNothingNew", desc := "(IJ)Z" } : Jvm.MethodName)) ∈ wsA := wA_2 (List.mem_of_getElem? (i := 180) rfl) rfl
set_option maxRecDepth 20000 in
theorem wd_2_182 : (Jvm.Cond.instanceMethod ({ cls := "NetUnfolder$Unfolding", name := "leadsToNothingNew", desc := "(IJ)Z" } : Jvm.MethodName)) ∈ wsA := wA_2 (List.mem_of_getElem? (i := 182) rfl) rfl
set_option maxRecDepth 20000 in
theorem wd_2_183 : (Jvm.Cond.code ({ cls := "NetUnfolder$Unfolding", name := "leadsToNothingNew", desc := "(IJ)Z" } : Jvm.MethodName) prog_8_method_8_code (5 : Nat) (Option.some Jvm.ClassFile.FieldType.boolean)) ∈ wsA := wA_2 (List.mem_of_getElem? (i := 183) rfl) rfl
set_option maxRecDepth 20000 in
theorem wd_2_184 : (Jvm.Cond.methodLink "NetUnfolder$Unfolding" (139 : Nat) ({ cls := "java/lang/Integer", name := "bitCount", desc := "(I)I" } : Jvm.MethodName)) ∈ wsA := wA_2 (List.mem_of_getElem? (i := 184) rfl) rfl
set_option maxRecDepth 20000 in
theorem wd_2_185 : (Jvm.Cond.methodLink "NetUnfolder$Unfolding" (144 : Nat) ({ cls := "NetUnfolder$Possible", name := "remove", desc := "(I)V" } : Jvm.MethodName)) ∈ wsA := wA_2 (List.mem_of_getElem? (i := 185) rfl) rfl
set_option maxRecDepth 20000 in
theorem wd_2_186 : (Jvm.Cond.instanceMethod ({ cls := "NetUnfolder$Possible", name := "remove", desc := "(I)V" } : Jvm.MethodName)) ∈ wsA := wA_2 (List.mem_of_getElem? (i := 186) rfl) rfl
set_option maxRecDepth 20000 in
theorem wd_2_187 : (Jvm.Cond.selects "NetUnfolder$Possible" ({ cls := "NetUnfolder$Possible", name := "remove", desc := "(I)V" } : Jvm.MethodName) ({ cls := "NetUnfolder$Possible", name := "remove", desc := "(I)V" } : Jvm.MethodName)) ∈ wsA := wA_2 (List.mem_of_getElem? (i := 187) rfl) rfl
set_option maxRecDepth 20000 in
theorem wd_2_188 : (Jvm.Cond.code ({ cls := "NetUnfolder$Possible", name := "remove", desc := "(I)V" } : Jvm.MethodName) prog_4_method_5_code (2 : Nat) (Option.none : Option Jvm.ClassFile.FieldType)) ∈ wsA := wA_2 (List.mem_of_getElem? (i := 188) rfl) rfl
set_option maxRecDepth 20000 in
theorem wd_2_189 : (Jvm.Cond.methodLink "NetUnfolder$Unfolding" (147 : Nat) ({ cls := "NetUnfolder$Prefix", name := "addEvent", desc := "(IJJ)I" } : Jvm.MethodName)) ∈ wsA := wA_2 (List.mem_of_getElem? (i := 189) rfl) rfl
set_option maxRecDepth 20000 in
theorem wd_2_190 : (Jvm.Cond.instanceMethod ({ cls := "NetUnfolder$Prefix", name := "addEvent", desc := "(IJJ)I" } : Jvm.MethodName)) ∈ wsA := wA_2 (List.mem_of_getElem? (i := 190) rfl) rfl
set_option maxRecDepth 20000 in
theorem wd_2_191 : (Jvm.Cond.selects "NetUnfolder$Prefix" ({ cls := "NetUnfolder$Prefix", name := "addEvent", desc := "(IJJ)I" } : Jvm.MethodName) ({ cls := "NetUnfolder$Prefix", name := "addEvent", desc := "(IJJ)I" } : Jvm.MethodName)) ∈ wsA := wA_2 (List.mem_of_getElem? (i := 191) rfl) rfl
set_option maxRecDepth 20000 in
theorem wd_2_192 : (Jvm.Cond.code ({ cls := "NetUnfolder$Prefix", name := "addEvent", desc := "(IJJ)I" } : Jvm.MethodName) prog_5_method_6_code (8 : Nat) (Option.some Jvm.ClassFile.FieldType.int)) ∈ wsA := wA_2 (List.mem_of_getElem? (i := 192) rfl) rfl
set_option maxRecDepth 20000 in
theorem wd_2_193 : (Jvm.Cond.methodLink "NetUnfolder$Prefix" (73 : Nat) ({ cls := "NetUnfolder$Prefix", name := "causesOf", desc := "(J)I" } : Jvm.MethodName)) ∈ wsA := wA_2 (List.mem_of_getElem? (i := 193) rfl) rfl
set_option maxRecDepth 20000 in
theorem wd_2_194 : (Jvm.Cond.methodLink "NetUnfolderLaw" (62 : Nat) ({ cls := "NetUnfolder", name := "way", desc := "(I)I" } : Jvm.MethodName)) ∈ wsA := wA_2 (List.mem_of_getElem? (i := 194) rfl) rfl
set_option maxRecDepth 20000 in
theorem wd_2_195 : (Jvm.Cond.instanceMethod ({ cls := "NetUnfolder", name := "way", desc := "(I)I" } : Jvm.MethodName)) ∈ wsA := wA_2 (List.mem_of_getElem? (i := 195) rfl) rfl
set_option maxRecDepth 20000 in
theorem wd_2_196 : (Jvm.Cond.selects "NetUnfolder" ({ cls := "NetUnfolder", name := "way", desc := "(I)I" } : Jvm.MethodName) ({ cls := "NetUnfolder", name := "way", desc := "(I)I" } : Jvm.MethodName)) ∈ wsA := wA_2 (List.mem_of_getElem? (i := 196) rfl) rfl
set_option maxRecDepth 20000 in
theorem wd_2_197 : (Jvm.Cond.code ({ cls := "NetUnfolder", name := "way", desc := "(I)I" } : Jvm.MethodName) prog_1_method_8_code (2 : Nat) (Option.some Jvm.ClassFile.FieldType.int)) ∈ wsA := wA_2 (List.mem_of_getElem? (i := 197) rfl) rfl
set_option maxRecDepth 20000 in
theorem wd_2_198 : (Jvm.Cond.methodLink "NetUnfolder" (88 : Nat) ({ cls := "NetUnfolder$Way", name := "step", desc := "(I)I" } : Jvm.MethodName)) ∈ wsA := wA_2 (List.mem_of_getElem? (i := 198) rfl) rfl
set_option maxRecDepth 20000 in
theorem wd_2_199 : (Jvm.Cond.instanceMethod ({ cls := "NetUnfolder$Way", name := "step", desc := "(I)I" } : Jvm.MethodName)) ∈ wsA := wA_2 (List.mem_of_getElem? (i := 199) rfl) rfl
set_option maxRecDepth 20000 in
theorem wd_2_200 : (Jvm.Cond.selects "NetUnfolder$Way" ({ cls := "NetUnfolder$Way", name := "step", desc := "(I)I" } : Jvm.MethodName) ({ cls := "NetUnfolder$Way", name := "step", desc := "(I)I" } : Jvm.MethodName)) ∈ wsA := wA_2 (List.mem_of_getElem? (i := 200) rfl) rfl
set_option maxRecDepth 20000 in
theorem wd_2_201 : (Jvm.Cond.code ({ cls := "NetUnfolder$Way", name := "step", desc := "(I)I" } : Jvm.MethodName) prog_9_method_5_code (2 : Nat) (Option.some Jvm.ClassFile.FieldType.int)) ∈ wsA := wA_2 (List.mem_of_getElem? (i := 201) rfl) rfl
set_option maxRecDepth 20000 in
theorem wd_2_202 : (Jvm.Cond.methodLink "NetUnfolderLaw" (69 : Nat) ({ cls := "NetUnfolder", name := "count", desc := "(I)I" } : Jvm.MethodName)) ∈ wsA := wA_2 (List.mem_of_getElem? (i := 202) rfl) rfl
set_option maxRecDepth 20000 in
theorem wd_2_203 : (Jvm.Cond.instanceMethod ({ cls := "NetUnfolder", name := "count", desc := "(I)I" } : Jvm.MethodName)) ∈ wsA := wA_2 (List.mem_of_getElem? (i := 203) rfl) rfl
set_option maxRecDepth 20000 in
theorem wd_2_204 : (Jvm.Cond.selects "NetUnfolder" ({ cls := "NetUnfolder", name := "count", desc := "(I)I" } : Jvm.MethodName) ({ cls := "NetUnfolder", name := "count", desc := "(I)I" } : Jvm.MethodName)) ∈ wsA := wA_2 (List.mem_of_getElem? (i := 204) rfl) rfl
set_option maxRecDepth 20000 in
theorem wd_2_205 : (Jvm.Cond.code ({ cls := "NetUnfolder", name := "count", desc := "(I)I" } : Jvm.MethodName) prog_1_method_10_code (2 : Nat) (Option.some Jvm.ClassFile.FieldType.int)) ∈ wsA := wA_2 (List.mem_of_getElem? (i := 205) rfl) rfl
set_option maxRecDepth 20000 in
theorem wd_2_206 : (Jvm.Cond.methodLink "NetUnfolder" (110 : Nat) ({ cls := "java/lang/Integer", name := "bitCount", desc := "(I)I" } : Jvm.MethodName)) ∈ wsA := wA_2 (List.mem_of_getElem? (i := 206) rfl) rfl
set_option maxRecDepth 20000 in
theorem wd_2_207 : (Jvm.Cond.methodLink "NetUnfolderLaw" (73 : Nat) ({ cls := "NetUnfolder", name := "event", desc := "(II)I" } : Jvm.MethodName)) ∈ wsA := wA_2 (List.mem_of_getElem? (i := 207) rfl) rfl
set_option maxRecDepth 20000 in
theorem wd_2_208 : (Jvm.Cond.instanceMethod ({ cls := "NetUnfolder", name := "event", desc := "(II)I" } : Jvm.MethodName)) ∈ wsA := wA_2 (List.mem_of_getElem? (i := 208) rfl) rfl
set_option maxRecDepth 20000 in
theorem wd_2_209 : (Jvm.Cond.selects "NetUnfolder" ({ cls := "NetUnfolder", name := "event", desc := "(II)I" } : Jvm.MethodName) ({ cls := "NetUnfolder", name := "event", desc := "(II)I" } : Jvm.MethodName)) ∈ wsA := wA_2 (List.mem_of_getElem? (i := 209) rfl) rfl
set_option maxRecDepth 20000 in
theorem wd_2_210 : (Jvm.Cond.code ({ cls := "NetUnfolder", name := "event", desc := "(II)I" } : Jvm.MethodName) prog_1_method_11_code (3 : Nat) (Option.some Jvm.ClassFile.FieldType.int)) ∈ wsA := wA_2 (List.mem_of_getElem? (i := 210) rfl) rfl
set_option maxRecDepth 20000 in
theorem wd_2_211 : (Jvm.Cond.methodLink "NetUnfolder" (125 : Nat) ({ cls := "NetUnfolder$Prefix", name := "isCutOff", desc := "(I)Z" } : Jvm.MethodName)) ∈ wsA := wA_2 (List.mem_of_getElem? (i := 211) rfl) rfl
set_option maxRecDepth 20000 in
theorem wd_2_212 : (Jvm.Cond.instanceMethod ({ cls := "NetUnfolder$Prefix", name := "isCutOff", desc := "(I)Z" } : Jvm.MethodName)) ∈ wsA := wA_2 (List.mem_of_getElem? (i := 212) rfl) rfl
set_option maxRecDepth 20000 in
theorem wd_2_213 : (Jvm.Cond.selects "NetUnfolder$Prefix" ({ cls := "NetUnfolder$Prefix", name := "isCutOff", desc := "(I)Z" } : Jvm.MethodName) ({ cls := "NetUnfolder$Prefix", name := "isCutOff", desc := "(I)Z" } : Jvm.MethodName)) ∈ wsA := wA_2 (List.mem_of_getElem? (i := 213) rfl) rfl
set_option maxRecDepth 20000 in
theorem wd_2_214 : (Jvm.Cond.code ({ cls := "NetUnfolder$Prefix", name := "isCutOff", desc := "(I)Z" } : Jvm.MethodName) prog_5_method_3_code (2 : Nat) (Option.some Jvm.ClassFile.FieldType.boolean)) ∈ wsA := wA_2 (List.mem_of_getElem? (i := 214) rfl) rfl
set_option maxRecDepth 20000 in
theorem wd_2_215 : (Jvm.Cond.methodLink "NetUnfolderLaw" (77 : Nat) ({ cls := "NetUnfolder", name := "takes", desc := "(II)I" } : Jvm.MethodName)) ∈ wsA := wA_2 (List.mem_of_getElem? (i := 215) rfl) rfl
set_option maxRecDepth 20000 in
theorem wd_2_216 : (Jvm.Cond.instanceMethod ({ cls := "NetUnfolder", name := "takes", desc := "(II)I" } : Jvm.MethodName)) ∈ wsA := wA_2 (List.mem_of_getElem? (i := 216) rfl) rfl
set_option maxRecDepth 20000 in
theorem wd_2_217 : (Jvm.Cond.selects "NetUnfolder" ({ cls := "NetUnfolder", name := "takes", desc := "(II)I" } : Jvm.MethodName) ({ cls := "NetUnfolder", name := "takes", desc := "(II)I" } : Jvm.MethodName)) ∈ wsA := wA_2 (List.mem_of_getElem? (i := 217) rfl) rfl
set_option maxRecDepth 20000 in
theorem wd_2_218 : (Jvm.Cond.code ({ cls := "NetUnfolder", name := "takes", desc := "(II)I" } : Jvm.MethodName) prog_1_method_12_code (3 : Nat) (Option.some Jvm.ClassFile.FieldType.int)) ∈ wsA := wA_2 (List.mem_of_getElem? (i := 218) rfl) rfl
set_option maxRecDepth 20000 in
theorem wd_2_219 : (Jvm.Cond.methodLink "NetUnfolder" (128 : Nat) ({ cls := "NetUnfolder$Prefix", name := "takenBy", desc := "(II)I" } : Jvm.MethodName)) ∈ wsA := wA_2 (List.mem_of_getElem? (i := 219) rfl) rfl
set_option maxRecDepth 20000 in
theorem wd_2_220 : (Jvm.Cond.instanceMethod ({ cls := "NetUnfolder$Prefix", name := "takenBy", desc := "(II)I" } : Jvm.MethodName)) ∈ wsA := wA_2 (List.mem_of_getElem? (i := 220) rfl) rfl
set_option maxRecDepth 20000 in
theorem wd_2_221 : (Jvm.Cond.selects "NetUnfolder$Prefix" ({ cls := "NetUnfolder$Prefix", name := "takenBy", desc := "(II)I" } : Jvm.MethodName) ({ cls := "NetUnfolder$Prefix", name := "takenBy", desc := "(II)I" } : Jvm.MethodName)) ∈ wsA := wA_2 (List.mem_of_getElem? (i := 221) rfl) rfl
set_option maxRecDepth 20000 in
theorem wd_2_222 : (Jvm.Cond.code ({ cls := "NetUnfolder$Prefix", name := "takenBy", desc := "(II)I" } : Jvm.MethodName) prog_5_method_11_code (7 : Nat) (Option.some Jvm.ClassFile.FieldType.int)) ∈ wsA := wA_2 (List.mem_of_getElem? (i := 222) rfl) rfl
set_option maxRecDepth 20000 in
theorem wd_2_224 : (Jvm.Cond.static ({ cls := "NetUnfolder", name := "least", desc := "(J)I" } : Jvm.MethodName)) ∈ wsA := wA_2 (List.mem_of_getElem? (i := 224) rfl) rfl
set_option maxRecDepth 20000 in
theorem wd_2_225 : (Jvm.Cond.code ({ cls := "NetUnfolder", name := "least", desc := "(J)I" } : Jvm.MethodName) prog_1_method_18_code (2 : Nat) (Option.some Jvm.ClassFile.FieldType.int)) ∈ wsA := wA_2 (List.mem_of_getElem? (i := 225) rfl) rfl
set_option maxRecDepth 20000 in
theorem wd_2_226 : (Jvm.Cond.methodLink "NetUnfolder" (152 : Nat) ({ cls := "java/lang/Long", name := "bitCount", desc := "(J)I" } : Jvm.MethodName)) ∈ wsA := wA_2 (List.mem_of_getElem? (i := 226) rfl) rfl
set_option maxRecDepth 20000 in
theorem wd_2_227 : (Jvm.Cond.static ({ cls := "java/lang/Long", name := "bitCount", desc := "(J)I" } : Jvm.MethodName)) ∈ wsA := wA_2 (List.mem_of_getElem? (i := 227) rfl) rfl
set_option maxRecDepth 20000 in
theorem wd_2_228 : (Jvm.Cond.code ({ cls := "java/lang/Long", name := "bitCount", desc := "(J)I" } : Jvm.MethodName) prog_16_method_50_code (2 : Nat) (Option.some Jvm.ClassFile.FieldType.int)) ∈ wsA := wA_2 (List.mem_of_getElem? (i := 228) rfl) rfl
set_option maxRecDepth 20000 in
theorem wd_2_229 : (Jvm.Cond.constantLong "java/lang/Long" (314 : Nat) (6148914691236517205 : Int64)) ∈ wsA := wA_2 (List.mem_of_getElem? (i := 229) rfl) rfl
set_option maxRecDepth 20000 in
theorem wd_2_230 : (Jvm.Cond.constantLong "java/lang/Long" (316 : Nat) (3689348814741910323 : Int64)) ∈ wsA := wA_2 (List.mem_of_getElem? (i := 230) rfl) rfl
set_option maxRecDepth 20000 in
theorem wd_2_231 : (Jvm.Cond.constantLong "java/lang/Long" (318 : Nat) (1085102592571150095 : Int64)) ∈ wsA := wA_2 (List.mem_of_getElem? (i := 231) rfl) rfl
set_option maxRecDepth 20000 in
theorem wd_2_232 : (Jvm.Cond.methodLink "NetUnfolderLaw" (81 : Nat) ({ cls := "NetUnfolder", name := "condition", desc := "(II)I" } : Jvm.MethodName)) ∈ wsA := wA_2 (List.mem_of_getElem? (i := 232) rfl) rfl
set_option maxRecDepth 20000 in
theorem wd_2_233 : (Jvm.Cond.instanceMethod ({ cls := "NetUnfolder", name := "condition", desc := "(II)I" } : Jvm.MethodName)) ∈ wsA := wA_2 (List.mem_of_getElem? (i := 233) rfl) rfl
set_option maxRecDepth 20000 in
theorem wd_2_234 : (Jvm.Cond.selects "NetUnfolder" ({ cls := "NetUnfolder", name := "condition", desc := "(II)I" } : Jvm.MethodName) ({ cls := "NetUnfolder", name := "condition", desc := "(II)I" } : Jvm.MethodName)) ∈ wsA := wA_2 (List.mem_of_getElem? (i := 234) rfl) rfl
set_option maxRecDepth 20000 in
theorem wd_2_235 : (Jvm.Cond.code ({ cls := "NetUnfolder", name := "condition", desc := "(II)I" } : Jvm.MethodName) prog_1_method_13_code (3 : Nat) (Option.some Jvm.ClassFile.FieldType.int)) ∈ wsA := wA_2 (List.mem_of_getElem? (i := 235) rfl) rfl
set_option maxRecDepth 20000 in
theorem wd_2_236 : (Jvm.Cond.methodLink "NetUnfolderLaw" (85 : Nat) ({ cls := "NetUnfolder", name := "concurrent", desc := "(II)Z" } : Jvm.MethodName)) ∈ wsA := wA_2 (List.mem_of_getElem? (i := 236) rfl) rfl
set_option maxRecDepth 20000 in
theorem wd_2_237 : (Jvm.Cond.instanceMethod ({ cls := "NetUnfolder", name := "concurrent", desc := "(II)Z" } : Jvm.MethodName)) ∈ wsA := wA_2 (List.mem_of_getElem? (i := 237) rfl) rfl
set_option maxRecDepth 20000 in
theorem wd_2_238 : (Jvm.Cond.selects "NetUnfolder" ({ cls := "NetUnfolder", name := "concurrent", desc := "(II)Z" } : Jvm.MethodName) ({ cls := "NetUnfolder", name := "concurrent", desc := "(II)Z" } : Jvm.MethodName)) ∈ wsA := wA_2 (List.mem_of_getElem? (i := 238) rfl) rfl
set_option maxRecDepth 20000 in
theorem wd_2_239 : (Jvm.Cond.code ({ cls := "NetUnfolder", name := "concurrent", desc := "(II)Z" } : Jvm.MethodName) prog_1_method_14_code (3 : Nat) (Option.some Jvm.ClassFile.FieldType.boolean)) ∈ wsA := wA_2 (List.mem_of_getElem? (i := 239) rfl) rfl
set_option maxRecDepth 20000 in
theorem wd_3_0 : (Jvm.Cond.methodLink "NetUnfolder" (144 : Nat) ({ cls := "NetUnfolder", name := "has", desc := "(JI)Z" } : Jvm.MethodName)) ∈ wsA := wA_3 (List.mem_of_getElem? (i := 0) rfl) rfl
set_option maxRecDepth 20000 in
theorem wd_3_1 : (Jvm.Cond.methodLink "NetUnfolderLaw" (36 : Nat) ({ cls := "NetUnfolderLaw", name := "transition", desc := "(LNetUnfolder;II[J)I" } : Jvm.MethodName)) ∈ wsA := wA_3 (List.mem_of_getElem? (i := 1) rfl) rfl
set_option maxRecDepth 20000 in
theorem wd_3_2 : (Jvm.Cond.static ({ cls := "NetUnfolderLaw", name := "transition", desc := "(LNetUnfolder;II[J)I" } : Jvm.MethodName)) ∈ wsA := wA_3 (List.mem_of_getElem? (i := 2) rfl) rfl
set_option maxRecDepth 20000 in
theorem wd_3_3 : (Jvm.Cond.codeWith ({ cls := "NetUnfolderLaw", name := "transition", desc := "(LNetUnfolder;II[J)I" } : Jvm.MethodName) method_3_code (5 : Nat) (Option.some Jvm.ClassFile.FieldType.int) [((0 : Nat), (10 : Nat), (13 : Nat), (13 : Nat)), ((0 : Nat), (10 : Nat), (17 : Nat), (15 : Nat))]) ∈ wsA := wA_3 (List.mem_of_getElem? (i := 3) rfl) rfl
set_option maxRecDepth 20000 in
theorem wd_3_4 : (Jvm.Cond.classLink "NetUnfolderLaw" (13 : Nat) "java/lang/IllegalArgumentException") ∈ wsA := wA_3 (List.mem_of_getElem? (i := 4) rfl) rfl
set_option maxRecDepth 20000 in
theorem wd_3_5 : (Jvm.Cond.classLink "NetUnfolderLaw" (15 : Nat) "java/lang/IllegalStateException") ∈ wsA := wA_3 (List.mem_of_getElem? (i := 5) rfl) rfl
set_option maxRecDepth 20000 in
theorem wd_3_6 : (Jvm.Cond.methodLink "NetUnfolderLaw" (7 : Nat) ({ cls := "NetUnfolder", name := "transition", desc := "(II)I" } : Jvm.MethodName)) ∈ wsA := wA_3 (List.mem_of_getElem? (i := 6) rfl) rfl
set_option maxRecDepth 20000 in
theorem wd_3_7 : (Jvm.Cond.instanceMethod ({ cls := "NetUnfolder", name := "transition", desc := "(II)I" } : Jvm.MethodName)) ∈ wsA := wA_3 (List.mem_of_getElem? (i := 7) rfl) rfl
set_option maxRecDepth 20000 in
theorem wd_3_8 : (Jvm.Cond.selects "NetUnfolder" ({ cls := "NetUnfolder", name := "transition", desc := "(II)I" } : Jvm.MethodName) ({ cls := "NetUnfolder", name := "transition", desc := "(II)I" } : Jvm.MethodName)) ∈ wsA := wA_3 (List.mem_of_getElem? (i := 8) rfl) rfl
set_option maxRecDepth 20000 in
theorem wd_3_9 : (Jvm.Cond.code ({ cls := "NetUnfolder", name := "transition", desc := "(II)I" } : Jvm.MethodName) prog_1_method_2_code (3 : Nat) (Option.some Jvm.ClassFile.FieldType.int)) ∈ wsA := wA_3 (List.mem_of_getElem? (i := 9) rfl) rfl
set_option maxRecDepth 20000 in
theorem wd_3_10 : (Jvm.Cond.methodLink "NetUnfolder" (46 : Nat) ({ cls := "NetUnfolder", name := "isMarking", desc := "(I)Z" } : Jvm.MethodName)) ∈ wsA := wA_3 (List.mem_of_getElem? (i := 10) rfl) rfl
set_option maxRecDepth 20000 in
theorem wd_3_11 : (Jvm.Cond.static ({ cls := "NetUnfolder", name := "isMarking", desc := "(I)Z" } : Jvm.MethodName)) ∈ wsA := wA_3 (List.mem_of_getElem? (i := 11) rfl) rfl
set_option maxRecDepth 20000 in
theorem wd_3_12 : (Jvm.Cond.code ({ cls := "NetUnfolder", name := "isMarking", desc := "(I)Z" } : Jvm.MethodName) prog_1_method_16_code (1 : Nat) (Option.some Jvm.ClassFile.FieldType.boolean)) ∈ wsA := wA_3 (List.mem_of_getElem? (i := 12) rfl) rfl
set_option maxRecDepth 20000 in
theorem wd_3_13 : (Jvm.Cond.classLink "NetUnfolder" (50 : Nat) "java/lang/IllegalArgumentException") ∈ wsA := wA_3 (List.mem_of_getElem? (i := 13) rfl) rfl
set_option maxRecDepth 20000 in
theorem wd_3_14 : (Jvm.Cond.instantiable "java/lang/IllegalArgumentException" (6 : Nat)) ∈ wsA := wA_3 (List.mem_of_getElem? (i := 14) rfl) rfl
set_option maxRecDepth 20000 in
theorem wd_3_75 : (Jvm.Cond.classLink "NetUnfolder" (57 : Nat) "java/lang/IllegalStateException") ∈ wsA := wA_3 (List.mem_of_getElem? (i := 75) rfl) rfl
set_option maxRecDepth 20000 in
theorem wd_3_76 : (Jvm.Cond.instantiable "java/lang/IllegalStateException" (6 : Nat)) ∈ wsA := wA_3 (List.mem_of_getElem? (i := 76) rfl) rfl
set_option maxRecDepth 20000 in
theorem wd_3_90 : (Jvm.Cond.methodLink "NetUnfolder" (63 : Nat) ({ cls := "NetUnfolder$Net", name := "add", desc := "(II)I" } : Jvm.MethodName)) ∈ wsA := wA_3 (List.mem_of_getElem? (i := 90) rfl) rfl
set_option maxRecDepth 20000 in
theorem wd_3_91 : (Jvm.Cond.instanceMethod ({ cls := "NetUnfolder$Net", name := "add", desc := "(II)I" } : Jvm.MethodName)) ∈ wsA := wA_3 (List.mem_of_getElem? (i := 91) rfl) rfl
set_option maxRecDepth 20000 in
theorem wd_3_92 : (Jvm.Cond.selects "NetUnfolder$Net" ({ cls := "NetUnfolder$Net", name := "add", desc := "(II)I" } : Jvm.MethodName) ({ cls := "NetUnfolder$Net", name := "add", desc := "(II)I" } : Jvm.MethodName)) ∈ wsA := wA_3 (List.mem_of_getElem? (i := 92) rfl) rfl
set_option maxRecDepth 20000 in
theorem wd_3_93 : (Jvm.Cond.code ({ cls := "NetUnfolder$Net", name := "add", desc := "(II)I" } : Jvm.MethodName) prog_3_method_3_code (3 : Nat) (Option.some Jvm.ClassFile.FieldType.int)) ∈ wsA := wA_3 (List.mem_of_getElem? (i := 93) rfl) rfl
set_option maxRecDepth 20000 in
theorem wd_3_94 : (Jvm.Cond.methodLink "NetUnfolderLaw" (42 : Nat) ({ cls := "NetUnfolderLaw", name := "first", desc := "(LNetUnfolder;I)I" } : Jvm.MethodName)) ∈ wsA := wA_3 (List.mem_of_getElem? (i := 94) rfl) rfl
set_option maxRecDepth 20000 in
theorem wd_3_95 : (Jvm.Cond.static ({ cls := "NetUnfolderLaw", name := "first", desc := "(LNetUnfolder;I)I" } : Jvm.MethodName)) ∈ wsA := wA_3 (List.mem_of_getElem? (i := 95) rfl) rfl
set_option maxRecDepth 20000 in
theorem wd_3_96 : (Jvm.Cond.codeWith ({ cls := "NetUnfolderLaw", name := "first", desc := "(LNetUnfolder;I)I" } : Jvm.MethodName) method_4_code (3 : Nat) (Option.some Jvm.ClassFile.FieldType.int) [((0 : Nat), (5 : Nat), (8 : Nat), (13 : Nat))]) ∈ wsA := wA_3 (List.mem_of_getElem? (i := 96) rfl) rfl
set_option maxRecDepth 20000 in
theorem wd_3_97 : (Jvm.Cond.methodLink "NetUnfolderLaw" (17 : Nat) ({ cls := "NetUnfolder", name := "first", desc := "(I)V" } : Jvm.MethodName)) ∈ wsA := wA_3 (List.mem_of_getElem? (i := 97) rfl) rfl
set_option maxRecDepth 20000 in
theorem wd_3_98 : (Jvm.Cond.instanceMethod ({ cls := "NetUnfolder", name := "first", desc := "(I)V" } : Jvm.MethodName)) ∈ wsA := wA_3 (List.mem_of_getElem? (i := 98) rfl) rfl
set_option maxRecDepth 20000 in
theorem wd_3_99 : (Jvm.Cond.selects "NetUnfolder" ({ cls := "NetUnfolder", name := "first", desc := "(I)V" } : Jvm.MethodName) ({ cls := "NetUnfolder", name := "first", desc := "(I)V" } : Jvm.MethodName)) ∈ wsA := wA_3 (List.mem_of_getElem? (i := 99) rfl) rfl
set_option maxRecDepth 20000 in
theorem wd_3_100 : (Jvm.Cond.code ({ cls := "NetUnfolder", name := "first", desc := "(I)V" } : Jvm.MethodName) prog_1_method_3_code (2 : Nat) (Option.none : Option Jvm.ClassFile.FieldType)) ∈ wsA := wA_3 (List.mem_of_getElem? (i := 100) rfl) rfl
set_option maxRecDepth 20000 in
theorem wd_3_101 : (Jvm.Cond.methodLink "NetUnfolderLaw" (54 : Nat) ({ cls := "NetUnfolderLaw", name := "reach", desc := "(LNetUnfolder;I[J)I" } : Jvm.MethodName)) ∈ wsA := wA_3 (List.mem_of_getElem? (i := 101) rfl) rfl
set_option maxRecDepth 20000 in
theorem wd_3_102 : (Jvm.Cond.static ({ cls := "NetUnfolderLaw", name := "reach", desc := "(LNetUnfolder;I[J)I" } : Jvm.MethodName)) ∈ wsA := wA_3 (List.mem_of_getElem? (i := 102) rfl) rfl
set_option maxRecDepth 20000 in
theorem wd_3_103 : (Jvm.Cond.codeWith ({ cls := "NetUnfolderLaw", name := "reach", desc := "(LNetUnfolder;I[J)I" } : Jvm.MethodName) method_5_code (4 : Nat) (Option.some Jvm.ClassFile.FieldType.int) [((0 : Nat), (9 : Nat), (12 : Nat), (13 : Nat)), ((0 : Nat), (9 : Nat), (15 : Nat), (15 : Nat))]) ∈ wsA := wA_3 (List.mem_of_getElem? (i := 103) rfl) rfl
set_option maxRecDepth 20000 in
theorem wd_3_104 : (Jvm.Cond.methodLink "NetUnfolderLaw" (21 : Nat) ({ cls := "NetUnfolder", name := "reach", desc := "(I)I" } : Jvm.MethodName)) ∈ wsA := wA_3 (List.mem_of_getElem? (i := 104) rfl) rfl
set_option maxRecDepth 20000 in
theorem wd_3_105 : (Jvm.Cond.instanceMethod ({ cls := "NetUnfolder", name := "reach", desc := "(I)I" } : Jvm.MethodName)) ∈ wsA := wA_3 (List.mem_of_getElem? (i := 105) rfl) rfl
set_option maxRecDepth 20000 in
theorem wd_3_106 : (Jvm.Cond.selects "NetUnfolder" ({ cls := "NetUnfolder", name := "reach", desc := "(I)I" } : Jvm.MethodName) ({ cls := "NetUnfolder", name := "reach", desc := "(I)I" } : Jvm.MethodName)) ∈ wsA := wA_3 (List.mem_of_getElem? (i := 106) rfl) rfl
set_option maxRecDepth 20000 in
theorem wd_3_107 : (Jvm.Cond.code ({ cls := "NetUnfolder", name := "reach", desc := "(I)I" } : Jvm.MethodName) prog_1_method_6_code (2 : Nat) (Option.some Jvm.ClassFile.FieldType.int)) ∈ wsA := wA_3 (List.mem_of_getElem? (i := 107) rfl) rfl
set_option maxRecDepth 20000 in
theorem wd_3_108 : (Jvm.Cond.methodLink "NetUnfolder" (81 : Nat) ({ cls := "NetUnfolder$Question", name := "askMarking", desc := "(I)I" } : Jvm.MethodName)) ∈ wsA := wA_3 (List.mem_of_getElem? (i := 108) rfl) rfl
set_option maxRecDepth 20000 in
theorem wd_3_109 : (Jvm.Cond.instanceMethod ({ cls := "NetUnfolder$Question", name := "askMarking", desc := "(I)I" } : Jvm.MethodName)) ∈ wsA := wA_3 (List.mem_of_getElem? (i := 109) rfl) rfl
set_option maxRecDepth 20000 in
theorem wd_3_110 : (Jvm.Cond.selects "NetUnfolder$Question" ({ cls := "NetUnfolder$Question", name := "askMarking", desc := "(I)I" } : Jvm.MethodName) ({ cls := "NetUnfolder$Question", name := "askMarking", desc := "(I)I" } : Jvm.MethodName)) ∈ wsA := wA_3 (List.mem_of_getElem? (i := 110) rfl) rfl
set_option maxRecDepth 20000 in
theorem wd_3_111 : (Jvm.Cond.code ({ cls := "NetUnfolder$Question", name := "askMarking", desc := "(I)I" } : Jvm.MethodName) prog_6_method_2_code (4 : Nat) (Option.some Jvm.ClassFile.FieldType.int)) ∈ wsA := wA_3 (List.mem_of_getElem? (i := 111) rfl) rfl
set_option maxRecDepth 20000 in
theorem wd_3_112 : (Jvm.Cond.methodLink "NetUnfolder$Question" (39 : Nat) ({ cls := "NetUnfolder$Question", name := "describePrefix", desc := "()V" } : Jvm.MethodName)) ∈ wsA := wA_3 (List.mem_of_getElem? (i := 112) rfl) rfl
set_option maxRecDepth 20000 in
theorem wd_3_114 : (Jvm.Cond.instanceMethod ({ cls := "NetUnfolder$Question", name := "describePrefix", desc := "()V" } : Jvm.MethodName)) ∈ wsA := wA_3 (List.mem_of_getElem? (i := 114) rfl) rfl
set_option maxRecDepth 20000 in
theorem wd_3_115 : (Jvm.Cond.code ({ cls := "NetUnfolder$Question", name := "describePrefix", desc := "()V" } : Jvm.MethodName) prog_6_method_6_code (2 : Nat) (Option.none : Option Jvm.ClassFile.FieldType)) ∈ wsA := wA_3 (List.mem_of_getElem? (i := 115) rfl) rfl
set_option maxRecDepth 20000 in
theorem wd_3_116 : (Jvm.Cond.methodLink "NetUnfolder$Question" (104 : Nat) ({ cls := "NetUnfolder$Clauses", name := "wipe", desc := "()V" } : Jvm.MethodName)) ∈ wsA := wA_3 (List.mem_of_getElem? (i := 116) rfl) rfl
set_option maxRecDepth 20000 in
theorem wd_3_117 : (Jvm.Cond.instanceMethod ({ cls := "NetUnfolder$Clauses", name := "wipe", desc := "()V" } : Jvm.MethodName)) ∈ wsA := wA_3 (List.mem_of_getElem? (i := 117) rfl) rfl
set_option maxRecDepth 20000 in
theorem wd_3_118 : (Jvm.Cond.selects "NetUnfolder$Clauses" ({ cls := "NetUnfolder$Clauses", name := "wipe", desc := "()V" } : Jvm.MethodName) ({ cls := "NetUnfolder$Clauses", name := "wipe", desc := "()V" } : Jvm.MethodName)) ∈ wsA := wA_3 (List.mem_of_getElem? (i := 118) rfl) rfl
set_option maxRecDepth 20000 in
theorem wd_3_119 : (Jvm.Cond.code ({ cls := "NetUnfolder$Clauses", name := "wipe", desc := "()V" } : Jvm.MethodName) prog_2_method_2_code (1 : Nat) (Option.none : Option Jvm.ClassFile.FieldType)) ∈ wsA := wA_3 (List.mem_of_getElem? (i := 119) rfl) rfl
set_option maxRecDepth 20000 in
theorem wd_3_121 : (Jvm.Cond.methodLink "NetUnfolder$Question" (110 : Nat) ({ cls := "NetUnfolder$Question", name := "describeEvent", desc := "(I)V" } : Jvm.MethodName)) ∈ wsA := wA_3 (List.mem_of_getElem? (i := 121) rfl) rfl
set_option maxRecDepth 20000 in
theorem wd_3_123 : (Jvm.Cond.instanceMethod ({ cls := "NetUnfolder$Question", name := "describeEvent", desc := "(I)V" } : Jvm.MethodName)) ∈ wsA := wA_3 (List.mem_of_getElem? (i := 123) rfl) rfl
set_option maxRecDepth 20000 in
theorem wd_3_124 : (Jvm.Cond.code ({ cls := "NetUnfolder$Question", name := "describeEvent", desc := "(I)V" } : Jvm.MethodName) prog_6_method_7_code (3 : Nat) (Option.none : Option Jvm.ClassFile.FieldType)) ∈ wsA := wA_3 (List.mem_of_getElem? (i := 124) rfl) rfl
set_option maxRecDepth 20000 in
theorem wd_3_125 : (Jvm.Cond.methodLink "NetUnfolder$Question" (50 : Nat) ({ cls := "NetUnfolder$Clauses", name := "give", desc := "(JJ)V" } : Jvm.MethodName)) ∈ wsA := wA_3 (List.mem_of_getElem? (i := 125) rfl) rfl
set_option maxRecDepth 20000 in
theorem wd_3_126 : (Jvm.Cond.instanceMethod ({ cls := "NetUnfolder$Clauses", name := "give", desc := "(JJ)V" } : Jvm.MethodName)) ∈ wsA := wA_3 (List.mem_of_getElem? (i := 126) rfl) rfl
set_option maxRecDepth 20000 in
theorem wd_3_127 : (Jvm.Cond.selects "NetUnfolder$Clauses" ({ cls := "NetUnfolder$Clauses", name := "give", desc := "(JJ)V" } : Jvm.MethodName) ({ cls := "NetUnfolder$Clauses", name := "give", desc := "(JJ)V" } : Jvm.MethodName)) ∈ wsA := wA_3 (List.mem_of_getElem? (i := 127) rfl) rfl
set_option maxRecDepth 20000 in
theorem wd_3_128 : (Jvm.Cond.code ({ cls := "NetUnfolder$Clauses", name := "give", desc := "(JJ)V" } : Jvm.MethodName) prog_2_method_4_code (5 : Nat) (Option.none : Option Jvm.ClassFile.FieldType)) ∈ wsA := wA_3 (List.mem_of_getElem? (i := 128) rfl) rfl
set_option maxRecDepth 20000 in
theorem wd_3_129 : (Jvm.Cond.methodLink "NetUnfolder$Question" (116 : Nat) ({ cls := "NetUnfolder$Question", name := "describeCondition", desc := "(I)V" } : Jvm.MethodName)) ∈ wsA := wA_3 (List.mem_of_getElem? (i := 129) rfl) rfl
set_option maxRecDepth 20000 in
theorem wd_3_131 : (Jvm.Cond.instanceMethod ({ cls := "NetUnfolder$Question", name := "describeCondition", desc := "(I)V" } : Jvm.MethodName)) ∈ wsA := wA_3 (List.mem_of_getElem? (i := 131) rfl) rfl
set_option maxRecDepth 20000 in
theorem wd_3_132 : (Jvm.Cond.code ({ cls := "NetUnfolder$Question", name := "describeCondition", desc := "(I)V" } : Jvm.MethodName) prog_6_method_8_code (7 : Nat) (Option.none : Option Jvm.ClassFile.FieldType)) ∈ wsA := wA_3 (List.mem_of_getElem? (i := 132) rfl) rfl
set_option maxRecDepth 20000 in
theorem wd_3_133 : (Jvm.Cond.methodLink "NetUnfolder$Question" (46 : Nat) ({ cls := "NetUnfolder$Question", name := "placeBit", desc := "(I)J" } : Jvm.MethodName)) ∈ wsA := wA_3 (List.mem_of_getElem? (i := 133) rfl) rfl
set_option maxRecDepth 20000 in
theorem wd_3_134 : (Jvm.Cond.static ({ cls := "NetUnfolder$Question", name := "placeBit", desc := "(I)J" } : Jvm.MethodName)) ∈ wsA := wA_3 (List.mem_of_getElem? (i := 134) rfl) rfl
set_option maxRecDepth 20000 in
theorem wd_3_135 : (Jvm.Cond.code ({ cls := "NetUnfolder$Question", name := "placeBit", desc := "(I)J" } : Jvm.MethodName) prog_6_method_5_code (1 : Nat) (Option.some Jvm.ClassFile.FieldType.long)) ∈ wsA := wA_3 (List.mem_of_getElem? (i := 135) rfl) rfl
set_option maxRecDepth 20000 in
theorem wd_3_136 : (Jvm.Cond.methodLink "NetUnfolder$Question" (122 : Nat) ({ cls := "NetUnfolder$Question", name := "makersOf", desc := "(II)J" } : Jvm.MethodName)) ∈ wsA := wA_3 (List.mem_of_getElem? (i := 136) rfl) rfl
set_option maxRecDepth 20000 in
theorem wd_3_138 : (Jvm.Cond.instanceMethod ({ cls := "NetUnfolder$Question", name := "makersOf", desc := "(II)J" } : Jvm.MethodName)) ∈ wsA := wA_3 (List.mem_of_getElem? (i := 138) rfl) rfl
set_option maxRecDepth 20000 in
theorem wd_3_139 : (Jvm.Cond.code ({ cls := "NetUnfolder$Question", name := "makersOf", desc := "(II)J" } : Jvm.MethodName) prog_6_method_9_code (7 : Nat) (Option.some Jvm.ClassFile.FieldType.long)) ∈ wsA := wA_3 (List.mem_of_getElem? (i := 139) rfl) rfl
set_option maxRecDepth 20000 in
theorem wd_3_140 : (Jvm.Cond.methodLink "NetUnfolder$Question" (54 : Nat) ({ cls := "NetUnfolder$Question", name := "answer", desc := "()I" } : Jvm.MethodName)) ∈ wsA := wA_3 (List.mem_of_getElem? (i := 140) rfl) rfl
set_option maxRecDepth 20000 in
theorem wd_3_142 : (Jvm.Cond.instanceMethod ({ cls := "NetUnfolder$Question", name := "answer", desc := "()I" } : Jvm.MethodName)) ∈ wsA := wA_3 (List.mem_of_getElem? (i := 142) rfl) rfl
set_option maxRecDepth 20000 in
theorem wd_3_143 : (Jvm.Cond.code ({ cls := "NetUnfolder$Question", name := "answer", desc := "()I" } : Jvm.MethodName) prog_6_method_4_code (2 : Nat) (Option.some Jvm.ClassFile.FieldType.int)) ∈ wsA := wA_3 (List.mem_of_getElem? (i := 143) rfl) rfl
set_option maxRecDepth 20000 in
theorem wd_3_144 : (Jvm.Cond.methodLink "NetUnfolder$Question" (68 : Nat) ({ cls := "NetUnfolder$Way", name := "drop", desc := "()V" } : Jvm.MethodName)) ∈ wsA := wA_3 (List.mem_of_getElem? (i := 144) rfl) rfl
set_option maxRecDepth 20000 in
theorem wd_3_145 : (Jvm.Cond.constantLong "NetUnfolder$Question" (76 : Nat) (273804165120 : Int64)) ∈ wsA := wA_3 (List.mem_of_getElem? (i := 145) rfl) rfl
set_option maxRecDepth 20000 in
theorem wd_3_146 : (Jvm.Cond.methodLink "NetUnfolder$Question" (78 : Nat) ({ cls := "NetUnfolder$Search", name := "solve", desc := "(J)Z" } : Jvm.MethodName)) ∈ wsA := wA_3 (List.mem_of_getElem? (i := 146) rfl) rfl
set_option maxRecDepth 20000 in
theorem wd_3_147 : (Jvm.Cond.instanceMethod ({ cls := "NetUnfolder$Search", name := "solve", desc := "(J)Z" } : Jvm.MethodName)) ∈ wsA := wA_3 (List.mem_of_getElem? (i := 147) rfl) rfl
set_option maxRecDepth 20000 in
theorem wd_3_148 : (Jvm.Cond.selects "NetUnfolder$Search" ({ cls := "NetUnfolder$Search", name := "solve", desc := "(J)Z" } : Jvm.MethodName) ({ cls := "NetUnfolder$Search", name := "solve", desc := "(J)Z" } : Jvm.MethodName)) ∈ wsA := wA_3 (List.mem_of_getElem? (i := 148) rfl) rfl
set_option maxRecDepth 20000 in
theorem wd_3_149 : (Jvm.Cond.code ({ cls := "NetUnfolder$Search", name := "solve", desc := "(J)Z" } : Jvm.MethodName) prog_7_method_3_code (7 : Nat) (Option.some Jvm.ClassFile.FieldType.boolean)) ∈ wsA := wA_3 (List.mem_of_getElem? (i := 149) rfl) rfl
set_option maxRecDepth 20000 in
theorem wd_3_150 : (Jvm.Cond.methodLink "NetUnfolder$Search" (34 : Nat) ({ cls := "NetUnfolder$Search", name := "begin", desc := "()V" } : Jvm.MethodName)) ∈ wsA := wA_3 (List.mem_of_getElem? (i := 150) rfl) rfl
set_option maxRecDepth 20000 in
theorem wd_3_152 : (Jvm.Cond.instanceMethod ({ cls := "NetUnfolder$Search", name := "begin", desc := "()V" } : Jvm.MethodName)) ∈ wsA := wA_3 (List.mem_of_getElem? (i := 152) rfl) rfl
set_option maxRecDepth 20000 in
theorem wd_3_153 : (Jvm.Cond.code ({ cls := "NetUnfolder$Search", name := "begin", desc := "()V" } : Jvm.MethodName) prog_7_method_4_code (1 : Nat) (Option.none : Option Jvm.ClassFile.FieldType)) ∈ wsA := wA_3 (List.mem_of_getElem? (i := 153) rfl) rfl
set_option maxRecDepth 20000 in
theorem wd_3_154 : (Jvm.Cond.methodLink "NetUnfolder$Search" (65 : Nat) ({ cls := "java/util/Arrays", name := "fill", desc := "([JJ)V" } : Jvm.MethodName)) ∈ wsA := wA_3 (List.mem_of_getElem? (i := 154) rfl) rfl
set_option maxRecDepth 20000 in
theorem wd_3_155 : (Jvm.Cond.constant "NetUnfolder$Search" (37 : Nat) (1000000 : Int32)) ∈ wsA := wA_3 (List.mem_of_getElem? (i := 155) rfl) rfl
set_option maxRecDepth 20000 in
theorem wd_3_156 : (Jvm.Cond.methodLink "NetUnfolder$Search" (38 : Nat) ({ cls := "NetUnfolder$Search", name := "propagate", desc := "()I" } : Jvm.MethodName)) ∈ wsA := wA_3 (List.mem_of_getElem? (i := 156) rfl) rfl
set_option maxRecDepth 20000 in
theorem wd_3_158 : (Jvm.Cond.instanceMethod ({ cls := "NetUnfolder$Search", name := "propagate", desc := "()I" } : Jvm.MethodName)) ∈ wsA := wA_3 (List.mem_of_getElem? (i := 158) rfl) rfl
set_option maxRecDepth 20000 in
theorem wd_3_159 : (Jvm.Cond.code ({ cls := "NetUnfolder$Search", name := "propagate", desc := "()I" } : Jvm.MethodName) prog_7_method_7_code (6 : Nat) (Option.some Jvm.ClassFile.FieldType.int)) ∈ wsA := wA_3 (List.mem_of_getElem? (i := 159) rfl) rfl
set_option maxRecDepth 20000 in
theorem wd_3_160 : (Jvm.Cond.constantLong "NetUnfolder$Search" (45 : Nat) (-1 : Int64)) ∈ wsA := wA_3 (List.mem_of_getElem? (i := 160) rfl) rfl
set_option maxRecDepth 20000 in
theorem wd_3_162 : (Jvm.Cond.methodLink "NetUnfolder$Search" (71 : Nat) ({ cls := "NetUnfolder$Search", name := "assign", desc := "(IZI)V" } : Jvm.MethodName)) ∈ wsA := wA_3 (List.mem_of_getElem? (i := 162) rfl) rfl
set_option maxRecDepth 20000 in
theorem wd_3_164 : (Jvm.Cond.instanceMethod ({ cls := "NetUnfolder$Search", name := "assign", desc := "(IZI)V" } : Jvm.MethodName)) ∈ wsA := wA_3 (List.mem_of_getElem? (i := 164) rfl) rfl
set_option maxRecDepth 20000 in
theorem wd_3_165 : (Jvm.Cond.code ({ cls := "NetUnfolder$Search", name := "assign", desc := "(IZI)V" } : Jvm.MethodName) prog_7_method_6_code (6 : Nat) (Option.none : Option Jvm.ClassFile.FieldType)) ∈ wsA := wA_3 (List.mem_of_getElem? (i := 165) rfl) rfl
set_option maxRecDepth 20000 in
theorem wd_3_166 : (Jvm.Cond.methodLink "NetUnfolder$Search" (51 : Nat) ({ cls := "NetUnfolder$Search", name := "learnFrom", desc := "(I)V" } : Jvm.MethodName)) ∈ wsA := wA_3 (List.mem_of_getElem? (i := 166) rfl) rfl
set_option maxRecDepth 20000 in
theorem wd_3_168 : (Jvm.Cond.instanceMethod ({ cls := "NetUnfolder$Search", name := "learnFrom", desc := "(I)V" } : Jvm.MethodName)) ∈ wsA := wA_3 (List.mem_of_getElem? (i := 168) rfl) rfl
set_option maxRecDepth 20000 in
theorem wd_3_169 : (Jvm.Cond.code ({ cls := "NetUnfolder$Search", name := "learnFrom", desc := "(I)V" } : Jvm.MethodName) prog_7_method_8_code (10 : Nat) (Option.none : Option Jvm.ClassFile.FieldType)) ∈ wsA := wA_3 (List.mem_of_getElem? (i := 169) rfl) rfl
set_option maxRecDepth 20000 in
theorem wd_3_170 : (Jvm.Cond.methodLink "NetUnfolder$Search" (84 : Nat) ({ cls := "java/lang/Long", name := "bitCount", desc := "(J)I" } : Jvm.MethodName)) ∈ wsA := wA_3 (List.mem_of_getElem? (i := 170) rfl) rfl
set_option maxRecDepth 20000 in
theorem wd_3_171 : (Jvm.Cond.methodLink "NetUnfolder$Search" (89 : Nat) ({ cls := "NetUnfolder$Search", name := "levelBelow", desc := "(J)I" } : Jvm.MethodName)) ∈ wsA := wA_3 (List.mem_of_getElem? (i := 171) rfl) rfl
set_option maxRecDepth 20000 in
theorem wd_3_173 : (Jvm.Cond.instanceMethod ({ cls := "NetUnfolder$Search", name := "levelBelow", desc := "(J)I" } : Jvm.MethodName)) ∈ wsA := wA_3 (List.mem_of_getElem? (i := 173) rfl) rfl
set_option maxRecDepth 20000 in
theorem wd_3_174 : (Jvm.Cond.code ({ cls := "NetUnfolder$Search", name := "levelBelow", desc := "(J)I" } : Jvm.MethodName) prog_7_method_9_code (4 : Nat) (Option.some Jvm.ClassFile.FieldType.int)) ∈ wsA := wA_3 (List.mem_of_getElem? (i := 174) rfl) rfl
set_option maxRecDepth 20000 in
theorem wd_3_175 : (Jvm.Cond.methodLink "NetUnfolder$Search" (92 : Nat) ({ cls := "NetUnfolder$Search", name := "goBack", desc := "(I)V" } : Jvm.MethodName)) ∈ wsA := wA_3 (List.mem_of_getElem? (i := 175) rfl) rfl
set_option maxRecDepth 20000 in
theorem wd_3_177 : (Jvm.Cond.instanceMethod ({ cls := "NetUnfolder$Search", name := "goBack", desc := "(I)V" } : Jvm.MethodName)) ∈ wsA := wA_3 (List.mem_of_getElem? (i := 177) rfl) rfl
set_option maxRecDepth 20000 in
theorem wd_3_178 : (Jvm.Cond.code ({ cls := "NetUnfolder$Search", name := "goBack", desc := "(I)V" } : Jvm.MethodName) prog_7_method_10_code (3 : Nat) (Option.none : Option Jvm.ClassFile.FieldType)) ∈ wsA := wA_3 (List.mem_of_getElem? (i := 178) rfl) rfl
set_option maxRecDepth 20000 in
theorem wd_3_179 : (Jvm.Cond.methodLink "NetUnfolder$Search" (95 : Nat) ({ cls := "NetUnfolder$Clauses", name := "isFull", desc := "()Z" } : Jvm.MethodName)) ∈ wsA := wA_3 (List.mem_of_getElem? (i := 179) rfl) rfl
set_option maxRecDepth 20000 in
theorem wd_3_180 : (Jvm.Cond.instanceMethod ({ cls := "NetUnfolder$Clauses", name := "isFull", desc := "()Z" } : Jvm.MethodName)) ∈ wsA := wA_3 (List.mem_of_getElem? (i := 180) rfl) rfl
set_option maxRecDepth 20000 in
theorem wd_3_181 : (Jvm.Cond.selects "NetUnfolder$Clauses" ({ cls := "NetUnfolder$Clauses", name := "isFull", desc := "()Z" } : Jvm.MethodName) ({ cls := "NetUnfolder$Clauses", name := "isFull", desc := "()Z" } : Jvm.MethodName)) ∈ wsA := wA_3 (List.mem_of_getElem? (i := 181) rfl) rfl
set_option maxRecDepth 20000 in
theorem wd_3_182 : (Jvm.Cond.code ({ cls := "NetUnfolder$Clauses", name := "isFull", desc := "()Z" } : Jvm.MethodName) prog_2_method_3_code (1 : Nat) (Option.some Jvm.ClassFile.FieldType.boolean)) ∈ wsA := wA_3 (List.mem_of_getElem? (i := 182) rfl) rfl
set_option maxRecDepth 20000 in
theorem wd_3_183 : (Jvm.Cond.methodLink "NetUnfolder$Search" (99 : Nat) ({ cls := "NetUnfolder$Search", name := "forgetIdle", desc := "()V" } : Jvm.MethodName)) ∈ wsA := wA_3 (List.mem_of_getElem? (i := 183) rfl) rfl
set_option maxRecDepth 20000 in
theorem wd_3_185 : (Jvm.Cond.instanceMethod ({ cls := "NetUnfolder$Search", name := "forgetIdle", desc := "()V" } : Jvm.MethodName)) ∈ wsA := wA_3 (List.mem_of_getElem? (i := 185) rfl) rfl
set_option maxRecDepth 20000 in
theorem wd_3_186 : (Jvm.Cond.code ({ cls := "NetUnfolder$Search", name := "forgetIdle", desc := "()V" } : Jvm.MethodName) prog_7_method_11_code (4 : Nat) (Option.none : Option Jvm.ClassFile.FieldType)) ∈ wsA := wA_3 (List.mem_of_getElem? (i := 186) rfl) rfl
set_option maxRecDepth 20000 in
theorem wd_3_187 : (Jvm.Cond.methodLink "NetUnfolder$Search" (109 : Nat) ({ cls := "NetUnfolder$Search", name := "forcedBy", desc := "(I)I" } : Jvm.MethodName)) ∈ wsA := wA_3 (List.mem_of_getElem? (i := 187) rfl) rfl
set_option maxRecDepth 20000 in
theorem wd_3_189 : (Jvm.Cond.instanceMethod ({ cls := "NetUnfolder$Search", name := "forcedBy", desc := "(I)I" } : Jvm.MethodName)) ∈ wsA := wA_3 (List.mem_of_getElem? (i := 189) rfl) rfl
set_option maxRecDepth 20000 in
theorem wd_3_190 : (Jvm.Cond.code ({ cls := "NetUnfolder$Search", name := "forcedBy", desc := "(I)I" } : Jvm.MethodName) prog_7_method_12_code (3 : Nat) (Option.some Jvm.ClassFile.FieldType.int)) ∈ wsA := wA_3 (List.mem_of_getElem? (i := 190) rfl) rfl
set_option maxRecDepth 20000 in
theorem wd_3_191 : (Jvm.Cond.methodLink "NetUnfolder$Search" (113 : Nat) ({ cls := "NetUnfolder$Clauses", name := "move", desc := "(II)V" } : Jvm.MethodName)) ∈ wsA := wA_3 (List.mem_of_getElem? (i := 191) rfl) rfl
set_option maxRecDepth 20000 in
theorem wd_3_192 : (Jvm.Cond.instanceMethod ({ cls := "NetUnfolder$Clauses", name := "move", desc := "(II)V" } : Jvm.MethodName)) ∈ wsA := wA_3 (List.mem_of_getElem? (i := 192) rfl) rfl
set_option maxRecDepth 20000 in
theorem wd_3_193 : (Jvm.Cond.selects "NetUnfolder$Clauses" ({ cls := "NetUnfolder$Clauses", name := "move", desc := "(II)V" } : Jvm.MethodName) ({ cls := "NetUnfolder$Clauses", name := "move", desc := "(II)V" } : Jvm.MethodName)) ∈ wsA := wA_3 (List.mem_of_getElem? (i := 193) rfl) rfl
set_option maxRecDepth 20000 in
theorem wd_3_194 : (Jvm.Cond.code ({ cls := "NetUnfolder$Clauses", name := "move", desc := "(II)V" } : Jvm.MethodName) prog_2_method_6_code (3 : Nat) (Option.none : Option Jvm.ClassFile.FieldType)) ∈ wsA := wA_3 (List.mem_of_getElem? (i := 194) rfl) rfl
set_option maxRecDepth 20000 in
theorem wd_3_195 : (Jvm.Cond.methodLink "NetUnfolder$Search" (102 : Nat) ({ cls := "NetUnfolder$Clauses", name := "learn", desc := "(JJ)V" } : Jvm.MethodName)) ∈ wsA := wA_3 (List.mem_of_getElem? (i := 195) rfl) rfl
set_option maxRecDepth 20000 in
theorem wd_3_196 : (Jvm.Cond.instanceMethod ({ cls := "NetUnfolder$Clauses", name := "learn", desc := "(JJ)V" } : Jvm.MethodName)) ∈ wsA := wA_3 (List.mem_of_getElem? (i := 196) rfl) rfl
set_option maxRecDepth 20000 in
theorem wd_3_197 : (Jvm.Cond.selects "NetUnfolder$Clauses" ({ cls := "NetUnfolder$Clauses", name := "learn", desc := "(JJ)V" } : Jvm.MethodName) ({ cls := "NetUnfolder$Clauses", name := "learn", desc := "(JJ)V" } : Jvm.MethodName)) ∈ wsA := wA_3 (List.mem_of_getElem? (i := 197) rfl) rfl
set_option maxRecDepth 20000 in
theorem wd_3_198 : (Jvm.Cond.code ({ cls := "NetUnfolder$Clauses", name := "learn", desc := "(JJ)V" } : Jvm.MethodName) prog_2_method_5_code (5 : Nat) (Option.none : Option Jvm.ClassFile.FieldType)) ∈ wsA := wA_3 (List.mem_of_getElem? (i := 198) rfl) rfl
set_option maxRecDepth 20000 in
theorem wd_3_199 : (Jvm.Cond.methodLink "NetUnfolder$Clauses" (25 : Nat) ({ cls := "NetUnfolder$Clauses", name := "isFull", desc := "()Z" } : Jvm.MethodName)) ∈ wsA := wA_3 (List.mem_of_getElem? (i := 199) rfl) rfl
set_option maxRecDepth 20000 in
theorem wd_3_200 : (Jvm.Cond.methodLink "NetUnfolder$Search" (59 : Nat) ({ cls := "NetUnfolder$Search", name := "decide", desc := "(I)V" } : Jvm.MethodName)) ∈ wsA := wA_3 (List.mem_of_getElem? (i := 200) rfl) rfl
set_option maxRecDepth 20000 in
theorem wd_3_202 : (Jvm.Cond.instanceMethod ({ cls := "NetUnfolder$Search", name := "decide", desc := "(I)V" } : Jvm.MethodName)) ∈ wsA := wA_3 (List.mem_of_getElem? (i := 202) rfl) rfl
set_option maxRecDepth 20000 in
theorem wd_3_203 : (Jvm.Cond.code ({ cls := "NetUnfolder$Search", name := "decide", desc := "(I)V" } : Jvm.MethodName) prog_7_method_5_code (2 : Nat) (Option.none : Option Jvm.ClassFile.FieldType)) ∈ wsA := wA_3 (List.mem_of_getElem? (i := 203) rfl) rfl
set_option maxRecDepth 20000 in
theorem wd_3_204 : (Jvm.Cond.methodLink "NetUnfolder$Question" (82 : Nat) ({ cls := "NetUnfolder$Way", name := "begin", desc := "()V" } : Jvm.MethodName)) ∈ wsA := wA_3 (List.mem_of_getElem? (i := 204) rfl) rfl
set_option maxRecDepth 20000 in
theorem wd_3_205 : (Jvm.Cond.methodLink "NetUnfolder$Question" (90 : Nat) ({ cls := "NetUnfolder$Search", name := "says", desc := "(I)Z" } : Jvm.MethodName)) ∈ wsA := wA_3 (List.mem_of_getElem? (i := 205) rfl) rfl
set_option maxRecDepth 20000 in
theorem wd_3_206 : (Jvm.Cond.instanceMethod ({ cls := "NetUnfolder$Search", name := "says", desc := "(I)Z" } : Jvm.MethodName)) ∈ wsA := wA_3 (List.mem_of_getElem? (i := 206) rfl) rfl
set_option maxRecDepth 20000 in
theorem wd_3_207 : (Jvm.Cond.selects "NetUnfolder$Search" ({ cls := "NetUnfolder$Search", name := "says", desc := "(I)Z" } : Jvm.MethodName) ({ cls := "NetUnfolder$Search", name := "says", desc := "(I)Z" } : Jvm.MethodName)) ∈ wsA := wA_3 (List.mem_of_getElem? (i := 207) rfl) rfl
set_option maxRecDepth 20000 in
theorem wd_3_208 : (Jvm.Cond.code ({ cls := "NetUnfolder$Search", name := "says", desc := "(I)Z" } : Jvm.MethodName) prog_7_method_2_code (2 : Nat) (Option.some Jvm.ClassFile.FieldType.boolean)) ∈ wsA := wA_3 (List.mem_of_getElem? (i := 208) rfl) rfl
set_option maxRecDepth 20000 in
theorem wd_3_210 : (Jvm.Cond.methodLink "NetUnfolder$Question" (97 : Nat) ({ cls := "NetUnfolder$Way", name := "add", desc := "(I)V" } : Jvm.MethodName)) ∈ wsA := wA_3 (List.mem_of_getElem? (i := 210) rfl) rfl
set_option maxRecDepth 20000 in
theorem wd_3_211 : (Jvm.Cond.methodLink "NetUnfolderLaw" (58 : Nat) ({ cls := "NetUnfolderLaw", name := "deadlock", desc := "(LNetUnfolder;[J)I" } : Jvm.MethodName)) ∈ wsA := wA_3 (List.mem_of_getElem? (i := 211) rfl) rfl
set_option maxRecDepth 20000 in
theorem wd_3_212 : (Jvm.Cond.static ({ cls := "NetUnfolderLaw", name := "deadlock", desc := "(LNetUnfolder;[J)I" } : Jvm.MethodName)) ∈ wsA := wA_3 (List.mem_of_getElem? (i := 212) rfl) rfl
set_option maxRecDepth 20000 in
theorem wd_3_213 : (Jvm.Cond.codeWith ({ cls := "NetUnfolderLaw", name := "deadlock", desc := "(LNetUnfolder;[J)I" } : Jvm.MethodName) method_6_code (3 : Nat) (Option.some Jvm.ClassFile.FieldType.int) [((0 : Nat), (8 : Nat), (11 : Nat), (15 : Nat))]) ∈ wsA := wA_3 (List.mem_of_getElem? (i := 213) rfl) rfl
set_option maxRecDepth 20000 in
theorem wd_3_214 : (Jvm.Cond.methodLink "NetUnfolderLaw" (25 : Nat) ({ cls := "NetUnfolder", name := "deadlock", desc := "()I" } : Jvm.MethodName)) ∈ wsA := wA_3 (List.mem_of_getElem? (i := 214) rfl) rfl
set_option maxRecDepth 20000 in
theorem wd_3_215 : (Jvm.Cond.instanceMethod ({ cls := "NetUnfolder", name := "deadlock", desc := "()I" } : Jvm.MethodName)) ∈ wsA := wA_3 (List.mem_of_getElem? (i := 215) rfl) rfl
set_option maxRecDepth 20000 in
theorem wd_3_216 : (Jvm.Cond.selects "NetUnfolder" ({ cls := "NetUnfolder", name := "deadlock", desc := "()I" } : Jvm.MethodName) ({ cls := "NetUnfolder", name := "deadlock", desc := "()I" } : Jvm.MethodName)) ∈ wsA := wA_3 (List.mem_of_getElem? (i := 216) rfl) rfl
set_option maxRecDepth 20000 in
theorem wd_3_217 : (Jvm.Cond.code ({ cls := "NetUnfolder", name := "deadlock", desc := "()I" } : Jvm.MethodName) prog_1_method_7_code (1 : Nat) (Option.some Jvm.ClassFile.FieldType.int)) ∈ wsA := wA_3 (List.mem_of_getElem? (i := 217) rfl) rfl
set_option maxRecDepth 20000 in
theorem wd_3_218 : (Jvm.Cond.methodLink "NetUnfolder" (85 : Nat) ({ cls := "NetUnfolder$Question", name := "askDeadlock", desc := "()I" } : Jvm.MethodName)) ∈ wsA := wA_3 (List.mem_of_getElem? (i := 218) rfl) rfl
set_option maxRecDepth 20000 in
theorem wd_3_219 : (Jvm.Cond.instanceMethod ({ cls := "NetUnfolder$Question", name := "askDeadlock", desc := "()I" } : Jvm.MethodName)) ∈ wsA := wA_3 (List.mem_of_getElem? (i := 219) rfl) rfl
set_option maxRecDepth 20000 in
theorem wd_3_220 : (Jvm.Cond.selects "NetUnfolder$Question" ({ cls := "NetUnfolder$Question", name := "askDeadlock", desc := "()I" } : Jvm.MethodName) ({ cls := "NetUnfolder$Question", name := "askDeadlock", desc := "()I" } : Jvm.MethodName)) ∈ wsA := wA_3 (List.mem_of_getElem? (i := 220) rfl) rfl
set_option maxRecDepth 20000 in
theorem wd_3_221 : (Jvm.Cond.code ({ cls := "NetUnfolder$Question", name := "askDeadlock", desc := "()I" } : Jvm.MethodName) prog_6_method_3_code (2 : Nat) (Option.some Jvm.ClassFile.FieldType.int)) ∈ wsA := wA_3 (List.mem_of_getElem? (i := 221) rfl) rfl
set_option maxRecDepth 20000 in
theorem wd_3_222 : (Jvm.Cond.methodLink "NetUnfolderLaw" (66 : Nat) ({ cls := "NetUnfolderLaw", name := "play", desc := "(LNetUnfolder;I[J)I" } : Jvm.MethodName)) ∈ wsA := wA_3 (List.mem_of_getElem? (i := 222) rfl) rfl
set_option maxRecDepth 20000 in
theorem wd_3_223 : (Jvm.Cond.static ({ cls := "NetUnfolderLaw", name := "play", desc := "(LNetUnfolder;I[J)I" } : Jvm.MethodName)) ∈ wsA := wA_3 (List.mem_of_getElem? (i := 223) rfl) rfl
set_option maxRecDepth 20000 in
theorem wd_3_224 : (Jvm.Cond.codeWith ({ cls := "NetUnfolderLaw", name := "play", desc := "(LNetUnfolder;I[J)I" } : Jvm.MethodName) method_7_code (4 : Nat) (Option.some Jvm.ClassFile.FieldType.int) [((0 : Nat), (9 : Nat), (12 : Nat), (13 : Nat)), ((0 : Nat), (9 : Nat), (15 : Nat), (15 : Nat))]) ∈ wsA := wA_3 (List.mem_of_getElem? (i := 224) rfl) rfl
set_option maxRecDepth 20000 in
theorem wd_3_225 : (Jvm.Cond.methodLink "NetUnfolderLaw" (29 : Nat) ({ cls := "NetUnfolder", name := "play", desc := "(I)I" } : Jvm.MethodName)) ∈ wsA := wA_3 (List.mem_of_getElem? (i := 225) rfl) rfl
set_option maxRecDepth 20000 in
theorem wd_3_226 : (Jvm.Cond.instanceMethod ({ cls := "NetUnfolder", name := "play", desc := "(I)I" } : Jvm.MethodName)) ∈ wsA := wA_3 (List.mem_of_getElem? (i := 226) rfl) rfl
set_option maxRecDepth 20000 in
theorem wd_3_227 : (Jvm.Cond.selects "NetUnfolder" ({ cls := "NetUnfolder", name := "play", desc := "(I)I" } : Jvm.MethodName) ({ cls := "NetUnfolder", name := "play", desc := "(I)I" } : Jvm.MethodName)) ∈ wsA := wA_3 (List.mem_of_getElem? (i := 227) rfl) rfl
set_option maxRecDepth 20000 in
theorem wd_3_228 : (Jvm.Cond.code ({ cls := "NetUnfolder", name := "play", desc := "(I)I" } : Jvm.MethodName) prog_1_method_9_code (6 : Nat) (Option.some Jvm.ClassFile.FieldType.int)) ∈ wsA := wA_3 (List.mem_of_getElem? (i := 228) rfl) rfl
set_option maxRecDepth 20000 in
theorem wd_3_229 : (Jvm.Cond.methodLink "NetUnfolder" (94 : Nat) ({ cls := "NetUnfolder$Net", name := "enables", desc := "(II)Z" } : Jvm.MethodName)) ∈ wsA := wA_3 (List.mem_of_getElem? (i := 229) rfl) rfl
set_option maxRecDepth 20000 in
theorem wd_3_230 : (Jvm.Cond.instanceMethod ({ cls := "NetUnfolder$Net", name := "enables", desc := "(II)Z" } : Jvm.MethodName)) ∈ wsA := wA_3 (List.mem_of_getElem? (i := 230) rfl) rfl
set_option maxRecDepth 20000 in
theorem wd_3_231 : (Jvm.Cond.selects "NetUnfolder$Net" ({ cls := "NetUnfolder$Net", name := "enables", desc := "(II)Z" } : Jvm.MethodName) ({ cls := "NetUnfolder$Net", name := "enables", desc := "(II)Z" } : Jvm.MethodName)) ∈ wsA := wA_3 (List.mem_of_getElem? (i := 231) rfl) rfl
set_option maxRecDepth 20000 in
theorem wd_3_232 : (Jvm.Cond.code ({ cls := "NetUnfolder$Net", name := "enables", desc := "(II)Z" } : Jvm.MethodName) prog_3_method_4_code (3 : Nat) (Option.some Jvm.ClassFile.FieldType.boolean)) ∈ wsA := wA_3 (List.mem_of_getElem? (i := 232) rfl) rfl
set_option maxRecDepth 20000 in
theorem wd_3_233 : (Jvm.Cond.methodLink "NetUnfolder" (98 : Nat) ({ cls := "NetUnfolder$Net", name := "fire", desc := "(II)I" } : Jvm.MethodName)) ∈ wsA := wA_3 (List.mem_of_getElem? (i := 233) rfl) rfl
set_option maxRecDepth 20000 in
theorem wd_3_234 : (Jvm.Cond.classLink "NetUnfolderLaw" (33 : Nat) "NetUnfolderModel") ∈ wsA := wA_3 (List.mem_of_getElem? (i := 234) rfl) rfl
set_option maxRecDepth 20000 in
theorem wd_3_235 : (Jvm.Cond.instantiable "NetUnfolderModel" (28 : Nat)) ∈ wsA := wA_3 (List.mem_of_getElem? (i := 235) rfl) rfl
set_option maxRecDepth 20000 in
theorem wd_3_236 : (Jvm.Cond.methodLink "NetUnfolderLaw" (35 : Nat) ({ cls := "NetUnfolderModel", name := "<init>", desc := "()V" } : Jvm.MethodName)) ∈ wsA := wA_3 (List.mem_of_getElem? (i := 236) rfl) rfl
set_option maxRecDepth 20000 in
theorem wd_3_237 : (Jvm.Cond.instanceMethod ({ cls := "NetUnfolderModel", name := "<init>", desc := "()V" } : Jvm.MethodName)) ∈ wsA := wA_3 (List.mem_of_getElem? (i := 237) rfl) rfl
set_option maxRecDepth 20000 in
theorem wd_3_238 : (Jvm.Cond.code ({ cls := "NetUnfolderModel", name := "<init>", desc := "()V" } : Jvm.MethodName) prog_11_method_1_code (1 : Nat) (Option.none : Option Jvm.ClassFile.FieldType)) ∈ wsA := wA_3 (List.mem_of_getElem? (i := 238) rfl) rfl
set_option maxRecDepth 20000 in
theorem wd_3_239 : (Jvm.Cond.methodLink "NetUnfolderModel" (1 : Nat) ({ cls := "java/lang/Object", name := "<init>", desc := "()V" } : Jvm.MethodName)) ∈ wsA := wA_3 (List.mem_of_getElem? (i := 239) rfl) rfl
set_option maxRecDepth 20000 in
theorem wd_4_0 : (Jvm.Cond.fieldLink "NetUnfolderModel" (67 : Nat) "NetUnfolderModel" "thrown" "I") ∈ wsA := wA_4 (List.mem_of_getElem? (i := 0) rfl) rfl
set_option maxRecDepth 20000 in
theorem wd_4_1 : (Jvm.Cond.fieldLink "NetUnfolderModel" (84 : Nat) "NetUnfolderModel" "transitions" "I") ∈ wsA := wA_4 (List.mem_of_getElem? (i := 1) rfl) rfl
set_option maxRecDepth 20000 in
theorem wd_4_2 : (Jvm.Cond.fieldLink "NetUnfolderModel" (7 : Nat) "NetUnfolderModel" "pre" "[I") ∈ wsA := wA_4 (List.mem_of_getElem? (i := 2) rfl) rfl
set_option maxRecDepth 20000 in
theorem wd_4_3 : (Jvm.Cond.fieldLink "NetUnfolderModel" (13 : Nat) "NetUnfolderModel" "post" "[I") ∈ wsA := wA_4 (List.mem_of_getElem? (i := 3) rfl) rfl
set_option maxRecDepth 20000 in
theorem wd_4_4 : (Jvm.Cond.fieldLink "NetUnfolderModel" (90 : Nat) "NetUnfolderModel" "first" "I") ∈ wsA := wA_4 (List.mem_of_getElem? (i := 4) rfl) rfl
set_option maxRecDepth 20000 in
theorem wd_4_5 : (Jvm.Cond.fieldLink "NetUnfolderModel" (73 : Nat) "NetUnfolderModel" "conditions" "I") ∈ wsA := wA_4 (List.mem_of_getElem? (i := 5) rfl) rfl
set_option maxRecDepth 20000 in
theorem wd_4_6 : (Jvm.Cond.fieldLink "NetUnfolderModel" (16 : Nat) "NetUnfolderModel" "place" "[I") ∈ wsA := wA_4 (List.mem_of_getElem? (i := 6) rfl) rfl
set_option maxRecDepth 20000 in
theorem wd_4_7 : (Jvm.Cond.fieldLink "NetUnfolderModel" (19 : Nat) "NetUnfolderModel" "maker" "[I") ∈ wsA := wA_4 (List.mem_of_getElem? (i := 7) rfl) rfl
set_option maxRecDepth 20000 in
theorem wd_4_8 : (Jvm.Cond.fieldLink "NetUnfolderModel" (22 : Nat) "NetUnfolderModel" "behind" "[I") ∈ wsA := wA_4 (List.mem_of_getElem? (i := 8) rfl) rfl
set_option maxRecDepth 20000 in
theorem wd_4_9 : (Jvm.Cond.fieldLink "NetUnfolderModel" (25 : Nat) "NetUnfolderModel" "beside" "[J") ∈ wsA := wA_4 (List.mem_of_getElem? (i := 9) rfl) rfl
set_option maxRecDepth 20000 in
theorem wd_4_10 : (Jvm.Cond.fieldLink "NetUnfolderModel" (70 : Nat) "NetUnfolderModel" "events" "I") ∈ wsA := wA_4 (List.mem_of_getElem? (i := 10) rfl) rfl
set_option maxRecDepth 20000 in
theorem wd_4_11 : (Jvm.Cond.fieldLink "NetUnfolderModel" (29 : Nat) "NetUnfolderModel" "transition" "[I") ∈ wsA := wA_4 (List.mem_of_getElem? (i := 11) rfl) rfl
set_option maxRecDepth 20000 in
theorem wd_4_12 : (Jvm.Cond.fieldLink "NetUnfolderModel" (32 : Nat) "NetUnfolderModel" "causes" "[I") ∈ wsA := wA_4 (List.mem_of_getElem? (i := 12) rfl) rfl
set_option maxRecDepth 20000 in
theorem wd_4_13 : (Jvm.Cond.fieldLink "NetUnfolderModel" (35 : Nat) "NetUnfolderModel" "taken" "[J") ∈ wsA := wA_4 (List.mem_of_getElem? (i := 13) rfl) rfl
set_option maxRecDepth 20000 in
theorem wd_4_14 : (Jvm.Cond.fieldLink "NetUnfolderModel" (38 : Nat) "NetUnfolderModel" "takes" "[I") ∈ wsA := wA_4 (List.mem_of_getElem? (i := 14) rfl) rfl
set_option maxRecDepth 20000 in
theorem wd_4_15 : (Jvm.Cond.fieldLink "NetUnfolderModel" (41 : Nat) "NetUnfolderModel" "rank" "[J") ∈ wsA := wA_4 (List.mem_of_getElem? (i := 15) rfl) rfl
set_option maxRecDepth 20000 in
theorem wd_4_16 : (Jvm.Cond.fieldLink "NetUnfolderModel" (44 : Nat) "NetUnfolderModel" "marking" "[I") ∈ wsA := wA_4 (List.mem_of_getElem? (i := 16) rfl) rfl
set_option maxRecDepth 20000 in
theorem wd_4_17 : (Jvm.Cond.fieldLink "NetUnfolderModel" (47 : Nat) "NetUnfolderModel" "cut" "[Z") ∈ wsA := wA_4 (List.mem_of_getElem? (i := 17) rfl) rfl
set_option maxRecDepth 20000 in
theorem wd_4_18 : (Jvm.Cond.fieldLink "NetUnfolderModel" (76 : Nat) "NetUnfolderModel" "whole" "Z") ∈ wsA := wA_4 (List.mem_of_getElem? (i := 18) rfl) rfl
set_option maxRecDepth 20000 in
theorem wd_4_19 : (Jvm.Cond.fieldLink "NetUnfolderModel" (122 : Nat) "NetUnfolderModel" "possible" "I") ∈ wsA := wA_4 (List.mem_of_getElem? (i := 19) rfl) rfl
set_option maxRecDepth 20000 in
theorem wd_4_20 : (Jvm.Cond.fieldLink "NetUnfolderModel" (51 : Nat) "NetUnfolderModel" "chosen" "[I") ∈ wsA := wA_4 (List.mem_of_getElem? (i := 20) rfl) rfl
set_option maxRecDepth 20000 in
theorem wd_4_21 : (Jvm.Cond.fieldLink "NetUnfolderModel" (54 : Nat) "NetUnfolderModel" "open" "[J") ∈ wsA := wA_4 (List.mem_of_getElem? (i := 21) rfl) rfl
set_option maxRecDepth 20000 in
theorem wd_4_22 : (Jvm.Cond.fieldLink "NetUnfolderModel" (133 : Nat) "NetUnfolderModel" "leastRank" "J") ∈ wsA := wA_4 (List.mem_of_getElem? (i := 22) rfl) rfl
set_option maxRecDepth 20000 in
theorem wd_4_23 : (Jvm.Cond.fieldLink "NetUnfolderModel" (137 : Nat) "NetUnfolderModel" "leastTransition" "I") ∈ wsA := wA_4 (List.mem_of_getElem? (i := 23) rfl) rfl
set_option maxRecDepth 20000 in
theorem wd_4_24 : (Jvm.Cond.fieldLink "NetUnfolderModel" (140 : Nat) "NetUnfolderModel" "leastMany" "I") ∈ wsA := wA_4 (List.mem_of_getElem? (i := 24) rfl) rfl
set_option maxRecDepth 20000 in
theorem wd_4_25 : (Jvm.Cond.fieldLink "NetUnfolderModel" (57 : Nat) "NetUnfolderModel" "least" "[I") ∈ wsA := wA_4 (List.mem_of_getElem? (i := 25) rfl) rfl
set_option maxRecDepth 20000 in
theorem wd_4_26 : (Jvm.Cond.fieldLink "NetUnfolderModel" (63 : Nat) "NetUnfolderModel" "length" "I") ∈ wsA := wA_4 (List.mem_of_getElem? (i := 26) rfl) rfl
set_option maxRecDepth 20000 in
theorem wd_4_27 : (Jvm.Cond.fieldLink "NetUnfolderModel" (60 : Nat) "NetUnfolderModel" "way" "[I") ∈ wsA := wA_4 (List.mem_of_getElem? (i := 27) rfl) rfl
set_option maxRecDepth 20000 in
theorem wd_4_28 : (Jvm.Cond.lays "NetUnfolderModel" "NetUnfolderModel" "thrown" "I") ∈ wsA := wA_4 (List.mem_of_getElem? (i := 28) rfl) rfl
set_option maxRecDepth 20000 in
theorem wd_4_30 : (Jvm.Cond.lays "NetUnfolderModel" "NetUnfolderModel" "transitions" "I") ∈ wsA := wA_4 (List.mem_of_getElem? (i := 30) rfl) rfl
set_option maxRecDepth 20000 in
theorem wd_4_32 : (Jvm.Cond.laysFinal "NetUnfolderModel" "NetUnfolderModel" "pre" "[I") ∈ wsA := wA_4 (List.mem_of_getElem? (i := 32) rfl) rfl
set_option maxRecDepth 20000 in
theorem wd_4_34 : (Jvm.Cond.laysFinal "NetUnfolderModel" "NetUnfolderModel" "post" "[I") ∈ wsA := wA_4 (List.mem_of_getElem? (i := 34) rfl) rfl
set_option maxRecDepth 20000 in
theorem wd_4_36 : (Jvm.Cond.lays "NetUnfolderModel" "NetUnfolderModel" "first" "I") ∈ wsA := wA_4 (List.mem_of_getElem? (i := 36) rfl) rfl
set_option maxRecDepth 20000 in
theorem wd_4_38 : (Jvm.Cond.lays "NetUnfolderModel" "NetUnfolderModel" "conditions" "I") ∈ wsA := wA_4 (List.mem_of_getElem? (i := 38) rfl) rfl
set_option maxRecDepth 20000 in
theorem wd_4_40 : (Jvm.Cond.laysFinal "NetUnfolderModel" "NetUnfolderModel" "place" "[I") ∈ wsA := wA_4 (List.mem_of_getElem? (i := 40) rfl) rfl
set_option maxRecDepth 20000 in
theorem wd_4_42 : (Jvm.Cond.laysFinal "NetUnfolderModel" "NetUnfolderModel" "maker" "[I") ∈ wsA := wA_4 (List.mem_of_getElem? (i := 42) rfl) rfl
set_option maxRecDepth 20000 in
theorem wd_4_44 : (Jvm.Cond.laysFinal "NetUnfolderModel" "NetUnfolderModel" "behind" "[I") ∈ wsA := wA_4 (List.mem_of_getElem? (i := 44) rfl) rfl
set_option maxRecDepth 20000 in
theorem wd_4_46 : (Jvm.Cond.laysFinal "NetUnfolderModel" "NetUnfolderModel" "beside" "[J") ∈ wsA := wA_4 (List.mem_of_getElem? (i := 46) rfl) rfl
set_option maxRecDepth 20000 in
theorem wd_4_48 : (Jvm.Cond.lays "NetUnfolderModel" "NetUnfolderModel" "events" "I") ∈ wsA := wA_4 (List.mem_of_getElem? (i := 48) rfl) rfl
set_option maxRecDepth 20000 in
theorem wd_4_50 : (Jvm.Cond.laysFinal "NetUnfolderModel" "NetUnfolderModel" "transition" "[I") ∈ wsA := wA_4 (List.mem_of_getElem? (i := 50) rfl) rfl
set_option maxRecDepth 20000 in
theorem wd_4_52 : (Jvm.Cond.laysFinal "NetUnfolderModel" "NetUnfolderModel" "causes" "[I") ∈ wsA := wA_4 (List.mem_of_getElem? (i := 52) rfl) rfl
set_option maxRecDepth 20000 in
theorem wd_4_54 : (Jvm.Cond.laysFinal "NetUnfolderModel" "NetUnfolderModel" "taken" "[J") ∈ wsA := wA_4 (List.mem_of_getElem? (i := 54) rfl) rfl
set_option maxRecDepth 20000 in
theorem wd_4_56 : (Jvm.Cond.laysFinal "NetUnfolderModel" "NetUnfolderModel" "takes" "[I") ∈ wsA := wA_4 (List.mem_of_getElem? (i := 56) rfl) rfl
set_option maxRecDepth 20000 in
theorem wd_4_58 : (Jvm.Cond.laysFinal "NetUnfolderModel" "NetUnfolderModel" "rank" "[J") ∈ wsA := wA_4 (List.mem_of_getElem? (i := 58) rfl) rfl
set_option maxRecDepth 20000 in
theorem wd_4_60 : (Jvm.Cond.laysFinal "NetUnfolderModel" "NetUnfolderModel" "marking" "[I") ∈ wsA := wA_4 (List.mem_of_getElem? (i := 60) rfl) rfl
set_option maxRecDepth 20000 in
theorem wd_4_62 : (Jvm.Cond.laysFinal "NetUnfolderModel" "NetUnfolderModel" "cut" "[Z") ∈ wsA := wA_4 (List.mem_of_getElem? (i := 62) rfl) rfl
set_option maxRecDepth 20000 in
theorem wd_4_64 : (Jvm.Cond.lays "NetUnfolderModel" "NetUnfolderModel" "whole" "Z") ∈ wsA := wA_4 (List.mem_of_getElem? (i := 64) rfl) rfl
set_option maxRecDepth 20000 in
theorem wd_4_66 : (Jvm.Cond.lays "NetUnfolderModel" "NetUnfolderModel" "possible" "I") ∈ wsA := wA_4 (List.mem_of_getElem? (i := 66) rfl) rfl
set_option maxRecDepth 20000 in
theorem wd_4_68 : (Jvm.Cond.laysFinal "NetUnfolderModel" "NetUnfolderModel" "chosen" "[I") ∈ wsA := wA_4 (List.mem_of_getElem? (i := 68) rfl) rfl
set_option maxRecDepth 20000 in
theorem wd_4_70 : (Jvm.Cond.laysFinal "NetUnfolderModel" "NetUnfolderModel" "open" "[J") ∈ wsA := wA_4 (List.mem_of_getElem? (i := 70) rfl) rfl
set_option maxRecDepth 20000 in
theorem wd_4_72 : (Jvm.Cond.lays "NetUnfolderModel" "NetUnfolderModel" "leastRank" "J") ∈ wsA := wA_4 (List.mem_of_getElem? (i := 72) rfl) rfl
set_option maxRecDepth 20000 in
theorem wd_4_74 : (Jvm.Cond.lays "NetUnfolderModel" "NetUnfolderModel" "leastTransition" "I") ∈ wsA := wA_4 (List.mem_of_getElem? (i := 74) rfl) rfl
set_option maxRecDepth 20000 in
theorem wd_4_76 : (Jvm.Cond.lays "NetUnfolderModel" "NetUnfolderModel" "leastMany" "I") ∈ wsA := wA_4 (List.mem_of_getElem? (i := 76) rfl) rfl
set_option maxRecDepth 20000 in
theorem wd_4_78 : (Jvm.Cond.laysFinal "NetUnfolderModel" "NetUnfolderModel" "least" "[I") ∈ wsA := wA_4 (List.mem_of_getElem? (i := 78) rfl) rfl
set_option maxRecDepth 20000 in
theorem wd_4_80 : (Jvm.Cond.lays "NetUnfolderModel" "NetUnfolderModel" "length" "I") ∈ wsA := wA_4 (List.mem_of_getElem? (i := 80) rfl) rfl
set_option maxRecDepth 20000 in
theorem wd_4_82 : (Jvm.Cond.laysFinal "NetUnfolderModel" "NetUnfolderModel" "way" "[I") ∈ wsA := wA_4 (List.mem_of_getElem? (i := 82) rfl) rfl
set_option maxRecDepth 20000 in
theorem wd_4_85 : (Jvm.Cond.arrayClass Jvm.ClassFile.FieldType.boolean) ∈ wsA := wA_4 (List.mem_of_getElem? (i := 85) rfl) rfl
set_option maxRecDepth 20000 in
theorem wd_4_86 : (Jvm.Cond.methodLink "NetUnfolderLaw" (41 : Nat) ({ cls := "NetUnfolderModel", name := "transition", desc := "(II)I" } : Jvm.MethodName)) ∈ wsA := wA_4 (List.mem_of_getElem? (i := 86) rfl) rfl
set_option maxRecDepth 20000 in
theorem wd_4_87 : (Jvm.Cond.instanceMethod ({ cls := "NetUnfolderModel", name := "transition", desc := "(II)I" } : Jvm.MethodName)) ∈ wsA := wA_4 (List.mem_of_getElem? (i := 87) rfl) rfl
set_option maxRecDepth 20000 in
theorem wd_4_88 : (Jvm.Cond.selects "NetUnfolderModel" ({ cls := "NetUnfolderModel", name := "transition", desc := "(II)I" } : Jvm.MethodName) ({ cls := "NetUnfolderModel", name := "transition", desc := "(II)I" } : Jvm.MethodName)) ∈ wsA := wA_4 (List.mem_of_getElem? (i := 88) rfl) rfl
set_option maxRecDepth 20000 in
theorem wd_4_89 : (Jvm.Cond.code ({ cls := "NetUnfolderModel", name := "transition", desc := "(II)I" } : Jvm.MethodName) prog_11_method_7_code (3 : Nat) (Option.some Jvm.ClassFile.FieldType.int)) ∈ wsA := wA_4 (List.mem_of_getElem? (i := 89) rfl) rfl
set_option maxRecDepth 20000 in
theorem wd_4_90 : (Jvm.Cond.methodLink "NetUnfolderModel" (80 : Nat) ({ cls := "NetUnfolderModel", name := "outside", desc := "(III)Z" } : Jvm.MethodName)) ∈ wsA := wA_4 (List.mem_of_getElem? (i := 90) rfl) rfl
set_option maxRecDepth 20000 in
theorem wd_4_91 : (Jvm.Cond.static ({ cls := "NetUnfolderModel", name := "outside", desc := "(III)Z" } : Jvm.MethodName)) ∈ wsA := wA_4 (List.mem_of_getElem? (i := 91) rfl) rfl
set_option maxRecDepth 20000 in
theorem wd_4_92 : (Jvm.Cond.code ({ cls := "NetUnfolderModel", name := "outside", desc := "(III)Z" } : Jvm.MethodName) prog_11_method_4_code (3 : Nat) (Option.some Jvm.ClassFile.FieldType.boolean)) ∈ wsA := wA_4 (List.mem_of_getElem? (i := 92) rfl) rfl
set_option maxRecDepth 20000 in
theorem wd_4_93 : (Jvm.Cond.methodLink "NetUnfolderModel" (87 : Nat) ({ cls := "NetUnfolderModel", name := "forget", desc := "()V" } : Jvm.MethodName)) ∈ wsA := wA_4 (List.mem_of_getElem? (i := 93) rfl) rfl
set_option maxRecDepth 20000 in
theorem wd_4_95 : (Jvm.Cond.instanceMethod ({ cls := "NetUnfolderModel", name := "forget", desc := "()V" } : Jvm.MethodName)) ∈ wsA := wA_4 (List.mem_of_getElem? (i := 95) rfl) rfl
set_option maxRecDepth 20000 in
theorem wd_4_96 : (Jvm.Cond.code ({ cls := "NetUnfolderModel", name := "forget", desc := "()V" } : Jvm.MethodName) prog_11_method_6_code (1 : Nat) (Option.none : Option Jvm.ClassFile.FieldType)) ∈ wsA := wA_4 (List.mem_of_getElem? (i := 96) rfl) rfl
set_option maxRecDepth 20000 in
theorem wd_4_97 : (Jvm.Cond.methodLink "NetUnfolderLaw" (45 : Nat) ({ cls := "NetUnfolderModel", name := "first", desc := "(I)V" } : Jvm.MethodName)) ∈ wsA := wA_4 (List.mem_of_getElem? (i := 97) rfl) rfl
set_option maxRecDepth 20000 in
theorem wd_4_98 : (Jvm.Cond.instanceMethod ({ cls := "NetUnfolderModel", name := "first", desc := "(I)V" } : Jvm.MethodName)) ∈ wsA := wA_4 (List.mem_of_getElem? (i := 98) rfl) rfl
set_option maxRecDepth 20000 in
theorem wd_4_99 : (Jvm.Cond.selects "NetUnfolderModel" ({ cls := "NetUnfolderModel", name := "first", desc := "(I)V" } : Jvm.MethodName) ({ cls := "NetUnfolderModel", name := "first", desc := "(I)V" } : Jvm.MethodName)) ∈ wsA := wA_4 (List.mem_of_getElem? (i := 99) rfl) rfl
set_option maxRecDepth 20000 in
theorem wd_4_100 : (Jvm.Cond.code ({ cls := "NetUnfolderModel", name := "first", desc := "(I)V" } : Jvm.MethodName) prog_11_method_8_code (2 : Nat) (Option.none : Option Jvm.ClassFile.FieldType)) ∈ wsA := wA_4 (List.mem_of_getElem? (i := 100) rfl) rfl
set_option maxRecDepth 20000 in
theorem wd_4_101 : (Jvm.Cond.methodLink "NetUnfolderLaw" (49 : Nat) ({ cls := "NetUnfolderModel", name := "clear", desc := "()V" } : Jvm.MethodName)) ∈ wsA := wA_4 (List.mem_of_getElem? (i := 101) rfl) rfl
set_option maxRecDepth 20000 in
theorem wd_4_102 : (Jvm.Cond.instanceMethod ({ cls := "NetUnfolderModel", name := "clear", desc := "()V" } : Jvm.MethodName)) ∈ wsA := wA_4 (List.mem_of_getElem? (i := 102) rfl) rfl
set_option maxRecDepth 20000 in
theorem wd_4_103 : (Jvm.Cond.selects "NetUnfolderModel" ({ cls := "NetUnfolderModel", name := "clear", desc := "()V" } : Jvm.MethodName) ({ cls := "NetUnfolderModel", name := "clear", desc := "()V" } : Jvm.MethodName)) ∈ wsA := wA_4 (List.mem_of_getElem? (i := 103) rfl) rfl
set_option maxRecDepth 20000 in
theorem wd_4_104 : (Jvm.Cond.code ({ cls := "NetUnfolderModel", name := "clear", desc := "()V" } : Jvm.MethodName) prog_11_method_9_code (1 : Nat) (Option.none : Option Jvm.ClassFile.FieldType)) ∈ wsA := wA_4 (List.mem_of_getElem? (i := 104) rfl) rfl
set_option maxRecDepth 20000 in
theorem wd_4_105 : (Jvm.Cond.methodLink "NetUnfolderLaw" (53 : Nat) ({ cls := "NetUnfolderModel", name := "unfold", desc := "()I" } : Jvm.MethodName)) ∈ wsA := wA_4 (List.mem_of_getElem? (i := 105) rfl) rfl
set_option maxRecDepth 20000 in
theorem wd_4_106 : (Jvm.Cond.instanceMethod ({ cls := "NetUnfolderModel", name := "unfold", desc := "()I" } : Jvm.MethodName)) ∈ wsA := wA_4 (List.mem_of_getElem? (i := 106) rfl) rfl
set_option maxRecDepth 20000 in
theorem wd_4_107 : (Jvm.Cond.selects "NetUnfolderModel" ({ cls := "NetUnfolderModel", name := "unfold", desc := "()I" } : Jvm.MethodName) ({ cls := "NetUnfolderModel", name := "unfold", desc := "()I" } : Jvm.MethodName)) ∈ wsA := wA_4 (List.mem_of_getElem? (i := 107) rfl) rfl
set_option maxRecDepth 20000 in
theorem wd_4_108 : (Jvm.Cond.code ({ cls := "NetUnfolderModel", name := "unfold", desc := "()I" } : Jvm.MethodName) prog_11_method_29_code (3 : Nat) (Option.some Jvm.ClassFile.FieldType.int)) ∈ wsA := wA_4 (List.mem_of_getElem? (i := 108) rfl) rfl
set_option maxRecDepth 20000 in
theorem wd_4_109 : (Jvm.Cond.methodLink "NetUnfolderModel" (170 : Nat) ({ cls := "NetUnfolderModel", name := "condition", desc := "(III)V" } : Jvm.MethodName)) ∈ wsA := wA_4 (List.mem_of_getElem? (i := 109) rfl) rfl
set_option maxRecDepth 20000 in
theorem wd_4_111 : (Jvm.Cond.instanceMethod ({ cls := "NetUnfolderModel", name := "condition", desc := "(III)V" } : Jvm.MethodName)) ∈ wsA := wA_4 (List.mem_of_getElem? (i := 111) rfl) rfl
set_option maxRecDepth 20000 in
theorem wd_4_112 : (Jvm.Cond.code ({ cls := "NetUnfolderModel", name := "condition", desc := "(III)V" } : Jvm.MethodName) prog_11_method_14_code (6 : Nat) (Option.none : Option Jvm.ClassFile.FieldType)) ∈ wsA := wA_4 (List.mem_of_getElem? (i := 112) rfl) rfl
set_option maxRecDepth 20000 in
theorem wd_4_113 : (Jvm.Cond.methodLink "NetUnfolderModel" (107 : Nat) ({ cls := "NetUnfolderModel", name := "together", desc := "(II)Z" } : Jvm.MethodName)) ∈ wsA := wA_4 (List.mem_of_getElem? (i := 113) rfl) rfl
set_option maxRecDepth 20000 in
theorem wd_4_115 : (Jvm.Cond.instanceMethod ({ cls := "NetUnfolderModel", name := "together", desc := "(II)Z" } : Jvm.MethodName)) ∈ wsA := wA_4 (List.mem_of_getElem? (i := 115) rfl) rfl
set_option maxRecDepth 20000 in
theorem wd_4_116 : (Jvm.Cond.code ({ cls := "NetUnfolderModel", name := "together", desc := "(II)Z" } : Jvm.MethodName) prog_11_method_11_code (5 : Nat) (Option.some Jvm.ClassFile.FieldType.boolean)) ∈ wsA := wA_4 (List.mem_of_getElem? (i := 116) rfl) rfl
set_option maxRecDepth 20000 in
theorem wd_4_117 : (Jvm.Cond.methodLink "NetUnfolderModel" (99 : Nat) ({ cls := "NetUnfolderModel", name := "takenBy", desc := "(J)J" } : Jvm.MethodName)) ∈ wsA := wA_4 (List.mem_of_getElem? (i := 117) rfl) rfl
set_option maxRecDepth 20000 in
theorem wd_4_119 : (Jvm.Cond.instanceMethod ({ cls := "NetUnfolderModel", name := "takenBy", desc := "(J)J" } : Jvm.MethodName)) ∈ wsA := wA_4 (List.mem_of_getElem? (i := 119) rfl) rfl
set_option maxRecDepth 20000 in
theorem wd_4_120 : (Jvm.Cond.code ({ cls := "NetUnfolderModel", name := "takenBy", desc := "(J)J" } : Jvm.MethodName) prog_11_method_10_code (6 : Nat) (Option.some Jvm.ClassFile.FieldType.long)) ∈ wsA := wA_4 (List.mem_of_getElem? (i := 120) rfl) rfl
set_option maxRecDepth 20000 in
theorem wd_4_121 : (Jvm.Cond.methodLink "NetUnfolderModel" (93 : Nat) ({ cls := "NetUnfolderModel", name := "has", desc := "(JI)Z" } : Jvm.MethodName)) ∈ wsA := wA_4 (List.mem_of_getElem? (i := 121) rfl) rfl
set_option maxRecDepth 20000 in
theorem wd_4_122 : (Jvm.Cond.static ({ cls := "NetUnfolderModel", name := "has", desc := "(JI)Z" } : Jvm.MethodName)) ∈ wsA := wA_4 (List.mem_of_getElem? (i := 122) rfl) rfl
set_option maxRecDepth 20000 in
theorem wd_4_123 : (Jvm.Cond.code ({ cls := "NetUnfolderModel", name := "has", desc := "(JI)Z" } : Jvm.MethodName) prog_11_method_5_code (3 : Nat) (Option.some Jvm.ClassFile.FieldType.boolean)) ∈ wsA := wA_4 (List.mem_of_getElem? (i := 123) rfl) rfl
set_option maxRecDepth 20000 in
theorem wd_4_124 : (Jvm.Cond.constantLong "NetUnfolderModel" (97 : Nat) (-1 : Int64)) ∈ wsA := wA_4 (List.mem_of_getElem? (i := 124) rfl) rfl
set_option maxRecDepth 20000 in
theorem wd_4_125 : (Jvm.Cond.methodLink "NetUnfolderModel" (174 : Nat) ({ cls := "NetUnfolderModel", name := "search", desc := "()V" } : Jvm.MethodName)) ∈ wsA := wA_4 (List.mem_of_getElem? (i := 125) rfl) rfl
set_option maxRecDepth 20000 in
theorem wd_4_127 : (Jvm.Cond.instanceMethod ({ cls := "NetUnfolderModel", name := "search", desc := "()V" } : Jvm.MethodName)) ∈ wsA := wA_4 (List.mem_of_getElem? (i := 127) rfl) rfl
set_option maxRecDepth 20000 in
theorem wd_4_128 : (Jvm.Cond.code ({ cls := "NetUnfolderModel", name := "search", desc := "()V" } : Jvm.MethodName) prog_11_method_24_code (2 : Nat) (Option.none : Option Jvm.ClassFile.FieldType)) ∈ wsA := wA_4 (List.mem_of_getElem? (i := 128) rfl) rfl
set_option maxRecDepth 20000 in
theorem wd_4_129 : (Jvm.Cond.methodLink "NetUnfolderModel" (158 : Nat) ({ cls := "NetUnfolderModel", name := "choices", desc := "(I)V" } : Jvm.MethodName)) ∈ wsA := wA_4 (List.mem_of_getElem? (i := 129) rfl) rfl
set_option maxRecDepth 20000 in
theorem wd_4_131 : (Jvm.Cond.instanceMethod ({ cls := "NetUnfolderModel", name := "choices", desc := "(I)V" } : Jvm.MethodName)) ∈ wsA := wA_4 (List.mem_of_getElem? (i := 131) rfl) rfl
set_option maxRecDepth 20000 in
theorem wd_4_132 : (Jvm.Cond.code ({ cls := "NetUnfolderModel", name := "choices", desc := "(I)V" } : Jvm.MethodName) prog_11_method_23_code (5 : Nat) (Option.none : Option Jvm.ClassFile.FieldType)) ∈ wsA := wA_4 (List.mem_of_getElem? (i := 132) rfl) rfl
set_option maxRecDepth 20000 in
theorem wd_4_133 : (Jvm.Cond.methodLink "NetUnfolderModel" (143 : Nat) ({ cls := "NetUnfolderModel", name := "sizeOf", desc := "(I)I" } : Jvm.MethodName)) ∈ wsA := wA_4 (List.mem_of_getElem? (i := 133) rfl) rfl
set_option maxRecDepth 20000 in
theorem wd_4_134 : (Jvm.Cond.static ({ cls := "NetUnfolderModel", name := "sizeOf", desc := "(I)I" } : Jvm.MethodName)) ∈ wsA := wA_4 (List.mem_of_getElem? (i := 134) rfl) rfl
set_option maxRecDepth 20000 in
theorem wd_4_135 : (Jvm.Cond.code ({ cls := "NetUnfolderModel", name := "sizeOf", desc := "(I)I" } : Jvm.MethodName) prog_11_method_22_code (3 : Nat) (Option.some Jvm.ClassFile.FieldType.int)) ∈ wsA := wA_4 (List.mem_of_getElem? (i := 135) rfl) rfl
set_option maxRecDepth 20000 in
theorem wd_4_136 : (Jvm.Cond.methodLink "NetUnfolderModel" (146 : Nat) ({ cls := "NetUnfolderModel", name := "placeOf", desc := "(II)I" } : Jvm.MethodName)) ∈ wsA := wA_4 (List.mem_of_getElem? (i := 136) rfl) rfl
set_option maxRecDepth 20000 in
theorem wd_4_137 : (Jvm.Cond.static ({ cls := "NetUnfolderModel", name := "placeOf", desc := "(II)I" } : Jvm.MethodName)) ∈ wsA := wA_4 (List.mem_of_getElem? (i := 137) rfl) rfl
set_option maxRecDepth 20000 in
theorem wd_4_138 : (Jvm.Cond.code ({ cls := "NetUnfolderModel", name := "placeOf", desc := "(II)I" } : Jvm.MethodName) prog_11_method_21_code (4 : Nat) (Option.some Jvm.ClassFile.FieldType.int)) ∈ wsA := wA_4 (List.mem_of_getElem? (i := 138) rfl) rfl
set_option maxRecDepth 20000 in
theorem wd_4_139 : (Jvm.Cond.methodLink "NetUnfolderModel" (150 : Nat) ({ cls := "NetUnfolderModel", name := "further", desc := "(IIJ)I" } : Jvm.MethodName)) ∈ wsA := wA_4 (List.mem_of_getElem? (i := 139) rfl) rfl
set_option maxRecDepth 20000 in
theorem wd_4_141 : (Jvm.Cond.instanceMethod ({ cls := "NetUnfolderModel", name := "further", desc := "(IIJ)I" } : Jvm.MethodName)) ∈ wsA := wA_4 (List.mem_of_getElem? (i := 141) rfl) rfl
set_option maxRecDepth 20000 in
theorem wd_4_142 : (Jvm.Cond.code ({ cls := "NetUnfolderModel", name := "further", desc := "(IIJ)I" } : Jvm.MethodName) prog_11_method_20_code (6 : Nat) (Option.some Jvm.ClassFile.FieldType.int)) ∈ wsA := wA_4 (List.mem_of_getElem? (i := 142) rfl) rfl
set_option maxRecDepth 20000 in
theorem wd_4_143 : (Jvm.Cond.methodLink "NetUnfolderModel" (154 : Nat) ({ cls := "NetUnfolderModel", name := "found", desc := "(II)V" } : Jvm.MethodName)) ∈ wsA := wA_4 (List.mem_of_getElem? (i := 143) rfl) rfl
set_option maxRecDepth 20000 in
theorem wd_4_145 : (Jvm.Cond.instanceMethod ({ cls := "NetUnfolderModel", name := "found", desc := "(II)V" } : Jvm.MethodName)) ∈ wsA := wA_4 (List.mem_of_getElem? (i := 145) rfl) rfl
set_option maxRecDepth 20000 in
theorem wd_4_146 : (Jvm.Cond.code ({ cls := "NetUnfolderModel", name := "found", desc := "(II)V" } : Jvm.MethodName) prog_11_method_19_code (6 : Nat) (Option.none : Option Jvm.ClassFile.FieldType)) ∈ wsA := wA_4 (List.mem_of_getElem? (i := 146) rfl) rfl
set_option maxRecDepth 20000 in
theorem wd_4_147 : (Jvm.Cond.methodLink "NetUnfolderModel" (119 : Nat) ({ cls := "NetUnfolderModel", name := "isThere", desc := "(II)Z" } : Jvm.MethodName)) ∈ wsA := wA_4 (List.mem_of_getElem? (i := 147) rfl) rfl
set_option maxRecDepth 20000 in
theorem wd_4_149 : (Jvm.Cond.instanceMethod ({ cls := "NetUnfolderModel", name := "isThere", desc := "(II)Z" } : Jvm.MethodName)) ∈ wsA := wA_4 (List.mem_of_getElem? (i := 149) rfl) rfl
set_option maxRecDepth 20000 in
theorem wd_4_150 : (Jvm.Cond.code ({ cls := "NetUnfolderModel", name := "isThere", desc := "(II)Z" } : Jvm.MethodName) prog_11_method_18_code (7 : Nat) (Option.some Jvm.ClassFile.FieldType.boolean)) ∈ wsA := wA_4 (List.mem_of_getElem? (i := 150) rfl) rfl
set_option maxRecDepth 20000 in
theorem wd_4_151 : (Jvm.Cond.methodLink "NetUnfolderModel" (115 : Nat) ({ cls := "NetUnfolderModel", name := "setOf", desc := "(I)J" } : Jvm.MethodName)) ∈ wsA := wA_4 (List.mem_of_getElem? (i := 151) rfl) rfl
set_option maxRecDepth 20000 in
theorem wd_4_153 : (Jvm.Cond.instanceMethod ({ cls := "NetUnfolderModel", name := "setOf", desc := "(I)J" } : Jvm.MethodName)) ∈ wsA := wA_4 (List.mem_of_getElem? (i := 153) rfl) rfl
set_option maxRecDepth 20000 in
theorem wd_4_154 : (Jvm.Cond.code ({ cls := "NetUnfolderModel", name := "setOf", desc := "(I)J" } : Jvm.MethodName) prog_11_method_17_code (5 : Nat) (Option.some Jvm.ClassFile.FieldType.long)) ∈ wsA := wA_4 (List.mem_of_getElem? (i := 154) rfl) rfl
set_option maxRecDepth 20000 in
theorem wd_4_155 : (Jvm.Cond.methodLink "NetUnfolderModel" (125 : Nat) ({ cls := "NetUnfolderModel", name := "behindAll", desc := "(I)I" } : Jvm.MethodName)) ∈ wsA := wA_4 (List.mem_of_getElem? (i := 155) rfl) rfl
set_option maxRecDepth 20000 in
theorem wd_4_157 : (Jvm.Cond.instanceMethod ({ cls := "NetUnfolderModel", name := "behindAll", desc := "(I)I" } : Jvm.MethodName)) ∈ wsA := wA_4 (List.mem_of_getElem? (i := 157) rfl) rfl
set_option maxRecDepth 20000 in
theorem wd_4_158 : (Jvm.Cond.code ({ cls := "NetUnfolderModel", name := "behindAll", desc := "(I)I" } : Jvm.MethodName) prog_11_method_16_code (4 : Nat) (Option.some Jvm.ClassFile.FieldType.int)) ∈ wsA := wA_4 (List.mem_of_getElem? (i := 158) rfl) rfl
set_option maxRecDepth 20000 in
theorem wd_4_159 : (Jvm.Cond.methodLink "NetUnfolderModel" (129 : Nat) ({ cls := "NetUnfolderModel", name := "rankOf", desc := "(II)J" } : Jvm.MethodName)) ∈ wsA := wA_4 (List.mem_of_getElem? (i := 159) rfl) rfl
set_option maxRecDepth 20000 in
theorem wd_4_161 : (Jvm.Cond.instanceMethod ({ cls := "NetUnfolderModel", name := "rankOf", desc := "(II)J" } : Jvm.MethodName)) ∈ wsA := wA_4 (List.mem_of_getElem? (i := 161) rfl) rfl
set_option maxRecDepth 20000 in
theorem wd_4_162 : (Jvm.Cond.code ({ cls := "NetUnfolderModel", name := "rankOf", desc := "(II)J" } : Jvm.MethodName) prog_11_method_15_code (11 : Nat) (Option.some Jvm.ClassFile.FieldType.long)) ∈ wsA := wA_4 (List.mem_of_getElem? (i := 162) rfl) rfl
set_option maxRecDepth 20000 in
theorem wd_4_163 : (Jvm.Cond.constantLong "NetUnfolderModel" (111 : Nat) (32 : Int64)) ∈ wsA := wA_4 (List.mem_of_getElem? (i := 163) rfl) rfl
set_option maxRecDepth 20000 in
theorem wd_4_164 : (Jvm.Cond.constantLong "NetUnfolderModel" (113 : Nat) (31 : Int64)) ∈ wsA := wA_4 (List.mem_of_getElem? (i := 164) rfl) rfl
set_option maxRecDepth 20000 in
theorem wd_4_165 : (Jvm.Cond.methodLink "NetUnfolderModel" (177 : Nat) ({ cls := "NetUnfolderModel", name := "twice", desc := "()I" } : Jvm.MethodName)) ∈ wsA := wA_4 (List.mem_of_getElem? (i := 165) rfl) rfl
set_option maxRecDepth 20000 in
theorem wd_4_167 : (Jvm.Cond.instanceMethod ({ cls := "NetUnfolderModel", name := "twice", desc := "()I" } : Jvm.MethodName)) ∈ wsA := wA_4 (List.mem_of_getElem? (i := 167) rfl) rfl
set_option maxRecDepth 20000 in
theorem wd_4_168 : (Jvm.Cond.code ({ cls := "NetUnfolderModel", name := "twice", desc := "()I" } : Jvm.MethodName) prog_11_method_26_code (4 : Nat) (Option.some Jvm.ClassFile.FieldType.int)) ∈ wsA := wA_4 (List.mem_of_getElem? (i := 168) rfl) rfl
set_option maxRecDepth 20000 in
theorem wd_4_169 : (Jvm.Cond.methodLink "NetUnfolderModel" (162 : Nat) ({ cls := "NetUnfolderModel", name := "besideLeast", desc := "()J" } : Jvm.MethodName)) ∈ wsA := wA_4 (List.mem_of_getElem? (i := 169) rfl) rfl
set_option maxRecDepth 20000 in
theorem wd_4_171 : (Jvm.Cond.instanceMethod ({ cls := "NetUnfolderModel", name := "besideLeast", desc := "()J" } : Jvm.MethodName)) ∈ wsA := wA_4 (List.mem_of_getElem? (i := 171) rfl) rfl
set_option maxRecDepth 20000 in
theorem wd_4_172 : (Jvm.Cond.code ({ cls := "NetUnfolderModel", name := "besideLeast", desc := "()J" } : Jvm.MethodName) prog_11_method_25_code (4 : Nat) (Option.some Jvm.ClassFile.FieldType.long)) ∈ wsA := wA_4 (List.mem_of_getElem? (i := 172) rfl) rfl
set_option maxRecDepth 20000 in
theorem wd_4_173 : (Jvm.Cond.methodLink "NetUnfolderModel" (181 : Nat) ({ cls := "NetUnfolderModel", name := "addWay", desc := "(J)V" } : Jvm.MethodName)) ∈ wsA := wA_4 (List.mem_of_getElem? (i := 173) rfl) rfl
set_option maxRecDepth 20000 in
theorem wd_4_175 : (Jvm.Cond.instanceMethod ({ cls := "NetUnfolderModel", name := "addWay", desc := "(J)V" } : Jvm.MethodName)) ∈ wsA := wA_4 (List.mem_of_getElem? (i := 175) rfl) rfl
set_option maxRecDepth 20000 in
theorem wd_4_176 : (Jvm.Cond.code ({ cls := "NetUnfolderModel", name := "addWay", desc := "(J)V" } : Jvm.MethodName) prog_11_method_27_code (4 : Nat) (Option.none : Option Jvm.ClassFile.FieldType)) ∈ wsA := wA_4 (List.mem_of_getElem? (i := 176) rfl) rfl
set_option maxRecDepth 20000 in
theorem wd_4_177 : (Jvm.Cond.methodLink "NetUnfolderModel" (185 : Nat) ({ cls := "NetUnfolderModel", name := "come", desc := "()Z" } : Jvm.MethodName)) ∈ wsA := wA_4 (List.mem_of_getElem? (i := 177) rfl) rfl
set_option maxRecDepth 20000 in
theorem wd_4_179 : (Jvm.Cond.instanceMethod ({ cls := "NetUnfolderModel", name := "come", desc := "()Z" } : Jvm.MethodName)) ∈ wsA := wA_4 (List.mem_of_getElem? (i := 179) rfl) rfl
set_option maxRecDepth 20000 in
theorem wd_4_180 : (Jvm.Cond.code ({ cls := "NetUnfolderModel", name := "come", desc := "()Z" } : Jvm.MethodName) prog_11_method_28_code (4 : Nat) (Option.some Jvm.ClassFile.FieldType.boolean)) ∈ wsA := wA_4 (List.mem_of_getElem? (i := 180) rfl) rfl
set_option maxRecDepth 20000 in
theorem wd_4_181 : (Jvm.Cond.methodLink "NetUnfolderModel" (166 : Nat) ({ cls := "NetUnfolderModel", name := "markingOf", desc := "(J)I" } : Jvm.MethodName)) ∈ wsA := wA_4 (List.mem_of_getElem? (i := 181) rfl) rfl
set_option maxRecDepth 20000 in
theorem wd_4_183 : (Jvm.Cond.instanceMethod ({ cls := "NetUnfolderModel", name := "markingOf", desc := "(J)I" } : Jvm.MethodName)) ∈ wsA := wA_4 (List.mem_of_getElem? (i := 183) rfl) rfl
set_option maxRecDepth 20000 in
theorem wd_4_184 : (Jvm.Cond.code ({ cls := "NetUnfolderModel", name := "markingOf", desc := "(J)I" } : Jvm.MethodName) prog_11_method_13_code (5 : Nat) (Option.some Jvm.ClassFile.FieldType.int)) ∈ wsA := wA_4 (List.mem_of_getElem? (i := 184) rfl) rfl
set_option maxRecDepth 20000 in
theorem wd_4_185 : (Jvm.Cond.methodLink "NetUnfolderModel" (103 : Nat) ({ cls := "NetUnfolderModel", name := "fire", desc := "(III)I" } : Jvm.MethodName)) ∈ wsA := wA_4 (List.mem_of_getElem? (i := 185) rfl) rfl
set_option maxRecDepth 20000 in
theorem wd_4_186 : (Jvm.Cond.static ({ cls := "NetUnfolderModel", name := "fire", desc := "(III)I" } : Jvm.MethodName)) ∈ wsA := wA_4 (List.mem_of_getElem? (i := 186) rfl) rfl
set_option maxRecDepth 20000 in
theorem wd_4_187 : (Jvm.Cond.code ({ cls := "NetUnfolderModel", name := "fire", desc := "(III)I" } : Jvm.MethodName) prog_11_method_12_code (3 : Nat) (Option.some Jvm.ClassFile.FieldType.int)) ∈ wsA := wA_4 (List.mem_of_getElem? (i := 187) rfl) rfl
set_option maxRecDepth 20000 in
theorem wd_4_188 : (Jvm.Cond.methodLink "NetUnfolderLaw" (57 : Nat) ({ cls := "NetUnfolderModel", name := "reach", desc := "(I)I" } : Jvm.MethodName)) ∈ wsA := wA_4 (List.mem_of_getElem? (i := 188) rfl) rfl
set_option maxRecDepth 20000 in
theorem wd_4_189 : (Jvm.Cond.instanceMethod ({ cls := "NetUnfolderModel", name := "reach", desc := "(I)I" } : Jvm.MethodName)) ∈ wsA := wA_4 (List.mem_of_getElem? (i := 189) rfl) rfl
set_option maxRecDepth 20000 in
theorem wd_4_190 : (Jvm.Cond.selects "NetUnfolderModel" ({ cls := "NetUnfolderModel", name := "reach", desc := "(I)I" } : Jvm.MethodName) ({ cls := "NetUnfolderModel", name := "reach", desc := "(I)I" } : Jvm.MethodName)) ∈ wsA := wA_4 (List.mem_of_getElem? (i := 190) rfl) rfl
set_option maxRecDepth 20000 in
theorem wd_4_191 : (Jvm.Cond.code ({ cls := "NetUnfolderModel", name := "reach", desc := "(I)I" } : Jvm.MethodName) prog_11_method_33_code (2 : Nat) (Option.some Jvm.ClassFile.FieldType.int)) ∈ wsA := wA_4 (List.mem_of_getElem? (i := 191) rfl) rfl
set_option maxRecDepth 20000 in
theorem wd_4_192 : (Jvm.Cond.methodLink "NetUnfolderModel" (196 : Nat) ({ cls := "NetUnfolderModel", name := "answer", desc := "(I)I" } : Jvm.MethodName)) ∈ wsA := wA_4 (List.mem_of_getElem? (i := 192) rfl) rfl
set_option maxRecDepth 20000 in
theorem wd_4_194 : (Jvm.Cond.instanceMethod ({ cls := "NetUnfolderModel", name := "answer", desc := "(I)I" } : Jvm.MethodName)) ∈ wsA := wA_4 (List.mem_of_getElem? (i := 194) rfl) rfl
set_option maxRecDepth 20000 in
theorem wd_4_195 : (Jvm.Cond.code ({ cls := "NetUnfolderModel", name := "answer", desc := "(I)I" } : Jvm.MethodName) prog_11_method_32_code (11 : Nat) (Option.some Jvm.ClassFile.FieldType.int)) ∈ wsA := wA_4 (List.mem_of_getElem? (i := 195) rfl) rfl
set_option maxRecDepth 20000 in
theorem wd_4_196 : (Jvm.Cond.methodLink "NetUnfolderModel" (189 : Nat) ({ cls := "NetUnfolderModel", name := "stuck", desc := "(I)Z" } : Jvm.MethodName)) ∈ wsA := wA_4 (List.mem_of_getElem? (i := 196) rfl) rfl
set_option maxRecDepth 20000 in
theorem wd_4_198 : (Jvm.Cond.instanceMethod ({ cls := "NetUnfolderModel", name := "stuck", desc := "(I)Z" } : Jvm.MethodName)) ∈ wsA := wA_4 (List.mem_of_getElem? (i := 198) rfl) rfl
set_option maxRecDepth 20000 in
theorem wd_4_199 : (Jvm.Cond.code ({ cls := "NetUnfolderModel", name := "stuck", desc := "(I)Z" } : Jvm.MethodName) prog_11_method_30_code (4 : Nat) (Option.some Jvm.ClassFile.FieldType.boolean)) ∈ wsA := wA_4 (List.mem_of_getElem? (i := 199) rfl) rfl
set_option maxRecDepth 20000 in
theorem wd_4_200 : (Jvm.Cond.methodLink "NetUnfolderModel" (193 : Nat) ({ cls := "NetUnfolderModel", name := "fits", desc := "(JI)Z" } : Jvm.MethodName)) ∈ wsA := wA_4 (List.mem_of_getElem? (i := 200) rfl) rfl
set_option maxRecDepth 20000 in
theorem wd_4_202 : (Jvm.Cond.instanceMethod ({ cls := "NetUnfolderModel", name := "fits", desc := "(JI)Z" } : Jvm.MethodName)) ∈ wsA := wA_4 (List.mem_of_getElem? (i := 202) rfl) rfl
set_option maxRecDepth 20000 in
theorem wd_4_203 : (Jvm.Cond.code ({ cls := "NetUnfolderModel", name := "fits", desc := "(JI)Z" } : Jvm.MethodName) prog_11_method_31_code (6 : Nat) (Option.some Jvm.ClassFile.FieldType.boolean)) ∈ wsA := wA_4 (List.mem_of_getElem? (i := 203) rfl) rfl
set_option maxRecDepth 20000 in
theorem wd_4_204 : (Jvm.Cond.methodLink "NetUnfolderLaw" (61 : Nat) ({ cls := "NetUnfolderModel", name := "deadlock", desc := "()I" } : Jvm.MethodName)) ∈ wsA := wA_4 (List.mem_of_getElem? (i := 204) rfl) rfl
set_option maxRecDepth 20000 in
theorem wd_4_205 : (Jvm.Cond.instanceMethod ({ cls := "NetUnfolderModel", name := "deadlock", desc := "()I" } : Jvm.MethodName)) ∈ wsA := wA_4 (List.mem_of_getElem? (i := 205) rfl) rfl
set_option maxRecDepth 20000 in
theorem wd_4_206 : (Jvm.Cond.selects "NetUnfolderModel" ({ cls := "NetUnfolderModel", name := "deadlock", desc := "()I" } : Jvm.MethodName) ({ cls := "NetUnfolderModel", name := "deadlock", desc := "()I" } : Jvm.MethodName)) ∈ wsA := wA_4 (List.mem_of_getElem? (i := 206) rfl) rfl
set_option maxRecDepth 20000 in
theorem wd_4_207 : (Jvm.Cond.code ({ cls := "NetUnfolderModel", name := "deadlock", desc := "()I" } : Jvm.MethodName) prog_11_method_34_code (1 : Nat) (Option.some Jvm.ClassFile.FieldType.int)) ∈ wsA := wA_4 (List.mem_of_getElem? (i := 207) rfl) rfl
set_option maxRecDepth 20000 in
theorem wd_4_208 : (Jvm.Cond.methodLink "NetUnfolderLaw" (65 : Nat) ({ cls := "NetUnfolderModel", name := "way", desc := "(I)I" } : Jvm.MethodName)) ∈ wsA := wA_4 (List.mem_of_getElem? (i := 208) rfl) rfl
set_option maxRecDepth 20000 in
theorem wd_4_209 : (Jvm.Cond.instanceMethod ({ cls := "NetUnfolderModel", name := "way", desc := "(I)I" } : Jvm.MethodName)) ∈ wsA := wA_4 (List.mem_of_getElem? (i := 209) rfl) rfl
set_option maxRecDepth 20000 in
theorem wd_4_210 : (Jvm.Cond.selects "NetUnfolderModel" ({ cls := "NetUnfolderModel", name := "way", desc := "(I)I" } : Jvm.MethodName) ({ cls := "NetUnfolderModel", name := "way", desc := "(I)I" } : Jvm.MethodName)) ∈ wsA := wA_4 (List.mem_of_getElem? (i := 210) rfl) rfl
set_option maxRecDepth 20000 in
theorem wd_4_211 : (Jvm.Cond.code ({ cls := "NetUnfolderModel", name := "way", desc := "(I)I" } : Jvm.MethodName) prog_11_method_35_code (2 : Nat) (Option.some Jvm.ClassFile.FieldType.int)) ∈ wsA := wA_4 (List.mem_of_getElem? (i := 211) rfl) rfl
set_option maxRecDepth 20000 in
theorem wd_4_212 : (Jvm.Cond.methodLink "NetUnfolderLaw" (68 : Nat) ({ cls := "NetUnfolderModel", name := "play", desc := "(I)I" } : Jvm.MethodName)) ∈ wsA := wA_4 (List.mem_of_getElem? (i := 212) rfl) rfl
set_option maxRecDepth 20000 in
theorem wd_4_213 : (Jvm.Cond.instanceMethod ({ cls := "NetUnfolderModel", name := "play", desc := "(I)I" } : Jvm.MethodName)) ∈ wsA := wA_4 (List.mem_of_getElem? (i := 213) rfl) rfl
set_option maxRecDepth 20000 in
theorem wd_4_214 : (Jvm.Cond.selects "NetUnfolderModel" ({ cls := "NetUnfolderModel", name := "play", desc := "(I)I" } : Jvm.MethodName) ({ cls := "NetUnfolderModel", name := "play", desc := "(I)I" } : Jvm.MethodName)) ∈ wsA := wA_4 (List.mem_of_getElem? (i := 214) rfl) rfl
set_option maxRecDepth 20000 in
theorem wd_4_215 : (Jvm.Cond.code ({ cls := "NetUnfolderModel", name := "play", desc := "(I)I" } : Jvm.MethodName) prog_11_method_36_code (4 : Nat) (Option.some Jvm.ClassFile.FieldType.int)) ∈ wsA := wA_4 (List.mem_of_getElem? (i := 215) rfl) rfl
set_option maxRecDepth 20000 in
theorem wd_4_216 : (Jvm.Cond.methodLink "NetUnfolderModel" (199 : Nat) ({ cls := "NetUnfolderModel", name := "refuse", desc := "(I)I" } : Jvm.MethodName)) ∈ wsA := wA_4 (List.mem_of_getElem? (i := 216) rfl) rfl
set_option maxRecDepth 20000 in
theorem wd_4_218 : (Jvm.Cond.instanceMethod ({ cls := "NetUnfolderModel", name := "refuse", desc := "(I)I" } : Jvm.MethodName)) ∈ wsA := wA_4 (List.mem_of_getElem? (i := 218) rfl) rfl
set_option maxRecDepth 20000 in
theorem wd_4_219 : (Jvm.Cond.code ({ cls := "NetUnfolderModel", name := "refuse", desc := "(I)I" } : Jvm.MethodName) prog_11_method_3_code (2 : Nat) (Option.some Jvm.ClassFile.FieldType.int)) ∈ wsA := wA_4 (List.mem_of_getElem? (i := 219) rfl) rfl
set_option maxRecDepth 20000 in
theorem wd_4_220 : (Jvm.Cond.methodLink "NetUnfolderLaw" (72 : Nat) ({ cls := "NetUnfolderModel", name := "count", desc := "(I)I" } : Jvm.MethodName)) ∈ wsA := wA_4 (List.mem_of_getElem? (i := 220) rfl) rfl
set_option maxRecDepth 20000 in
theorem wd_4_221 : (Jvm.Cond.instanceMethod ({ cls := "NetUnfolderModel", name := "count", desc := "(I)I" } : Jvm.MethodName)) ∈ wsA := wA_4 (List.mem_of_getElem? (i := 221) rfl) rfl
set_option maxRecDepth 20000 in
theorem wd_4_222 : (Jvm.Cond.selects "NetUnfolderModel" ({ cls := "NetUnfolderModel", name := "count", desc := "(I)I" } : Jvm.MethodName) ({ cls := "NetUnfolderModel", name := "count", desc := "(I)I" } : Jvm.MethodName)) ∈ wsA := wA_4 (List.mem_of_getElem? (i := 222) rfl) rfl
set_option maxRecDepth 20000 in
theorem wd_4_223 : (Jvm.Cond.code ({ cls := "NetUnfolderModel", name := "count", desc := "(I)I" } : Jvm.MethodName) prog_11_method_37_code (4 : Nat) (Option.some Jvm.ClassFile.FieldType.int)) ∈ wsA := wA_4 (List.mem_of_getElem? (i := 223) rfl) rfl
set_option maxRecDepth 20000 in
theorem wd_4_224 : (Jvm.Cond.methodLink "NetUnfolderLaw" (76 : Nat) ({ cls := "NetUnfolderModel", name := "event", desc := "(II)I" } : Jvm.MethodName)) ∈ wsA := wA_4 (List.mem_of_getElem? (i := 224) rfl) rfl
set_option maxRecDepth 20000 in
theorem wd_4_225 : (Jvm.Cond.instanceMethod ({ cls := "NetUnfolderModel", name := "event", desc := "(II)I" } : Jvm.MethodName)) ∈ wsA := wA_4 (List.mem_of_getElem? (i := 225) rfl) rfl
set_option maxRecDepth 20000 in
theorem wd_4_226 : (Jvm.Cond.selects "NetUnfolderModel" ({ cls := "NetUnfolderModel", name := "event", desc := "(II)I" } : Jvm.MethodName) ({ cls := "NetUnfolderModel", name := "event", desc := "(II)I" } : Jvm.MethodName)) ∈ wsA := wA_4 (List.mem_of_getElem? (i := 226) rfl) rfl
set_option maxRecDepth 20000 in
theorem wd_4_227 : (Jvm.Cond.code ({ cls := "NetUnfolderModel", name := "event", desc := "(II)I" } : Jvm.MethodName) prog_11_method_38_code (3 : Nat) (Option.some Jvm.ClassFile.FieldType.int)) ∈ wsA := wA_4 (List.mem_of_getElem? (i := 227) rfl) rfl
set_option maxRecDepth 20000 in
theorem wd_4_228 : (Jvm.Cond.methodLink "NetUnfolderLaw" (80 : Nat) ({ cls := "NetUnfolderModel", name := "takes", desc := "(II)I" } : Jvm.MethodName)) ∈ wsA := wA_4 (List.mem_of_getElem? (i := 228) rfl) rfl
set_option maxRecDepth 20000 in
theorem wd_4_229 : (Jvm.Cond.instanceMethod ({ cls := "NetUnfolderModel", name := "takes", desc := "(II)I" } : Jvm.MethodName)) ∈ wsA := wA_4 (List.mem_of_getElem? (i := 229) rfl) rfl
set_option maxRecDepth 20000 in
theorem wd_4_230 : (Jvm.Cond.selects "NetUnfolderModel" ({ cls := "NetUnfolderModel", name := "takes", desc := "(II)I" } : Jvm.MethodName) ({ cls := "NetUnfolderModel", name := "takes", desc := "(II)I" } : Jvm.MethodName)) ∈ wsA := wA_4 (List.mem_of_getElem? (i := 230) rfl) rfl
set_option maxRecDepth 20000 in
theorem wd_4_231 : (Jvm.Cond.code ({ cls := "NetUnfolderModel", name := "takes", desc := "(II)I" } : Jvm.MethodName) prog_11_method_39_code (3 : Nat) (Option.some Jvm.ClassFile.FieldType.int)) ∈ wsA := wA_4 (List.mem_of_getElem? (i := 231) rfl) rfl
set_option maxRecDepth 20000 in
theorem wd_4_232 : (Jvm.Cond.methodLink "NetUnfolderLaw" (84 : Nat) ({ cls := "NetUnfolderModel", name := "condition", desc := "(II)I" } : Jvm.MethodName)) ∈ wsA := wA_4 (List.mem_of_getElem? (i := 232) rfl) rfl
set_option maxRecDepth 20000 in
theorem wd_4_233 : (Jvm.Cond.instanceMethod ({ cls := "NetUnfolderModel", name := "condition", desc := "(II)I" } : Jvm.MethodName)) ∈ wsA := wA_4 (List.mem_of_getElem? (i := 233) rfl) rfl
set_option maxRecDepth 20000 in
theorem wd_4_234 : (Jvm.Cond.selects "NetUnfolderModel" ({ cls := "NetUnfolderModel", name := "condition", desc := "(II)I" } : Jvm.MethodName) ({ cls := "NetUnfolderModel", name := "condition", desc := "(II)I" } : Jvm.MethodName)) ∈ wsA := wA_4 (List.mem_of_getElem? (i := 234) rfl) rfl
set_option maxRecDepth 20000 in
theorem wd_4_235 : (Jvm.Cond.code ({ cls := "NetUnfolderModel", name := "condition", desc := "(II)I" } : Jvm.MethodName) prog_11_method_40_code (5 : Nat) (Option.some Jvm.ClassFile.FieldType.int)) ∈ wsA := wA_4 (List.mem_of_getElem? (i := 235) rfl) rfl
set_option maxRecDepth 20000 in
theorem wd_4_236 : (Jvm.Cond.methodLink "NetUnfolderLaw" (89 : Nat) ({ cls := "NetUnfolderModel", name := "concurrent", desc := "(II)Z" } : Jvm.MethodName)) ∈ wsA := wA_4 (List.mem_of_getElem? (i := 236) rfl) rfl
set_option maxRecDepth 20000 in
theorem wd_4_237 : (Jvm.Cond.instanceMethod ({ cls := "NetUnfolderModel", name := "concurrent", desc := "(II)Z" } : Jvm.MethodName)) ∈ wsA := wA_4 (List.mem_of_getElem? (i := 237) rfl) rfl
set_option maxRecDepth 20000 in
theorem wd_4_238 : (Jvm.Cond.selects "NetUnfolderModel" ({ cls := "NetUnfolderModel", name := "concurrent", desc := "(II)Z" } : Jvm.MethodName) ({ cls := "NetUnfolderModel", name := "concurrent", desc := "(II)Z" } : Jvm.MethodName)) ∈ wsA := wA_4 (List.mem_of_getElem? (i := 238) rfl) rfl
set_option maxRecDepth 20000 in
theorem wd_4_239 : (Jvm.Cond.code ({ cls := "NetUnfolderModel", name := "concurrent", desc := "(II)Z" } : Jvm.MethodName) prog_11_method_41_code (3 : Nat) (Option.some Jvm.ClassFile.FieldType.boolean)) ∈ wsA := wA_4 (List.mem_of_getElem? (i := 239) rfl) rfl
theorem ws_NU_dropPrefixAndWay : Cond.selects "NetUnfolder" y_NU_dropPrefixAndWay y_NU_dropPrefixAndWay ∈ wsA := wA_s (y := y_NU_dropPrefixAndWay) (n := 5) (by decide +kernel) rfl
theorem ws_Un_begin : Cond.selects "NetUnfolder$Unfolding" y_Un_begin y_Un_begin ∈ wsA := wA_s (y := y_Un_begin) (n := 4) (by decide +kernel) rfl
theorem ws_Un_findPossible : Cond.selects "NetUnfolder$Unfolding" y_Un_findPossible y_Un_findPossible ∈ wsA := wA_s (y := y_Un_findPossible) (n := 4) (by decide +kernel) rfl
theorem ws_Un_choose : Cond.selects "NetUnfolder$Unfolding" y_Un_choose y_Un_choose ∈ wsA := wA_s (y := y_Un_choose) (n := 4) (by decide +kernel) rfl
theorem ws_Po_comesBefore : Cond.selects "NetUnfolder$Possible" y_Po_comesBefore y_Po_comesBefore ∈ wsA := wA_s (y := y_Po_comesBefore) (n := 5) (by decide +kernel) rfl
theorem ws_Un_rivalOf : Cond.selects "NetUnfolder$Unfolding" y_Un_rivalOf y_Un_rivalOf ∈ wsA := wA_s (y := y_Un_rivalOf) (n := 4) (by decide +kernel) rfl
theorem ws_Un_tellWay : Cond.selects "NetUnfolder$Unfolding" y_Un_tellWay y_Un_tellWay ∈ wsA := wA_s (y := y_Un_tellWay) (n := 4) (by decide +kernel) rfl
theorem ws_Un_tellTransitions : Cond.selects "NetUnfolder$Unfolding" y_Un_tellTransitions y_Un_tellTransitions ∈ wsA := wA_s (y := y_Un_tellTransitions) (n := 4) (by decide +kernel) rfl
theorem ws_Un_letCome : Cond.selects "NetUnfolder$Unfolding" y_Un_letCome y_Un_letCome ∈ wsA := wA_s (y := y_Un_letCome) (n := 4) (by decide +kernel) rfl
theorem ws_Un_leadsToNothingNew : Cond.selects "NetUnfolder$Unfolding" y_Un_leadsToNothingNew y_Un_leadsToNothingNew ∈ wsA := wA_s (y := y_Un_leadsToNothingNew) (n := 4) (by decide +kernel) rfl
theorem ws_Qu_describePrefix : Cond.selects "NetUnfolder$Question" y_Qu_describePrefix y_Qu_describePrefix ∈ wsA := wA_s (y := y_Qu_describePrefix) (n := 6) (by decide +kernel) rfl
theorem ws_Qu_describeEvent : Cond.selects "NetUnfolder$Question" y_Qu_describeEvent y_Qu_describeEvent ∈ wsA := wA_s (y := y_Qu_describeEvent) (n := 6) (by decide +kernel) rfl
theorem ws_Qu_describeCondition : Cond.selects "NetUnfolder$Question" y_Qu_describeCondition y_Qu_describeCondition ∈ wsA := wA_s (y := y_Qu_describeCondition) (n := 6) (by decide +kernel) rfl
theorem ws_Qu_makersOf : Cond.selects "NetUnfolder$Question" y_Qu_makersOf y_Qu_makersOf ∈ wsA := wA_s (y := y_Qu_makersOf) (n := 6) (by decide +kernel) rfl
theorem ws_Qu_answer : Cond.selects "NetUnfolder$Question" y_Qu_answer y_Qu_answer ∈ wsA := wA_s (y := y_Qu_answer) (n := 6) (by decide +kernel) rfl
theorem ws_Se_begin : Cond.selects "NetUnfolder$Search" y_Se_begin y_Se_begin ∈ wsA := wA_s (y := y_Se_begin) (n := 8) (by decide +kernel) rfl
theorem ws_Se_propagate : Cond.selects "NetUnfolder$Search" y_Se_propagate y_Se_propagate ∈ wsA := wA_s (y := y_Se_propagate) (n := 8) (by decide +kernel) rfl
theorem ws_Se_assign : Cond.selects "NetUnfolder$Search" y_Se_assign y_Se_assign ∈ wsA := wA_s (y := y_Se_assign) (n := 8) (by decide +kernel) rfl
theorem ws_Se_learnFrom : Cond.selects "NetUnfolder$Search" y_Se_learnFrom y_Se_learnFrom ∈ wsA := wA_s (y := y_Se_learnFrom) (n := 8) (by decide +kernel) rfl
theorem ws_Se_levelBelow : Cond.selects "NetUnfolder$Search" y_Se_levelBelow y_Se_levelBelow ∈ wsA := wA_s (y := y_Se_levelBelow) (n := 8) (by decide +kernel) rfl
theorem ws_Se_goBack : Cond.selects "NetUnfolder$Search" y_Se_goBack y_Se_goBack ∈ wsA := wA_s (y := y_Se_goBack) (n := 8) (by decide +kernel) rfl
theorem ws_Se_forgetIdle : Cond.selects "NetUnfolder$Search" y_Se_forgetIdle y_Se_forgetIdle ∈ wsA := wA_s (y := y_Se_forgetIdle) (n := 8) (by decide +kernel) rfl
theorem ws_Se_forcedBy : Cond.selects "NetUnfolder$Search" y_Se_forcedBy y_Se_forcedBy ∈ wsA := wA_s (y := y_Se_forcedBy) (n := 8) (by decide +kernel) rfl
theorem ws_Se_decide : Cond.selects "NetUnfolder$Search" y_Se_decide y_Se_decide ∈ wsA := wA_s (y := y_Se_decide) (n := 8) (by decide +kernel) rfl
theorem ws_Mo_forget : Cond.selects "NetUnfolderModel" y_Mo_forget y_Mo_forget ∈ wsA := wA_s (y := y_Mo_forget) (n := 28) (by decide +kernel) rfl
theorem ws_Mo_condition_III : Cond.selects "NetUnfolderModel" y_Mo_condition_III y_Mo_condition_III ∈ wsA := wA_s (y := y_Mo_condition_III) (n := 28) (by decide +kernel) rfl
theorem ws_Mo_together : Cond.selects "NetUnfolderModel" y_Mo_together y_Mo_together ∈ wsA := wA_s (y := y_Mo_together) (n := 28) (by decide +kernel) rfl
theorem ws_Mo_takenBy : Cond.selects "NetUnfolderModel" y_Mo_takenBy y_Mo_takenBy ∈ wsA := wA_s (y := y_Mo_takenBy) (n := 28) (by decide +kernel) rfl
theorem ws_Mo_search : Cond.selects "NetUnfolderModel" y_Mo_search y_Mo_search ∈ wsA := wA_s (y := y_Mo_search) (n := 28) (by decide +kernel) rfl
theorem ws_Mo_choices : Cond.selects "NetUnfolderModel" y_Mo_choices y_Mo_choices ∈ wsA := wA_s (y := y_Mo_choices) (n := 28) (by decide +kernel) rfl
theorem ws_Mo_further : Cond.selects "NetUnfolderModel" y_Mo_further y_Mo_further ∈ wsA := wA_s (y := y_Mo_further) (n := 28) (by decide +kernel) rfl
theorem ws_Mo_found : Cond.selects "NetUnfolderModel" y_Mo_found y_Mo_found ∈ wsA := wA_s (y := y_Mo_found) (n := 28) (by decide +kernel) rfl
theorem ws_Mo_isThere : Cond.selects "NetUnfolderModel" y_Mo_isThere y_Mo_isThere ∈ wsA := wA_s (y := y_Mo_isThere) (n := 28) (by decide +kernel) rfl
theorem ws_Mo_setOf : Cond.selects "NetUnfolderModel" y_Mo_setOf y_Mo_setOf ∈ wsA := wA_s (y := y_Mo_setOf) (n := 28) (by decide +kernel) rfl
theorem ws_Mo_behindAll : Cond.selects "NetUnfolderModel" y_Mo_behindAll y_Mo_behindAll ∈ wsA := wA_s (y := y_Mo_behindAll) (n := 28) (by decide +kernel) rfl
theorem ws_Mo_rankOf : Cond.selects "NetUnfolderModel" y_Mo_rankOf y_Mo_rankOf ∈ wsA := wA_s (y := y_Mo_rankOf) (n := 28) (by decide +kernel) rfl
theorem ws_Mo_twice : Cond.selects "NetUnfolderModel" y_Mo_twice y_Mo_twice ∈ wsA := wA_s (y := y_Mo_twice) (n := 28) (by decide +kernel) rfl
theorem ws_Mo_besideLeast : Cond.selects "NetUnfolderModel" y_Mo_besideLeast y_Mo_besideLeast ∈ wsA := wA_s (y := y_Mo_besideLeast) (n := 28) (by decide +kernel) rfl
theorem ws_Mo_addWay : Cond.selects "NetUnfolderModel" y_Mo_addWay y_Mo_addWay ∈ wsA := wA_s (y := y_Mo_addWay) (n := 28) (by decide +kernel) rfl
theorem ws_Mo_come : Cond.selects "NetUnfolderModel" y_Mo_come y_Mo_come ∈ wsA := wA_s (y := y_Mo_come) (n := 28) (by decide +kernel) rfl
theorem ws_Mo_markingOf : Cond.selects "NetUnfolderModel" y_Mo_markingOf y_Mo_markingOf ∈ wsA := wA_s (y := y_Mo_markingOf) (n := 28) (by decide +kernel) rfl
theorem ws_Mo_answer : Cond.selects "NetUnfolderModel" y_Mo_answer y_Mo_answer ∈ wsA := wA_s (y := y_Mo_answer) (n := 28) (by decide +kernel) rfl
theorem ws_Mo_stuck : Cond.selects "NetUnfolderModel" y_Mo_stuck y_Mo_stuck ∈ wsA := wA_s (y := y_Mo_stuck) (n := 28) (by decide +kernel) rfl
theorem ws_Mo_fits : Cond.selects "NetUnfolderModel" y_Mo_fits y_Mo_fits ∈ wsA := wA_s (y := y_Mo_fits) (n := 28) (by decide +kernel) rfl
theorem ws_Mo_refuse : Cond.selects "NetUnfolderModel" y_Mo_refuse y_Mo_refuse ∈ wsA := wA_s (y := y_Mo_refuse) (n := 28) (by decide +kernel) rfl
theorem in_NU : ∀ w ∈ u_ws "NetUnfolder" T_NU 5, w ∈ wsA := by
  show ∀ w ∈ ([(Jvm.Cond.laysFinal "NetUnfolder" "NetUnfolder" "net" "LNetUnfolder$Net;"), (Jvm.Cond.laysFinal "NetUnfolder" "NetUnfolder" "prefix" "LNetUnfolder$Prefix;"), (Jvm.Cond.laysFinal "NetUnfolder" "NetUnfolder" "latest" "LNetUnfolder$Way;"), (Jvm.Cond.laysFinal "NetUnfolder" "NetUnfolder" "unfolding" "LNetUnfolder$Unfolding;"), (Jvm.Cond.laysFinal "NetUnfolder" "NetUnfolder" "question" "LNetUnfolder$Question;")] : List Cond), w ∈ wsA
  exact List.forall_mem_cons.mpr ⟨wd_2_41, List.forall_mem_cons.mpr ⟨wd_2_43, List.forall_mem_cons.mpr ⟨wd_2_45, List.forall_mem_cons.mpr ⟨wd_2_47, List.forall_mem_cons.mpr ⟨wd_2_49, fun _ h => absurd h List.not_mem_nil⟩⟩⟩⟩⟩
theorem in_Ne : ∀ w ∈ u_ws "NetUnfolder$Net" T_Ne 4, w ∈ wsA := by
  show ∀ w ∈ ([(Jvm.Cond.laysFinal "NetUnfolder$Net" "NetUnfolder$Net" "preset" "[I"), (Jvm.Cond.laysFinal "NetUnfolder$Net" "NetUnfolder$Net" "postset" "[I"), (Jvm.Cond.lays "NetUnfolder$Net" "NetUnfolder$Net" "size" "I"), (Jvm.Cond.lays "NetUnfolder$Net" "NetUnfolder$Net" "first" "I")] : List Cond), w ∈ wsA
  exact List.forall_mem_cons.mpr ⟨wd_1_46, List.forall_mem_cons.mpr ⟨wd_1_48, List.forall_mem_cons.mpr ⟨wd_1_50, List.forall_mem_cons.mpr ⟨wd_1_52, fun _ h => absurd h List.not_mem_nil⟩⟩⟩⟩
theorem in_Pf : ∀ w ∈ u_ws "NetUnfolder$Prefix" T_Pf 14, w ∈ wsA := by
  show ∀ w ∈ ([(Jvm.Cond.lays "NetUnfolder$Prefix" "NetUnfolder$Prefix" "conditions" "I"), (Jvm.Cond.laysFinal "NetUnfolder$Prefix" "NetUnfolder$Prefix" "place" "[I"), (Jvm.Cond.laysFinal "NetUnfolder$Prefix" "NetUnfolder$Prefix" "maker" "[I"), (Jvm.Cond.laysFinal "NetUnfolder$Prefix" "NetUnfolder$Prefix" "takers" "[I"), (Jvm.Cond.laysFinal "NetUnfolder$Prefix" "NetUnfolder$Prefix" "beside" "[J"), (Jvm.Cond.laysFinal "NetUnfolder$Prefix" "NetUnfolder$Prefix" "ofPlace" "[J"), (Jvm.Cond.lays "NetUnfolder$Prefix" "NetUnfolder$Prefix" "events" "I"), (Jvm.Cond.laysFinal "NetUnfolder$Prefix" "NetUnfolder$Prefix" "transition" "[I"), (Jvm.Cond.laysFinal "NetUnfolder$Prefix" "NetUnfolder$Prefix" "taken" "[J"), (Jvm.Cond.laysFinal "NetUnfolder$Prefix" "NetUnfolder$Prefix" "causes" "[I"), (Jvm.Cond.laysFinal "NetUnfolder$Prefix" "NetUnfolder$Prefix" "marking" "[I"), (Jvm.Cond.laysFinal "NetUnfolder$Prefix" "NetUnfolder$Prefix" "rank" "[J"), (Jvm.Cond.lays "NetUnfolder$Prefix" "NetUnfolder$Prefix" "cutOffs" "I"), (Jvm.Cond.lays "NetUnfolder$Prefix" "NetUnfolder$Prefix" "whole" "Z")] : List Cond), w ∈ wsA
  exact List.forall_mem_cons.mpr ⟨wd_1_107, List.forall_mem_cons.mpr ⟨wd_1_109, List.forall_mem_cons.mpr ⟨wd_1_111, List.forall_mem_cons.mpr ⟨wd_1_113, List.forall_mem_cons.mpr ⟨wd_1_115, List.forall_mem_cons.mpr ⟨wd_1_117, List.forall_mem_cons.mpr ⟨wd_1_119, List.forall_mem_cons.mpr ⟨wd_1_121, List.forall_mem_cons.mpr ⟨wd_1_123, List.forall_mem_cons.mpr ⟨wd_1_125, List.forall_mem_cons.mpr ⟨wd_1_127, List.forall_mem_cons.mpr ⟨wd_1_129, List.forall_mem_cons.mpr ⟨wd_1_131, List.forall_mem_cons.mpr ⟨wd_1_133, fun _ h => absurd h List.not_mem_nil⟩⟩⟩⟩⟩⟩⟩⟩⟩⟩⟩⟩⟩⟩
theorem in_Wa : ∀ w ∈ u_ws "NetUnfolder$Way" T_Wa 2, w ∈ wsA := by
  show ∀ w ∈ ([(Jvm.Cond.laysFinal "NetUnfolder$Way" "NetUnfolder$Way" "steps" "[I"), (Jvm.Cond.lays "NetUnfolder$Way" "NetUnfolder$Way" "length" "I")] : List Cond), w ∈ wsA
  exact List.forall_mem_cons.mpr ⟨wd_1_147, List.forall_mem_cons.mpr ⟨wd_1_149, fun _ h => absurd h List.not_mem_nil⟩⟩
theorem in_Un : ∀ w ∈ u_ws "NetUnfolder$Unfolding" T_Un 4, w ∈ wsA := by
  show ∀ w ∈ ([(Jvm.Cond.laysFinal "NetUnfolder$Unfolding" "NetUnfolder$Unfolding" "net" "LNetUnfolder$Net;"), (Jvm.Cond.laysFinal "NetUnfolder$Unfolding" "NetUnfolder$Unfolding" "prefix" "LNetUnfolder$Prefix;"), (Jvm.Cond.laysFinal "NetUnfolder$Unfolding" "NetUnfolder$Unfolding" "way" "LNetUnfolder$Way;"), (Jvm.Cond.laysFinal "NetUnfolder$Unfolding" "NetUnfolder$Unfolding" "possible" "LNetUnfolder$Possible;")] : List Cond), w ∈ wsA
  exact List.forall_mem_cons.mpr ⟨wd_1_188, List.forall_mem_cons.mpr ⟨wd_1_190, List.forall_mem_cons.mpr ⟨wd_1_192, List.forall_mem_cons.mpr ⟨wd_1_194, fun _ h => absurd h List.not_mem_nil⟩⟩⟩⟩
theorem in_Po : ∀ w ∈ u_ws "NetUnfolder$Possible" T_Po 5, w ∈ wsA := by
  show ∀ w ∈ ([(Jvm.Cond.laysFinal "NetUnfolder$Possible" "NetUnfolder$Possible" "prefix" "LNetUnfolder$Prefix;"), (Jvm.Cond.lays "NetUnfolder$Possible" "NetUnfolder$Possible" "size" "I"), (Jvm.Cond.laysFinal "NetUnfolder$Possible" "NetUnfolder$Possible" "transition" "[I"), (Jvm.Cond.laysFinal "NetUnfolder$Possible" "NetUnfolder$Possible" "taken" "[J"), (Jvm.Cond.laysFinal "NetUnfolder$Possible" "NetUnfolder$Possible" "rank" "[J")] : List Cond), w ∈ wsA
  exact List.forall_mem_cons.mpr ⟨wd_1_173, List.forall_mem_cons.mpr ⟨wd_1_175, List.forall_mem_cons.mpr ⟨wd_1_177, List.forall_mem_cons.mpr ⟨wd_1_179, List.forall_mem_cons.mpr ⟨wd_1_181, fun _ h => absurd h List.not_mem_nil⟩⟩⟩⟩⟩
theorem in_Qu : ∀ w ∈ u_ws "NetUnfolder$Question" T_Qu 6, w ∈ wsA := by
  show ∀ w ∈ ([(Jvm.Cond.laysFinal "NetUnfolder$Question" "NetUnfolder$Question" "net" "LNetUnfolder$Net;"), (Jvm.Cond.laysFinal "NetUnfolder$Question" "NetUnfolder$Question" "prefix" "LNetUnfolder$Prefix;"), (Jvm.Cond.laysFinal "NetUnfolder$Question" "NetUnfolder$Question" "way" "LNetUnfolder$Way;"), (Jvm.Cond.laysFinal "NetUnfolder$Question" "NetUnfolder$Question" "clauses" "LNetUnfolder$Clauses;"), (Jvm.Cond.laysFinal "NetUnfolder$Question" "NetUnfolder$Question" "search" "LNetUnfolder$Search;"), (Jvm.Cond.lays "NetUnfolder$Question" "NetUnfolder$Question" "usable" "I")] : List Cond), w ∈ wsA
  exact List.forall_mem_cons.mpr ⟨wd_2_23, List.forall_mem_cons.mpr ⟨wd_2_25, List.forall_mem_cons.mpr ⟨wd_2_27, List.forall_mem_cons.mpr ⟨wd_2_29, List.forall_mem_cons.mpr ⟨wd_2_31, List.forall_mem_cons.mpr ⟨wd_2_33, fun _ h => absurd h List.not_mem_nil⟩⟩⟩⟩⟩⟩
theorem in_Cs : ∀ w ∈ u_ws "NetUnfolder$Clauses" T_Cs 4, w ∈ wsA := by
  show ∀ w ∈ ([(Jvm.Cond.laysFinal "NetUnfolder$Clauses" "NetUnfolder$Clauses" "yes" "[J"), (Jvm.Cond.laysFinal "NetUnfolder$Clauses" "NetUnfolder$Clauses" "no" "[J"), (Jvm.Cond.lays "NetUnfolder$Clauses" "NetUnfolder$Clauses" "size" "I"), (Jvm.Cond.lays "NetUnfolder$Clauses" "NetUnfolder$Clauses" "given" "I")] : List Cond), w ∈ wsA
  exact List.forall_mem_cons.mpr ⟨wd_1_217, List.forall_mem_cons.mpr ⟨wd_1_219, List.forall_mem_cons.mpr ⟨wd_1_221, List.forall_mem_cons.mpr ⟨wd_1_223, fun _ h => absurd h List.not_mem_nil⟩⟩⟩⟩
theorem in_Se : ∀ w ∈ u_ws "NetUnfolder$Search" T_Se 8, w ∈ wsA := by
  show ∀ w ∈ ([(Jvm.Cond.laysFinal "NetUnfolder$Search" "NetUnfolder$Search" "clauses" "LNetUnfolder$Clauses;"), (Jvm.Cond.lays "NetUnfolder$Search" "NetUnfolder$Search" "yes" "J"), (Jvm.Cond.lays "NetUnfolder$Search" "NetUnfolder$Search" "no" "J"), (Jvm.Cond.lays "NetUnfolder$Search" "NetUnfolder$Search" "level" "I"), (Jvm.Cond.laysFinal "NetUnfolder$Search" "NetUnfolder$Search" "setAt" "[J"), (Jvm.Cond.laysFinal "NetUnfolder$Search" "NetUnfolder$Search" "trail" "[I"), (Jvm.Cond.lays "NetUnfolder$Search" "NetUnfolder$Search" "trailSize" "I"), (Jvm.Cond.laysFinal "NetUnfolder$Search" "NetUnfolder$Search" "reason" "[I")] : List Cond), w ∈ wsA
  exact List.forall_mem_cons.mpr ⟨wd_2_0, List.forall_mem_cons.mpr ⟨wd_2_2, List.forall_mem_cons.mpr ⟨wd_2_4, List.forall_mem_cons.mpr ⟨wd_2_6, List.forall_mem_cons.mpr ⟨wd_2_8, List.forall_mem_cons.mpr ⟨wd_2_10, List.forall_mem_cons.mpr ⟨wd_2_12, List.forall_mem_cons.mpr ⟨wd_2_14, fun _ h => absurd h List.not_mem_nil⟩⟩⟩⟩⟩⟩⟩⟩
theorem in_Mo : ∀ w ∈ u_ws "NetUnfolderModel" T_Mo 28, w ∈ wsA := by
  show ∀ w ∈ ([(Jvm.Cond.lays "NetUnfolderModel" "NetUnfolderModel" "thrown" "I"), (Jvm.Cond.lays "NetUnfolderModel" "NetUnfolderModel" "transitions" "I"), (Jvm.Cond.laysFinal "NetUnfolderModel" "NetUnfolderModel" "pre" "[I"), (Jvm.Cond.laysFinal "NetUnfolderModel" "NetUnfolderModel" "post" "[I"), (Jvm.Cond.lays "NetUnfolderModel" "NetUnfolderModel" "first" "I"), (Jvm.Cond.lays "NetUnfolderModel" "NetUnfolderModel" "conditions" "I"), (Jvm.Cond.laysFinal "NetUnfolderModel" "NetUnfolderModel" "place" "[I"), (Jvm.Cond.laysFinal "NetUnfolderModel" "NetUnfolderModel" "maker" "[I"), (Jvm.Cond.laysFinal "NetUnfolderModel" "NetUnfolderModel" "behind" "[I"), (Jvm.Cond.laysFinal "NetUnfolderModel" "NetUnfolderModel" "beside" "[J"), (Jvm.Cond.lays "NetUnfolderModel" "NetUnfolderModel" "events" "I"), (Jvm.Cond.laysFinal "NetUnfolderModel" "NetUnfolderModel" "transition" "[I"), (Jvm.Cond.laysFinal "NetUnfolderModel" "NetUnfolderModel" "causes" "[I"), (Jvm.Cond.laysFinal "NetUnfolderModel" "NetUnfolderModel" "taken" "[J"), (Jvm.Cond.laysFinal "NetUnfolderModel" "NetUnfolderModel" "takes" "[I"), (Jvm.Cond.laysFinal "NetUnfolderModel" "NetUnfolderModel" "rank" "[J"), (Jvm.Cond.laysFinal "NetUnfolderModel" "NetUnfolderModel" "marking" "[I"), (Jvm.Cond.laysFinal "NetUnfolderModel" "NetUnfolderModel" "cut" "[Z"), (Jvm.Cond.lays "NetUnfolderModel" "NetUnfolderModel" "whole" "Z"), (Jvm.Cond.lays "NetUnfolderModel" "NetUnfolderModel" "possible" "I"), (Jvm.Cond.laysFinal "NetUnfolderModel" "NetUnfolderModel" "chosen" "[I"), (Jvm.Cond.laysFinal "NetUnfolderModel" "NetUnfolderModel" "open" "[J"), (Jvm.Cond.lays "NetUnfolderModel" "NetUnfolderModel" "leastRank" "J"), (Jvm.Cond.lays "NetUnfolderModel" "NetUnfolderModel" "leastTransition" "I"), (Jvm.Cond.lays "NetUnfolderModel" "NetUnfolderModel" "leastMany" "I"), (Jvm.Cond.laysFinal "NetUnfolderModel" "NetUnfolderModel" "least" "[I"), (Jvm.Cond.lays "NetUnfolderModel" "NetUnfolderModel" "length" "I"), (Jvm.Cond.laysFinal "NetUnfolderModel" "NetUnfolderModel" "way" "[I")] : List Cond), w ∈ wsA
  exact List.forall_mem_cons.mpr ⟨wd_4_28, List.forall_mem_cons.mpr ⟨wd_4_30, List.forall_mem_cons.mpr ⟨wd_4_32, List.forall_mem_cons.mpr ⟨wd_4_34, List.forall_mem_cons.mpr ⟨wd_4_36, List.forall_mem_cons.mpr ⟨wd_4_38, List.forall_mem_cons.mpr ⟨wd_4_40, List.forall_mem_cons.mpr ⟨wd_4_42, List.forall_mem_cons.mpr ⟨wd_4_44, List.forall_mem_cons.mpr ⟨wd_4_46, List.forall_mem_cons.mpr ⟨wd_4_48, List.forall_mem_cons.mpr ⟨wd_4_50, List.forall_mem_cons.mpr ⟨wd_4_52, List.forall_mem_cons.mpr ⟨wd_4_54, List.forall_mem_cons.mpr ⟨wd_4_56, List.forall_mem_cons.mpr ⟨wd_4_58, List.forall_mem_cons.mpr ⟨wd_4_60, List.forall_mem_cons.mpr ⟨wd_4_62, List.forall_mem_cons.mpr ⟨wd_4_64, List.forall_mem_cons.mpr ⟨wd_4_66, List.forall_mem_cons.mpr ⟨wd_4_68, List.forall_mem_cons.mpr ⟨wd_4_70, List.forall_mem_cons.mpr ⟨wd_4_72, List.forall_mem_cons.mpr ⟨wd_4_74, List.forall_mem_cons.mpr ⟨wd_4_76, List.forall_mem_cons.mpr ⟨wd_4_78, List.forall_mem_cons.mpr ⟨wd_4_80, List.forall_mem_cons.mpr ⟨wd_4_82, fun _ h => absurd h List.not_mem_nil⟩⟩⟩⟩⟩⟩⟩⟩⟩⟩⟩⟩⟩⟩⟩⟩⟩⟩⟩⟩⟩⟩⟩⟩⟩⟩⟩⟩
