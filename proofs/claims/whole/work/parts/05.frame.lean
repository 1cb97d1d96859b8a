def TB : u_T := fun k => match k with
  | 0 => ("WordShapes$Brackets", "kinds", "[I", true)
  | 1 => ("WordShapes$Brackets", "numbers", "[I", true)
  | _ => ("WordShapes$Brackets", "top", "I", false)
def ft_B : Nat → FieldType := fun k => match k with
  | 0 => .array .int
  | 1 => .array .int
  | _ => .int
theorem nm_B : ∀ a, a < 3 → ∀ b, b < 3 → a ≠ b → (TB a).2.1 ≠ (TB b).2.1 := by decide +kernel
theorem fo_B : ∀ k, k < 3 → parseFieldDescriptor (TB k).2.2.1 = some (ft_B k) := by decide +kernel
theorem iw_B : ∀ w ∈ u_ws "WordShapes$Brackets" TB 3, w ∈ GT := List.forall_mem_cons.mpr ⟨tk_78, List.forall_mem_cons.mpr ⟨tk_80, List.forall_mem_cons.mpr ⟨tk_82, fun _ h => absurd h List.not_mem_nil⟩⟩⟩
def TR : u_T := fun k => match k with
  | 0 => ("WordShapes$Reader", "text", "[B", true)
  | 1 => ("WordShapes$Reader", "digits", "I", true)
  | 2 => ("WordShapes$Reader", "draft", "LWordShapes$Shape;", true)
  | 3 => ("WordShapes$Reader", "open", "LWordShapes$Brackets;", true)
  | 4 => ("WordShapes$Reader", "length", "I", false)
  | 5 => ("WordShapes$Reader", "place", "I", false)
  | 6 => ("WordShapes$Reader", "faultKind", "I", false)
  | _ => ("WordShapes$Reader", "faultPlace", "I", false)
def ft_R : Nat → FieldType := fun k => match k with
  | 0 => .array .byte
  | 1 => .int
  | 2 => .object "WordShapes$Shape"
  | 3 => .object "WordShapes$Brackets"
  | 4 => .int
  | 5 => .int
  | 6 => .int
  | _ => .int
theorem nm_R : ∀ a, a < 8 → ∀ b, b < 8 → a ≠ b → (TR a).2.1 ≠ (TR b).2.1 := by decide +kernel
theorem fo_R : ∀ k, k < 8 → parseFieldDescriptor (TR k).2.2.1 = some (ft_R k) := by decide +kernel
theorem iw_R : ∀ w ∈ u_ws "WordShapes$Reader" TR 8, w ∈ GT := List.forall_mem_cons.mpr ⟨tk_97, List.forall_mem_cons.mpr ⟨tk_99, List.forall_mem_cons.mpr ⟨tk_101, List.forall_mem_cons.mpr ⟨tk_103, List.forall_mem_cons.mpr ⟨tk_105, List.forall_mem_cons.mpr ⟨tk_107, List.forall_mem_cons.mpr ⟨tk_109, List.forall_mem_cons.mpr ⟨tk_111, fun _ h => absurd h List.not_mem_nil⟩⟩⟩⟩⟩⟩⟩⟩
def TS : u_T := fun k => match k with
  | 0 => ("WordShapes$Shape", "plan", "[I", true)
  | 1 => ("WordShapes$Shape", "ordinates", "[I", true)
  | 2 => ("WordShapes$Shape", "numbers", "I", false)
  | _ => ("WordShapes$Shape", "points", "I", false)
def ft_S : Nat → FieldType := fun k => match k with
  | 0 => .array .int
  | 1 => .array .int
  | 2 => .int
  | _ => .int
theorem nm_S : ∀ a, a < 4 → ∀ b, b < 4 → a ≠ b → (TS a).2.1 ≠ (TS b).2.1 := by decide +kernel
theorem fo_S : ∀ k, k < 4 → parseFieldDescriptor (TS k).2.2.1 = some (ft_S k) := by decide +kernel
theorem iw_S : ∀ w ∈ u_ws "WordShapes$Shape" TS 4, w ∈ GT := List.forall_mem_cons.mpr ⟨tk_50, List.forall_mem_cons.mpr ⟨tk_52, List.forall_mem_cons.mpr ⟨tk_54, List.forall_mem_cons.mpr ⟨tk_56, fun _ h => absurd h List.not_mem_nil⟩⟩⟩⟩
def TT : u_T := fun k => match k with
  | 0 => ("WordShapes$Writer", "bytes", "[B", true)
  | 1 => ("WordShapes$Writer", "digits", "I", true)
  | 2 => ("WordShapes$Writer", "decimals", "[I", true)
  | 3 => ("WordShapes$Writer", "open", "LWordShapes$Brackets;", true)
  | 4 => ("WordShapes$Writer", "length", "I", false)
  | 5 => ("WordShapes$Writer", "keeps", "Z", false)
  | 6 => ("WordShapes$Writer", "laid", "I", false)
  | 7 => ("WordShapes$Writer", "nextNumber", "I", false)
  | 8 => ("WordShapes$Writer", "nextPoint", "I", false)
  | _ => ("WordShapes$Writer", "isFirst", "Z", false)
def ft_T : Nat → FieldType := fun k => match k with
  | 0 => .array .byte
  | 1 => .int
  | 2 => .array .int
  | 3 => .object "WordShapes$Brackets"
  | 4 => .int
  | 5 => .boolean
  | 6 => .int
  | 7 => .int
  | 8 => .int
  | _ => .boolean
theorem nm_T : ∀ a, a < 10 → ∀ b, b < 10 → a ≠ b → (TT a).2.1 ≠ (TT b).2.1 := by decide +kernel
theorem fo_T : ∀ k, k < 10 → parseFieldDescriptor (TT k).2.2.1 = some (ft_T k) := by decide +kernel
theorem iw_T : ∀ w ∈ u_ws "WordShapes$Writer" TT 10, w ∈ GT := List.forall_mem_cons.mpr ⟨tk_134, List.forall_mem_cons.mpr ⟨tk_136, List.forall_mem_cons.mpr ⟨tk_138, List.forall_mem_cons.mpr ⟨tk_140, List.forall_mem_cons.mpr ⟨tk_142, List.forall_mem_cons.mpr ⟨tk_144, List.forall_mem_cons.mpr ⟨tk_146, List.forall_mem_cons.mpr ⟨tk_148, List.forall_mem_cons.mpr ⟨tk_150, List.forall_mem_cons.mpr ⟨tk_152, fun _ h => absurd h List.not_mem_nil⟩⟩⟩⟩⟩⟩⟩⟩⟩⟩
def TW : u_T := fun k => match k with
  | 0 => ("WordShapes", "slots", "[LWordShapes$Shape;", true)
  | 1 => ("WordShapes", "tape", "[B", true)
  | 2 => ("WordShapes", "reader", "LWordShapes$Reader;", true)
  | 3 => ("WordShapes", "writer", "LWordShapes$Writer;", true)
  | _ => ("WordShapes", "tapeLength", "I", false)
def ft_W : Nat → FieldType := fun k => match k with
  | 0 => .array (.object "WordShapes$Shape")
  | 1 => .array .byte
  | 2 => .object "WordShapes$Reader"
  | 3 => .object "WordShapes$Writer"
  | _ => .int
theorem nm_W : ∀ a, a < 5 → ∀ b, b < 5 → a ≠ b → (TW a).2.1 ≠ (TW b).2.1 := by decide +kernel
theorem fo_W : ∀ k, k < 5 → parseFieldDescriptor (TW k).2.2.1 = some (ft_W k) := by decide +kernel
theorem iw_W : ∀ w ∈ u_ws "WordShapes" TW 5, w ∈ GT := List.forall_mem_cons.mpr ⟨tk_160, List.forall_mem_cons.mpr ⟨tk_162, List.forall_mem_cons.mpr ⟨tk_164, List.forall_mem_cons.mpr ⟨tk_166, List.forall_mem_cons.mpr ⟨tk_168, fun _ h => absurd h List.not_mem_nil⟩⟩⟩⟩⟩
def TM : u_T := fun k => match k with
  | 0 => ("WordShapesModel", "letters", "[I", true)
  | 1 => ("WordShapesModel", "begins", "[I", true)
  | 2 => ("WordShapesModel", "thrown", "I", false)
  | 3 => ("WordShapesModel", "digits", "I", true)
  | 4 => ("WordShapesModel", "mostPoints", "I", true)
  | 5 => ("WordShapesModel", "mostPlan", "I", true)
  | 6 => ("WordShapesModel", "fed", "I", false)
  | 7 => ("WordShapesModel", "tape", "[I", true)
  | 8 => ("WordShapesModel", "plan", "[I", true)
  | 9 => ("WordShapesModel", "planned", "[I", true)
  | 10 => ("WordShapesModel", "xy", "[I", true)
  | 11 => ("WordShapesModel", "points", "[I", true)
  | 12 => ("WordShapesModel", "size", "I", false)
  | 13 => ("WordShapesModel", "result", "[I", true)
  | 14 => ("WordShapesModel", "out", "[I", true)
  | 15 => ("WordShapesModel", "written", "I", false)
  | 16 => ("WordShapesModel", "slot", "I", false)
  | 17 => ("WordShapesModel", "at", "I", false)
  | 18 => ("WordShapesModel", "fault", "I", false)
  | 19 => ("WordShapesModel", "place", "I", false)
  | 20 => ("WordShapesModel", "value", "I", false)
  | 21 => ("WordShapesModel", "openAt", "[I", true)
  | 22 => ("WordShapesModel", "openCount", "[I", true)
  | _ => ("WordShapesModel", "openKind", "[I", true)
def ft_M : Nat → FieldType := fun k => match k with
  | 0 => .array .int
  | 1 => .array .int
  | 2 => .int
  | 3 => .int
  | 4 => .int
  | 5 => .int
  | 6 => .int
  | 7 => .array .int
  | 8 => .array .int
  | 9 => .array .int
  | 10 => .array .int
  | 11 => .array .int
  | 12 => .int
  | 13 => .array .int
  | 14 => .array .int
  | 15 => .int
  | 16 => .int
  | 17 => .int
  | 18 => .int
  | 19 => .int
  | 20 => .int
  | 21 => .array .int
  | 22 => .array .int
  | _ => .array .int
theorem nm_M : ∀ a, a < 24 → ∀ b, b < 24 → a ≠ b → (TM a).2.1 ≠ (TM b).2.1 := by decide +kernel
theorem fo_M : ∀ k, k < 24 → parseFieldDescriptor (TM k).2.2.1 = some (ft_M k) := by decide +kernel
theorem iw_M : ∀ w ∈ u_ws "WordShapesModel" TM 24, w ∈ GT := List.forall_mem_cons.mpr ⟨tk_707, List.forall_mem_cons.mpr ⟨tk_709, List.forall_mem_cons.mpr ⟨tk_711, List.forall_mem_cons.mpr ⟨tk_713, List.forall_mem_cons.mpr ⟨tk_715, List.forall_mem_cons.mpr ⟨tk_717, List.forall_mem_cons.mpr ⟨tk_719, List.forall_mem_cons.mpr ⟨tk_721, List.forall_mem_cons.mpr ⟨tk_723, List.forall_mem_cons.mpr ⟨tk_725, List.forall_mem_cons.mpr ⟨tk_727, List.forall_mem_cons.mpr ⟨tk_729, List.forall_mem_cons.mpr ⟨tk_731, List.forall_mem_cons.mpr ⟨tk_733, List.forall_mem_cons.mpr ⟨tk_735, List.forall_mem_cons.mpr ⟨tk_737, List.forall_mem_cons.mpr ⟨tk_739, List.forall_mem_cons.mpr ⟨tk_741, List.forall_mem_cons.mpr ⟨tk_743, List.forall_mem_cons.mpr ⟨tk_745, List.forall_mem_cons.mpr ⟨tk_747, List.forall_mem_cons.mpr ⟨tk_749, List.forall_mem_cons.mpr ⟨tk_751, List.forall_mem_cons.mpr ⟨tk_753, fun _ h => absurd h List.not_mem_nil⟩⟩⟩⟩⟩⟩⟩⟩⟩⟩⟩⟩⟩⟩⟩⟩⟩⟩⟩⟩⟩⟩⟩⟩
abbrev vwC : List vw_C := [("WordShapes$Brackets", TB, 3), ("WordShapes$Reader", TR, 8), ("WordShapes$Shape", TS, 4), ("WordShapes$Writer", TT, 10), ("WordShapes", TW, 5), ("WordShapesModel", TM, 24)]
/-- the constants of a run: the classes' numbers and slots, the array classes (int, byte, Shape, long), the strings' addresses and their values' -/
abbrev gl : Type := (Nat → ClassId) × (Nat → Nat → Nat) × (Nat → ClassId) × (Nat → Nat) × (Nat → Nat)
abbrev gD (G : gl) : va_G := (G.1, G.2.1)
abbrev gc (G : gl) (k : Nat) : ClassId := G.2.2.1 k
abbrev gs (G : gl) (k : Nat) : Nat := G.2.2.2.1 k
abbrev gv (G : gl) (k : Nat) : Nat := G.2.2.2.2 k
abbrev gT (G : gl) : List (ClassId × FieldType) := [(gc G 0, .int), (gc G 1, .byte), (gc G 2, .object "WordShapes$Shape"), (gc G 3, .long)]
/-- links of nest mates -/
def NWs (U : State) : Prop := va_Nw (Jvm.Cond.fieldLinkNest "WordShapes$Writer" 51 "WordShapes$Shape" "numbers" "I" "WordShapes") U ∧ va_Nw (Jvm.Cond.fieldLinkNest "WordShapes$Reader" 97 "WordShapes$Shape" "numbers" "I" "WordShapes") U ∧ va_Nw (Jvm.Cond.fieldLinkNest "WordShapes" 137 "WordShapes$Shape" "numbers" "I" "WordShapes") U ∧ va_Nw (Jvm.Cond.fieldLinkNest "WordShapes$Writer" 56 "WordShapes$Shape" "points" "I" "WordShapes") U ∧ va_Nw (Jvm.Cond.fieldLinkNest "WordShapes" 142 "WordShapes$Shape" "points" "I" "WordShapes") U ∧ va_Nw (Jvm.Cond.methodLinkNest "WordShapes$Reader" 11 ({ cls := "WordShapes$Brackets", name := "<init>", desc := "()V" } : Jvm.MethodName) "WordShapes") U ∧ va_Nw (Jvm.Cond.fieldLinkNest "WordShapes$Writer" 59 "WordShapes$Brackets" "top" "I" "WordShapes") U ∧ va_Nw (Jvm.Cond.fieldLinkNest "WordShapes$Reader" 106 "WordShapes$Brackets" "top" "I" "WordShapes") U ∧ va_Nw (Jvm.Cond.fieldLinkNest "WordShapes" 82 "WordShapes$Reader" "draft" "LWordShapes$Shape;" "WordShapes") U ∧ va_Nw (Jvm.Cond.fieldLinkNest "WordShapes" 94 "WordShapes$Reader" "faultKind" "I" "WordShapes") U ∧ va_Nw (Jvm.Cond.fieldLinkNest "WordShapes" 97 "WordShapes$Reader" "faultPlace" "I" "WordShapes") U ∧ va_Nw (Jvm.Cond.methodLinkNest "WordShapes$Writer" 22 ({ cls := "WordShapes$Brackets", name := "<init>", desc := "()V" } : Jvm.MethodName) "WordShapes") U ∧ va_Nw (Jvm.Cond.fieldLinkNest "WordShapes" 124 "WordShapes$Writer" "bytes" "[B" "WordShapes") U ∧ va_Nw (Jvm.Cond.fieldLinkNest "WordShapes" 121 "WordShapes$Writer" "length" "I" "WordShapes") U ∧ va_Nw (Jvm.Cond.castable "java/lang/IllegalStateException" "java/lang/IllegalStateException") U ∧ va_Nw (Jvm.Cond.declares ({ cls := "java/lang/RuntimeException", name := "<init>", desc := "(Ljava/lang/String;)V" } : Jvm.MethodName)) U ∧ va_Nw (Jvm.Cond.declares ({ cls := "java/lang/Exception", name := "<init>", desc := "(Ljava/lang/String;)V" } : Jvm.MethodName)) U ∧ va_Nw (Jvm.Cond.declares ({ cls := "java/lang/Throwable", name := "<init>", desc := "(Ljava/lang/String;)V" } : Jvm.MethodName)) U ∧ va_Nw (Jvm.Cond.castable "java/lang/IllegalArgumentException" "java/lang/IllegalArgumentException") U ∧ va_Nw (Jvm.Cond.castable "java/lang/IndexOutOfBoundsException" "java/lang/IndexOutOfBoundsException") U ∧ va_Nw (Jvm.Cond.methodLinkNest "WordShapes$Reader" 173 ({ cls := "WordShapes", name := "wordOf", desc := "(I)Ljava/lang/String;" } : Jvm.MethodName) "WordShapes") U ∧ va_Nw (Jvm.Cond.methodLinkNest "WordShapes$Writer" 86 ({ cls := "WordShapes", name := "wordOf", desc := "(I)Ljava/lang/String;" } : Jvm.MethodName) "WordShapes") U ∧ va_Nw (Jvm.Cond.castable "java/lang/UnsupportedOperationException" "java/lang/UnsupportedOperationException") U
theorem NWs.warm {s U : State} (hW : s.WarmedH U.vm) (h : NWs s) : NWs U := ⟨va_Nw.warmF hW h.1, va_Nw.warmF hW h.2.1, va_Nw.warmF hW h.2.2.1, va_Nw.warmF hW h.2.2.2.1, va_Nw.warmF hW h.2.2.2.2.1, va_Nw.warmM hW h.2.2.2.2.2.1, va_Nw.warmF hW h.2.2.2.2.2.2.1, va_Nw.warmF hW h.2.2.2.2.2.2.2.1, va_Nw.warmF hW h.2.2.2.2.2.2.2.2.1, va_Nw.warmF hW h.2.2.2.2.2.2.2.2.2.1, va_Nw.warmF hW h.2.2.2.2.2.2.2.2.2.2.1, va_Nw.warmM hW h.2.2.2.2.2.2.2.2.2.2.2.1, va_Nw.warmF hW h.2.2.2.2.2.2.2.2.2.2.2.2.1, va_Nw.warmF hW h.2.2.2.2.2.2.2.2.2.2.2.2.2.1, va_Nw.warmC hW h.2.2.2.2.2.2.2.2.2.2.2.2.2.2.1, va_Nw.warmD hW h.2.2.2.2.2.2.2.2.2.2.2.2.2.2.2.1, va_Nw.warmD hW h.2.2.2.2.2.2.2.2.2.2.2.2.2.2.2.2.1, va_Nw.warmD hW h.2.2.2.2.2.2.2.2.2.2.2.2.2.2.2.2.2.1, va_Nw.warmC hW h.2.2.2.2.2.2.2.2.2.2.2.2.2.2.2.2.2.2.1, va_Nw.warmC hW h.2.2.2.2.2.2.2.2.2.2.2.2.2.2.2.2.2.2.2.1, va_Nw.warmM hW h.2.2.2.2.2.2.2.2.2.2.2.2.2.2.2.2.2.2.2.2.1, va_Nw.warmM hW h.2.2.2.2.2.2.2.2.2.2.2.2.2.2.2.2.2.2.2.2.2.1, va_Nw.warmC hW h.2.2.2.2.2.2.2.2.2.2.2.2.2.2.2.2.2.2.2.2.2.2⟩
theorem nw_44 {U : State} (h : NWs U) : va_Nw (Jvm.Cond.fieldLinkNest "WordShapes$Writer" 51 "WordShapes$Shape" "numbers" "I" "WordShapes") U := h.1
theorem nw_45 {U : State} (h : NWs U) : va_Nw (Jvm.Cond.fieldLinkNest "WordShapes$Reader" 97 "WordShapes$Shape" "numbers" "I" "WordShapes") U := h.2.1
theorem nw_46 {U : State} (h : NWs U) : va_Nw (Jvm.Cond.fieldLinkNest "WordShapes" 137 "WordShapes$Shape" "numbers" "I" "WordShapes") U := h.2.2.1
theorem nw_48 {U : State} (h : NWs U) : va_Nw (Jvm.Cond.fieldLinkNest "WordShapes$Writer" 56 "WordShapes$Shape" "points" "I" "WordShapes") U := h.2.2.2.1
theorem nw_49 {U : State} (h : NWs U) : va_Nw (Jvm.Cond.fieldLinkNest "WordShapes" 142 "WordShapes$Shape" "points" "I" "WordShapes") U := h.2.2.2.2.1
theorem nw_69 {U : State} (h : NWs U) : va_Nw (Jvm.Cond.methodLinkNest "WordShapes$Reader" 11 ({ cls := "WordShapes$Brackets", name := "<init>", desc := "()V" } : Jvm.MethodName) "WordShapes") U := h.2.2.2.2.2.1
theorem nw_76 {U : State} (h : NWs U) : va_Nw (Jvm.Cond.fieldLinkNest "WordShapes$Writer" 59 "WordShapes$Brackets" "top" "I" "WordShapes") U := h.2.2.2.2.2.2.1
theorem nw_77 {U : State} (h : NWs U) : va_Nw (Jvm.Cond.fieldLinkNest "WordShapes$Reader" 106 "WordShapes$Brackets" "top" "I" "WordShapes") U := h.2.2.2.2.2.2.2.1
theorem nw_89 {U : State} (h : NWs U) : va_Nw (Jvm.Cond.fieldLinkNest "WordShapes" 82 "WordShapes$Reader" "draft" "LWordShapes$Shape;" "WordShapes") U := h.2.2.2.2.2.2.2.2.1
theorem nw_94 {U : State} (h : NWs U) : va_Nw (Jvm.Cond.fieldLinkNest "WordShapes" 94 "WordShapes$Reader" "faultKind" "I" "WordShapes") U := h.2.2.2.2.2.2.2.2.2.1
theorem nw_96 {U : State} (h : NWs U) : va_Nw (Jvm.Cond.fieldLinkNest "WordShapes" 97 "WordShapes$Reader" "faultPlace" "I" "WordShapes") U := h.2.2.2.2.2.2.2.2.2.2.1
theorem nw_122 {U : State} (h : NWs U) : va_Nw (Jvm.Cond.methodLinkNest "WordShapes$Writer" 22 ({ cls := "WordShapes$Brackets", name := "<init>", desc := "()V" } : Jvm.MethodName) "WordShapes") U := h.2.2.2.2.2.2.2.2.2.2.2.1
theorem nw_124 {U : State} (h : NWs U) : va_Nw (Jvm.Cond.fieldLinkNest "WordShapes" 124 "WordShapes$Writer" "bytes" "[B" "WordShapes") U := h.2.2.2.2.2.2.2.2.2.2.2.2.1
theorem nw_128 {U : State} (h : NWs U) : va_Nw (Jvm.Cond.fieldLinkNest "WordShapes" 121 "WordShapes$Writer" "length" "I" "WordShapes") U := h.2.2.2.2.2.2.2.2.2.2.2.2.2.1
theorem nw_192 {U : State} (h : NWs U) : va_Nw (Jvm.Cond.castable "java/lang/IllegalStateException" "java/lang/IllegalStateException") U := h.2.2.2.2.2.2.2.2.2.2.2.2.2.2.1
theorem nw_194 {U : State} (h : NWs U) : va_Nw (Jvm.Cond.declares ({ cls := "java/lang/RuntimeException", name := "<init>", desc := "(Ljava/lang/String;)V" } : Jvm.MethodName)) U := h.2.2.2.2.2.2.2.2.2.2.2.2.2.2.2.1
theorem nw_196 {U : State} (h : NWs U) : va_Nw (Jvm.Cond.declares ({ cls := "java/lang/Exception", name := "<init>", desc := "(Ljava/lang/String;)V" } : Jvm.MethodName)) U := h.2.2.2.2.2.2.2.2.2.2.2.2.2.2.2.2.1
theorem nw_198 {U : State} (h : NWs U) : va_Nw (Jvm.Cond.declares ({ cls := "java/lang/Throwable", name := "<init>", desc := "(Ljava/lang/String;)V" } : Jvm.MethodName)) U := h.2.2.2.2.2.2.2.2.2.2.2.2.2.2.2.2.2.1
theorem nw_272 {U : State} (h : NWs U) : va_Nw (Jvm.Cond.castable "java/lang/IllegalArgumentException" "java/lang/IllegalArgumentException") U := h.2.2.2.2.2.2.2.2.2.2.2.2.2.2.2.2.2.2.1
theorem nw_301 {U : State} (h : NWs U) : va_Nw (Jvm.Cond.castable "java/lang/IndexOutOfBoundsException" "java/lang/IndexOutOfBoundsException") U := h.2.2.2.2.2.2.2.2.2.2.2.2.2.2.2.2.2.2.2.1
theorem nw_385 {U : State} (h : NWs U) : va_Nw (Jvm.Cond.methodLinkNest "WordShapes$Reader" 173 ({ cls := "WordShapes", name := "wordOf", desc := "(I)Ljava/lang/String;" } : Jvm.MethodName) "WordShapes") U := h.2.2.2.2.2.2.2.2.2.2.2.2.2.2.2.2.2.2.2.2.1
theorem nw_582 {U : State} (h : NWs U) : va_Nw (Jvm.Cond.methodLinkNest "WordShapes$Writer" 86 ({ cls := "WordShapes", name := "wordOf", desc := "(I)Ljava/lang/String;" } : Jvm.MethodName) "WordShapes") U := h.2.2.2.2.2.2.2.2.2.2.2.2.2.2.2.2.2.2.2.2.2.1
theorem nw_615 {U : State} (h : NWs U) : va_Nw (Jvm.Cond.castable "java/lang/UnsupportedOperationException" "java/lang/UnsupportedOperationException") U := h.2.2.2.2.2.2.2.2.2.2.2.2.2.2.2.2.2.2.2.2.2.2
theorem NWs.same {s U : State} (e : s.vm = U.vm) (h : NWs s) : NWs U := ⟨va_Nw.same rfl e h.1, va_Nw.same rfl e h.2.1, va_Nw.same rfl e h.2.2.1, va_Nw.same rfl e h.2.2.2.1, va_Nw.same rfl e h.2.2.2.2.1, va_Nw.same rfl e h.2.2.2.2.2.1, va_Nw.same rfl e h.2.2.2.2.2.2.1, va_Nw.same rfl e h.2.2.2.2.2.2.2.1, va_Nw.same rfl e h.2.2.2.2.2.2.2.2.1, va_Nw.same rfl e h.2.2.2.2.2.2.2.2.2.1, va_Nw.same rfl e h.2.2.2.2.2.2.2.2.2.2.1, va_Nw.same rfl e h.2.2.2.2.2.2.2.2.2.2.2.1, va_Nw.same rfl e h.2.2.2.2.2.2.2.2.2.2.2.2.1, va_Nw.same rfl e h.2.2.2.2.2.2.2.2.2.2.2.2.2.1, va_Nw.same rfl e h.2.2.2.2.2.2.2.2.2.2.2.2.2.2.1, va_Nw.same rfl e h.2.2.2.2.2.2.2.2.2.2.2.2.2.2.2.1, va_Nw.same rfl e h.2.2.2.2.2.2.2.2.2.2.2.2.2.2.2.2.1, va_Nw.same rfl e h.2.2.2.2.2.2.2.2.2.2.2.2.2.2.2.2.2.1, va_Nw.same rfl e h.2.2.2.2.2.2.2.2.2.2.2.2.2.2.2.2.2.2.1, va_Nw.same rfl e h.2.2.2.2.2.2.2.2.2.2.2.2.2.2.2.2.2.2.2.1, va_Nw.same rfl e h.2.2.2.2.2.2.2.2.2.2.2.2.2.2.2.2.2.2.2.2.1, va_Nw.same rfl e h.2.2.2.2.2.2.2.2.2.2.2.2.2.2.2.2.2.2.2.2.2.1, va_Nw.same rfl e h.2.2.2.2.2.2.2.2.2.2.2.2.2.2.2.2.2.2.2.2.2.2⟩
/-- the string constants, by their places -/
def SRs (G : gl) (U : State) : Prop := vk_R "WordShapes" 57 "the tape is full" (gs G 0) U ∧ vk_R "WordShapes" 67 "n is not 0 .. 20" (gs G 1) U ∧ vk_R "WordShapes" 70 "the tape has less than twenty bytes" (gs G 2) U ∧ vk_R "WordShapes" 156 "no such slot" (gs G 3) U ∧ vk_R "WordShapes$Reader" 196 "something is wrong in the text" (gs G 4) U ∧ vk_R "WordShapes" 158 "POINT" (gs G 5) U ∧ vk_R "WordShapes" 160 "LINESTRING" (gs G 6) U ∧ vk_R "WordShapes" 162 "POLYGON" (gs G 7) U ∧ vk_R "WordShapes" 164 "MULTIPOINT" (gs G 8) U ∧ vk_R "WordShapes" 166 "MULTILINESTRING" (gs G 9) U ∧ vk_R "WordShapes" 168 "MULTIPOLYGON" (gs G 10) U ∧ vk_R "WordShapes" 170 "GEOMETRYCOLLECTION" (gs G 11) U ∧ vk_R "WordShapes$Reader" 181 "EMPTY" (gs G 12) U ∧ vk_R "WordShapes" 102 "a fault has 0 and 1" (gs G 13) U ∧ vk_R "WordShapes" 109 "the slot has no shape" (gs G 14) U ∧ vk_R "WordShapes$Writer" 105 "EMPTY" (gs G 15) U ∧ vk_R "WordShapes" 118 "the result would be too long" (gs G 16) U ∧ vk_R "WordShapes" 140 "no such number of the plan" (gs G 17) U ∧ vk_R "WordShapes" 145 "no such point" (gs G 18) U ∧ vk_R "WordShapes" 147 "a point has 0 and 1" (gs G 19) U ∧ vk_R "WordShapes" 152 "no such byte of the result" (gs G 20) U ∧ vk_R "WordShapes" 154 "what is counted is 0 .. 3" (gs G 21) U
theorem SRs.warm {G : gl} {s U : State} (hW : s.WarmedH U.vm) (h : SRs G s) : SRs G U := ⟨vk_R.warm hW h.1, vk_R.warm hW h.2.1, vk_R.warm hW h.2.2.1, vk_R.warm hW h.2.2.2.1, vk_R.warm hW h.2.2.2.2.1, vk_R.warm hW h.2.2.2.2.2.1, vk_R.warm hW h.2.2.2.2.2.2.1, vk_R.warm hW h.2.2.2.2.2.2.2.1, vk_R.warm hW h.2.2.2.2.2.2.2.2.1, vk_R.warm hW h.2.2.2.2.2.2.2.2.2.1, vk_R.warm hW h.2.2.2.2.2.2.2.2.2.2.1, vk_R.warm hW h.2.2.2.2.2.2.2.2.2.2.2.1, vk_R.warm hW h.2.2.2.2.2.2.2.2.2.2.2.2.1, vk_R.warm hW h.2.2.2.2.2.2.2.2.2.2.2.2.2.1, vk_R.warm hW h.2.2.2.2.2.2.2.2.2.2.2.2.2.2.1, vk_R.warm hW h.2.2.2.2.2.2.2.2.2.2.2.2.2.2.2.1, vk_R.warm hW h.2.2.2.2.2.2.2.2.2.2.2.2.2.2.2.2.1, vk_R.warm hW h.2.2.2.2.2.2.2.2.2.2.2.2.2.2.2.2.2.1, vk_R.warm hW h.2.2.2.2.2.2.2.2.2.2.2.2.2.2.2.2.2.2.1, vk_R.warm hW h.2.2.2.2.2.2.2.2.2.2.2.2.2.2.2.2.2.2.2.1, vk_R.warm hW h.2.2.2.2.2.2.2.2.2.2.2.2.2.2.2.2.2.2.2.2.1, vk_R.warm hW h.2.2.2.2.2.2.2.2.2.2.2.2.2.2.2.2.2.2.2.2.2⟩
theorem sr_232 {G : gl} {U : State} (h : SRs G U) : vk_R "WordShapes" 57 "the tape is full" (gs G 0) U := h.1
theorem sr_279 {G : gl} {U : State} (h : SRs G U) : vk_R "WordShapes" 67 "n is not 0 .. 20" (gs G 1) U := h.2.1
theorem sr_286 {G : gl} {U : State} (h : SRs G U) : vk_R "WordShapes" 70 "the tape has less than twenty bytes" (gs G 2) U := h.2.2.1
theorem sr_308 {G : gl} {U : State} (h : SRs G U) : vk_R "WordShapes" 156 "no such slot" (gs G 3) U := h.2.2.2.1
theorem sr_375 {G : gl} {U : State} (h : SRs G U) : vk_R "WordShapes$Reader" 196 "something is wrong in the text" (gs G 4) U := h.2.2.2.2.1
theorem sr_388 {G : gl} {U : State} (h : SRs G U) : vk_R "WordShapes" 158 "POINT" (gs G 5) U := h.2.2.2.2.2.1
theorem sr_389 {G : gl} {U : State} (h : SRs G U) : vk_R "WordShapes" 160 "LINESTRING" (gs G 6) U := h.2.2.2.2.2.2.1
theorem sr_390 {G : gl} {U : State} (h : SRs G U) : vk_R "WordShapes" 162 "POLYGON" (gs G 7) U := h.2.2.2.2.2.2.2.1
theorem sr_391 {G : gl} {U : State} (h : SRs G U) : vk_R "WordShapes" 164 "MULTIPOINT" (gs G 8) U := h.2.2.2.2.2.2.2.2.1
theorem sr_392 {G : gl} {U : State} (h : SRs G U) : vk_R "WordShapes" 166 "MULTILINESTRING" (gs G 9) U := h.2.2.2.2.2.2.2.2.2.1
theorem sr_393 {G : gl} {U : State} (h : SRs G U) : vk_R "WordShapes" 168 "MULTIPOLYGON" (gs G 10) U := h.2.2.2.2.2.2.2.2.2.2.1
theorem sr_394 {G : gl} {U : State} (h : SRs G U) : vk_R "WordShapes" 170 "GEOMETRYCOLLECTION" (gs G 11) U := h.2.2.2.2.2.2.2.2.2.2.2.1
theorem sr_467 {G : gl} {U : State} (h : SRs G U) : vk_R "WordShapes$Reader" 181 "EMPTY" (gs G 12) U := h.2.2.2.2.2.2.2.2.2.2.2.2.1
theorem sr_548 {G : gl} {U : State} (h : SRs G U) : vk_R "WordShapes" 102 "a fault has 0 and 1" (gs G 13) U := h.2.2.2.2.2.2.2.2.2.2.2.2.2.1
theorem sr_561 {G : gl} {U : State} (h : SRs G U) : vk_R "WordShapes" 109 "the slot has no shape" (gs G 14) U := h.2.2.2.2.2.2.2.2.2.2.2.2.2.2.1
theorem sr_597 {G : gl} {U : State} (h : SRs G U) : vk_R "WordShapes$Writer" 105 "EMPTY" (gs G 15) U := h.2.2.2.2.2.2.2.2.2.2.2.2.2.2.2.1
theorem sr_622 {G : gl} {U : State} (h : SRs G U) : vk_R "WordShapes" 118 "the result would be too long" (gs G 16) U := h.2.2.2.2.2.2.2.2.2.2.2.2.2.2.2.2.1
theorem sr_647 {G : gl} {U : State} (h : SRs G U) : vk_R "WordShapes" 140 "no such number of the plan" (gs G 17) U := h.2.2.2.2.2.2.2.2.2.2.2.2.2.2.2.2.2.1
theorem sr_655 {G : gl} {U : State} (h : SRs G U) : vk_R "WordShapes" 145 "no such point" (gs G 18) U := h.2.2.2.2.2.2.2.2.2.2.2.2.2.2.2.2.2.2.1
theorem sr_656 {G : gl} {U : State} (h : SRs G U) : vk_R "WordShapes" 147 "a point has 0 and 1" (gs G 19) U := h.2.2.2.2.2.2.2.2.2.2.2.2.2.2.2.2.2.2.2.1
theorem sr_665 {G : gl} {U : State} (h : SRs G U) : vk_R "WordShapes" 152 "no such byte of the result" (gs G 20) U := h.2.2.2.2.2.2.2.2.2.2.2.2.2.2.2.2.2.2.2.2.1
theorem sr_673 {G : gl} {U : State} (h : SRs G U) : vk_R "WordShapes" 154 "what is counted is 0 .. 3" (gs G 21) U := h.2.2.2.2.2.2.2.2.2.2.2.2.2.2.2.2.2.2.2.2.2
theorem SRs.same {G : gl} {s U : State} (e : U.vm = s.vm) (h : SRs G s) : SRs G U := ⟨vk_R.same e h.1, vk_R.same e h.2.1, vk_R.same e h.2.2.1, vk_R.same e h.2.2.2.1, vk_R.same e h.2.2.2.2.1, vk_R.same e h.2.2.2.2.2.1, vk_R.same e h.2.2.2.2.2.2.1, vk_R.same e h.2.2.2.2.2.2.2.1, vk_R.same e h.2.2.2.2.2.2.2.2.1, vk_R.same e h.2.2.2.2.2.2.2.2.2.1, vk_R.same e h.2.2.2.2.2.2.2.2.2.2.1, vk_R.same e h.2.2.2.2.2.2.2.2.2.2.2.1, vk_R.same e h.2.2.2.2.2.2.2.2.2.2.2.2.1, vk_R.same e h.2.2.2.2.2.2.2.2.2.2.2.2.2.1, vk_R.same e h.2.2.2.2.2.2.2.2.2.2.2.2.2.2.1, vk_R.same e h.2.2.2.2.2.2.2.2.2.2.2.2.2.2.2.1, vk_R.same e h.2.2.2.2.2.2.2.2.2.2.2.2.2.2.2.2.1, vk_R.same e h.2.2.2.2.2.2.2.2.2.2.2.2.2.2.2.2.2.1, vk_R.same e h.2.2.2.2.2.2.2.2.2.2.2.2.2.2.2.2.2.2.1, vk_R.same e h.2.2.2.2.2.2.2.2.2.2.2.2.2.2.2.2.2.2.2.1, vk_R.same e h.2.2.2.2.2.2.2.2.2.2.2.2.2.2.2.2.2.2.2.2.1, vk_R.same e h.2.2.2.2.2.2.2.2.2.2.2.2.2.2.2.2.2.2.2.2.2⟩
/-- a string of one-byte characters -/
def ST1 (a v : Nat) (byt : List Int32) (A : Nat → Prop) (U : State) (H : Heap) : Prop := va_O "java/lang/String" a A U H ∧ va_OF "java/lang/String" "coder" "B" (.int 0) a A U H ∧ va_OF "java/lang/String" "value" "[B" (.ref v) a A U H ∧ va_T .byte v byt.length (fun j => .int (byt.getD j 0)) A U H
theorem ST1.moved {a v : Nat} {byt : List Int32} {A : Nat → Prop} {u U : State} {H : Heap} (hvm : u.vm.Alike U.vm) (h : ST1 a v byt A u H) : ST1 a v byt A U H := ⟨va_O.moved hvm h.1, va_OF.moved hvm h.2.1, va_OF.moved hvm h.2.2.1, va_T.moved hvm h.2.2.2⟩
theorem ST1.kept {a v : Nat} {byt : List Int32} {A : Nat → Prop} {U : State} {H H1 : Heap} (h : ST1 a v byt A U H) (hq : ∀ a : Nat, a < H.size → ¬ A a → H1[a]? = H[a]?) : ST1 a v byt A U H1 := ⟨h.1.kept hq, h.2.1.kept hq, h.2.2.1.kept hq, h.2.2.2.kept hq⟩
theorem ST1.narrow {a v : Nat} {byt : List Int32} {A B : Nat → Prop} {U : State} {H : Heap} (h : ST1 a v byt A U H) (hAB : ∀ q, B q → A q) : ST1 a v byt B U H := ⟨h.1.narrow hAB, h.2.1.narrow hAB, h.2.2.1.narrow hAB, h.2.2.2.narrow hAB⟩
/-- the letters of the words, by their number 1 .. 8 (8: EMPTY) -/
def wdL : Nat → List Nat := fun k => match k with
  | 1 => [80, 79, 73, 78, 84]
  | 2 => [76, 73, 78, 69, 83, 84, 82, 73, 78, 71]
  | 3 => [80, 79, 76, 89, 71, 79, 78]
  | 4 => [77, 85, 76, 84, 73, 80, 79, 73, 78, 84]
  | 5 => [77, 85, 76, 84, 73, 76, 73, 78, 69, 83, 84, 82, 73, 78, 71]
  | 6 => [77, 85, 76, 84, 73, 80, 79, 76, 89, 71, 79, 78]
  | 7 => [71, 69, 79, 77, 69, 84, 82, 89, 67, 79, 76, 76, 69, 67, 84, 73, 79, 78]
  | 8 => [69, 77, 80, 84, 89]
  | _ => []
def wdI (k : Nat) : List Int32 := (wdL k).map nI
/-- where the strings of the words stand: 5: ('WordShapes', '158', 'POINT'), 6: ('WordShapes', '160', 'LINESTRING'), 7: ('WordShapes', '162', 'POLYGON'), 8: ('WordShapes', '164', 'MULTIPOINT'), 9: ('WordShapes', '166', 'MULTILINESTRING'), 10: ('WordShapes', '168', 'MULTIPOLYGON'), 11: ('WordShapes', '170', 'GEOMETRYCOLLECTION'), 12: ('WordShapes$Reader', '181', 'EMPTY'), 15: ('WordShapes$Writer', '105', 'EMPTY') -/
def STs (G : gl) (A : Nat → Prop) (U : State) (H : Heap) : Prop := ST1 (gs G 5) (gv G 5) (wdI 1) A U H ∧ ST1 (gs G 6) (gv G 6) (wdI 2) A U H ∧ ST1 (gs G 7) (gv G 7) (wdI 3) A U H ∧ ST1 (gs G 8) (gv G 8) (wdI 4) A U H ∧ ST1 (gs G 9) (gv G 9) (wdI 5) A U H ∧ ST1 (gs G 10) (gv G 10) (wdI 6) A U H ∧ ST1 (gs G 11) (gv G 11) (wdI 7) A U H ∧ ST1 (gs G 12) (gv G 12) (wdI 8) A U H ∧ ST1 (gs G 15) (gv G 15) (wdI 8) A U H
theorem STs.moved {G : gl} {A : Nat → Prop} {u U : State} {H : Heap} (hvm : u.vm.Alike U.vm) (h : STs G A u H) : STs G A U H := ⟨ST1.moved hvm h.1, ST1.moved hvm h.2.1, ST1.moved hvm h.2.2.1, ST1.moved hvm h.2.2.2.1, ST1.moved hvm h.2.2.2.2.1, ST1.moved hvm h.2.2.2.2.2.1, ST1.moved hvm h.2.2.2.2.2.2.1, ST1.moved hvm h.2.2.2.2.2.2.2.1, ST1.moved hvm h.2.2.2.2.2.2.2.2⟩
theorem STs.kept {G : gl} {A : Nat → Prop} {U : State} {H H1 : Heap} (h : STs G A U H) (hq : ∀ a : Nat, a < H.size → ¬ A a → H1[a]? = H[a]?) : STs G A U H1 := ⟨ST1.kept h.1 hq, ST1.kept h.2.1 hq, ST1.kept h.2.2.1 hq, ST1.kept h.2.2.2.1 hq, ST1.kept h.2.2.2.2.1 hq, ST1.kept h.2.2.2.2.2.1 hq, ST1.kept h.2.2.2.2.2.2.1 hq, ST1.kept h.2.2.2.2.2.2.2.1 hq, ST1.kept h.2.2.2.2.2.2.2.2 hq⟩
theorem STs.narrow {G : gl} {A : Nat → Prop} {B : Nat → Prop} {U : State} {H : Heap} (h : STs G A U H) (hAB : ∀ q, B q → A q) : STs G B U H := ⟨ST1.narrow h.1 hAB, ST1.narrow h.2.1 hAB, ST1.narrow h.2.2.1 hAB, ST1.narrow h.2.2.2.1 hAB, ST1.narrow h.2.2.2.2.1 hAB, ST1.narrow h.2.2.2.2.2.1 hAB, ST1.narrow h.2.2.2.2.2.2.1 hAB, ST1.narrow h.2.2.2.2.2.2.2.1 hAB, ST1.narrow h.2.2.2.2.2.2.2.2 hAB⟩
/-- what every method may lean on: nest links, strings, the statics of Throwable and String -/
def EV (G : gl) (A : Nat → Prop) (U : State) (H : Heap) : Prop := NWs U ∧ SRs G U ∧ STs G A U H ∧ vx_Zq Bundle.tN "UNASSIGNED_STACK" Bundle.steD A U H ∧ vx_Zq Bundle.tN "SUPPRESSED_SENTINEL" Bundle.listD A U H ∧ va_Z "java/lang/String" "COMPACT_STRINGS" "Z" (.int 1) A U H ∧ va_Zq "jdk/internal/util/Preconditions" "SIOOBE_FORMATTER" "Ljava/util/function/BiFunction;" A U H
theorem EV.into {G : gl} {A B : Nat → Prop} {s U : State} {H : Heap} (h : EV G A s s.heap) (hq : ∀ a : Nat, a < s.heap.size → ¬ A a → H[a]? = s.heap[a]?) (hW : s.WarmedH U.vm) (hU : U.heap = H) (hAB : ∀ q, B q → A q) : EV G B U U.heap := by
  subst hU
  obtain ⟨h1, h2, h3, h4, h5, h6, h7⟩ := h
  exact ⟨h1.warm hW, h2.warm hW, ((h3.kept hq).narrow hAB).moved hW.alike, ((h4.kept hq).narrow hAB).moved hW.alike, ((h5.kept hq).narrow hAB).moved hW.alike, ((h6.kept hq).narrow hAB).moved hW.alike, ((h7.kept hq).narrow hAB).moved hW.alike⟩
theorem EV.same {G : gl} {A : Nat → Prop} {s U : State} {H : Heap} (h : EV G A s H) (e : s.vm = U.vm) : EV G A U H := by
  obtain ⟨h1, h2, h3, h4, h5, h6, h7⟩ := h
  have ha : s.vm.Alike U.vm := by rw [e]; exact Vm.Alike.refl _
  exact ⟨h1.same e, h2.same e.symm, h3.moved ha, h4.moved ha, h5.moved ha, h6.moved ha, h7.moved ha⟩
/-- a method's start: its world, and what it may lean on -/
def PW (G : gl) (ws : va_W) (sz : Nat) (U : State) : Prop := U.heap.size = sz ∧ EV G (va_A ws sz) U U.heap ∧ va_P (gD G) vwC ws U.heap ∧ va_K (gD G) vwC (gT G) U ∧ va_D (fun _ => True) ws
theorem pw_blind {G : gl} {av : List Value} {ws : va_W} {sz : Nat} : FrameBlind (va_Pc av (PW G ws sz)) := by
  intro a U g mk q
  obtain ⟨q0, q1, q2, q3, q4, q5⟩ := q
  exact ⟨q0, q1, q2.same (U := U.calling g mk a) rfl, q3, va_K.moved (u := U) (U := U.calling g mk a) (Vm.Alike.refl U.vm) q4, q5⟩
/-- a method's end, with a value and a world -/
def yB (G : gl) (A : Nat → Prop) (n : Nat) (w : va_W) (st t : State) : Prop := w.length = n ∧ va_P (gD G) vwC w t.heap ∧ va_K (gD G) vwC (gT G) t ∧ va_D A w ∧ va_F A st t
def yE (G : gl) (A : Nat → Prop) (n : Nat) (post : Option Value → va_W → Prop) (st : State) (v : Option Value) (t : State) : Prop := ∃ w, post v w ∧ yB G A n w st t
def yX (G : gl) (A : Nat → Prop) (n : Nat) (px : String → va_W → Prop) : String → State → State → Prop := fun E st t => ∃ w, px E w ∧ yB G A n w st t
def yQ (G : gl) (A : Nat → Prop) (n : Nat) (post : Option Value → va_W → Prop) (px : String → va_W → Prop) : Array Value → State → Outcome → State → Prop := fun _ st o t =>
  (∃ v, o = .returned v ∧ yE G A n post st v t ∧ ∃ L, FrameEnd st o t L 0 0 ∧ ∀ q ∈ L, A q.base) ∨ ∃ q, o = .threw q ∧ vx_T (yX G A n px) st q t 1 6 A
def yMQ (below : List Frame) (G : gl) (A : Nat → Prop) (n : Nat) (post : Option Value → va_W → Prop) (px : String → va_W → Prop) (a : Array Value) (s : State) : State → Prop := fun t => ∃ o, t.status = .running ∧ Ended t below o ∧ yQ G A n post px a s o t
abbrev yR (fr lo : Nat) : Room := { frames := fr, cells := 1, slots := 6, locals := lo }
/-- THE CONTRACT of a method: from the world ws, with the arguments av, it returns v with a world w ('post v w') and no new cell, or throws an E with a world w ('px E w') -/
def YC (l : Launch) (G : gl) (y : MethodName) (cc : ByteArray) (maxL : Nat) (ret : Option FieldType) (fr lo : Nat) (av : List Value) (ws : va_W) (post : Option Value → va_W → Prop) (px : String → va_W → Prop) : Prop :=
  ∀ sz : Nat, MetFree l y (headSpec (Cond.code y cc maxL ret :: GT) (yR fr lo)) (va_Pc av (PW G ws sz)) (fun _ _ _ _ _ => True) (yQ G (va_A ws sz) ws.length post px)
/-- what a body has at hand -/
def Cx (l : Launch) (G : gl) (A : Nat → Prop) (y : MethodName) (cc : ByteArray) (maxL : Nat) (ret : Option FieldType) (av : List Value) (p : Program) (s : State) (m : MethodId) (meth : Method) (c : Code) : Prop :=
  p.tables.exec = Jvm.exec ∧ c.code = cc ∧ meth.sig.returnType = ret ∧ c.maxLocals = maxL ∧ s.vm.findClass y.cls = some m.cls ∧ (∀ w ∈ GT, w.before av.toArray s = true) ∧ meth.locks = false ∧ (∀ x ∈ c.exceptionTable.toList, False) ∧ EV G A s s.heap ∧ va_K (gD G) vwC (gT G) s ∧ (∀ q : Nat, s.heap.size ≤ q → A q) ∧ meth.name = y.name
theorem yc_of {l : Launch} {G : gl} {y : MethodName} {cc : ByteArray} {maxL : Nat} {ret : Option FieldType} {fr lo : Nat} {av : List Value} {ws : va_W} {post : Option Value → va_W → Prop} {px : String → va_W → Prop} (hy : plainName y.cls = true)
    (body : ∀ (p : Program) (e : Env) (s : State) (m : MethodId) (below : List Frame) (meth : Method) (c : Code) (A : Nat → Prop), Cx l G A y cc maxL ret av p s m meth c → va_P (gD G) vwC ws s.heap → va_D A ws →
      W p l e (yR fr lo) s m av.toArray below meth c s.heap [] 0 0 (yMQ below G A ws.length post px av.toArray s) (entryFrame m av.toArray maxL)) : YC l G y cc maxL ret fr lo av ws post px := by
  intro sz
  refine MetFree.of_bodyS (code := cc) (maxLocals := maxL) (ret := ret) hy ?_ ?_
  · intro args s m h hn
    obtain ⟨meth, c, h1, h2, h3, h4, h5, h6, -, -⟩ := Cond.code_spec hn (atoms_spec (ws := Cond.code y cc maxL ret :: GT) h _ List.mem_cons_self)
    exact ⟨meth, c, h1, h2, h3, h4, h5, h6⟩
  · intro p e s m args below meth c s₁ B hml hP _
    obtain ⟨rfl, hsz, hE, hP, hK, hD⟩ := hP
    subst hsz
    have hh0 : s₁.heap = s.heap := by rw [B.state]; rfl
    have ht : ∀ x ∈ c.exceptionTable.toList, False := by
      obtain ⟨meth9, c9, h1, h2, -, -, -, -, h7, -⟩ := Cond.code_spec B.named (atoms_spec (ws := Cond.code y cc maxL ret :: GT) B.pre _ List.mem_cons_self)
      cases Option.some.inj (h1.symm.trans B.method)
      cases Option.some.inj (h2.symm.trans (Stand.of_body B).code)
      intro x hx
      have h0 : c.exceptionTable.size = 0 := by simpa [Array.isEmpty] using h7
      have h1 : c.exceptionTable.toList = [] := List.eq_nil_of_length_eq_zero (by simpa using h0)
      rw [h1] at hx
      cases hx
    have hts := atoms_spec (ws := Cond.code y cc maxL ret :: GT) B.pre
    obtain ⟨t, a1, o, b1, b2, b3⟩ := body p e s m below meth c (va_A ws s.heap.size) ⟨B.exec, B.bytes, B.returns, hml, findClass_of_methodNamed B.named, fun w hw => hts w (List.mem_cons_of_mem _ hw), B.notSynchronized, ht, hE, hK, fun q h => Or.inr h, (name_of_methodNamed B.named B.method).1⟩ hP hD.self s₁ hh0 (Stand.of_body B)
    exact ⟨t, o, a1, b1, b2, b3⟩
section YCall
variable {l : Launch} {R : Room} {p : Program} {e : Env} {below : List Frame} {s : State} {sargs : Array Value} {y : MethodName} {len W9 : Nat}
def yPost (G : gl) (A1 : Nat → Prop) (n : Nat) (post : Option Value → va_W → Prop) : Pt → Array Value → Option Value → Pt → Prop := fun A a v B =>
  ∃ (g : JFrame) (mk : MethodId) (t : State) (L : List Loc), B.U.heap = t.heap ∧ B.U.vm = t.vm ∧ yE G A1 n post (A.U.calling g mk a) v t ∧ B.locs = A.locs ++ L ∧ (∀ q ∈ L, A1 q.base) ∧ B.cells = A.cells ∧ B.slots = A.slots
theorem y_back {G : gl} {cc : ByteArray} {maxL : Nat} {ret : Option FieldType} {fr lo : Nat} {av : List Value} {ws : va_W} {post : Option Value → va_W → Prop} {px : String → va_W → Prop}
    (hM : YC l G y cc maxL ret fr lo av ws post px) (sz : Nat) (hframes : fr + 1 ≤ R.frames) (hlocals : W9 + (maxL + 11) + lo ≤ R.locals)
    (hws : ∀ w ∈ Cond.code y cc maxL ret :: GT, ∀ (a' : Array Value) (U : State), s.WarmedH U.vm → w.before a' U = true) (hinit : ∀ (a' : Array Value) (U : State), s.WarmedH U.vm → (Cond.initialized y.cls).before a' U = true) :
    vx_Back l R p e below s sargs y len W9 (PreOf R 1 6 (va_Pc av (PW G ws sz))) (yPost G (va_A ws sz) ws.length post) (vx_Post (yX G (va_A ws sz) ws.length px) 1 6 (va_A ws sz)) := by
  intro m meth c A g ig mk a X hg hsize hdg hW hn hp
  have h1 : (headSpec (Cond.code y cc maxL ret :: GT) (yR fr lo)).pre.before a A.U = true := atoms_intro fun w hw => hws w hw _ _ X.warmed
  have h2 : (Cond.code y cc maxL ret).before a A.U = true := hws _ List.mem_cons_self _ _ X.warmed
  have h3 : (Cond.initialized y.cls).before a A.U = true := hinit _ _ X.warmed
  have h4 : A.cells + (headSpec (Cond.code y cc maxL ret :: GT) (yR fr lo)).room.cells ≤ R.cells := hp.1
  have h5 : A.slots + (headSpec (Cond.code y cc maxL ret :: GT) (yR fr lo)).room.slots ≤ R.slots := hp.2.1
  have hPc : va_Pc av (PW G ws sz) a (A.U.calling g mk a) := pw_blind _ _ _ _ hp.2.2
  obtain ⟨U, Ls, c0, s0⟩ := A
  dsimp only [Pt.U, Pt.locs, Pt.cells, Pt.slots] at h1 h2 h3 h4 h5 X hn hPc ⊢
  obtain ⟨methY, cY, hmY, hcY, -, hlY, -, -, -, -⟩ := Cond.code_spec hn h2
  obtain ⟨kY, hkY, -⟩ := className_of_methodNamed hn
  have hinitY : kY.init = .initialized := Cond.initialized_spec (findClass_of_methodNamed hn) hkY h3
  have h : At U g.method c below := by rw [hg]; exact X.here
  have hlocals9 : W9 + (maxL + 11) + (headSpec (Cond.code y cc maxL ret :: GT) (yR fr lo)).room.locals ≤ R.locals := hlocals
  have happ : (headSpec (Cond.code y cc maxL ret :: GT) (yR fr lo)).appliesLoose y e.platform (U.calling g mk a) = true :=
    Spec.appliesLoose_calling (g := g) h hdg hn hkY hinitY
      (X.room_calling (g := g) (R' := (headSpec (Cond.code y cc maxL ret :: GT) (yR fr lo)).room) hsize hmY hcY hframes (by rw [hlY]; omega) h4 h5) h1
  obtain ⟨mid, hmid⟩ := h.above
  have hfr : (U.setTop g).frames = (.java g :: mid) ++ below := by rw [State.frames_setTop' g h.top, hmid]; rfl
  obtain ⟨o, s₂, hsteps, -, hend, hq⟩ := Steps.callFree (hM sz) p X.admits X.cas X.clock (acts := []) hfr happ hPc trivial
  have hq' : yQ G (va_A ws sz) ws.length post px a (U.calling g mk a) o s₂ := hq
  rw [State.frames_setTop' g h.top] at hend
  obtain ⟨g₀, hg0⟩ := Option.isSome_iff_exists.mp h.top
  obtain ⟨r, hr⟩ := State.topJava?_eq_some.mp hg0
  have hr' : (({ U with heap := s₂.heap, slotsUsed := s₂.slotsUsed } : State).setVm s₂.vm).frames = .java g₀ :: r := hr
  rcases hq' with ⟨v, rfl, hqc, L, hfe, hL⟩ | ⟨q, rfl, E, ce, L, hx, hce, hcv, hcl, hW₂, hsm, hL⟩
  · obtain ⟨-, hW₂, e2, q2, q3, q4, q5, q6⟩ := id hfe
    have e3 : s₂ = ({ (U.calling g mk a).setFrames s₂.frames with heap := s₂.heap, slotsUsed := s₂.slotsUsed } : State).setVm s₂.vm := by
      have : s₂ = ({ s₂ with vm := (U.calling g mk a).vm } : State).setVm s₂.vm := rfl
      rw [e2] at this
      exact this
    obtain ⟨c₂, i₂, len₂, hc₂, hd₂, hf₂⟩ := hend
    have hW' : U.WarmedH s₂.vm := hW₂
    have hcc : c₂ = c := by
      have h1 : s₂.code? g.method = U.code? g.method := by
        rw [State.code?_eq, State.code?_eq, hW'.alike.method?]
      exact Option.some.inj (hc₂.symm.trans (h1.trans h.code))
    subst hcc
    have hlen : len₂ = len := by rw [hdg] at hd₂; cases hd₂; rfl
    subst hlen
    have hs₂ : s₂ = (({ U with heap := s₂.heap, slotsUsed := s₂.slotsUsed } : State).setVm s₂.vm).setTop { g with pc := g.pc + len₂, stack := v.toList ++ g.stack } := by
      refine e3.trans ?_
      rw [hf₂, State.calling_eq h.top, State.setFrames_setFrames, State.setTop_of_frames _ hr', hr]
      rfl
    have hsame : U.sameButNew ({ U with heap := s₂.heap, slotsUsed := s₂.slotsUsed } : State) L 0 0 := by
      refine ⟨?_, q2, q3, q4, q5, q6⟩
      obtain ⟨t, ht, -⟩ := State.frames_cons hr
      show ({ U with heap := s₂.heap, slotsUsed := s₂.slotsUsed } : State) = { U.setFrames U.frames with heap := s₂.heap, slotsUsed := s₂.slotsUsed }
      rw [State.setFrames_self ht]
    subst hg
    refine Or.inl ⟨v, ⟨(({ U with heap := s₂.heap, slotsUsed := s₂.slotsUsed } : State).setVm s₂.vm), Ls ++ L, c0, s0⟩,
      ⟨X.admits, X.cas, X.clock, X.frames, X.room, X.hears, X.method, X.code, (X.here.setHeapUsed s₂.heap s₂.slotsUsed).setVm hW'.alike, X.tail, State.WarmedH.trans X.warmed hW', X.limits, X.bytes, X.same.trans (hsame.setVm s.vm)⟩,
      ⟨g, mk, s₂, L, rfl, rfl, hqc, rfl, hL, rfl, rfl⟩, ?_⟩
    show Steps p.tables e below _ ((({ U with heap := s₂.heap, slotsUsed := s₂.slotsUsed } : State).setVm s₂.vm).setTop { g with pc := g.pc + len₂, stack := v.toList ++ g.stack })
    rw [← hs₂]
    exact hsteps
  · obtain ⟨e2, q2, q3, q4, q5, q6⟩ := id hsm
    have e3 : s₂ = ({ (U.calling g mk a).setFrames s₂.frames with heap := s₂.heap, slotsUsed := s₂.slotsUsed } : State).setVm s₂.vm := by
      have : s₂ = ({ s₂ with vm := (U.calling g mk a).vm } : State).setVm s₂.vm := rfl
      rw [e2] at this
      exact this
    have hf₂ : s₂.frames = .throwing q :: .java g :: U.frames.tail := hend
    have hW' : U.WarmedH s₂.vm := hW₂
    have hs₂ : s₂ = ((({ U with heap := s₂.heap, slotsUsed := s₂.slotsUsed } : State).setVm s₂.vm).setTop g).pushFrame (.throwing q) := by
      refine e3.trans ?_
      rw [hf₂, State.calling_eq h.top, State.setFrames_setFrames, State.pushFrame, State.frames_setTop _ hr', State.setTop_of_frames _ hr', State.setFrames_setFrames, hr]
      rfl
    have hsame : U.sameButNew ({ U with heap := s₂.heap, slotsUsed := s₂.slotsUsed } : State) L 1 6 := by
      refine ⟨?_, q2, q3, q4, q5, q6⟩
      obtain ⟨t, ht, -⟩ := State.frames_cons hr
      show ({ U with heap := s₂.heap, slotsUsed := s₂.slotsUsed } : State) = { U.setFrames U.frames with heap := s₂.heap, slotsUsed := s₂.slotsUsed }
      rw [State.setFrames_self ht]
    subst hg
    refine Or.inr ⟨q, ⟨(({ U with heap := s₂.heap, slotsUsed := s₂.slotsUsed } : State).setVm s₂.vm), Ls ++ L, c0 + 1, s0 + 6⟩,
      ⟨X.admits, X.cas, X.clock, X.frames, X.room, X.hears, X.method, X.code, (X.here.setHeapUsed s₂.heap s₂.slotsUsed).setVm hW'.alike, X.tail, State.WarmedH.trans X.warmed hW', X.limits, X.bytes, X.same.trans (hsame.setVm s.vm)⟩,
      ⟨g, mk, s₂, L, E, ce, rfl, rfl, hx, hce, hcv, hcl, rfl, hL, rfl, rfl⟩, ?_⟩
    show Steps p.tables e below _ (((({ U with heap := s₂.heap, slotsUsed := s₂.slotsUsed } : State).setVm s₂.vm).setTop g).pushFrame (.throwing q))
    rw [← hs₂]
    exact hsteps
end YCall
/-- ws with the cells at the places is put in anew -/
def va_rep (ws : va_W) : List Nat → va_W → va_W
  | i :: is, c :: w => (va_rep ws is w).set i c
  | _, _ => ws
theorem va_rep_len (ws : va_W) : ∀ (is : List Nat) (w : va_W), (va_rep ws is w).length = ws.length
  | [], w => by simp [va_rep]
  | i :: is, [] => by simp [va_rep]
  | i :: is, c :: w => by simp [va_rep, va_rep_len ws is w]
theorem va_rep_get (ws : va_W) : ∀ (is : List Nat) (w : va_W), w.length = is.length → ∀ (k : Nat) (q : Nat × va_E), (va_rep ws is w)[k]? = some q → (∃ j : Nat, is[j]? = some k ∧ w[j]? = some q) ∨ (k ∉ is ∧ ws[k]? = some q)
  | [], w, _, k, q, h => by
    cases w with
    | nil => exact Or.inr ⟨List.not_mem_nil, h⟩
    | cons c w => exact Or.inr ⟨List.not_mem_nil, h⟩
  | i :: is, [], hl, k, q, h => by simp at hl
  | i :: is, c :: w, hl, k, q, h => by
    have hl' : w.length = is.length := by simpa using hl
    have h' : ((va_rep ws is w).set i c)[k]? = some q := h
    by_cases hk : i = k
    · subst hk
      rw [List.getElem?_set] at h'
      simp only [if_true] at h'
      by_cases hlt : i < (va_rep ws is w).length
      · rw [if_pos hlt] at h'
        cases h'
        exact Or.inl ⟨0, rfl, rfl⟩
      · rw [if_neg hlt] at h'
        cases h'
    · rw [List.getElem?_set_ne hk] at h'
      rcases va_rep_get ws is w hl' k q h' with ⟨j, h1, h2⟩ | ⟨h1, h2⟩
      · exact Or.inl ⟨j + 1, by simpa using h1, by simpa using h2⟩
      · exact Or.inr ⟨fun hm => (List.mem_cons.mp hm).elim (fun e => hk e.symm) h1, h2⟩
theorem va_repP {A0 : Nat → Prop} {D : va_G} {cl : List vw_C} {ws wc w1 : va_W} {H H1 : Heap} (hP : va_P D cl ws H) (hD : va_D A0 ws) (isC : List Nat) (hC : isC.map (fun i => ws[i]?) = wc.map some) (hl : w1.length = wc.length)
    (hk : ∀ q : Nat, q < H.size → ¬ va_A wc H.size q → H1[q]? = H[q]?) (hF : ∀ q, va_A wc H.size q → A0 q) (hP1 : va_P D cl w1 H1) (hD1 : va_D (va_A wc H.size) w1) : va_P D cl (va_rep ws isC w1) H1 ∧ va_D A0 (va_rep ws isC w1) := by
  have hl2 : w1.length = isC.length := by
    have := congrArg List.length hC
    simp only [List.length_map] at this
    omega
  have atC : ∀ (k : Nat) (q : Nat × va_E), wc[k]? = some q → ∃ i, isC[k]? = some i ∧ ws[i]? = some q := by
    intro k q hq
    have h1 : (isC.map (fun i => ws[i]?))[k]? = some (some q) := by rw [hC, List.getElem?_map, hq]; rfl
    rw [List.getElem?_map] at h1
    cases hi : isC[k]? with
    | none => rw [hi] at h1; cases h1
    | some i => rw [hi] at h1; exact ⟨i, rfl, Option.some.inj h1⟩
  have apart : ∀ (k : Nat) (q : Nat × va_E), k ∉ isC → ws[k]? = some q → q.1 < H.size ∧ ¬ va_A wc H.size q.1 := by
    intro k q hk1 hq
    have hlt := (hP k q hq).lt
    refine ⟨hlt, fun h => ?_⟩
    rcases h with ⟨k2, e, h⟩ | h
    · obtain ⟨j, h3, h4⟩ := atC k2 (q.1, e) h
      have hij := hD.1 k j q (q.1, e) hq h4 rfl
      subst hij
      exact hk1 (List.mem_of_getElem? h3)
    · omega
  refine ⟨fun k q hq => ?_, fun i j x z hx hz hxz => ?_, fun k q hq => ?_⟩
  · rcases va_rep_get ws isC w1 hl2 k q hq with ⟨j, h1, h2⟩ | ⟨h1, h2⟩
    · exact hP1 j q h2
    · obtain ⟨g1, g2⟩ := apart k q h1 h2
      exact (hP k q h2).kept (hk q.1 g1 g2)
  · rcases va_rep_get ws isC w1 hl2 i x hx with ⟨a, h1, h2⟩ | ⟨h1, h2⟩ <;> rcases va_rep_get ws isC w1 hl2 j z hz with ⟨b, h3, h4⟩ | ⟨h3, h4⟩
    · have hab := hD1.1 a b x z h2 h4 hxz
      subst hab
      exact Option.some.inj (h1.symm.trans h3)
    · exact absurd (by rw [← hxz]; exact hD1.2 a x h2) (apart j z h3 h4).2
    · exact absurd (by rw [hxz]; exact hD1.2 b z h4) (apart i x h1 h2).2
    · exact hD.1 i j x z h2 h4 hxz
  · rcases va_rep_get ws isC w1 hl2 k q hq with ⟨j, h1, h2⟩ | ⟨h1, h2⟩
    · exact hF _ (hD1.2 j q h2)
    · exact hD.2 k q h2
section YRun
variable {p : Program} {l : Launch} {e : Env} {R : Room} {s : State} {m : MethodId} {args : Array Value} {below : List Frame} {meth : Method} {c : Code} {T : State} {H : Heap} {locs : List Loc} {cells slots : Nat} {Q : State → Prop}
def yRun (p : Program) (l : Launch) (e : Env) (R : Room) (s : State) (m : MethodId) (args : Array Value) (below : List Frame) (meth : Method) (c : Code) (H : Heap) (locs : List Loc) (cells slots : Nat) (g : JFrame) (rest : List Value) (G : gl) (A1 : Nat → Prop) (n : Nat) (post : Option Value → va_W → Prop) (px : String → va_W → Prop) : Prop :=
  ∀ T : State, T.heap = H → Stand p l e R s m args below meth c T locs cells slots →
    (∃ (v : Option Value) (st₀ t T' : State) (L : List Loc), st₀.heap = H ∧ Stand p l e R s m args below meth c T' (locs ++ L) cells slots ∧ (∀ q ∈ L, A1 q.base) ∧ T'.heap = t.heap ∧ T'.vm = t.vm ∧ yE G A1 n post st₀ v t ∧ Goes p e below T g T' { g with pc := g.pc + 3, stack := v.toList ++ rest }) ∨
    (∃ (q : Addr) (st₀ t T' : State) (L : List Loc) (E : String) (ce : Cell), st₀.heap = H ∧ Stand p l e R s m args below meth c T' (locs ++ L) (cells + 1) (slots + 6) ∧ (∀ z ∈ L, A1 z.base) ∧ T'.heap = t.heap ∧ T'.vm = t.vm ∧ yX G A1 n px E st₀ t ∧ t.heap[q]? = some ce ∧ ce.vm = .none ∧ s.vm.findClass E = some ce.cls ∧ Steps p.tables e below (T.setTop g) ((T'.setTop { g with stack := rest }).pushFrame (.throwing q)))
variable {G : gl} {y : MethodName} {bytes cc : ByteArray} {maxL nL n index fr lo : Nat} {ret : Option FieldType} {ws wc : va_W} {post : Option Value → va_W → Prop} {px : String → va_W → Prop} {Ts : List Cond} {own C : String} {b : Addr} {As rest : List Value} {g : JFrame} {A : Nat → Prop}
/-- what a call's words say: the callee's code and links in the tables, and room for it -/
abbrev YB (R : Room) (s : State) (args : Array Value) (own : String) (index : Nat) (y : MethodName) (bytes : ByteArray) (maxL : Nat) (ret : Option FieldType) (fr lo n : Nat) : Prop := CallB R s args own index y bytes maxL ret (Cond.code y bytes maxL ret :: GT) (yR fr lo) 1 6 n
theorem y_pre {av : List Value} (hE : EV G A s s.heap) (hK : va_K (gD G) vwC (gT G) s) (hP : va_P (gD G) vwC ws H) (hD : va_D A ws) (hS : va_S A s.heap H locs) (hA : ∀ q, s.heap.size ≤ q → A q) (isC : List Nat) (hn : va_nd isC = true) (hC : isC.map (fun i => ws[i]?) = wc.map some) :
    ∀ U : State, U.heap = H → s.WarmedH U.vm → va_Pc av (PW G wc H.size) av.toArray U := by
  intro U hU hW
  have hDc : va_D A wc := hD.sub isC hn hC
  have hPc : va_P (gD G) vwC wc H := by
    intro k q hq
    have h1 : (isC.map (fun i => ws[i]?))[k]? = some (some q) := by rw [hC, List.getElem?_map, hq]; rfl
    rw [List.getElem?_map] at h1
    cases hi : isC[k]? with
    | none => rw [hi] at h1; cases h1
    | some i => rw [hi] at h1; exact hP i q (Option.some.inj h1)
  exact ⟨rfl, by rw [hU], hE.into hS.2.1 hW hU (va_free hD hS hA isC hC), by rw [hU]; exact hPc, va_K.moved hW.alike hK, hDc.weaken (fun _ _ _ _ => trivial)⟩
theorem y_runV (hx : p.tables.exec = Jvm.exec) (hb : c.code = cc) (hml : c.maxLocals = nL) (ho : s.vm.findClass own = some m.cls) (hM : YC l G y bytes maxL ret fr lo (.ref b :: As) wc post px) (cw : YB R s args own index y bytes maxL ret fr lo n ∧ (Cond.instanceMethod y).before args s = true ∧ (Cond.selects C y y).before args s = true)
    (hrec : ∃ cellB : Cell, H[b]? = some cellB ∧ cellB.vm.isStatics = false ∧ s.vm.findClass C = some cellB.cls) (hPc : ∀ U : State, U.heap = H → s.WarmedH U.vm → va_Pc (.ref b :: As) (PW G wc H.size) (Value.ref b :: As).toArray U)
    (hg : g.method = m) (hn : As.length = n) (hsize : g.locals.size = nL) (hstack : g.stack = As.reverse ++ .ref b :: rest) (hW : 2 * g.monitorRoom + (rest.map fun v => v.category).sum ≤ 8) (hdg : decode cc g.pc = .ok (.invokevirtual index, 3)) (hf : cells + 1 ≤ R.cells ∧ slots + 6 ≤ R.slots) :
    yRun p l e R s m args below meth c H locs cells slots g rest G (va_A wc H.size) wc.length post px := by
  obtain ⟨⟨-, -, hfr, hlo, hws, -, hcode, hini, hy, hlen, hl⟩, hin, hse⟩ := cw
  have hK : vx_Back l R p e below s args y 3 8 (PreOf R 1 6 (va_Pc (.ref b :: As) (PW G wc H.size))) (yPost G (va_A wc H.size) wc.length post) (vx_Post (yX G (va_A wc H.size) wc.length px) 1 6 (va_A wc H.size)) :=
    y_back hM H.size hfr hlo hws (fun a' U hW => word_at hW (Or.inl (by first | rfl | simp [Cond.onTables, Cond.keeps, Cond.steady])) hini)
  obtain ⟨cellB, hcB, hoB, hclB⟩ := hrec
  intro T hT X
  rcases vx_callV X hx (C := C) (bytes := bytes) (maxL := maxL) (ret := ret) ho hl hin hse hcode hy hK (by rw [hT]; exact hcB) hoB hclB hg (hsize.trans hml.symm) (argsL := As) (rest := rest) (fun sig h => hn.trans (hlen sig h)) hstack hW (by rw [hb]; exact hdg)
    (fun vm₁ hW₁ => ⟨hf.1, hf.2, hPc (T.setVm vm₁) hT hW₁⟩) with ⟨v, vm₁, ⟨U', l2, c2, s2⟩, hW₁, X', ⟨g', mk, t, L, e1, e2, hq, h1, hL, h2, h3⟩, st⟩ | ⟨q, vm₁, ⟨U', l2, c2, s2⟩, hW₁, X', ⟨g', mk, t, L, E, ce, e1, e2, hq, hce, hcv, hcl, h1, hL, h2, h3⟩, st⟩
  · dsimp only [Pt.U, Pt.locs, Pt.cells, Pt.slots] at X' e1 e2 h1 h2 h3 st
    subst h1; subst h2; subst h3
    exact Or.inl ⟨v, (T.setVm vm₁).calling g' mk (Value.ref b :: As).toArray, t, U', L, hT, X', hL, e1, e2, hq, st⟩
  · dsimp only [Pt.U, Pt.locs, Pt.cells, Pt.slots] at X' e1 e2 h1 h2 h3 st hcl
    subst h1; subst h2; subst h3
    exact Or.inr ⟨q, (T.setVm vm₁).calling g' mk (Value.ref b :: As).toArray, t, U', L, E, ce, hT, X', hL, e1, e2, hq, hce, hcv, vx_cls hW₁ hcl, st⟩
theorem y_runS (hx : p.tables.exec = Jvm.exec) (hb : c.code = cc) (hml : c.maxLocals = nL) (ho : s.vm.findClass own = some m.cls) (hM : YC l G y bytes maxL ret fr lo As wc post px) (cw : YB R s args own index y bytes maxL ret fr lo n ∧ (Cond.static y).before args s = true)
    (hPc : ∀ U : State, U.heap = H → s.WarmedH U.vm → va_Pc As (PW G wc H.size) As.toArray U)
    (hg : g.method = m) (hn : As.length = n) (hsize : g.locals.size = nL) (hstack : g.stack = As.reverse ++ rest) (hW : 2 * g.monitorRoom + (rest.map fun v => v.category).sum ≤ 8) (hdg : decode cc g.pc = .ok (.invokestatic index, 3)) (hf : cells + 1 ≤ R.cells ∧ slots + 6 ≤ R.slots) :
    yRun p l e R s m args below meth c H locs cells slots g rest G (va_A wc H.size) wc.length post px := by
  obtain ⟨⟨-, -, hfr, hlo, hws, -, hcode, hini, hy, hlen, hl⟩, hstt⟩ := cw
  have hK : vx_Back l R p e below s args y 3 8 (PreOf R 1 6 (va_Pc As (PW G wc H.size))) (yPost G (va_A wc H.size) wc.length post) (vx_Post (yX G (va_A wc H.size) wc.length px) 1 6 (va_A wc H.size)) :=
    y_back hM H.size hfr hlo hws (fun a' U hW => word_at hW (Or.inl (by first | rfl | simp [Cond.onTables, Cond.keeps, Cond.steady])) hini)
  intro T hT X
  rcases vx_callS X hx (bytes := bytes) (maxL := maxL) (ret := ret) ho hl hstt hini hcode hy hK hg (hsize.trans hml.symm) (argsL := As) (rest := rest) (fun sig h => hn.trans (hlen sig h)) hstack hW (by rw [hb]; exact hdg)
    (fun vm₁ hW₁ => ⟨hf.1, hf.2, hPc (T.setVm vm₁) hT hW₁⟩) with ⟨v, vm₁, ⟨U', l2, c2, s2⟩, hW₁, X', ⟨g', mk, t, L, e1, e2, hq, h1, hL, h2, h3⟩, st⟩ | ⟨q, vm₁, ⟨U', l2, c2, s2⟩, hW₁, X', ⟨g', mk, t, L, E, ce, e1, e2, hq, hce, hcv, hcl, h1, hL, h2, h3⟩, st⟩
  · dsimp only [Pt.U, Pt.locs, Pt.cells, Pt.slots] at X' e1 e2 h1 h2 h3 st
    subst h1; subst h2; subst h3
    exact Or.inl ⟨v, (T.setVm vm₁).calling g' mk As.toArray, t, U', L, hT, X', hL, e1, e2, hq, st⟩
  · dsimp only [Pt.U, Pt.locs, Pt.cells, Pt.slots] at X' e1 e2 h1 h2 h3 st hcl
    subst h1; subst h2; subst h3
    exact Or.inr ⟨q, (T.setVm vm₁).calling g' mk As.toArray, t, U', L, E, ce, hT, X', hL, e1, e2, hq, hce, hcv, vx_cls hW₁ hcl, st⟩
theorem y_callSN (X : Stand p l e R s m args below meth c T locs cells slots) (hexec : p.tables.exec = Jvm.exec) {own : String} {index : Nat} {host : String} {y : MethodName} {bytes : ByteArray} {maxL : Nat} {ret : Option FieldType}
    (hown : s.vm.findClass own = some m.cls) (hlink : (Cond.methodLinkNest own index y host).before args s = true) (hstat : (Cond.static y).before args s = true) (hinit : (Cond.initialized y.cls).before args s = true)
    (hcode : (Cond.code y bytes maxL ret).before args s = true) (hy : y.cls ≠ "java/lang/invoke/MethodHandle" ∧ y.cls ≠ "java/lang/invoke/VarHandle")
    {W9 : Nat} {Pre : Pt → Array Value → Prop} {Post : Pt → Array Value → Option Value → Pt → Prop} {PostX : Pt → Array Value → Addr → Pt → Prop} (hK : vx_Back l R p e below s args y 3 W9 Pre Post PostX)
    {g : JFrame} (hg : g.method = m) (hsize : g.locals.size = c.maxLocals) {argsL rest : List Value} (hlen : ∀ sig, parseMethodDescriptor y.desc = some sig → argsL.length = sig.parameters.length)
    (hstack : g.stack = argsL.reverse ++ rest) (hW : 2 * g.monitorRoom + (rest.map fun v => v.category).sum ≤ W9) (hdg : decode c.code g.pc = .ok (.invokestatic index, 3))
    (hpre : ∀ vm₁, s.WarmedH vm₁ → Pre ⟨T.setVm vm₁, locs, cells, slots⟩ argsL.toArray) :
    (∃ (v : Option Value) (vm₁ : Vm) (B : Pt), s.WarmedH vm₁ ∧ Stand p l e R s m args below meth c B.U B.locs B.cells B.slots ∧ Post ⟨T.setVm vm₁, locs, cells, slots⟩ argsL.toArray v B ∧
      ∀ target, Steps p.tables e below (B.U.setTop { g with pc := g.pc + 3, stack := v.toList ++ rest }) target → Steps p.tables e below (T.setTop g) target) ∨
    (∃ (q : Addr) (vm₁ : Vm) (B : Pt), s.WarmedH vm₁ ∧ Stand p l e R s m args below meth c B.U B.locs B.cells B.slots ∧ PostX ⟨T.setVm vm₁, locs, cells, slots⟩ argsL.toArray q B ∧
      Steps p.tables e below (T.setTop g) ((B.U.setTop { g with stack := rest }).pushFrame (.throwing q))) := by
  obtain ⟨mk, hnamed⟩ := Cond.code_named hcode
  obtain ⟨methM, cM, hmethM, -, -, -, -, -, -, hsigM⟩ := Cond.code_spec hnamed hcode
  have hstatic : methM.isStatic = true := Cond.static_spec hnamed hmethM hstat
  obtain ⟨kP, hkP, -⟩ := className_of_methodNamed hnamed
  have hinitP : kP.init = .initialized := Cond.initialized_spec (findClass_of_methodNamed hnamed) hkP hinit
  obtain ⟨vm₁, X₁, hstep₁⟩ := X.invokestaticNest hexec hown hlink hnamed hmethM hstatic hkP hinitP hy (g := g) hg (argsL := argsL) (rest := rest) (hlen _ hsigM) hstack hdg
  rcases hK m meth c ⟨T.setVm vm₁, locs, cells, slots⟩ { g with stack := rest } (.invokestatic index) mk argsL.toArray X₁ hg hsize hdg hW (X₁.named hnamed) (hpre vm₁ X₁.warmed) with ⟨v, B, X', hpost, hsteps⟩ | ⟨q, B, X', hpost, hsteps⟩
  · exact Or.inl ⟨v, vm₁, B, X₁.warmed, X', hpost, fun target h => hstep₁ _ fun acts => by rw [doInvoke_state]; exact hsteps.trans h⟩
  · exact Or.inr ⟨q, vm₁, B, X₁.warmed, X', hpost, hstep₁ _ fun acts => by rw [doInvoke_state]; exact hsteps⟩
/-- what the words of a static call of a nest mate say -/
def YN (R : Room) (s : State) (args : Array Value) (own : String) (index : Nat) (host : String) (y : MethodName) (bytes : ByteArray) (maxL : Nat) (ret : Option FieldType) (fr lo n : Nat) : Prop := fr + 1 ≤ R.frames ∧ 8 + (maxL + 11) + lo ≤ R.locals ∧ (∀ w ∈ Cond.code y bytes maxL ret :: GT, ∀ (a' : Array Value) (U : State), s.WarmedH U.vm → w.before a' U = true) ∧ (Cond.code y bytes maxL ret).before args s = true ∧ (Cond.initialized y.cls).before args s = true ∧ (y.cls ≠ "java/lang/invoke/MethodHandle" ∧ y.cls ≠ "java/lang/invoke/VarHandle") ∧ (∀ sig, parseMethodDescriptor y.desc = some sig → n = sig.parameters.length) ∧ (Cond.methodLinkNest own index y host).before args s = true ∧ (Cond.static y).before args s = true
theorem y_runSN {host : String} (hx : p.tables.exec = Jvm.exec) (hb : c.code = cc) (hml : c.maxLocals = nL) (ho : s.vm.findClass own = some m.cls) (hM : YC l G y bytes maxL ret fr lo As wc post px) (cw : YN R s args own index host y bytes maxL ret fr lo n)
    (hPc : ∀ U : State, U.heap = H → s.WarmedH U.vm → va_Pc As (PW G wc H.size) As.toArray U)
    (hg : g.method = m) (hn : As.length = n) (hsize : g.locals.size = nL) (hstack : g.stack = As.reverse ++ rest) (hW : 2 * g.monitorRoom + (rest.map fun v => v.category).sum ≤ 8) (hdg : decode cc g.pc = .ok (.invokestatic index, 3)) (hf : cells + 1 ≤ R.cells ∧ slots + 6 ≤ R.slots) :
    yRun p l e R s m args below meth c H locs cells slots g rest G (va_A wc H.size) wc.length post px := by
  obtain ⟨hfr, hlo, hws, hcode, hini, hy, hlen, hl, hstt⟩ := cw
  have hK : vx_Back l R p e below s args y 3 8 (PreOf R 1 6 (va_Pc As (PW G wc H.size))) (yPost G (va_A wc H.size) wc.length post) (vx_Post (yX G (va_A wc H.size) wc.length px) 1 6 (va_A wc H.size)) :=
    y_back hM H.size hfr hlo hws (fun a' U hW => word_at hW (Or.inl (by first | rfl | simp [Cond.onTables, Cond.keeps, Cond.steady])) hini)
  intro T hT X
  rcases y_callSN X hx (bytes := bytes) (maxL := maxL) (ret := ret) ho hl hstt hini hcode hy hK hg (hsize.trans hml.symm) (argsL := As) (rest := rest) (fun sig h => hn.trans (hlen sig h)) hstack hW (by rw [hb]; exact hdg)
    (fun vm₁ hW₁ => ⟨hf.1, hf.2, hPc (T.setVm vm₁) hT hW₁⟩) with ⟨v, vm₁, ⟨U', l2, c2, s2⟩, hW₁, X', ⟨g', mk, t, L, e1, e2, hq, h1, hL, h2, h3⟩, st⟩ | ⟨q, vm₁, ⟨U', l2, c2, s2⟩, hW₁, X', ⟨g', mk, t, L, E, ce, e1, e2, hq, hce, hcv, hcl, h1, hL, h2, h3⟩, st⟩
  · dsimp only [Pt.U, Pt.locs, Pt.cells, Pt.slots] at X' e1 e2 h1 h2 h3 st
    subst h1; subst h2; subst h3
    exact Or.inl ⟨v, (T.setVm vm₁).calling g' mk As.toArray, t, U', L, hT, X', hL, e1, e2, hq, st⟩
  · dsimp only [Pt.U, Pt.locs, Pt.cells, Pt.slots] at X' e1 e2 h1 h2 h3 st hcl
    subst h1; subst h2; subst h3
    exact Or.inr ⟨q, (T.setVm vm₁).calling g' mk As.toArray, t, U', L, E, ce, hT, X', hL, e1, e2, hq, hce, hcv, vx_cls hW₁ hcl, st⟩
/-- BEHIND A CALL: the caller's world with the callee's cells put in anew -/
theorem y_call {pc : Nat} {ls : Array Slot} {st0 : List Value} (hr : yRun p l e R s m args below meth c H locs cells slots (F0 m pc ls st0) rest G (va_A wc H.size) wc.length post px) (hP : va_P (gD G) vwC ws H) (hD : va_D A ws) (hS : va_S A s.heap H locs) (hA : ∀ q, s.heap.size ≤ q → A q) (isC : List Nat) (hC : isC.map (fun i => ws[i]?) = wc.map some)
    (kx : ∀ (E : String) (w : va_W) (q : Addr) (ce : Cell) (H1 : Heap) (locs1 : List Loc), px E w → w.length = wc.length → va_P (gD G) vwC (va_rep ws isC w) H1 → va_D A (va_rep ws isC w) → va_S A s.heap H1 locs1 → H1[q]? = some ce → ce.vm = .none → s.vm.findClass E = some ce.cls → vx_W p l e R s m args below meth c H1 locs1 (cells + 1) (slots + 6) Q (F0 m pc ls rest) q)
    (kk : ∀ (v : Option Value) (w : va_W) (H1 : Heap) (locs1 : List Loc), post v w → w.length = wc.length → va_P (gD G) vwC (va_rep ws isC w) H1 → va_D A (va_rep ws isC w) → va_S A s.heap H1 locs1 → W p l e R s m args below meth c H1 locs1 cells slots Q (F0 m (pc + 3) ls (v.toList ++ rest))) : W p l e R s m args below meth c H locs cells slots Q (F0 m pc ls st0) := by
  have hFc := va_free hD hS hA isC hC
  intro T hT X
  rcases hr T hT X with ⟨v, st₀, t, T', L, h0, X', hL, e1, e2, ⟨w, hp, hlw, hP1, hK1, hD1, hF⟩, st⟩ | ⟨q, st₀, t, T', L, E, ce, h0, X', hL, e1, e2, ⟨w, hp, hlw, hP1, hK1, hD1, hF⟩, hce, hcv, hcl, st⟩
  · obtain ⟨k1, k2, k3⟩ := vx_keep h0 e1 hS (fun q _ h => hFc q h) hFc hL hF
    obtain ⟨r1, r2⟩ := va_repP hP hD isC hC hlw k2 hFc (by rw [e1]; exact hP1) hD1
    obtain ⟨t2, a1, b1⟩ := kk v w T'.heap (locs ++ L) hp hlw r1 r2 k3 T' rfl X'
    exact ⟨t2, st t2 a1, b1⟩
  · obtain ⟨k1, k2, k3⟩ := vx_keep h0 e1 hS (fun q _ h => hFc q h) hFc hL hF
    obtain ⟨r1, r2⟩ := va_repP hP hD isC hC hlw k2 hFc (by rw [e1]; exact hP1) hD1
    obtain ⟨t2, a1, b1⟩ := kx E w q ce T'.heap (locs ++ L) hp hlw r1 r2 k3 (by rw [e1]; exact hce) hcv hcl T' rfl X'
    exact ⟨t2, st.trans a1, b1⟩
variable {nw : Nat} {post0 : Option Value → va_W → Prop} {px0 : String → va_W → Prop}
/-- thrown out of this method -/
theorem y_out {pc : Nat} {ls : Array Slot} {E : String} {ce : Cell} {q : Addr} (hxt : ∀ x ∈ c.exceptionTable.toList, False) (hlocks : meth.locks = false) (hcell : H[q]? = some ce) (hv : ce.vm = .none) (hcl : s.vm.findClass E = some ce.cls)
    (hp : px0 E ws) (hl : ws.length = nw) (hK : va_K (gD G) vwC (gT G) s) (hP : va_P (gD G) vwC ws H) (hD : va_D A ws) (hS : va_S A s.heap H locs) : vx_W p l e R s m args below meth c H locs 1 6 (yMQ below G A nw post0 px0 args s) (F0 m pc ls rest) q := by
  intro T hT X
  obtain ⟨st1, hrun, hend, hW, hsm⟩ := X.leaveThrown q (g := F0 m pc ls rest) rfl rfl rfl (fun x hx => (hxt x hx).elim) hlocks
  have hcell9 : (T.setFrames (.throwing q :: below)).heap[q]? = some ce := by
    show T.heap[q]? = some ce
    rw [hT]; exact hcell
  have hT2 : (T.setFrames (.throwing q :: below)).heap = H := hT
  exact ⟨_, st1, .threw q, hrun, hend, Or.inr ⟨q, rfl, E, ce, locs, ⟨ws, hp, hl, by rw [hT2]; exact hP, va_K.moved hW.alike hK, hD, hS.F hT2⟩, hcell9, hv, hcl, hW, hsm, hS.2.2⟩⟩
theorem y_mono {g : JFrame} {Q2 : State → Prop} (h : ∀ t, Q t → Q2 t) (k : W p l e R s m args below meth c H locs cells slots Q g) : W p l e R s m args below meth c H locs cells slots Q2 g := fun T hT X => let ⟨t, a, b⟩ := k T hT X; ⟨t, a, h t b⟩
theorem y_retQ {v : Option Value} (hp : post0 v ws) (hl : ws.length = nw) (hK : va_K (gD G) vwC (gT G) s) (hP : va_P (gD G) vwC ws H) (hD : va_D A ws) (hS : va_S A s.heap H locs) {g : JFrame}
    (k : W p l e R s m args below meth c H locs 0 0 (MQ below (fun _ st o t => o = .returned v ∧ yE G A nw post0 st v t) args s 0 0 A) g) : W p l e R s m args below meth c H locs 0 0 (yMQ below G A nw post0 px0 args s) g := by
  refine y_mono (fun t h => ?_) k
  obtain ⟨o, h1, h2, ⟨rfl, h4⟩, L, h5, h6⟩ := h
  exact ⟨_, h1, h2, Or.inl ⟨v, rfl, h4, L, h5, h6⟩⟩
theorem yr_i {pc : Nat} {ls : Array Slot} {v : Int32} (hx : p.tables.exec = Jvm.exec) (hb : c.code = cc) (hr : meth.sig.returnType = some .int) (hlocks : meth.locks = false) (hp : post0 (some (.int v)) ws) (hl : ws.length = nw) (hK : va_K (gD G) vwC (gT G) s) (hP : va_P (gD G) vwC ws H) (hD : va_D A ws) (hS : va_S A s.heap H locs) (d : decode cc pc = .ok (.ireturn, 1)) :
    W p l e R s m args below meth c H locs 0 0 (yMQ below G A nw post0 px0 args s) (F0 m pc ls [.int v]) :=
  y_retQ (v := some (.int v)) hp hl hK hP hD hS (W.iret (v := v) hx hb hr (fun t ht hW => ⟨rfl, ws, hp, hl, by rw [ht]; exact hP, va_K.moved hW.alike hK, hD, hS.F ht⟩) hS.2.2 d)
theorem yr_z {pc : Nat} {ls : Array Slot} {v : Int32} {ty : FieldType} (hx : p.tables.exec = Jvm.exec) (hb : c.code = cc) (hr : meth.sig.returnType = some ty) (hn : narrow ty (.int v) = .int v) (hlocks : meth.locks = false) (hp : post0 (some (.int v)) ws) (hl : ws.length = nw) (hK : va_K (gD G) vwC (gT G) s) (hP : va_P (gD G) vwC ws H) (hD : va_D A ws) (hS : va_S A s.heap H locs) (d : decode cc pc = .ok (.ireturn, 1)) :
    W p l e R s m args below meth c H locs 0 0 (yMQ below G A nw post0 px0 args s) (F0 m pc ls [.int v]) :=
  y_retQ (v := some (.int v)) hp hl hK hP hD hS (W.zret (v := v) hx hb hr hn (fun t ht hW => ⟨rfl, ws, hp, hl, by rw [ht]; exact hP, va_K.moved hW.alike hK, hD, hS.F ht⟩) hS.2.2 d)
theorem yr_v {pc : Nat} {ls : Array Slot} (hx : p.tables.exec = Jvm.exec) (hb : c.code = cc) (hr : meth.sig.returnType = none) (hlocks : meth.locks = false) (hp : post0 none ws) (hl : ws.length = nw) (hK : va_K (gD G) vwC (gT G) s) (hP : va_P (gD G) vwC ws H) (hD : va_D A ws) (hS : va_S A s.heap H locs) (d : decode cc pc = .ok (.return_, 1)) :
    W p l e R s m args below meth c H locs 0 0 (yMQ below G A nw post0 px0 args s) (F0 m pc ls []) :=
  y_retQ (v := none) hp hl hK hP hD hS (W.vret hx hb hr (fun t ht hW => ⟨rfl, ws, hp, hl, by rw [ht]; exact hP, va_K.moved hW.alike hK, hD, hS.F ht⟩) hS.2.2 d)
theorem yr_l {pc : Nat} {ls : Array Slot} {v : Int64} (hx : p.tables.exec = Jvm.exec) (hb : c.code = cc) (hr : meth.sig.returnType = some .long) (hlocks : meth.locks = false) (hp : post0 (some (.long v)) ws) (hl : ws.length = nw) (hK : va_K (gD G) vwC (gT G) s) (hP : va_P (gD G) vwC ws H) (hD : va_D A ws) (hS : va_S A s.heap H locs) (d : decode cc pc = .ok (.lreturn, 1)) :
    W p l e R s m args below meth c H locs 0 0 (yMQ below G A nw post0 px0 args s) (F0 m pc ls [.long v]) :=
  y_retQ (v := some (.long v)) hp hl hK hP hD hS (W.lret (v := v) hx hb hr (fun t ht hW => ⟨rfl, ws, hp, hl, by rw [ht]; exact hP, va_K.moved hW.alike hK, hD, hS.F ht⟩) hS.2.2 d)
theorem yr_a {pc : Nat} {ls : Array Slot} {a : Nat} {rt : FieldType} (hx : p.tables.exec = Jvm.exec) (hb : c.code = cc) (hr : meth.sig.returnType = some rt) (hrt : (∃ n, rt = .object n) ∨ ∃ t, rt = .array t) (hlocks : meth.locks = false) (hp : post0 (some (.ref a)) ws) (hl : ws.length = nw) (hK : va_K (gD G) vwC (gT G) s) (hP : va_P (gD G) vwC ws H) (hD : va_D A ws) (hS : va_S A s.heap H locs) (d : decode cc pc = .ok (.areturn, 1)) :
    W p l e R s m args below meth c H locs 0 0 (yMQ below G A nw post0 px0 args s) (F0 m pc ls [.ref a]) :=
  y_retQ (v := some (.ref a)) hp hl hK hP hD hS (W.aret (v := .ref a) hx hb hr hrt (Or.inr ⟨a, rfl⟩) (fun t ht hW => ⟨rfl, ws, hp, hl, by rw [ht]; exact hP, va_K.moved hW.alike hK, hD, hS.F ht⟩) hS.2.2 d)
end YRun
/-- a new exception with a text is thrown -/
abbrev xN : List String := ["java/lang/RuntimeException", "java/lang/Exception"]
def XW (cls : String) : List Cond := [.castable cls cls, .declares ⟨"java/lang/RuntimeException", "<init>", "(Ljava/lang/String;)V"⟩, .declares ⟨"java/lang/Exception", "<init>", "(Ljava/lang/String;)V"⟩, .declares ⟨"java/lang/Throwable", "<init>", "(Ljava/lang/String;)V"⟩]
def XOk (own : String) (ik ic : Nat) (cls : String) : Prop := Bundle.fit cls = true ∧ Cond.classLink own ik cls ∈ GT ∧ Cond.initialized cls ∈ GT ∧ (∀ w ∈ (vx_atS own ic cls xN).filter goodWord, w ∈ lw_tbl) ∧ (∀ w ∈ (vx_atS own ic cls xN).filter (fun w => !goodWord w), w ∈ XW cls) ∧ ∀ w ∈ Cond.classLink own ik cls :: Cond.initialized cls :: vx_atS own ic cls xN, vx_ot w = true
theorem xN_fit : ∀ n ∈ xN, Bundle.fit n = true := by decide +kernel
section YThrow
variable {p : Program} {l : Launch} {e : Env} {s : State} {m : MethodId} {args : Array Value} {below : List Frame} {meth : Method} {c : Code} {H : Heap} {locs : List Loc} {G : gl} {cc : ByteArray} {fr lo nw : Nat} {ws : va_W} {post0 : Option Value → va_W → Prop} {px0 : String → va_W → Prop} {A : Nat → Prop} {rest : List Value}
theorem yt_S {pc : Nat} {ls : Array Slot} {own cls text : String} {ik is ic sa nL : Nat} (hx : p.tables.exec = Jvm.exec) (hb : c.code = cc) (hl : l.stackTraces = false) (hown : s.vm.findClass own = some m.cls) (X : XOk own ik ic cls) (hca : va_Nw (.castable cls cls) s) (hstr : vk_R own is text sa s)
    (hg : ∀ w ∈ GT, w.before args s = true) (hE : EV G A s s.heap) (hK : va_K (gD G) vwC (gT G) s) (hP : va_P (gD G) vwC ws H) (hD : va_D A ws) (hS : va_S A s.heap H locs) (hA : ∀ q, s.heap.size ≤ q → A q) (hml : c.maxLocals = nL) (hls : ls.size = nL) (hxt : ∀ x ∈ c.exceptionTable.toList, False) (hlocks : meth.locks = false)
    (d0 : decode cc pc = .ok (.new ik, 3)) (d3 : decode cc (pc + 3) = .ok (.dup, 1)) (d4 : decode cc (pc + 4) = .ok (.ldc is, 2)) (d6 : decode cc (pc + 6) = .ok (.invokespecial ic, 3)) (d9 : decode cc (pc + 9) = .ok (.athrow, 1))
    (hfr : 6 ≤ fr) (hlo : (rest.map fun v => v.category).sum + 82 ≤ lo) (hp : px0 cls ws) (hlen : ws.length = nw) :
    W p l e (yR fr lo) s m args below meth c H locs 0 0 (yMQ below G A nw post0 px0 args s) (F0 m pc ls rest) := by
  obtain ⟨x1, x2, x3, x4, x5, x6⟩ := X
  have hdec : ∀ w ∈ XW cls, w.before args s = true := by
    refine List.forall_mem_cons.mpr ⟨va_Nw.use rfl hca, List.forall_mem_cons.mpr ⟨va_Nw.use rfl (nw_194 hE.1), List.forall_mem_cons.mpr ⟨va_Nw.use rfl (nw_196 hE.1), List.forall_mem_cons.mpr ⟨va_Nw.use rfl (nw_198 hE.1), fun _ h => absurd h List.not_mem_nil⟩⟩⟩⟩
  have hat : ∀ w ∈ vx_atS own ic cls xN, w.before args s = true := vx_hat (fun w hw => hg w (List.mem_filter.mpr ⟨x4 w hw, (List.mem_filter.mp hw).2⟩)) x5 hdec
  refine y_mono (Q := vx_MQ below (fun _ _ _ _ => False) (yX G A nw px0) args s 1 6 A) (fun t h => ?_) (vx_throwS (names := xN) hx hb hl hown x1 xN_fit (hg _ x2) (hg _ x3) hstr hat x6 hE.2.2.2.1 hE.2.2.2.2.1 hS (hls.trans hml.symm) d0 d3 d4 d6 d9 (fun x hx => (hxt x hx).elim) (by show 2 + 3 < fr; omega) (by show (rest.map fun v => v.category).sum + (13 * (2 + 1) + 43) ≤ lo; omega) (by show 0 + 1 ≤ 1; omega) (by show 0 + 6 ≤ 6; omega) hlocks (fun t ha h1 h2 => ?_) hS.2.2 (by omega) (by omega))
  · obtain ⟨o, h1, h2, h3 | h3⟩ := h
    · exact h3.1.elim
    · exact ⟨o, h1, h2, Or.inr h3⟩
  · refine ⟨ws, hp, hlen, hP.kept (fun k q hq => h2 q.1 (hP k q hq).lt), va_K.moved ha hK, hD, Nat.le_trans hS.1 h1, fun q hq hn => ?_⟩
    rw [h2 q (Nat.lt_of_lt_of_le hq hS.1)]
    exact hS.2.1 q hq hn
end YThrow

