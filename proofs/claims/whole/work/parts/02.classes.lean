def TX0 : u_T := fun k => match k with
  | 0 => ("TextForge$Argument", "kind", "I", true)
  | 1 => ("TextForge$Argument", "value", "J", true)
  | _ => ("TextForge$Argument", "content", "LTextForge$Bytes;", true)
def tyX0 : Nat → FieldType := fun k => match k with
  | 0 => .int
  | 1 => .long
  | _ => .object "TextForge$Bytes"
theorem nmX0 : ∀ a, a < 3 → ∀ b, b < 3 → a ≠ b → (TX0 a).2.1 ≠ (TX0 b).2.1 := by decide +kernel
theorem tyX0_ok : ∀ k, k < 3 → parseFieldDescriptor (TX0 k).2.2.1 = some (tyX0 k) := by decide +kernel
theorem iwX0 : ∀ w ∈ u_ws "TextForge$Argument" TX0 3, w ∈ gw := List.forall_mem_cons.mpr ⟨kw_604, List.forall_mem_cons.mpr ⟨kw_606, List.forall_mem_cons.mpr ⟨kw_608, List.forall_mem_nil _⟩⟩⟩
def TX1 : u_T := fun k => match k with
  | 0 => ("TextForge$Arguments", "row", "[LTextForge$Argument;", true)
  | 1 => ("TextForge$Arguments", "count", "I", false)
  | _ => ("TextForge$Arguments", "used", "I", false)
def tyX1 : Nat → FieldType := fun k => match k with
  | 0 => .array (.object "TextForge$Argument")
  | 1 => .int
  | _ => .int
theorem nmX1 : ∀ a, a < 3 → ∀ b, b < 3 → a ≠ b → (TX1 a).2.1 ≠ (TX1 b).2.1 := by decide +kernel
theorem tyX1_ok : ∀ k, k < 3 → parseFieldDescriptor (TX1 k).2.2.1 = some (tyX1 k) := by decide +kernel
theorem iwX1 : ∀ w ∈ u_ws "TextForge$Arguments" TX1 3, w ∈ gw := List.forall_mem_cons.mpr ⟨kw_59, List.forall_mem_cons.mpr ⟨kw_61, List.forall_mem_cons.mpr ⟨kw_63, List.forall_mem_nil _⟩⟩⟩
def TX2 : u_T := fun k => match k with
  | 0 => ("TextForge$Bytes", "row", "[B", true)
  | _ => ("TextForge$Bytes", "length", "I", false)
def tyX2 : Nat → FieldType := fun k => match k with
  | 0 => .array .byte
  | _ => .int
theorem nmX2 : ∀ a, a < 2 → ∀ b, b < 2 → a ≠ b → (TX2 a).2.1 ≠ (TX2 b).2.1 := by decide +kernel
theorem tyX2_ok : ∀ k, k < 2 → parseFieldDescriptor (TX2 k).2.2.1 = some (tyX2 k) := by decide +kernel
theorem iwX2 : ∀ w ∈ u_ws "TextForge$Bytes" TX2 2, w ∈ gw := List.forall_mem_cons.mpr ⟨kw_42, List.forall_mem_cons.mpr ⟨kw_44, List.forall_mem_nil _⟩⟩
def TX3 : u_T := fun k => match k with
  | 0 => ("TextForge$Codes", "found", "[I", false)
  | 1 => ("TextForge$Codes", "places", "[I", false)
  | _ => ("TextForge$Codes", "count", "I", false)
def tyX3 : Nat → FieldType := fun k => match k with
  | 0 => .array .int
  | 1 => .array .int
  | _ => .int
theorem nmX3 : ∀ a, a < 3 → ∀ b, b < 3 → a ≠ b → (TX3 a).2.1 ≠ (TX3 b).2.1 := by decide +kernel
theorem tyX3_ok : ∀ k, k < 3 → parseFieldDescriptor (TX3 k).2.2.1 = some (tyX3 k) := by decide +kernel
theorem iwX3 : ∀ w ∈ u_ws "TextForge$Codes" TX3 3, w ∈ gw := List.forall_mem_cons.mpr ⟨kw_123, List.forall_mem_cons.mpr ⟨kw_125, List.forall_mem_cons.mpr ⟨kw_127, List.forall_mem_nil _⟩⟩⟩
def TX4 : u_T := fun k => match k with
  | 0 => ("TextForge$Directive", "state", "I", false)
  | 1 => ("TextForge$Directive", "minus", "Z", false)
  | 2 => ("TextForge$Directive", "plus", "Z", false)
  | 3 => ("TextForge$Directive", "zero", "Z", false)
  | 4 => ("TextForge$Directive", "width", "I", false)
  | _ => ("TextForge$Directive", "letter", "I", false)
def tyX4 : Nat → FieldType := fun k => match k with
  | 0 => .int
  | 1 => .boolean
  | 2 => .boolean
  | 3 => .boolean
  | 4 => .int
  | _ => .int
theorem nmX4 : ∀ a, a < 6 → ∀ b, b < 6 → a ≠ b → (TX4 a).2.1 ≠ (TX4 b).2.1 := by decide +kernel
theorem tyX4_ok : ∀ k, k < 6 → parseFieldDescriptor (TX4 k).2.2.1 = some (tyX4 k) := by decide +kernel
theorem iwX4 : ∀ w ∈ u_ws "TextForge$Directive" TX4 6, w ∈ gw := List.forall_mem_cons.mpr ⟨kw_78, List.forall_mem_cons.mpr ⟨kw_80, List.forall_mem_cons.mpr ⟨kw_82, List.forall_mem_cons.mpr ⟨kw_84, List.forall_mem_cons.mpr ⟨kw_86, List.forall_mem_cons.mpr ⟨kw_88, List.forall_mem_nil _⟩⟩⟩⟩⟩⟩
def TX5 : u_T := fun k => match k with
  | 0 => ("TextForge$Numeral", "digits", "[B", true)
  | _ => ("TextForge$Numeral", "count", "I", false)
def tyX5 : Nat → FieldType := fun k => match k with
  | 0 => .array .byte
  | _ => .int
theorem nmX5 : ∀ a, a < 2 → ∀ b, b < 2 → a ≠ b → (TX5 a).2.1 ≠ (TX5 b).2.1 := by decide +kernel
theorem tyX5_ok : ∀ k, k < 2 → parseFieldDescriptor (TX5 k).2.2.1 = some (tyX5 k) := by decide +kernel
theorem iwX5 : ∀ w ∈ u_ws "TextForge$Numeral" TX5 2, w ∈ gw := List.forall_mem_cons.mpr ⟨kw_105, List.forall_mem_cons.mpr ⟨kw_107, List.forall_mem_nil _⟩⟩
def TX6 : u_T := fun k => match k with
  | _ => ("TextForge$Printer", "numeral", "LTextForge$Numeral;", true)
def tyX6 : Nat → FieldType := fun k => match k with
  | _ => .object "TextForge$Numeral"
theorem nmX6 : ∀ a, a < 1 → ∀ b, b < 1 → a ≠ b → (TX6 a).2.1 ≠ (TX6 b).2.1 := by decide +kernel
theorem tyX6_ok : ∀ k, k < 1 → parseFieldDescriptor (TX6 k).2.2.1 = some (tyX6 k) := by decide +kernel
theorem iwX6 : ∀ w ∈ u_ws "TextForge$Printer" TX6 1, w ∈ gw := List.forall_mem_cons.mpr ⟨kw_111, List.forall_mem_nil _⟩
def TX7 : u_T := fun k => match k with
  | 0 => ("TextForge", "fed", "LTextForge$Bytes;", true)
  | 1 => ("TextForge", "result", "LTextForge$Bytes;", true)
  | 2 => ("TextForge", "arguments", "LTextForge$Arguments;", true)
  | 3 => ("TextForge", "directive", "LTextForge$Directive;", true)
  | 4 => ("TextForge", "printer", "LTextForge$Printer;", true)
  | 5 => ("TextForge", "codes", "LTextForge$Codes;", true)
  | _ => ("TextForge", "latestNumber", "J", false)
def tyX7 : Nat → FieldType := fun k => match k with
  | 0 => .object "TextForge$Bytes"
  | 1 => .object "TextForge$Bytes"
  | 2 => .object "TextForge$Arguments"
  | 3 => .object "TextForge$Directive"
  | 4 => .object "TextForge$Printer"
  | 5 => .object "TextForge$Codes"
  | _ => .long
theorem nmX7 : ∀ a, a < 7 → ∀ b, b < 7 → a ≠ b → (TX7 a).2.1 ≠ (TX7 b).2.1 := by decide +kernel
theorem tyX7_ok : ∀ k, k < 7 → parseFieldDescriptor (TX7 k).2.2.1 = some (tyX7 k) := by decide +kernel
theorem iwX7 : ∀ w ∈ u_ws "TextForge" TX7 7, w ∈ gw := List.forall_mem_cons.mpr ⟨kw_138, List.forall_mem_cons.mpr ⟨kw_140, List.forall_mem_cons.mpr ⟨kw_142, List.forall_mem_cons.mpr ⟨kw_144, List.forall_mem_cons.mpr ⟨kw_146, List.forall_mem_cons.mpr ⟨kw_148, List.forall_mem_cons.mpr ⟨kw_150, List.forall_mem_nil _⟩⟩⟩⟩⟩⟩⟩
def TX8 : u_T := fun k => match k with
  | 0 => ("TextForgeModel", "thrown", "I", false)
  | 1 => ("TextForgeModel", "fed", "I", false)
  | 2 => ("TextForgeModel", "text", "[B", true)
  | 3 => ("TextForgeModel", "many", "I", false)
  | 4 => ("TextForgeModel", "kind", "[I", true)
  | 5 => ("TextForgeModel", "value", "[J", true)
  | 6 => ("TextForgeModel", "wide", "[I", true)
  | 7 => ("TextForgeModel", "pool", "[B", true)
  | 8 => ("TextForgeModel", "made", "I", false)
  | 9 => ("TextForgeModel", "result", "[B", true)
  | 10 => ("TextForgeModel", "parts", "I", false)
  | 11 => ("TextForgeModel", "part", "[B", true)
  | 12 => ("TextForgeModel", "parsed", "J", false)
  | 13 => ("TextForgeModel", "codes", "I", false)
  | 14 => ("TextForgeModel", "code", "[I", true)
  | 15 => ("TextForgeModel", "place", "[I", true)
  | 16 => ("TextForgeModel", "bytes", "[I", true)
  | 17 => ("TextForgeModel", "lengthAt", "I", false)
  | _ => ("TextForgeModel", "codeAt", "I", false)
def tyX8 : Nat → FieldType := fun k => match k with
  | 0 => .int
  | 1 => .int
  | 2 => .array .byte
  | 3 => .int
  | 4 => .array .int
  | 5 => .array .long
  | 6 => .array .int
  | 7 => .array .byte
  | 8 => .int
  | 9 => .array .byte
  | 10 => .int
  | 11 => .array .byte
  | 12 => .long
  | 13 => .int
  | 14 => .array .int
  | 15 => .array .int
  | 16 => .array .int
  | 17 => .int
  | _ => .int
theorem nmX8 : ∀ a, a < 19 → ∀ b, b < 19 → a ≠ b → (TX8 a).2.1 ≠ (TX8 b).2.1 := by decide +kernel
theorem tyX8_ok : ∀ k, k < 19 → parseFieldDescriptor (TX8 k).2.2.1 = some (tyX8 k) := by decide +kernel
theorem iwX8 : ∀ w ∈ u_ws "TextForgeModel" TX8 19, w ∈ gw := List.forall_mem_cons.mpr ⟨kw_745, List.forall_mem_cons.mpr ⟨kw_747, List.forall_mem_cons.mpr ⟨kw_749, List.forall_mem_cons.mpr ⟨kw_751, List.forall_mem_cons.mpr ⟨kw_753, List.forall_mem_cons.mpr ⟨kw_755, List.forall_mem_cons.mpr ⟨kw_757, List.forall_mem_cons.mpr ⟨kw_759, List.forall_mem_cons.mpr ⟨kw_761, List.forall_mem_cons.mpr ⟨kw_763, List.forall_mem_cons.mpr ⟨kw_765, List.forall_mem_cons.mpr ⟨kw_767, List.forall_mem_cons.mpr ⟨kw_769, List.forall_mem_cons.mpr ⟨kw_771, List.forall_mem_cons.mpr ⟨kw_773, List.forall_mem_cons.mpr ⟨kw_775, List.forall_mem_cons.mpr ⟨kw_777, List.forall_mem_cons.mpr ⟨kw_779, List.forall_mem_cons.mpr ⟨kw_781, List.forall_mem_nil _⟩⟩⟩⟩⟩⟩⟩⟩⟩⟩⟩⟩⟩⟩⟩⟩⟩⟩⟩
abbrev vwCl : List vw_C := [("TextForge$Argument", TX0, 3), ("TextForge$Arguments", TX1, 3), ("TextForge$Bytes", TX2, 2), ("TextForge$Codes", TX3, 3), ("TextForge$Directive", TX4, 6), ("TextForge$Numeral", TX5, 2), ("TextForge$Printer", TX6, 1), ("TextForge", TX7, 7), ("TextForgeModel", TX8, 19)]
theorem sw_0 : Cond.selects "TextForge$Printer" ⟨"TextForge$Printer", "putArgument", "(LTextForge$Directive;LTextForge$Argument;LTextForge$Bytes;)Z"⟩ ⟨"TextForge$Printer", "putArgument", "(LTextForge$Directive;LTextForge$Argument;LTextForge$Bytes;)Z"⟩ ∈ gw := gw_pr (q := (⟨"TextForge$Printer", "putArgument", "(LTextForge$Directive;LTextForge$Argument;LTextForge$Bytes;)Z"⟩, 1)) (List.mem_of_getElem? (i := 0) rfl)
theorem sw_1 : Cond.selects "TextForge$Printer" ⟨"TextForge$Printer", "putNumeral", "(ZZILTextForge$Bytes;)V"⟩ ⟨"TextForge$Printer", "putNumeral", "(ZZILTextForge$Bytes;)V"⟩ ∈ gw := gw_pr (q := (⟨"TextForge$Printer", "putNumeral", "(ZZILTextForge$Bytes;)V"⟩, 1)) (List.mem_of_getElem? (i := 1) rfl)
theorem sw_2 : Cond.selects "TextForge$Printer" ⟨"TextForge$Printer", "putNumber", "(LTextForge$Directive;LTextForge$Argument;LTextForge$Bytes;)Z"⟩ ⟨"TextForge$Printer", "putNumber", "(LTextForge$Directive;LTextForge$Argument;LTextForge$Bytes;)Z"⟩ ∈ gw := gw_pr (q := (⟨"TextForge$Printer", "putNumber", "(LTextForge$Directive;LTextForge$Argument;LTextForge$Bytes;)Z"⟩, 1)) (List.mem_of_getElem? (i := 2) rfl)
theorem sw_3 : Cond.selects "TextForge$Printer" ⟨"TextForge$Printer", "setNumeral", "(IJ)Z"⟩ ⟨"TextForge$Printer", "setNumeral", "(IJ)Z"⟩ ∈ gw := gw_pr (q := (⟨"TextForge$Printer", "setNumeral", "(IJ)Z"⟩, 1)) (List.mem_of_getElem? (i := 3) rfl)
theorem sw_4 : Cond.selects "TextForge" ⟨"TextForge", "keptOfResult", "()I"⟩ ⟨"TextForge", "keptOfResult", "()I"⟩ ∈ gw := gw_pr (q := (⟨"TextForge", "keptOfResult", "()I"⟩, 7)) (List.mem_of_getElem? (i := 4) rfl)
theorem sw_5 : Cond.selects "TextForge$Codes" ⟨"TextForge$Codes", "widenTo", "(I)V"⟩ ⟨"TextForge$Codes", "widenTo", "(I)V"⟩ ∈ gw := gw_pr (q := (⟨"TextForge$Codes", "widenTo", "(I)V"⟩, 3)) (List.mem_of_getElem? (i := 5) rfl)
theorem sw_6 : Cond.selects "TextForge$Codes" ⟨"TextForge$Codes", "foundAt", "(I)I"⟩ ⟨"TextForge$Codes", "foundAt", "(I)I"⟩ ∈ gw := gw_pr (q := (⟨"TextForge$Codes", "foundAt", "(I)I"⟩, 3)) (List.mem_of_getElem? (i := 6) rfl)
theorem sw_7 : Cond.selects "TextForge" ⟨"TextForge", "requireRoomForArgument", "()V"⟩ ⟨"TextForge", "requireRoomForArgument", "()V"⟩ ∈ gw := gw_pr (q := (⟨"TextForge", "requireRoomForArgument", "()V"⟩, 7)) (List.mem_of_getElem? (i := 7) rfl)
theorem sw_8 : Cond.selects "java/lang/Throwable" ⟨"java/lang/Throwable", "fillInStackTrace", "(I)Ljava/lang/Throwable;"⟩ ⟨"java/lang/Throwable", "fillInStackTrace", "(I)Ljava/lang/Throwable;"⟩ ∈ gw := gw_pr (q := (⟨"java/lang/Throwable", "fillInStackTrace", "(I)Ljava/lang/Throwable;"⟩, 6)) (List.mem_of_getElem? (i := 8) rfl)
theorem sw_9 : Cond.selects "TextForge" ⟨"TextForge", "readNumber", "(I)Z"⟩ ⟨"TextForge", "readNumber", "(I)Z"⟩ ∈ gw := gw_pr (q := (⟨"TextForge", "readNumber", "(I)Z"⟩, 7)) (List.mem_of_getElem? (i := 9) rfl)
theorem sw_10 : Cond.selects "TextForgeModel" ⟨"TextForgeModel", "argue", "(IJ)I"⟩ ⟨"TextForgeModel", "argue", "(IJ)I"⟩ ∈ gw := gw_pr (q := (⟨"TextForgeModel", "argue", "(IJ)I"⟩, 19)) (List.mem_of_getElem? (i := 10) rfl)
theorem sw_11 : Cond.selects "TextForgeModel" ⟨"TextForgeModel", "fail", "(I)I"⟩ ⟨"TextForgeModel", "fail", "(I)I"⟩ ∈ gw := gw_pr (q := (⟨"TextForgeModel", "fail", "(I)I"⟩, 19)) (List.mem_of_getElem? (i := 11) rfl)
theorem sw_12 : Cond.selects "TextForgeModel" ⟨"TextForgeModel", "look", "([BII)V"⟩ ⟨"TextForgeModel", "look", "([BII)V"⟩ ∈ gw := gw_pr (q := (⟨"TextForgeModel", "look", "([BII)V"⟩, 19)) (List.mem_of_getElem? (i := 12) rfl)
theorem sw_13 : Cond.selects "TextForgeModel" ⟨"TextForgeModel", "give", "(I)V"⟩ ⟨"TextForgeModel", "give", "(I)V"⟩ ∈ gw := gw_pr (q := (⟨"TextForgeModel", "give", "(I)V"⟩, 19)) (List.mem_of_getElem? (i := 13) rfl)
theorem sw_14 : Cond.selects "TextForgeModel" ⟨"TextForgeModel", "makes", "(IIZ)Z"⟩ ⟨"TextForgeModel", "makes", "(IIZ)Z"⟩ ∈ gw := gw_pr (q := (⟨"TextForgeModel", "makes", "(IIZ)Z"⟩, 19)) (List.mem_of_getElem? (i := 14) rfl)
theorem sw_15 : Cond.selects "TextForgeModel" ⟨"TextForgeModel", "isBelow", "(I)Z"⟩ ⟨"TextForgeModel", "isBelow", "(I)Z"⟩ ∈ gw := gw_pr (q := (⟨"TextForgeModel", "isBelow", "(I)Z"⟩, 19)) (List.mem_of_getElem? (i := 15) rfl)
theorem sw_16 : Cond.selects "TextForgeModel" ⟨"TextForgeModel", "put", "(I)V"⟩ ⟨"TextForgeModel", "put", "(I)V"⟩ ∈ gw := gw_pr (q := (⟨"TextForgeModel", "put", "(I)V"⟩, 19)) (List.mem_of_getElem? (i := 16) rfl)
theorem sw_17 : Cond.selects "TextForgeModel" ⟨"TextForgeModel", "sized", "(IIZ)V"⟩ ⟨"TextForgeModel", "sized", "(IIZ)V"⟩ ∈ gw := gw_pr (q := (⟨"TextForgeModel", "sized", "(IIZ)V"⟩, 19)) (List.mem_of_getElem? (i := 17) rfl)
theorem sw_18 : Cond.selects "TextForgeModel" ⟨"TextForgeModel", "digits", "(JIZ)V"⟩ ⟨"TextForgeModel", "digits", "(JIZ)V"⟩ ∈ gw := gw_pr (q := (⟨"TextForgeModel", "digits", "(JIZ)V"⟩, 19)) (List.mem_of_getElem? (i := 18) rfl)
theorem sw_19 : Cond.selects "TextForgeModel" ⟨"TextForgeModel", "hexOf", "(IZ)V"⟩ ⟨"TextForgeModel", "hexOf", "(IZ)V"⟩ ∈ gw := gw_pr (q := (⟨"TextForgeModel", "hexOf", "(IZ)V"⟩, 19)) (List.mem_of_getElem? (i := 19) rfl)
theorem sw_20 : Cond.selects "TextForgeModel" ⟨"TextForgeModel", "hex", "(I)V"⟩ ⟨"TextForgeModel", "hex", "(I)V"⟩ ∈ gw := gw_pr (q := (⟨"TextForgeModel", "hex", "(I)V"⟩, 19)) (List.mem_of_getElem? (i := 20) rfl)
theorem sw_21 : Cond.selects "TextForgeModel" ⟨"TextForgeModel", "utf", "(I)V"⟩ ⟨"TextForgeModel", "utf", "(I)V"⟩ ∈ gw := gw_pr (q := (⟨"TextForgeModel", "utf", "(I)V"⟩, 19)) (List.mem_of_getElem? (i := 21) rfl)
theorem sw_22 : Cond.selects "TextForgeModel" ⟨"TextForgeModel", "quoted", "(II)V"⟩ ⟨"TextForgeModel", "quoted", "(II)V"⟩ ∈ gw := gw_pr (q := (⟨"TextForgeModel", "quoted", "(II)V"⟩, 19)) (List.mem_of_getElem? (i := 22) rfl)
theorem sw_23 : Cond.selects "TextForgeModel" ⟨"TextForgeModel", "textOf", "(I)V"⟩ ⟨"TextForgeModel", "textOf", "(I)V"⟩ ∈ gw := gw_pr (q := (⟨"TextForgeModel", "textOf", "(I)V"⟩, 19)) (List.mem_of_getElem? (i := 23) rfl)
theorem sw_24 : Cond.selects "TextForgeModel" ⟨"TextForgeModel", "quoteRow", "([BII)V"⟩ ⟨"TextForgeModel", "quoteRow", "([BII)V"⟩ ∈ gw := gw_pr (q := (⟨"TextForgeModel", "quoteRow", "([BII)V"⟩, 19)) (List.mem_of_getElem? (i := 24) rfl)
theorem sw_25 : Cond.selects "TextForgeModel" ⟨"TextForgeModel", "plain", "(I)V"⟩ ⟨"TextForgeModel", "plain", "(I)V"⟩ ∈ gw := gw_pr (q := (⟨"TextForgeModel", "plain", "(I)V"⟩, 19)) (List.mem_of_getElem? (i := 25) rfl)
theorem sw_26 : Cond.selects "TextForgeModel" ⟨"TextForgeModel", "put", "(Ljava/lang/String;)V"⟩ ⟨"TextForgeModel", "put", "(Ljava/lang/String;)V"⟩ ∈ gw := gw_pr (q := (⟨"TextForgeModel", "put", "(Ljava/lang/String;)V"⟩, 19)) (List.mem_of_getElem? (i := 26) rfl)
theorem sw_27 : Cond.selects "TextForgeModel" ⟨"TextForgeModel", "lay", "(IZZ)V"⟩ ⟨"TextForgeModel", "lay", "(IZZ)V"⟩ ∈ gw := gw_pr (q := (⟨"TextForgeModel", "lay", "(IZZ)V"⟩, 19)) (List.mem_of_getElem? (i := 27) rfl)
theorem sw_28 : Cond.selects "TextForgeModel" ⟨"TextForgeModel", "giveParts", "()V"⟩ ⟨"TextForgeModel", "giveParts", "()V"⟩ ∈ gw := gw_pr (q := (⟨"TextForgeModel", "giveParts", "()V"⟩, 19)) (List.mem_of_getElem? (i := 28) rfl)
