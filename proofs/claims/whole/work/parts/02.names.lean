-- the names of classes, fields and methods (claim/NAMES.whole.lean.txt)
def RX0 : String := "PatchAsks$Bank"
def TX0 : u_T := fun k => match k with
  | 0 => ("PatchAsks$Bank", "kind", "I", true)
  | _ => ("PatchAsks$Bank", "places", "[LPatchAsks$Voice;", true)
def tyX0 : Nat → FieldType := fun k => match k with
  | 0 => .int
  | _ => .array (.object "PatchAsks$Voice")
abbrev wsX00 : List Cond := u_ws RX0 TX0 2
theorem nmX0 : ∀ a, a < 2 → ∀ b, b < 2 → a ≠ b → (TX0 a).2.1 ≠ (TX0 b).2.1 := by decide +kernel
theorem tyX0_ok : ∀ k, k < 2 → parseFieldDescriptor (TX0 k).2.2.1 = some (tyX0 k) := by decide +kernel
abbrev cX0_init : ByteArray := prog_2_method_1_code
def yX0_init : MethodName := ⟨RX0, "<init>", "(I[LPatchAsks$Voice;)V"⟩
abbrev cX0_has : ByteArray := prog_2_method_2_code
def yX0_has : MethodName := ⟨RX0, "has", "(I)Z"⟩
abbrev cX0_code : ByteArray := prog_2_method_3_code
def yX0_code : MethodName := ⟨RX0, "code", "()I"⟩
abbrev cX0_joinedTo : ByteArray := prog_2_method_4_code
def yX0_joinedTo : MethodName := ⟨RX0, "joinedTo", "(J)J"⟩
def RX1 : String := "PatchAsks$Curve"
def TX1 : u_T := fun k => match k with
  | 0 => ("PatchAsks$Curve", "lane", "I", true)
  | _ => ("PatchAsks$Curve", "words", "[J", true)
def tyX1 : Nat → FieldType := fun k => match k with
  | 0 => .int
  | _ => .array .long
abbrev wsX10 : List Cond := u_ws RX1 TX1 2
theorem nmX1 : ∀ a, a < 2 → ∀ b, b < 2 → a ≠ b → (TX1 a).2.1 ≠ (TX1 b).2.1 := by decide +kernel
theorem tyX1_ok : ∀ k, k < 2 → parseFieldDescriptor (TX1 k).2.2.1 = some (tyX1 k) := by decide +kernel
abbrev cX1_init : ByteArray := prog_3_method_1_code
def yX1_init : MethodName := ⟨RX1, "<init>", "(I[J)V"⟩
abbrev cX1_has : ByteArray := prog_3_method_2_code
def yX1_has : MethodName := ⟨RX1, "has", "(I)Z"⟩
abbrev cX1_hasPart : ByteArray := prog_3_method_3_code
def yX1_hasPart : MethodName := ⟨RX1, "hasPart", "(II)Z"⟩
abbrev cX1_code : ByteArray := prog_3_method_4_code
def yX1_code : MethodName := ⟨RX1, "code", "()I"⟩
abbrev cX1_joinedTo : ByteArray := prog_3_method_5_code
def yX1_joinedTo : MethodName := ⟨RX1, "joinedTo", "(J)J"⟩
def RX2 : String := "PatchAsks$FloatForm"
def TX2 : u_T := fun k => match k with
  | 0 => ("PatchAsks$FloatForm", "fractionBits", "I", true)
  | 1 => ("PatchAsks$FloatForm", "bias", "I", true)
  | _ => ("PatchAsks$FloatForm", "minus", "J", true)
def tyX2 : Nat → FieldType := fun k => match k with
  | 0 => .int
  | 1 => .int
  | _ => .long
abbrev wsX20 : List Cond := u_ws RX2 TX2 3
theorem nmX2 : ∀ a, a < 3 → ∀ b, b < 3 → a ≠ b → (TX2 a).2.1 ≠ (TX2 b).2.1 := by decide +kernel
theorem tyX2_ok : ∀ k, k < 3 → parseFieldDescriptor (TX2 k).2.2.1 = some (tyX2 k) := by decide +kernel
abbrev cX2_init : ByteArray := prog_4_method_1_code
def yX2_init : MethodName := ⟨RX2, "<init>", "(IIJ)V"⟩
abbrev cX2_sizeOf : ByteArray := prog_4_method_2_code
def yX2_sizeOf : MethodName := ⟨RX2, "sizeOf", "(J)J"⟩
abbrev cX2_signed : ByteArray := prog_4_method_3_code
def yX2_signed : MethodName := ⟨RX2, "signed", "(JZ)J"⟩
abbrev cX2_one : ByteArray := prog_4_method_4_code
def yX2_one : MethodName := ⟨RX2, "one", "()J"⟩
abbrev cX2_endless : ByteArray := prog_4_method_5_code
def yX2_endless : MethodName := ⟨RX2, "endless", "()J"⟩
abbrev cX2_isEndless : ByteArray := prog_4_method_6_code
def yX2_isEndless : MethodName := ⟨RX2, "isEndless", "(J)Z"⟩
abbrev cX2_isNumber : ByteArray := prog_4_method_7_code
def yX2_isNumber : MethodName := ⟨RX2, "isNumber", "(J)Z"⟩
abbrev cX2_rank : ByteArray := prog_4_method_8_code
def yX2_rank : MethodName := ⟨RX2, "rank", "(J)J"⟩
abbrev cX2_powerOf : ByteArray := prog_4_method_9_code
def yX2_powerOf : MethodName := ⟨RX2, "powerOf", "(J)I"⟩
abbrev cX2_whole : ByteArray := prog_4_method_10_code
def yX2_whole : MethodName := ⟨RX2, "whole", "(JI)J"⟩
abbrev cX2_goesOut : ByteArray := prog_4_method_11_code
def yX2_goesOut : MethodName := ⟨RX2, "goesOut", "(IZZ)Z"⟩
abbrev cX2_fieldOf : ByteArray := prog_4_method_12_code
def yX2_fieldOf : MethodName := ⟨RX2, "fieldOf", "(J)I"⟩
abbrev cX2_digitsOf : ByteArray := prog_4_method_13_code
def yX2_digitsOf : MethodName := ⟨RX2, "digitsOf", "(J)J"⟩
abbrev cX2_left : ByteArray := prog_4_method_14_code
def yX2_left : MethodName := ⟨RX2, "left", "(JJ)J"⟩
abbrev cX2_packed : ByteArray := prog_4_method_15_code
def yX2_packed : MethodName := ⟨RX2, "packed", "(JI)J"⟩
abbrev cX2_cut : ByteArray := prog_4_method_16_code
def yX2_cut : MethodName := ⟨RX2, "cut", "(J)J"⟩
def RX3 : String := "PatchAsks$Sheet"
def TX3 : u_T := fun k => match k with
  | _ => ("PatchAsks$Sheet", "lines", "[LPatchAsks$Curve;", true)
def tyX3 : Nat → FieldType := fun k => match k with
  | _ => .array (.object "PatchAsks$Curve")
abbrev wsX30 : List Cond := u_ws RX3 TX3 1
theorem nmX3 : ∀ a, a < 1 → ∀ b, b < 1 → a ≠ b → (TX3 a).2.1 ≠ (TX3 b).2.1 := by decide +kernel
theorem tyX3_ok : ∀ k, k < 1 → parseFieldDescriptor (TX3 k).2.2.1 = some (tyX3 k) := by decide +kernel
abbrev cX3_init : ByteArray := prog_5_method_1_code
def yX3_init : MethodName := ⟨RX3, "<init>", "([LPatchAsks$Curve;)V"⟩
abbrev cX3_has : ByteArray := prog_5_method_2_code
def yX3_has : MethodName := ⟨RX3, "has", "(I)Z"⟩
abbrev cX3_code : ByteArray := prog_5_method_3_code
def yX3_code : MethodName := ⟨RX3, "code", "()I"⟩
abbrev cX3_joinedTo : ByteArray := prog_5_method_4_code
def yX3_joinedTo : MethodName := ⟨RX3, "joinedTo", "(J)J"⟩
def RX4 : String := "PatchAsks$Thing"
def TX4 : u_T := fun k => match k with
  | _ => ("", "", "", false)
def tyX4 : Nat → FieldType := fun k => match k with
  | _ => .int
abbrev wsX40 : List Cond := u_ws RX4 TX4 0
theorem nmX4 : ∀ a, a < 0 → ∀ b, b < 0 → a ≠ b → (TX4 a).2.1 ≠ (TX4 b).2.1 := by decide +kernel
theorem tyX4_ok : ∀ k, k < 0 → parseFieldDescriptor (TX4 k).2.2.1 = some (tyX4 k) := by decide +kernel
abbrev cX4_init : ByteArray := prog_6_method_1_code
def yX4_init : MethodName := ⟨RX4, "<init>", "()V"⟩
def RX5 : String := "PatchAsks$Voice"
def TX5 : u_T := fun k => match k with
  | 0 => ("PatchAsks$Voice", "kind", "I", true)
  | 1 => ("PatchAsks$Voice", "number", "I", true)
  | 2 => ("PatchAsks$Voice", "level", "I", false)
  | 3 => ("PatchAsks$Voice", "ownLevel", "I", false)
  | 4 => ("PatchAsks$Voice", "skin", "I", false)
  | 5 => ("PatchAsks$Voice", "edits", "I", false)
  | _ => ("PatchAsks$Voice", "troubled", "Z", false)
def tyX5 : Nat → FieldType := fun k => match k with
  | 0 => .int
  | 1 => .int
  | 2 => .int
  | 3 => .int
  | 4 => .int
  | 5 => .int
  | _ => .boolean
abbrev wsX50 : List Cond := u_ws RX5 TX5 7
theorem nmX5 : ∀ a, a < 7 → ∀ b, b < 7 → a ≠ b → (TX5 a).2.1 ≠ (TX5 b).2.1 := by decide +kernel
theorem tyX5_ok : ∀ k, k < 7 → parseFieldDescriptor (TX5 k).2.2.1 = some (tyX5 k) := by decide +kernel
abbrev cX5_init : ByteArray := prog_7_method_1_code
def yX5_init : MethodName := ⟨RX5, "<init>", "(II)V"⟩
abbrev cX5_code : ByteArray := prog_7_method_2_code
def yX5_code : MethodName := ⟨RX5, "code", "()I"⟩
abbrev cX5_joinedTo : ByteArray := prog_7_method_3_code
def yX5_joinedTo : MethodName := ⟨RX5, "joinedTo", "(J)J"⟩
def RX6 : String := "PatchAsks"
def TX6 : u_T := fun k => match k with
  | 0 => ("PatchAsks", "boxes", "[LPatchAsks$Thing;", true)
  | 1 => ("PatchAsks", "traced", "[I", true)
  | 2 => ("PatchAsks", "timesFound", "[I", true)
  | 3 => ("PatchAsks", "floats", "LPatchAsks$FloatForm;", true)
  | 4 => ("PatchAsks", "doubles", "LPatchAsks$FloatForm;", true)
  | 5 => ("PatchAsks", "tracedCount", "I", false)
  | 6 => ("PatchAsks", "latestFound", "I", false)
  | 7 => ("PatchAsks", "voicesMade", "I", false)
  | 8 => ("PatchAsks", "turnsDone", "I", false)
  | _ => ("PatchAsks", "lastSeen", "J", false)
def tyX6 : Nat → FieldType := fun k => match k with
  | 0 => .array (.object "PatchAsks$Thing")
  | 1 => .array .int
  | 2 => .array .int
  | 3 => .object "PatchAsks$FloatForm"
  | 4 => .object "PatchAsks$FloatForm"
  | 5 => .int
  | 6 => .int
  | 7 => .int
  | 8 => .int
  | _ => .long
abbrev wsX60 : List Cond := u_ws RX6 TX6 10
theorem nmX6 : ∀ a, a < 10 → ∀ b, b < 10 → a ≠ b → (TX6 a).2.1 ≠ (TX6 b).2.1 := by decide +kernel
theorem tyX6_ok : ∀ k, k < 10 → parseFieldDescriptor (TX6 k).2.2.1 = some (tyX6 k) := by decide +kernel
abbrev cX6_init : ByteArray := prog_1_method_1_code
def yX6_init : MethodName := ⟨RX6, "<init>", "()V"⟩
abbrev cX6_curve : ByteArray := prog_1_method_2_code
def yX6_curve : MethodName := ⟨RX6, "curve", "(III)I"⟩
abbrev cX6_sheet : ByteArray := prog_1_method_3_code
def yX6_sheet : MethodName := ⟨RX6, "sheet", "(III)I"⟩
abbrev cX6_bank : ByteArray := prog_1_method_4_code
def yX6_bank : MethodName := ⟨RX6, "bank", "(III)I"⟩
abbrev cX6_voice : ByteArray := prog_1_method_5_code
def yX6_voice : MethodName := ⟨RX6, "voice", "(II)I"⟩
abbrev cX6_share : ByteArray := prog_1_method_6_code
def yX6_share : MethodName := ⟨RX6, "share", "(II)I"⟩
abbrev cX6_clear : ByteArray := prog_1_method_7_code
def yX6_clear : MethodName := ⟨RX6, "clear", "(I)I"⟩
abbrev cX6_what : ByteArray := prog_1_method_8_code
def yX6_what : MethodName := ⟨RX6, "what", "(I)I"⟩
abbrev cX6_is : ByteArray := prog_1_method_9_code
def yX6_is : MethodName := ⟨RX6, "is", "(II)I"⟩
abbrev cX6_width : ByteArray := prog_1_method_10_code
def yX6_width : MethodName := ⟨RX6, "width", "(II)I"⟩
abbrev cX6_read : ByteArray := prog_1_method_11_code
def yX6_read : MethodName := ⟨RX6, "read", "(III)I"⟩
abbrev cX6_write : ByteArray := prog_1_method_12_code
def yX6_write : MethodName := ⟨RX6, "write", "(IIIJ)I"⟩
abbrev cX6_copy : ByteArray := prog_1_method_13_code
def yX6_copy : MethodName := ⟨RX6, "copy", "(IIIII)I"⟩
abbrev cX6_grow : ByteArray := prog_1_method_14_code
def yX6_grow : MethodName := ⟨RX6, "grow", "(II)I"⟩
abbrev cX6_shape : ByteArray := prog_1_method_15_code
def yX6_shape : MethodName := ⟨RX6, "shape", "(IIIJ)I"⟩
abbrev cX6_seen : ByteArray := prog_1_method_16_code
def yX6_seen : MethodName := ⟨RX6, "seen", "()J"⟩
abbrev cX6_line : ByteArray := prog_1_method_17_code
def yX6_line : MethodName := ⟨RX6, "line", "(III)I"⟩
abbrev cX6_rule : ByteArray := prog_1_method_18_code
def yX6_rule : MethodName := ⟨RX6, "rule", "(IIII)I"⟩
abbrev cX6_lay : ByteArray := prog_1_method_19_code
def yX6_lay : MethodName := ⟨RX6, "lay", "(III)I"⟩
abbrev cX6_set : ByteArray := prog_1_method_20_code
def yX6_set : MethodName := ⟨RX6, "set", "(III)I"⟩
abbrev cX6_get : ByteArray := prog_1_method_21_code
def yX6_get : MethodName := ⟨RX6, "get", "(II)I"⟩
abbrev cX6_take : ByteArray := prog_1_method_22_code
def yX6_take : MethodName := ⟨RX6, "take", "(III)I"⟩
abbrev cX6_level : ByteArray := prog_1_method_23_code
def yX6_level : MethodName := ⟨RX6, "level", "(II)I"⟩
abbrev cX6_raise : ByteArray := prog_1_method_24_code
def yX6_raise : MethodName := ⟨RX6, "raise", "(III)I"⟩
abbrev cX6_ask : ByteArray := prog_1_method_25_code
def yX6_ask : MethodName := ⟨RX6, "ask", "(II)I"⟩
abbrev cX6_turn : ByteArray := prog_1_method_26_code
def yX6_turn : MethodName := ⟨RX6, "turn", "(II)I"⟩
abbrev cX6_arm : ByteArray := prog_1_method_27_code
def yX6_arm : MethodName := ⟨RX6, "arm", "(IZ)I"⟩
abbrev cX6_fail : ByteArray := prog_1_method_28_code
def yX6_fail : MethodName := ⟨RX6, "fail", "(I)I"⟩
abbrev cX6_trace : ByteArray := prog_1_method_29_code
def yX6_trace : MethodName := ⟨RX6, "trace", "(I)I"⟩
abbrev cX6_finding : ByteArray := prog_1_method_30_code
def yX6_finding : MethodName := ⟨RX6, "finding", "()I"⟩
abbrev cX6_findings : ByteArray := prog_1_method_31_code
def yX6_findings : MethodName := ⟨RX6, "findings", "(I)I"⟩
abbrev cX6_about : ByteArray := prog_1_method_32_code
def yX6_about : MethodName := ⟨RX6, "about", "(I)I"⟩
abbrev cX6_digest : ByteArray := prog_1_method_33_code
def yX6_digest : MethodName := ⟨RX6, "digest", "()J"⟩
abbrev cX6_isBox : ByteArray := prog_1_method_34_code
def yX6_isBox : MethodName := ⟨RX6, "isBox", "(I)Z"⟩
abbrev cX6_thingIn : ByteArray := prog_1_method_35_code
def yX6_thingIn : MethodName := ⟨RX6, "thingIn", "(I)LPatchAsks$Thing;"⟩
abbrev cX6_codeIn : ByteArray := prog_1_method_36_code
def yX6_codeIn : MethodName := ⟨RX6, "codeIn", "(I)I"⟩
abbrev cX6_boxesInUse : ByteArray := prog_1_method_37_code
def yX6_boxesInUse : MethodName := ⟨RX6, "boxesInUse", "()I"⟩
abbrev cX6_found : ByteArray := prog_1_method_38_code
def yX6_found : MethodName := ⟨RX6, "found", "(I)I"⟩
abbrev cX6_notSuch : ByteArray := prog_1_method_39_code
def yX6_notSuch : MethodName := ⟨RX6, "notSuch", "(I)I"⟩
abbrev cX6_isOther : ByteArray := prog_1_method_40_code
def yX6_isOther : MethodName := ⟨RX6, "isOther", "(LPatchAsks$Thing;LPatchAsks$Thing;)Z"⟩
abbrev cX6_joined : ByteArray := prog_1_method_41_code
def yX6_joined : MethodName := ⟨RX6, "joined", "(JJ)J"⟩
abbrev cX6_anyCurveOf : ByteArray := prog_1_method_42_code
def yX6_anyCurveOf : MethodName := ⟨RX6, "anyCurveOf", "(LPatchAsks$Thing;)LPatchAsks$Curve;"⟩
abbrev cX6_curveOf : ByteArray := prog_1_method_43_code
def yX6_curveOf : MethodName := ⟨RX6, "curveOf", "(LPatchAsks$Thing;I)LPatchAsks$Curve;"⟩
abbrev cX6_sheetOf : ByteArray := prog_1_method_44_code
def yX6_sheetOf : MethodName := ⟨RX6, "sheetOf", "(LPatchAsks$Thing;)LPatchAsks$Sheet;"⟩
abbrev cX6_bankOf : ByteArray := prog_1_method_45_code
def yX6_bankOf : MethodName := ⟨RX6, "bankOf", "(LPatchAsks$Thing;)LPatchAsks$Bank;"⟩
abbrev cX6_voiceOf : ByteArray := prog_1_method_46_code
def yX6_voiceOf : MethodName := ⟨RX6, "voiceOf", "(LPatchAsks$Thing;)LPatchAsks$Voice;"⟩
abbrev cX6_countOf : ByteArray := prog_1_method_47_code
def yX6_countOf : MethodName := ⟨RX6, "countOf", "(LPatchAsks$Thing;I)I"⟩
abbrev cX6_isQuestion : ByteArray := prog_1_method_48_code
def yX6_isQuestion : MethodName := ⟨RX6, "isQuestion", "(I)Z"⟩
abbrev cX6_holds : ByteArray := prog_1_method_49_code
def yX6_holds : MethodName := ⟨RX6, "holds", "(LPatchAsks$Thing;I)Z"⟩
abbrev cX6_isOfKind : ByteArray := prog_1_method_50_code
def yX6_isOfKind : MethodName := ⟨RX6, "isOfKind", "(II)Z"⟩
abbrev cX6_isHeard : ByteArray := prog_1_method_51_code
def yX6_isHeard : MethodName := ⟨RX6, "isHeard", "(I)Z"⟩
abbrev cX6_numberOf : ByteArray := prog_1_method_52_code
def yX6_numberOf : MethodName := ⟨RX6, "numberOf", "(LPatchAsks$Voice;)I"⟩
abbrev cX6_lineAt : ByteArray := prog_1_method_53_code
def yX6_lineAt : MethodName := ⟨RX6, "lineAt", "(II)LPatchAsks$Curve;"⟩
abbrev cX6_noLine : ByteArray := prog_1_method_54_code
def yX6_noLine : MethodName := ⟨RX6, "noLine", "(II)I"⟩
abbrev cX6_isLane : ByteArray := prog_1_method_55_code
def yX6_isLane : MethodName := ⟨RX6, "isLane", "(I)Z"⟩
abbrev cX6_formOf : ByteArray := prog_1_method_56_code
def yX6_formOf : MethodName := ⟨RX6, "formOf", "(I)LPatchAsks$FloatForm;"⟩
abbrev cX6_told : ByteArray := prog_1_method_57_code
def yX6_told : MethodName := ⟨RX6, "told", "(IJ)J"⟩
abbrev cX6_tellsNumber : ByteArray := prog_1_method_58_code
def yX6_tellsNumber : MethodName := ⟨RX6, "tellsNumber", "(IJ)Z"⟩
abbrev cX6_hasWay : ByteArray := prog_1_method_59_code
def yX6_hasWay : MethodName := ⟨RX6, "hasWay", "(II)Z"⟩
abbrev cX6_cannotDivide : ByteArray := prog_1_method_60_code
def yX6_cannotDivide : MethodName := ⟨RX6, "cannotDivide", "(IIJJ)Z"⟩
abbrev cX6_shapedWhole : ByteArray := prog_1_method_61_code
def yX6_shapedWhole : MethodName := ⟨RX6, "shapedWhole", "(IIJJ)J"⟩
abbrev cX6_shapedFloating : ByteArray := prog_1_method_62_code
def yX6_shapedFloating : MethodName := ⟨RX6, "shapedFloating", "(LPatchAsks$FloatForm;IJJ)J"⟩
abbrev cX6_note : ByteArray := prog_1_method_63_code
def yX6_note : MethodName := ⟨RX6, "note", "(I)V"⟩
abbrev cX6_colourOf : ByteArray := prog_1_method_64_code
def yX6_colourOf : MethodName := ⟨RX6, "colourOf", "(LPatchAsks$Voice;)I"⟩
abbrev cX6_plainColour : ByteArray := prog_1_method_65_code
def yX6_plainColour : MethodName := ⟨RX6, "plainColour", "(LPatchAsks$Voice;)I"⟩
abbrev cX6_strengthOf : ByteArray := prog_1_method_66_code
def yX6_strengthOf : MethodName := ⟨RX6, "strengthOf", "(LPatchAsks$Voice;)I"⟩
abbrev cX6_noiseStrength : ByteArray := prog_1_method_67_code
def yX6_noiseStrength : MethodName := ⟨RX6, "noiseStrength", "()I"⟩
abbrev cX6_plainStrength : ByteArray := prog_1_method_68_code
def yX6_plainStrength : MethodName := ⟨RX6, "plainStrength", "()I"⟩
abbrev cX6_playOf : ByteArray := prog_1_method_69_code
def yX6_playOf : MethodName := ⟨RX6, "playOf", "(LPatchAsks$Voice;)I"⟩
abbrev cX6_tonePlay : ByteArray := prog_1_method_70_code
def yX6_tonePlay : MethodName := ⟨RX6, "tonePlay", "(LPatchAsks$Voice;)I"⟩
abbrev cX6_noisePlay : ByteArray := prog_1_method_71_code
def yX6_noisePlay : MethodName := ⟨RX6, "noisePlay", "(LPatchAsks$Voice;)I"⟩
abbrev cX6_heardOf : ByteArray := prog_1_method_72_code
def yX6_heardOf : MethodName := ⟨RX6, "heardOf", "(LPatchAsks$Voice;)I"⟩
abbrev cX6_turnVoice : ByteArray := prog_1_method_73_code
def yX6_turnVoice : MethodName := ⟨RX6, "turnVoice", "(LPatchAsks$Voice;I)V"⟩
abbrev cX6_hasLevel : ByteArray := prog_1_method_74_code
def yX6_hasLevel : MethodName := ⟨RX6, "hasLevel", "(II)Z"⟩
def RX7 : String := "PatchAsksModel"
def TX7 : u_T := fun k => match k with
  | 0 => ("PatchAsksModel", "sorts", "[I", true)
  | 1 => ("PatchAsksModel", "numbers", "[I", true)
  | 2 => ("PatchAsksModel", "rows", "I", false)
  | 3 => ("PatchAsksModel", "laneOf", "[I", true)
  | 4 => ("PatchAsksModel", "sizeOf", "[I", true)
  | 5 => ("PatchAsksModel", "firstOf", "[I", true)
  | 6 => ("PatchAsksModel", "used", "I", false)
  | 7 => ("PatchAsksModel", "words", "[J", true)
  | 8 => ("PatchAsksModel", "sheets", "I", false)
  | 9 => ("PatchAsksModel", "linesOf", "[I", true)
  | 10 => ("PatchAsksModel", "lines", "[I", true)
  | 11 => ("PatchAsksModel", "banks", "I", false)
  | 12 => ("PatchAsksModel", "bankKind", "[I", true)
  | 13 => ("PatchAsksModel", "placesOf", "[I", true)
  | 14 => ("PatchAsksModel", "places", "[I", true)
  | 15 => ("PatchAsksModel", "voices", "I", false)
  | 16 => ("PatchAsksModel", "kinds", "[I", true)
  | 17 => ("PatchAsksModel", "levels", "[I", true)
  | 18 => ("PatchAsksModel", "owns", "[I", true)
  | 19 => ("PatchAsksModel", "skins", "[I", true)
  | 20 => ("PatchAsksModel", "edits", "[I", true)
  | 21 => ("PatchAsksModel", "armed", "[Z", true)
  | 22 => ("PatchAsksModel", "seen", "J", false)
  | 23 => ("PatchAsksModel", "traced", "I", false)
  | 24 => ("PatchAsksModel", "traces", "[I", true)
  | 25 => ("PatchAsksModel", "latest", "I", false)
  | 26 => ("PatchAsksModel", "found", "[I", true)
  | 27 => ("PatchAsksModel", "turned", "I", false)
  | _ => ("PatchAsksModel", "h", "J", false)
def tyX7 : Nat → FieldType := fun k => match k with
  | 0 => .array .int
  | 1 => .array .int
  | 2 => .int
  | 3 => .array .int
  | 4 => .array .int
  | 5 => .array .int
  | 6 => .int
  | 7 => .array .long
  | 8 => .int
  | 9 => .array .int
  | 10 => .array .int
  | 11 => .int
  | 12 => .array .int
  | 13 => .array .int
  | 14 => .array .int
  | 15 => .int
  | 16 => .array .int
  | 17 => .array .int
  | 18 => .array .int
  | 19 => .array .int
  | 20 => .array .int
  | 21 => .array .boolean
  | 22 => .long
  | 23 => .int
  | 24 => .array .int
  | 25 => .int
  | 26 => .array .int
  | 27 => .int
  | _ => .long
abbrev wsX70 : List Cond := u_ws RX7 TX7 29
theorem nmX7 : ∀ a, a < 29 → ∀ b, b < 29 → a ≠ b → (TX7 a).2.1 ≠ (TX7 b).2.1 := by decide +kernel
theorem tyX7_ok : ∀ k, k < 29 → parseFieldDescriptor (TX7 k).2.2.1 = some (tyX7 k) := by decide +kernel
abbrev cX7_init : ByteArray := prog_9_method_1_code
def yX7_init : MethodName := ⟨RX7, "<init>", "()V"⟩
abbrev cX7_in : ByteArray := prog_9_method_3_code
def yX7_in : MethodName := ⟨RX7, "in", "(III)Z"⟩
abbrev cX7_isBox : ByteArray := prog_9_method_4_code
def yX7_isBox : MethodName := ⟨RX7, "isBox", "(I)Z"⟩
abbrev cX7_finds : ByteArray := prog_9_method_5_code
def yX7_finds : MethodName := ⟨RX7, "finds", "(I)I"⟩
abbrev cX7_isSuch : ByteArray := prog_9_method_6_code
def yX7_isSuch : MethodName := ⟨RX7, "isSuch", "(II)Z"⟩
abbrev cX7_isHeard : ByteArray := prog_9_method_7_code
def yX7_isHeard : MethodName := ⟨RX7, "isHeard", "(I)Z"⟩
abbrev cX7_hold : ByteArray := prog_9_method_8_code
def yX7_hold : MethodName := ⟨RX7, "hold", "(III)V"⟩
abbrev cX7_isVoice : ByteArray := prog_9_method_9_code
def yX7_isVoice : MethodName := ⟨RX7, "isVoice", "(I)Z"⟩
abbrev cX7_isCurve : ByteArray := prog_9_method_10_code
def yX7_isCurve : MethodName := ⟨RX7, "isCurve", "(II)Z"⟩
abbrev cX7_newRow : ByteArray := prog_9_method_11_code
def yX7_newRow : MethodName := ⟨RX7, "newRow", "(II)I"⟩
abbrev cX7_curve : ByteArray := prog_9_method_12_code
def yX7_curve : MethodName := ⟨RX7, "curve", "(III)I"⟩
abbrev cX7_sheet : ByteArray := prog_9_method_13_code
def yX7_sheet : MethodName := ⟨RX7, "sheet", "(III)I"⟩
abbrev cX7_bank : ByteArray := prog_9_method_14_code
def yX7_bank : MethodName := ⟨RX7, "bank", "(III)I"⟩
abbrev cX7_voice : ByteArray := prog_9_method_15_code
def yX7_voice : MethodName := ⟨RX7, "voice", "(II)I"⟩
abbrev cX7_share : ByteArray := prog_9_method_16_code
def yX7_share : MethodName := ⟨RX7, "share", "(II)I"⟩
abbrev cX7_clear : ByteArray := prog_9_method_17_code
def yX7_clear : MethodName := ⟨RX7, "clear", "(I)I"⟩
abbrev cX7_what : ByteArray := prog_9_method_18_code
def yX7_what : MethodName := ⟨RX7, "what", "(I)I"⟩
abbrev cX7_is : ByteArray := prog_9_method_19_code
def yX7_is : MethodName := ⟨RX7, "is", "(II)I"⟩
abbrev cX7_width : ByteArray := prog_9_method_20_code
def yX7_width : MethodName := ⟨RX7, "width", "(II)I"⟩
abbrev cX7_tells : ByteArray := prog_9_method_21_code
def yX7_tells : MethodName := ⟨RX7, "tells", "(IJ)Z"⟩
abbrev cX7_asWord : ByteArray := prog_9_method_22_code
def yX7_asWord : MethodName := ⟨RX7, "asWord", "(IJ)J"⟩
abbrev cX7_met : ByteArray := prog_9_method_23_code
def yX7_met : MethodName := ⟨RX7, "met", "(III)I"⟩
abbrev cX7_read : ByteArray := prog_9_method_24_code
def yX7_read : MethodName := ⟨RX7, "read", "(III)I"⟩
abbrev cX7_write : ByteArray := prog_9_method_25_code
def yX7_write : MethodName := ⟨RX7, "write", "(IIIJ)I"⟩
abbrev cX7_copy : ByteArray := prog_9_method_26_code
def yX7_copy : MethodName := ⟨RX7, "copy", "(IIIII)I"⟩
abbrev cX7_grow : ByteArray := prog_9_method_27_code
def yX7_grow : MethodName := ⟨RX7, "grow", "(II)I"⟩
abbrev cX7_hasWay : ByteArray := prog_9_method_28_code
def yX7_hasWay : MethodName := ⟨RX7, "hasWay", "(II)Z"⟩
abbrev cX7_shape : ByteArray := prog_9_method_29_code
def yX7_shape : MethodName := ⟨RX7, "shape", "(IIIJ)I"⟩
abbrev cX7_isZero : ByteArray := prog_9_method_30_code
def yX7_isZero : MethodName := ⟨RX7, "isZero", "(IJJ)Z"⟩
abbrev cX7_ofInts : ByteArray := prog_9_method_31_code
def yX7_ofInts : MethodName := ⟨RX7, "ofInts", "(III)J"⟩
abbrev cX7_ofLongs : ByteArray := prog_9_method_32_code
def yX7_ofLongs : MethodName := ⟨RX7, "ofLongs", "(JJI)J"⟩
abbrev cX7_whole : ByteArray := prog_9_method_33_code
def yX7_whole : MethodName := ⟨RX7, "whole", "(DI)D"⟩
abbrev cX7_ofFloats : ByteArray := prog_9_method_34_code
def yX7_ofFloats : MethodName := ⟨RX7, "ofFloats", "(III)J"⟩
abbrev cX7_ofDoubles : ByteArray := prog_9_method_35_code
def yX7_ofDoubles : MethodName := ⟨RX7, "ofDoubles", "(JJI)J"⟩
abbrev cX7_seen : ByteArray := prog_9_method_36_code
def yX7_seen : MethodName := ⟨RX7, "seen", "()J"⟩
abbrev cX7_lineAt : ByteArray := prog_9_method_37_code
def yX7_lineAt : MethodName := ⟨RX7, "lineAt", "(III)I"⟩
abbrev cX7_line : ByteArray := prog_9_method_38_code
def yX7_line : MethodName := ⟨RX7, "line", "(III)I"⟩
abbrev cX7_rule : ByteArray := prog_9_method_39_code
def yX7_rule : MethodName := ⟨RX7, "rule", "(IIII)I"⟩
abbrev cX7_lay : ByteArray := prog_9_method_40_code
def yX7_lay : MethodName := ⟨RX7, "lay", "(III)I"⟩
abbrev cX7_set : ByteArray := prog_9_method_41_code
def yX7_set : MethodName := ⟨RX7, "set", "(III)I"⟩
abbrev cX7_metAtBank : ByteArray := prog_9_method_42_code
def yX7_metAtBank : MethodName := ⟨RX7, "metAtBank", "(II)I"⟩
abbrev cX7_get : ByteArray := prog_9_method_43_code
def yX7_get : MethodName := ⟨RX7, "get", "(II)I"⟩
abbrev cX7_take : ByteArray := prog_9_method_44_code
def yX7_take : MethodName := ⟨RX7, "take", "(III)I"⟩
abbrev cX7_metAs : ByteArray := prog_9_method_45_code
def yX7_metAs : MethodName := ⟨RX7, "metAs", "(II)I"⟩
abbrev cX7_kindFor : ByteArray := prog_9_method_46_code
def yX7_kindFor : MethodName := ⟨RX7, "kindFor", "(I)I"⟩
abbrev cX7_level : ByteArray := prog_9_method_47_code
def yX7_level : MethodName := ⟨RX7, "level", "(II)I"⟩
abbrev cX7_raise : ByteArray := prog_9_method_48_code
def yX7_raise : MethodName := ⟨RX7, "raise", "(III)I"⟩
abbrev cX7_write_ : ByteArray := prog_9_method_49_code
def yX7_write_ : MethodName := ⟨RX7, "write", "(I)V"⟩
abbrev cX7_colour : ByteArray := prog_9_method_50_code
def yX7_colour : MethodName := ⟨RX7, "colour", "(I)I"⟩
abbrev cX7_strength : ByteArray := prog_9_method_51_code
def yX7_strength : MethodName := ⟨RX7, "strength", "(I)I"⟩
abbrev cX7_play : ByteArray := prog_9_method_52_code
def yX7_play : MethodName := ⟨RX7, "play", "(I)I"⟩
abbrev cX7_heard : ByteArray := prog_9_method_53_code
def yX7_heard : MethodName := ⟨RX7, "heard", "(I)I"⟩
abbrev cX7_ask : ByteArray := prog_9_method_54_code
def yX7_ask : MethodName := ⟨RX7, "ask", "(II)I"⟩
abbrev cX7_turn : ByteArray := prog_9_method_55_code
def yX7_turn : MethodName := ⟨RX7, "turn", "(II)I"⟩
abbrev cX7_arm : ByteArray := prog_9_method_56_code
def yX7_arm : MethodName := ⟨RX7, "arm", "(IZ)I"⟩
abbrev cX7_fail : ByteArray := prog_9_method_57_code
def yX7_fail : MethodName := ⟨RX7, "fail", "(I)I"⟩
abbrev cX7_trace : ByteArray := prog_9_method_58_code
def yX7_trace : MethodName := ⟨RX7, "trace", "(I)I"⟩
abbrev cX7_finding : ByteArray := prog_9_method_59_code
def yX7_finding : MethodName := ⟨RX7, "finding", "()I"⟩
abbrev cX7_findings : ByteArray := prog_9_method_60_code
def yX7_findings : MethodName := ⟨RX7, "findings", "(I)I"⟩
abbrev cX7_about : ByteArray := prog_9_method_61_code
def yX7_about : MethodName := ⟨RX7, "about", "(I)I"⟩
abbrev cX7_mix : ByteArray := prog_9_method_62_code
def yX7_mix : MethodName := ⟨RX7, "mix", "(J)V"⟩
abbrev cX7_mixRow : ByteArray := prog_9_method_63_code
def yX7_mixRow : MethodName := ⟨RX7, "mixRow", "(I)V"⟩
abbrev cX7_digest : ByteArray := prog_9_method_64_code
def yX7_digest : MethodName := ⟨RX7, "digest", "()J"⟩
def RJxe99ae : String := "java/lang/Double"
def TJxe99ae : u_T := fun k => match k with
  | _ => ("", "", "", false)
def tyJxe99ae : Nat → FieldType := fun k => match k with
  | _ => .int
abbrev wsJxe99ae0 : List Cond := u_ws RJxe99ae TJxe99ae 0
theorem nmJxe99ae : ∀ a, a < 0 → ∀ b, b < 0 → a ≠ b → (TJxe99ae a).2.1 ≠ (TJxe99ae b).2.1 := by decide +kernel
theorem tyJxe99ae_ok : ∀ k, k < 0 → parseFieldDescriptor (TJxe99ae k).2.2.1 = some (tyJxe99ae k) := by decide +kernel
abbrev cJxe99ae_isNaN_b9ae7 : ByteArray := prog_10_method_6_code
def yJxe99ae_isNaN_b9ae7 : MethodName := ⟨RJxe99ae, "isNaN", "(D)Z"⟩
abbrev cJxe99ae_doubleToLongBits_ccdee : ByteArray := prog_10_method_23_code
def yJxe99ae_doubleToLongBits_ccdee : MethodName := ⟨RJxe99ae, "doubleToLongBits", "(D)J"⟩
def RJxf58ca : String := "java/lang/Float"
def TJxf58ca : u_T := fun k => match k with
  | _ => ("", "", "", false)
def tyJxf58ca : Nat → FieldType := fun k => match k with
  | _ => .int
abbrev wsJxf58ca0 : List Cond := u_ws RJxf58ca TJxf58ca 0
theorem nmJxf58ca : ∀ a, a < 0 → ∀ b, b < 0 → a ≠ b → (TJxf58ca a).2.1 ≠ (TJxf58ca b).2.1 := by decide +kernel
theorem tyJxf58ca_ok : ∀ k, k < 0 → parseFieldDescriptor (TJxf58ca k).2.2.1 = some (tyJxf58ca k) := by decide +kernel
abbrev cJxf58ca_isNaN_12338 : ByteArray := prog_11_method_6_code
def yJxf58ca_isNaN_12338 : MethodName := ⟨RJxf58ca, "isNaN", "(F)Z"⟩
abbrev cJxf58ca_floatToIntBits_5c35a : ByteArray := prog_11_method_24_code
def yJxf58ca_floatToIntBits_5c35a : MethodName := ⟨RJxf58ca, "floatToIntBits", "(F)I"⟩
def RJ9 : String := "java/lang/Math"
def TJ9 : u_T := fun k => match k with
  | _ => ("", "", "", false)
def tyJ9 : Nat → FieldType := fun k => match k with
  | _ => .int
abbrev wsJ90 : List Cond := u_ws RJ9 TJ9 0
theorem nmJ9 : ∀ a, a < 0 → ∀ b, b < 0 → a ≠ b → (TJ9 a).2.1 ≠ (TJ9 b).2.1 := by decide +kernel
theorem tyJ9_ok : ∀ k, k < 0 → parseFieldDescriptor (TJ9 k).2.2.1 = some (tyJ9 k) := by decide +kernel
abbrev cJ9_abs_067f4 : ByteArray := prog_12_method_61_code
def yJ9_abs_067f4 : MethodName := ⟨RJ9, "abs", "(J)J"⟩
abbrev cJ9_max_7cf53 : ByteArray := prog_12_method_65_code
def yJ9_max_7cf53 : MethodName := ⟨RJ9, "max", "(II)I"⟩
abbrev cJ9_max_f86c9 : ByteArray := prog_12_method_66_code
def yJ9_max_f86c9 : MethodName := ⟨RJ9, "max", "(JJ)J"⟩
abbrev cJ9_min_7cf53 : ByteArray := prog_12_method_69_code
def yJ9_min_7cf53 : MethodName := ⟨RJ9, "min", "(II)I"⟩
abbrev cJ9_min_f86c9 : ByteArray := prog_12_method_70_code
def yJ9_min_f86c9 : MethodName := ⟨RJ9, "min", "(JJ)J"⟩
def RJ10 : String := "java/lang/System"
def TJ10 : u_T := fun k => match k with
  | _ => ("", "", "", false)
def tyJ10 : Nat → FieldType := fun k => match k with
  | _ => .int
abbrev wsJ100 : List Cond := u_ws RJ10 TJ10 0
theorem nmJ10 : ∀ a, a < 0 → ∀ b, b < 0 → a ≠ b → (TJ10 a).2.1 ≠ (TJ10 b).2.1 := by decide +kernel
theorem tyJ10_ok : ∀ k, k < 0 → parseFieldDescriptor (TJ10 k).2.2.1 = some (tyJ10 k) := by decide +kernel
def RL : String := "PatchAsksLaw"
abbrev cL_law : ByteArray := code
def yL_law : MethodName := ⟨RL, "law", "([I)Z"⟩
abbrev vwCl : List vw_C := [(RX0, TX0, 2), (RX1, TX1, 2), (RX2, TX2, 3), (RX3, TX3, 1), (RX5, TX5, 7), (RX6, TX6, 10), (RX7, TX7, 29)]
def ev_vt : List (Nat → FieldType) := [tyX0, tyX1, tyX2, tyX3, tyX5, tyX6, tyX7]
def ev_cn : List String := [RX0, RX1, RX2, RX3, RX4, RX5, RX6, RX7, RJxe99ae, RJxf58ca, RJ9, RJ10, RL]
/-- a method: its class, name, code, locals, answer, arguments, frames and local words below it -/
def ev_M : List (Nat × MethodName × ByteArray × Nat × Option FieldType × Nat × Nat × Nat × Nat) := [
  (0, yX0_init, cX0_init, 3, none, 3, 2, 40, 172),
  (0, yX0_has, cX0_has, 2, some .boolean, 2, 0, 0, 474),
  (0, yX0_code, cX0_code, 1, some .int, 1, 0, 0, 238),
  (0, yX0_joinedTo, cX0_joinedTo, 6, some .long, 2, 1, 23, 591),
  (1, yX1_init, cX1_init, 3, none, 3, 2, 40, 131),
  (1, yX1_has, cX1_has, 2, some .boolean, 2, 0, 0, 305),
  (1, yX1_hasPart, cX1_hasPart, 3, some .boolean, 3, 0, 0, 342),
  (1, yX1_code, cX1_code, 1, some .int, 1, 0, 0, 241),
  (1, yX1_joinedTo, cX1_joinedTo, 6, some .long, 2, 1, 23, 596),
  (2, yX2_init, cX2_init, 5, none, 4, 1, 20, 68),
  (2, yX2_sizeOf, cX2_sizeOf, 3, some .long, 2, 0, 0, 328),
  (2, yX2_signed, cX2_signed, 4, some .long, 3, 0, 0, 379),
  (2, yX2_one, cX2_one, 1, some .long, 1, 0, 0, 375),
  (2, yX2_endless, cX2_endless, 1, some .long, 1, 0, 0, 333),
  (2, yX2_isEndless, cX2_isEndless, 3, some .boolean, 2, 1, 22, 368),
  (2, yX2_isNumber, cX2_isNumber, 3, some .boolean, 2, 1, 22, 324),
  (2, yX2_rank, cX2_rank, 5, some .long, 2, 1, 22, 383),
  (2, yX2_powerOf, cX2_powerOf, 3, some .int, 2, 0, 0, 412),
  (2, yX2_whole, cX2_whole, 16, some .long, 3, 1, 23, 425),
  (2, yX2_goesOut, cX2_goesOut, 3, some .boolean, 3, 0, 0, 429),
  (2, yX2_fieldOf, cX2_fieldOf, 3, some .int, 2, 1, 23, 391),
  (2, yX2_digitsOf, cX2_digitsOf, 7, some .long, 2, 0, 0, 398),
  (2, yX2_left, cX2_left, 12, some .long, 3, 2, 45, 387),
  (2, yX2_packed, cX2_packed, 9, some .long, 3, 0, 0, 403),
  (2, yX2_cut, cX2_cut, 11, some .long, 2, 1, 26, 408),
  (3, yX3_init, cX3_init, 2, none, 2, 2, 40, 155),
  (3, yX3_has, cX3_has, 2, some .boolean, 2, 0, 0, 451),
  (3, yX3_code, cX3_code, 1, some .int, 1, 0, 0, 244),
  (3, yX3_joinedTo, cX3_joinedTo, 7, some .long, 2, 2, 48, 600),
  (4, yX4_init, cX4_init, 1, none, 1, 1, 20, 134),
  (5, yX5_init, cX5_init, 3, none, 3, 2, 40, 190),
  (5, yX5_code, cX5_code, 1, some .int, 1, 0, 0, 247),
  (5, yX5_joinedTo, cX5_joinedTo, 5, some .long, 2, 1, 23, 606),
  (6, yX6_init, cX6_init, 1, none, 1, 2, 44, 57),
  (6, yX6_curve, cX6_curve, 4, some .int, 4, 3, 62, 116),
  (6, yX6_sheet, cX6_sheet, 6, some .int, 4, 3, 62, 149),
  (6, yX6_bank, cX6_bank, 4, some .int, 4, 3, 62, 165),
  (6, yX6_voice, cX6_voice, 4, some .int, 3, 3, 62, 186),
  (6, yX6_share, cX6_share, 3, some .int, 3, 2, 43, 224),
  (6, yX6_clear, cX6_clear, 3, some .int, 2, 2, 43, 251),
  (6, yX6_what, cX6_what, 2, some .int, 2, 2, 43, 255),
  (6, yX6_is, cX6_is, 3, some .int, 3, 3, 63, 259),
  (6, yX6_width, cX6_width, 4, some .int, 3, 3, 64, 281),
  (6, yX6_read, cX6_read, 5, some .int, 4, 2, 42, 301),
  (6, yX6_write, cX6_write, 7, some .int, 5, 3, 67, 309),
  (6, yX6_copy, cX6_copy, 8, some .int, 6, 2, 42, 338),
  (6, yX6_grow, cX6_grow, 5, some .int, 3, 3, 62, 349),
  (6, yX6_shape, cX6_shape, 12, some .int, 5, 4, 101, 356),
  (6, yX6_seen, cX6_seen, 1, some .long, 1, 0, 0, 439),
  (6, yX6_line, cX6_line, 5, some .int, 4, 3, 65, 443),
  (6, yX6_rule, cX6_rule, 6, some .int, 5, 3, 65, 459),
  (6, yX6_lay, cX6_lay, 6, some .int, 4, 2, 42, 463),
  (6, yX6_set, cX6_set, 6, some .int, 4, 1, 21, 470),
  (6, yX6_get, cX6_get, 4, some .int, 3, 2, 42, 478),
  (6, yX6_take, cX6_take, 6, some .int, 4, 2, 42, 485),
  (6, yX6_level, cX6_level, 4, some .int, 3, 2, 42, 489),
  (6, yX6_raise, cX6_raise, 5, some .int, 4, 2, 42, 496),
  (6, yX6_ask, cX6_ask, 4, some .int, 3, 6, 128, 500),
  (6, yX6_turn, cX6_turn, 4, some .int, 3, 2, 43, 544),
  (6, yX6_arm, cX6_arm, 4, some .int, 3, 2, 42, 552),
  (6, yX6_fail, cX6_fail, 3, some .int, 2, 2, 42, 556),
  (6, yX6_trace, cX6_trace, 2, some .int, 2, 0, 0, 560),
  (6, yX6_finding, cX6_finding, 1, some .int, 1, 0, 0, 564),
  (6, yX6_findings, cX6_findings, 2, some .int, 2, 0, 0, 568),
  (6, yX6_about, cX6_about, 2, some .int, 2, 1, 22, 572),
  (6, yX6_digest, cX6_digest, 5, some .long, 1, 3, 74, 580),
  (6, yX6_isBox, cX6_isBox, 1, some .boolean, 1, 0, 0, 119),
  (6, yX6_thingIn, cX6_thingIn, 2, some (.object "PatchAsks$Thing"), 2, 0, 0, 232),
  (6, yX6_codeIn, cX6_codeIn, 3, some .int, 2, 1, 21, 228),
  (6, yX6_boxesInUse, cX6_boxesInUse, 3, some .int, 1, 0, 0, 576),
  (6, yX6_found, cX6_found, 2, some .int, 2, 0, 0, 126),
  (6, yX6_notSuch, cX6_notSuch, 2, some .int, 2, 1, 21, 297),
  (6, yX6_isOther, cX6_isOther, 2, some .boolean, 2, 0, 0, 466),
  (6, yX6_joined, cX6_joined, 4, some .long, 2, 0, 0, 584),
  (6, yX6_anyCurveOf, cX6_anyCurveOf, 1, some (.object "PatchAsks$Curve"), 1, 0, 0, 293),
  (6, yX6_curveOf, cX6_curveOf, 3, some (.object "PatchAsks$Curve"), 2, 1, 20, 290),
  (6, yX6_sheetOf, cX6_sheetOf, 1, some (.object "PatchAsks$Sheet"), 1, 0, 0, 287),
  (6, yX6_bankOf, cX6_bankOf, 1, some (.object "PatchAsks$Bank"), 1, 0, 0, 268),
  (6, yX6_voiceOf, cX6_voiceOf, 1, some (.object "PatchAsks$Voice"), 1, 0, 0, 277),
  (6, yX6_countOf, cX6_countOf, 3, some .int, 2, 2, 42, 284),
  (6, yX6_isQuestion, cX6_isQuestion, 1, some .boolean, 1, 0, 0, 262),
  (6, yX6_holds, cX6_holds, 3, some .boolean, 2, 2, 41, 265),
  (6, yX6_isOfKind, cX6_isOfKind, 2, some .boolean, 2, 0, 0, 274),
  (6, yX6_isHeard, cX6_isHeard, 1, some .boolean, 1, 1, 21, 271),
  (6, yX6_numberOf, cX6_numberOf, 1, some .int, 1, 0, 0, 481),
  (6, yX6_lineAt, cX6_lineAt, 4, some (.object "PatchAsks$Curve"), 3, 1, 21, 447),
  (6, yX6_noLine, cX6_noLine, 4, some .int, 3, 2, 42, 455),
  (6, yX6_isLane, cX6_isLane, 1, some .boolean, 1, 0, 0, 122),
  (6, yX6_formOf, cX6_formOf, 2, some (.object "PatchAsks$FloatForm"), 2, 0, 0, 317),
  (6, yX6_told, cX6_told, 3, some .long, 2, 0, 0, 320),
  (6, yX6_tellsNumber, cX6_tellsNumber, 4, some .boolean, 3, 2, 44, 313),
  (6, yX6_hasWay, cX6_hasWay, 3, some .boolean, 2, 0, 0, 359),
  (6, yX6_cannotDivide, cX6_cannotDivide, 8, some .boolean, 5, 2, 44, 363),
  (6, yX6_shapedWhole, cX6_shapedWhole, 6, some .long, 4, 1, 23, 432),
  (6, yX6_shapedFloating, cX6_shapedFloating, 6, some .long, 4, 3, 76, 371),
  (6, yX6_note, cX6_note, 2, none, 2, 0, 0, 508),
  (6, yX6_colourOf, cX6_colourOf, 2, some .int, 2, 2, 42, 504),
  (6, yX6_plainColour, cX6_plainColour, 2, some .int, 2, 1, 21, 512),
  (6, yX6_strengthOf, cX6_strengthOf, 2, some .int, 2, 3, 61, 516),
  (6, yX6_noiseStrength, cX6_noiseStrength, 1, some .int, 1, 2, 41, 524),
  (6, yX6_plainStrength, cX6_plainStrength, 1, some .int, 1, 1, 21, 520),
  (6, yX6_playOf, cX6_playOf, 3, some .int, 2, 4, 84, 528),
  (6, yX6_tonePlay, cX6_tonePlay, 2, some .int, 2, 3, 63, 532),
  (6, yX6_noisePlay, cX6_noisePlay, 2, some .int, 2, 3, 63, 536),
  (6, yX6_heardOf, cX6_heardOf, 3, some .int, 2, 5, 106, 540),
  (6, yX6_turnVoice, cX6_turnVoice, 3, none, 3, 1, 21, 548),
  (6, yX6_hasLevel, cX6_hasLevel, 2, some .boolean, 2, 1, 21, 492),
  (7, yX7_init, cX7_init, 1, none, 1, 1, 20, 612),
  (7, yX7_in, cX7_in, 3, some .boolean, 3, 0, 0, 713),
  (7, yX7_isBox, cX7_isBox, 1, some .boolean, 1, 1, 22, 710),
  (7, yX7_finds, cX7_finds, 2, some .int, 2, 0, 0, 717),
  (7, yX7_isSuch, cX7_isSuch, 2, some .boolean, 2, 0, 0, 757),
  (7, yX7_isHeard, cX7_isHeard, 1, some .boolean, 1, 0, 0, 760),
  (7, yX7_hold, cX7_hold, 4, none, 4, 0, 0, 725),
  (7, yX7_isVoice, cX7_isVoice, 2, some .boolean, 2, 0, 0, 885),
  (7, yX7_isCurve, cX7_isCurve, 3, some .boolean, 3, 0, 0, 768),
  (7, yX7_newRow, cX7_newRow, 3, some .int, 3, 0, 0, 721),
  (7, yX7_curve, cX7_curve, 4, some .int, 4, 2, 42, 707),
  (7, yX7_sheet, cX7_sheet, 5, some .int, 4, 2, 42, 729),
  (7, yX7_bank, cX7_bank, 5, some .int, 4, 2, 42, 733),
  (7, yX7_voice, cX7_voice, 3, some .int, 3, 2, 42, 737),
  (7, yX7_share, cX7_share, 3, some .int, 3, 3, 63, 741),
  (7, yX7_clear, cX7_clear, 3, some .int, 2, 3, 63, 749),
  (7, yX7_what, cX7_what, 2, some .int, 2, 2, 42, 745),
  (7, yX7_is, cX7_is, 5, some .int, 3, 3, 63, 754),
  (7, yX7_width, cX7_width, 4, some .int, 3, 2, 42, 764),
  (7, yX7_tells, cX7_tells, 3, some .boolean, 2, 0, 0, 783),
  (7, yX7_asWord, cX7_asWord, 3, some .long, 2, 0, 0, 790),
  (7, yX7_met, cX7_met, 4, some .int, 4, 1, 22, 776),
  (7, yX7_read, cX7_read, 5, some .int, 4, 2, 45, 772),
  (7, yX7_write, cX7_write, 7, some .int, 5, 2, 45, 780),
  (7, yX7_copy, cX7_copy, 11, some .int, 6, 2, 42, 794),
  (7, yX7_grow, cX7_grow, 6, some .int, 3, 2, 42, 798),
  (7, yX7_hasWay, cX7_hasWay, 2, some .boolean, 2, 1, 22, 805),
  (7, yX7_shape, cX7_shape, 11, some .int, 5, 3, 72, 802),
  (7, yX7_isZero, cX7_isZero, 5, some .boolean, 3, 0, 0, 808),
  (7, yX7_ofInts, cX7_ofInts, 3, some .long, 3, 0, 0, 811),
  (7, yX7_ofLongs, cX7_ofLongs, 5, some .long, 3, 0, 0, 814),
  (7, yX7_whole, cX7_whole, 9, some .double, 2, 0, 0, 824),
  (7, yX7_ofFloats, cX7_ofFloats, 5, some .long, 3, 2, 43, 817),
  (7, yX7_ofDoubles, cX7_ofDoubles, 9, some .long, 3, 2, 44, 841),
  (7, yX7_seen, cX7_seen, 1, some .long, 1, 0, 0, 861),
  (7, yX7_lineAt, cX7_lineAt, 5, some .int, 4, 1, 22, 869),
  (7, yX7_line, cX7_line, 5, some .int, 4, 2, 46, 865),
  (7, yX7_rule, cX7_rule, 6, some .int, 5, 2, 46, 873),
  (7, yX7_lay, cX7_lay, 4, some .int, 4, 2, 42, 877),
  (7, yX7_set, cX7_set, 5, some .int, 4, 2, 42, 881),
  (7, yX7_metAtBank, cX7_metAtBank, 3, some .int, 3, 1, 22, 893),
  (7, yX7_get, cX7_get, 4, some .int, 3, 2, 44, 889),
  (7, yX7_take, cX7_take, 6, some .int, 4, 2, 44, 897),
  (7, yX7_metAs, cX7_metAs, 3, some .int, 3, 1, 21, 908),
  (7, yX7_kindFor, cX7_kindFor, 1, some .int, 1, 0, 0, 904),
  (7, yX7_level, cX7_level, 5, some .int, 3, 2, 43, 901),
  (7, yX7_raise, cX7_raise, 6, some .int, 4, 2, 43, 912),
  (7, yX7_write_, cX7_write_, 2, none, 2, 0, 0, 924),
  (7, yX7_colour, cX7_colour, 3, some .int, 2, 1, 21, 920),
  (7, yX7_strength, cX7_strength, 3, some .int, 2, 1, 21, 928),
  (7, yX7_play, cX7_play, 4, some .int, 2, 2, 43, 932),
  (7, yX7_heard, cX7_heard, 3, some .int, 2, 3, 66, 936),
  (7, yX7_ask, cX7_ask, 4, some .int, 3, 4, 88, 916),
  (7, yX7_turn, cX7_turn, 5, some .int, 3, 2, 43, 940),
  (7, yX7_arm, cX7_arm, 4, some .int, 3, 2, 43, 944),
  (7, yX7_fail, cX7_fail, 3, some .int, 2, 2, 43, 948),
  (7, yX7_trace, cX7_trace, 2, some .int, 2, 1, 22, 952),
  (7, yX7_finding, cX7_finding, 1, some .int, 1, 0, 0, 956),
  (7, yX7_findings, cX7_findings, 2, some .int, 2, 1, 22, 960),
  (7, yX7_about, cX7_about, 4, some .int, 2, 0, 0, 964),
  (7, yX7_mix, cX7_mix, 3, none, 2, 0, 0, 973),
  (7, yX7_mixRow, cX7_mixRow, 3, none, 2, 1, 22, 978),
  (7, yX7_digest, cX7_digest, 4, some .long, 1, 3, 63, 968),
  (8, yJxe99ae_isNaN_b9ae7, cJxe99ae_isNaN_b9ae7, 2, some .boolean, 1, 0, 0, 850),
  (8, yJxe99ae_doubleToLongBits_ccdee, cJxe99ae_doubleToLongBits_ccdee, 2, some .long, 1, 1, 23, 847),
  (9, yJxf58ca_isNaN_12338, cJxf58ca_isNaN_12338, 1, some .boolean, 1, 0, 0, 831),
  (9, yJxf58ca_floatToIntBits_5c35a, cJxf58ca_floatToIntBits_5c35a, 1, some .int, 1, 1, 23, 828),
  (12, yL_law, cL_law, 4, some .boolean, 1, 7, 151, 0)]
def ev_tF : List ((Nat × Nat) × Nat × Nat × Nat) := [((0, 9), 0, 0, 174), ((0, 15), 0, 1, 176), ((1, 7), 1, 0, 136), ((1, 13), 1, 1, 138), ((2, 9), 2, 0, 70), ((2, 15), 2, 1, 71), ((2, 18), 2, 2, 72), ((3, 9), 3, 0, 157), ((5, 9), 4, 0, 192), ((5, 15), 4, 1, 194), ((5, 22), 4, 2, 196), ((5, 25), 4, 3, 198), ((5, 28), 4, 4, 200), ((5, 31), 4, 5, 202), ((5, 34), 4, 6, 204), ((6, 11), 5, 0, 82), ((6, 15), 5, 1, 83), ((6, 19), 5, 2, 84), ((6, 29), 5, 3, 85), ((6, 35), 5, 4, 86), ((6, 66), 5, 7, 89), ((6, 101), 1, 1, 139), ((6, 105), 5, 9, 91), ((6, 121), 1, 0, 137), ((6, 175), 3, 0, 158), ((6, 188), 4, 0, 193), ((6, 191), 0, 0, 175), ((6, 195), 0, 1, 177), ((6, 206), 4, 3, 199), ((6, 209), 4, 4, 201), ((6, 212), 4, 2, 197), ((6, 215), 5, 5, 87), ((6, 233), 4, 5, 203), ((6, 236), 4, 1, 195), ((6, 243), 5, 8, 90), ((6, 246), 4, 6, 205), ((6, 250), 5, 6, 88), ((7, 7), 6, 0, 615), ((7, 13), 6, 1, 616), ((7, 16), 6, 3, 618), ((7, 19), 6, 4, 619), ((7, 22), 6, 5, 620), ((7, 26), 6, 7, 622), ((7, 30), 6, 9, 624), ((7, 33), 6, 10, 625), ((7, 36), 6, 12, 627), ((7, 39), 6, 13, 628), ((7, 42), 6, 14, 629), ((7, 45), 6, 16, 631), ((7, 48), 6, 17, 632), ((7, 51), 6, 18, 633), ((7, 54), 6, 19, 634), ((7, 57), 6, 20, 635), ((7, 60), 6, 21, 636), ((7, 64), 6, 24, 639), ((7, 67), 6, 26, 641), ((7, 74), 6, 25, 640), ((7, 78), 6, 2, 617), ((7, 81), 6, 6, 621), ((7, 100), 6, 8, 623), ((7, 103), 6, 11, 626), ((7, 106), 6, 15, 630), ((7, 134), 6, 22, 637), ((7, 220), 6, 23, 638), ((7, 239), 6, 27, 642), ((7, 244), 6, 28, 643)]
def ev_tN : List ((Nat × Nat) × Nat × Nat × Nat × Nat) := [((6, 22), 2, 63, 64, 42), ((6, 49), 1, 127, 128, 45), ((6, 54), 3, 151, 152, 46), ((6, 59), 0, 166, 167, 47), ((6, 61), 4, 168, 187, 48), ((12, 7), 5, 53, 54, 41), ((12, 10), 6, 608, 609, 43)]
def ev_tA : List ((Nat × Nat) × String × Nat) := [((6, 9), RX4, 61), ((6, 49), RX1, 127), ((6, 54), RX3, 151), ((6, 59), RX0, 166), ((6, 61), RX5, 168)]
def ev_tI : List ((Nat × Nat) × Int32 × Nat) := [((7, 25), 36000, 614), ((7, 175), 2147483647, 821), ((7, 188), -2147483648, 838), ((9, 77), 2143289344, 835)]
def ev_tL : List ((Nat × Nat) × Int64 × Nat) := [((2, 22), -1, 329), ((2, 24), 2, 334), ((2, 68), -9223372036854775808, 413), ((2, 70), 9223372036854775807, 414), ((3, 19), -1, 602), ((6, 24), -2147483648, 65), ((6, 33), -9223372036854775808, 81), ((6, 257), 17, 581), ((6, 270), 31, 585), ((6, 307), 2147483647, 415), ((7, 122), 2147483647, 784), ((7, 124), 2139095040, 785), ((7, 126), 9223372036854775807, 786), ((7, 128), 9218868437227405312, 787), ((7, 184), 1065353216, 836), ((7, 186), -1082130432, 837), ((7, 199), 4607182418800017408, 855), ((7, 201), -4616189618054758400, 856), ((7, 203), -9223372036854775808, 857), ((7, 242), 31, 974), ((7, 251), 17, 969), ((7, 256), -1, 979), ((8, 137), 9221120237041090560, 854), ((12, 56), 4294967295, 980)]
def ev_tD : List ((Nat × Nat) × UInt64 × Nat) := [((7, 167), 4841369599423283200, 825)]
def ev_tT : List ((Nat × Nat) × Nat × Nat) := [((2, 49), 1005, 392), ((2, 61), 1006, 399), ((6, 128), 1004, 343), ((6, 134), 1006, 350), ((6, 282), 1009, 433), ((6, 285), 1007, 419), ((6, 288), 1008, 416), ((7, 169), 1000, 818), ((7, 189), 1002, 842), ((8, 134), 1003, 851), ((9, 74), 1001, 832)]
def ev_tO : List ((Nat × Nat) × Nat) := [((2, 3), 69), ((4, 1), 135), ((6, 1), 58), ((7, 1), 613)]
def ev_tS : List ((Nat × Nat) × Nat × Nat × Nat × Nat) := [((2, 41), 19, 427, 428, 42), ((6, 38), 66, 117, 118, 41), ((6, 42), 87, 120, 121, 41), ((6, 76), 80, 260, 261, 41), ((6, 83), 81, 263, 264, 41), ((6, 87), 79, 282, 283, 41), ((6, 94), 75, 288, 289, 41), ((6, 113), 89, 318, 319, 41), ((6, 117), 74, 291, 292, 41), ((6, 140), 91, 357, 358, 41), ((6, 151), 94, 369, 370, 41), ((6, 155), 93, 430, 431, 41), ((6, 166), 76, 285, 286, 41), ((6, 170), 72, 464, 465, 41), ((6, 179), 77, 266, 267, 41), ((6, 183), 78, 275, 276, 41), ((6, 192), 82, 272, 273, 41), ((6, 199), 84, 479, 480, 41), ((6, 203), 106, 490, 491, 41), ((6, 218), 83, 269, 270, 41), ((6, 259), 73, 582, 583, 41), ((7, 70), 108, 711, 712, 43), ((7, 84), 109, 708, 709, 43), ((7, 112), 111, 755, 756, 43), ((7, 116), 112, 758, 759, 43), ((7, 138), 126, 781, 782, 43), ((7, 142), 127, 788, 789, 43), ((7, 146), 133, 803, 804, 43), ((7, 149), 135, 806, 807, 43), ((7, 153), 136, 809, 810, 43), ((7, 157), 137, 812, 813, 43), ((7, 161), 139, 815, 816, 43), ((7, 164), 140, 839, 840, 43), ((7, 176), 138, 822, 823, 43), ((7, 180), 173, 826, 827, 51), ((7, 195), 171, 845, 846, 52), ((7, 214), 151, 902, 903, 43), ((8, 122), 170, 848, 849, 52), ((9, 59), 172, 829, 830, 51)]
def ev_tSN : List ((Nat × Nat) × Nat × Nat × Nat × Nat × String) := [((0, 19), 73, 592, 583, 41, RX6), ((0, 23), 84, 593, 480, 41, RX6), ((1, 17), 73, 597, 583, 41, RX6), ((3, 15), 73, 601, 583, 41, RX6), ((5, 18), 73, 607, 583, 41, RX6)]
def ev_tP : List ((Nat × Nat) × Nat × Nat × Nat × Nat) := [((6, 26), 9, 66, 67, 42), ((6, 51), 4, 129, 130, 45), ((6, 56), 25, 153, 154, 46), ((6, 63), 0, 170, 171, 47), ((6, 70), 30, 188, 189, 48), ((12, 9), 33, 55, 56, 41), ((12, 12), 107, 610, 611, 43)]
def ev_tPN : List ((Nat × Nat) × Nat × Nat × Nat × Nat × String) := [((0, 3), 29, 173, 133, 44, RX6), ((1, 1), 29, 132, 133, 44, RX6), ((3, 3), 29, 156, 133, 44, RX6), ((5, 3), 29, 191, 133, 44, RX6)]
def ev_tV : List ((Nat × Nat × Nat) × Nat × Nat × Nat × Nat × Nat) := [((2, 26, 2), 10, 325, 326, 327, 42), ((2, 30, 2), 13, 330, 331, 332, 42), ((2, 34, 2), 17, 409, 410, 411, 42), ((2, 38, 2), 12, 426, 373, 374, 42), ((2, 45, 2), 11, 404, 377, 378, 42), ((2, 55, 2), 20, 388, 390, 7, 42), ((2, 58, 2), 21, 395, 397, 8, 42), ((2, 64, 2), 23, 400, 402, 9, 42), ((3, 21, 1), 8, 603, 595, 981, 45), ((6, 45, 5), 70, 123, 125, 0, 41), ((6, 73, 5), 68, 225, 227, 1, 41), ((6, 79, 5), 67, 229, 231, 2, 41), ((6, 91, 5), 71, 294, 296, 3, 41), ((6, 98, 1), 5, 302, 303, 304, 45), ((6, 109, 5), 90, 310, 312, 4, 41), ((6, 124, 1), 6, 339, 340, 341, 45), ((6, 143, 5), 92, 360, 362, 6, 41), ((6, 147, 5), 88, 314, 316, 5, 41), ((6, 159, 5), 85, 444, 446, 10, 41), ((6, 163, 5), 86, 452, 454, 11, 41), ((6, 174, 3), 26, 448, 449, 450, 46), ((6, 187, 0), 1, 471, 472, 473, 47), ((6, 221, 5), 96, 501, 503, 12, 41), ((6, 224, 5), 98, 513, 515, 15, 41), ((6, 227, 5), 101, 525, 527, 18, 41), ((6, 230, 5), 104, 537, 539, 21, 41), ((6, 239, 5), 105, 545, 547, 22, 41), ((6, 253, 5), 69, 573, 575, 23, 41), ((6, 272, 2), 15, 321, 322, 323, 42), ((6, 276, 2), 10, 364, 326, 327, 42), ((6, 279, 2), 14, 365, 366, 367, 42), ((6, 290, 2), 12, 372, 373, 374, 42), ((6, 294, 2), 11, 376, 377, 378, 42), ((6, 298, 2), 16, 380, 381, 382, 42), ((6, 301, 2), 22, 384, 385, 386, 42), ((6, 304, 2), 24, 405, 406, 407, 42), ((6, 309, 2), 18, 422, 423, 424, 42), ((6, 313, 5), 95, 505, 507, 13, 41), ((6, 317, 5), 97, 509, 511, 14, 41), ((6, 320, 5), 100, 517, 519, 16, 41), ((6, 323, 5), 99, 521, 523, 17, 41), ((6, 326, 5), 102, 529, 531, 19, 41), ((6, 329, 5), 103, 533, 535, 20, 41), ((7, 88, 6), 110, 714, 716, 24, 43), ((7, 92, 6), 116, 718, 720, 25, 43), ((7, 96, 6), 113, 722, 724, 26, 43), ((7, 109, 6), 123, 742, 743, 744, 43), ((7, 119, 6), 115, 765, 767, 27, 43), ((7, 130, 6), 128, 773, 775, 28, 43), ((7, 205, 6), 142, 866, 868, 29, 43), ((7, 208, 6), 114, 882, 884, 30, 43), ((7, 211, 6), 147, 890, 892, 31, 43), ((7, 217, 6), 150, 905, 907, 32, 43), ((7, 223, 6), 154, 921, 923, 34, 43), ((7, 227, 6), 155, 917, 919, 33, 43), ((7, 230, 6), 156, 925, 927, 35, 43), ((7, 233, 6), 157, 929, 931, 36, 43), ((7, 236, 6), 158, 933, 935, 37, 43), ((7, 247, 6), 167, 970, 972, 38, 43), ((7, 253, 6), 168, 975, 977, 39, 43), ((12, 13, 5), 34, 113, 114, 115, 41), ((12, 17, 6), 117, 704, 705, 706, 43), ((12, 18, 5), 35, 146, 147, 148, 41), ((12, 21, 6), 118, 726, 727, 728, 43), ((12, 22, 5), 36, 162, 163, 164, 41), ((12, 25, 6), 119, 730, 731, 732, 43), ((12, 26, 5), 37, 183, 184, 185, 41), ((12, 30, 6), 120, 734, 735, 736, 43), ((12, 31, 5), 38, 221, 222, 223, 41), ((12, 34, 6), 121, 738, 739, 740, 43), ((12, 35, 5), 39, 248, 249, 250, 41), ((12, 39, 6), 122, 746, 747, 748, 43), ((12, 40, 5), 40, 252, 253, 254, 41), ((12, 43, 6), 123, 750, 743, 744, 43), ((12, 44, 5), 41, 256, 257, 258, 41), ((12, 47, 6), 124, 751, 752, 753, 43), ((12, 48, 5), 42, 278, 279, 280, 41), ((12, 51, 6), 125, 761, 762, 763, 43), ((12, 52, 5), 43, 298, 299, 300, 41), ((12, 55, 6), 129, 769, 770, 771, 43), ((12, 58, 5), 44, 306, 307, 308, 41), ((12, 62, 6), 130, 777, 778, 779, 43), ((12, 63, 5), 45, 335, 336, 337, 41), ((12, 67, 6), 131, 791, 792, 793, 43), ((12, 68, 5), 46, 346, 347, 348, 41), ((12, 71, 6), 132, 795, 796, 797, 43), ((12, 72, 5), 47, 353, 354, 355, 41), ((12, 75, 6), 134, 799, 800, 801, 43), ((12, 76, 5), 48, 436, 437, 438, 41), ((12, 80, 6), 141, 858, 859, 860, 43), ((12, 81, 5), 49, 440, 441, 442, 41), ((12, 84, 6), 143, 862, 863, 864, 43), ((12, 85, 5), 50, 456, 457, 458, 41), ((12, 89, 6), 144, 870, 871, 872, 43), ((12, 90, 5), 51, 460, 461, 462, 41), ((12, 93, 6), 145, 874, 875, 876, 43), ((12, 94, 5), 52, 467, 468, 469, 41), ((12, 97, 6), 146, 878, 879, 880, 43), ((12, 98, 5), 53, 475, 476, 477, 41), ((12, 101, 6), 148, 886, 887, 888, 43), ((12, 102, 5), 54, 482, 483, 484, 41), ((12, 105, 6), 149, 894, 895, 896, 43), ((12, 106, 5), 55, 486, 487, 488, 41), ((12, 109, 6), 152, 898, 899, 900, 43), ((12, 110, 5), 56, 493, 494, 495, 41), ((12, 113, 6), 153, 909, 910, 911, 43), ((12, 114, 5), 57, 497, 498, 499, 41), ((12, 117, 6), 159, 913, 914, 915, 43), ((12, 118, 5), 58, 541, 542, 543, 41), ((12, 121, 6), 160, 937, 938, 939, 43), ((12, 122, 5), 59, 549, 550, 551, 41), ((12, 126, 6), 161, 941, 942, 943, 43), ((12, 127, 5), 60, 553, 554, 555, 41), ((12, 130, 6), 162, 945, 946, 947, 43), ((12, 131, 5), 61, 557, 558, 559, 41), ((12, 134, 6), 163, 949, 950, 951, 43), ((12, 135, 5), 62, 561, 562, 563, 41), ((12, 139, 6), 164, 953, 954, 955, 43), ((12, 140, 5), 63, 565, 566, 567, 41), ((12, 143, 6), 165, 957, 958, 959, 43), ((12, 144, 5), 64, 569, 570, 571, 41), ((12, 147, 6), 166, 961, 962, 963, 43), ((12, 148, 5), 65, 577, 578, 579, 41), ((12, 151, 6), 169, 965, 966, 967, 43)]
def ev_tVA : List ((Nat × Nat × Nat) × Nat × Nat × Nat × Nat × Nat × Nat × MethodName) := [((6, 263, 0), 3, 586, 588, 589, 590, 47, ⟨RX4, "joinedTo", "(J)J"⟩), ((6, 263, 1), 8, 586, 588, 594, 595, 45, ⟨RX4, "joinedTo", "(J)J"⟩), ((6, 263, 3), 28, 586, 588, 598, 599, 46, ⟨RX4, "joinedTo", "(J)J"⟩), ((6, 263, 4), 32, 586, 588, 604, 605, 48, ⟨RX4, "joinedTo", "(J)J"⟩), ((6, 267, 0), 2, 233, 235, 236, 237, 47, ⟨RX4, "code", "()I"⟩), ((6, 267, 1), 7, 233, 235, 239, 240, 45, ⟨RX4, "code", "()I"⟩), ((6, 267, 3), 27, 233, 235, 242, 243, 46, ⟨RX4, "code", "()I"⟩), ((6, 267, 4), 31, 233, 235, 245, 246, 48, ⟨RX4, "code", "()I"⟩)]
