/-! ===== BEGIN printed: names, fields, word lists, decode rows ===== -/
def RX0 : String := "FaultMill$Ball"
def TX0 : u_T := fun k => match k with
  | 0 => ("FaultMill$Disc", "rim", "I", true)
  | 1 => ("FaultMill$Box", "value", "I", false)
  | _ => ("FaultMill$Box", "next", "LFaultMill$Box;", false)
def tyX0 : Nat → FieldType := fun k => match k with
  | 0 => .int
  | 1 => .int
  | _ => .object "FaultMill$Box"
abbrev wsX00 : List Cond := u_ws RX0 TX0 3
theorem nmX0 : ∀ a, a < 3 → ∀ b, b < 3 → a ≠ b → (TX0 a).2.1 ≠ (TX0 b).2.1 := by decide +kernel
theorem tyX0_ok : ∀ k, k < 3 → parseFieldDescriptor (TX0 k).2.2.1 = some (tyX0 k) := by decide +kernel
abbrev cX0_init : ByteArray := prog_2_method_1_code
def yX0_init : MethodName := ⟨RX0, "<init>", "(I)V"⟩
abbrev cX0_weight : ByteArray := prog_2_method_2_code
def yX0_weight : MethodName := ⟨RX0, "weight", "(I)I"⟩
abbrev cX0_rolled : ByteArray := prog_2_method_3_code
def yX0_rolled : MethodName := ⟨RX0, "rolled", "(I)I"⟩
def RX1 : String := "FaultMill$Blocks"
def TX1 : u_T := fun k => match k with
  | 0 => ("FaultMill$Blocks", "starts", "[I", true)
  | 1 => ("FaultMill$Blocks", "ends", "[I", true)
  | 2 => ("FaultMill$Blocks", "turns", "[I", true)
  | 3 => ("FaultMill$Blocks", "catches", "[I", true)
  | _ => ("FaultMill$Blocks", "depth", "I", false)
def tyX1 : Nat → FieldType := fun k => match k with
  | 0 => .array .int
  | 1 => .array .int
  | 2 => .array .int
  | 3 => .array .int
  | _ => .int
abbrev wsX10 : List Cond := u_ws RX1 TX1 5
theorem nmX1 : ∀ a, a < 5 → ∀ b, b < 5 → a ≠ b → (TX1 a).2.1 ≠ (TX1 b).2.1 := by decide +kernel
theorem tyX1_ok : ∀ k, k < 5 → parseFieldDescriptor (TX1 k).2.2.1 = some (tyX1 k) := by decide +kernel
abbrev cX1_init : ByteArray := prog_3_method_1_code
def yX1_init : MethodName := ⟨RX1, "<init>", "()V"⟩
abbrev cX1_open : ByteArray := prog_3_method_2_code
def yX1_open : MethodName := ⟨RX1, "open", "(IIII)V"⟩
abbrev cX1_drop : ByteArray := prog_3_method_3_code
def yX1_drop : MethodName := ⟨RX1, "drop", "()V"⟩
abbrev cX1_innerStart : ByteArray := prog_3_method_4_code
def yX1_innerStart : MethodName := ⟨RX1, "innerStart", "()I"⟩
abbrev cX1_innerEnd : ByteArray := prog_3_method_5_code
def yX1_innerEnd : MethodName := ⟨RX1, "innerEnd", "()I"⟩
abbrev cX1_innerCatch : ByteArray := prog_3_method_6_code
def yX1_innerCatch : MethodName := ⟨RX1, "innerCatch", "()I"⟩
abbrev cX1_takeTurn : ByteArray := prog_3_method_7_code
def yX1_takeTurn : MethodName := ⟨RX1, "takeTurn", "()Z"⟩
def RX2 : String := "FaultMill$Box"
def TX2 : u_T := fun k => match k with
  | _ => ("", "", "", false)
def tyX2 : Nat → FieldType := fun k => match k with
  | _ => .int
abbrev wsX20 : List Cond := u_ws RX2 TX2 0
theorem nmX2 : ∀ a, a < 0 → ∀ b, b < 0 → a ≠ b → (TX2 a).2.1 ≠ (TX2 b).2.1 := by decide +kernel
theorem tyX2_ok : ∀ k, k < 0 → parseFieldDescriptor (TX2 k).2.2.1 = some (tyX2 k) := by decide +kernel
abbrev cX2_init : ByteArray := prog_4_method_1_code
def yX2_init : MethodName := ⟨RX2, "<init>", "(I)V"⟩
def RX3 : String := "FaultMill$Disc"
def TX3 : u_T := fun k => match k with
  | 0 => ("FaultMill$Box", "value", "I", false)
  | 1 => ("FaultMill$Box", "next", "LFaultMill$Box;", false)
  | _ => ("FaultMill$Disc", "rim", "I", true)
def tyX3 : Nat → FieldType := fun k => match k with
  | 0 => .int
  | 1 => .object "FaultMill$Box"
  | _ => .int
abbrev wsX30 : List Cond := u_ws RX3 TX3 3
theorem nmX3 : ∀ a, a < 3 → ∀ b, b < 3 → a ≠ b → (TX3 a).2.1 ≠ (TX3 b).2.1 := by decide +kernel
theorem tyX3_ok : ∀ k, k < 3 → parseFieldDescriptor (TX3 k).2.2.1 = some (tyX3 k) := by decide +kernel
abbrev cX3_init : ByteArray := prog_5_method_1_code
def yX3_init : MethodName := ⟨RX3, "<init>", "(I)V"⟩
abbrev cX3_isOf : ByteArray := prog_5_method_2_code
def yX3_isOf : MethodName := ⟨RX3, "isOf", "(I)Z"⟩
abbrev cX3_weight : ByteArray := prog_5_method_3_code
def yX3_weight : MethodName := ⟨RX3, "weight", "(I)I"⟩
abbrev cX3_rolled : ByteArray := prog_5_method_4_code
def yX3_rolled : MethodName := ⟨RX3, "rolled", "(I)I"⟩
def RX4 : String := "FaultMill$Drum"
def TX4 : u_T := fun k => match k with
  | _ => ("FaultMill$Drum", "value", "I", true)
def tyX4 : Nat → FieldType := fun k => match k with
  | _ => .int
abbrev wsX40 : List Cond := u_ws RX4 TX4 1
theorem nmX4 : ∀ a, a < 1 → ∀ b, b < 1 → a ≠ b → (TX4 a).2.1 ≠ (TX4 b).2.1 := by decide +kernel
theorem tyX4_ok : ∀ k, k < 1 → parseFieldDescriptor (TX4 k).2.2.1 = some (tyX4 k) := by decide +kernel
abbrev cX4_init : ByteArray := prog_6_method_1_code
def yX4_init : MethodName := ⟨RX4, "<init>", "(I)V"⟩
abbrev cX4_isOf : ByteArray := prog_6_method_2_code
def yX4_isOf : MethodName := ⟨RX4, "isOf", "(I)Z"⟩
abbrev cX4_rolled : ByteArray := prog_6_method_3_code
def yX4_rolled : MethodName := ⟨RX4, "rolled", "(I)I"⟩
def RX5 : String := "FaultMill$Letter"
def TX5 : u_T := fun k => match k with
  | _ => ("FaultMill$Letter", "sort", "I", true)
def tyX5 : Nat → FieldType := fun k => match k with
  | _ => .int
abbrev wsX50 : List Cond := u_ws RX5 TX5 1
theorem nmX5 : ∀ a, a < 1 → ∀ b, b < 1 → a ≠ b → (TX5 a).2.1 ≠ (TX5 b).2.1 := by decide +kernel
theorem tyX5_ok : ∀ k, k < 1 → parseFieldDescriptor (TX5 k).2.2.1 = some (tyX5 k) := by decide +kernel
abbrev cX5_init : ByteArray := prog_7_method_1_code
def yX5_init : MethodName := ⟨RX5, "<init>", "(I)V"⟩
abbrev cX5_isOf : ByteArray := prog_7_method_2_code
def yX5_isOf : MethodName := ⟨RX5, "isOf", "(I)Z"⟩
def RX6 : String := "FaultMill$Rolling"
def TX6 : u_T := fun k => match k with
  | _ => ("", "", "", false)
def tyX6 : Nat → FieldType := fun k => match k with
  | _ => .int
abbrev wsX60 : List Cond := u_ws RX6 TX6 0
theorem nmX6 : ∀ a, a < 0 → ∀ b, b < 0 → a ≠ b → (TX6 a).2.1 ≠ (TX6 b).2.1 := by decide +kernel
theorem tyX6_ok : ∀ k, k < 0 → parseFieldDescriptor (TX6 k).2.2.1 = some (tyX6 k) := by decide +kernel
def RX7 : String := "FaultMill$Row"
def TX7 : u_T := fun k => match k with
  | 0 => ("FaultMill$Row", "kind", "I", true)
  | _ => ("FaultMill$Row", "cells", "[J", true)
def tyX7 : Nat → FieldType := fun k => match k with
  | 0 => .int
  | _ => .array .long
abbrev wsX70 : List Cond := u_ws RX7 TX7 2
theorem nmX7 : ∀ a, a < 2 → ∀ b, b < 2 → a ≠ b → (TX7 a).2.1 ≠ (TX7 b).2.1 := by decide +kernel
theorem tyX7_ok : ∀ k, k < 2 → parseFieldDescriptor (TX7 k).2.2.1 = some (tyX7 k) := by decide +kernel
abbrev cX7_init : ByteArray := prog_9_method_1_code
def yX7_init : MethodName := ⟨RX7, "<init>", "(II)V"⟩
abbrev cX7_isOf : ByteArray := prog_9_method_2_code
def yX7_isOf : MethodName := ⟨RX7, "isOf", "(I)Z"⟩
abbrev cX7_asCell : ByteArray := prog_9_method_3_code
def yX7_asCell : MethodName := ⟨RX7, "asCell", "(J)J"⟩
def RX8 : String := "FaultMill$Shelf"
def TX8 : u_T := fun k => match k with
  | 0 => ("FaultMill$Shelf", "ownSort", "I", true)
  | 1 => ("FaultMill$Shelf", "thingSort", "I", true)
  | _ => ("FaultMill$Shelf", "cells", "[LFaultMill$Thing;", true)
def tyX8 : Nat → FieldType := fun k => match k with
  | 0 => .int
  | 1 => .int
  | _ => .array (.object "FaultMill$Thing")
abbrev wsX80 : List Cond := u_ws RX8 TX8 3
theorem nmX8 : ∀ a, a < 3 → ∀ b, b < 3 → a ≠ b → (TX8 a).2.1 ≠ (TX8 b).2.1 := by decide +kernel
theorem tyX8_ok : ∀ k, k < 3 → parseFieldDescriptor (TX8 k).2.2.1 = some (tyX8 k) := by decide +kernel
abbrev cX8_init : ByteArray := prog_10_method_1_code
def yX8_init : MethodName := ⟨RX8, "<init>", "(III)V"⟩
abbrev cX8_isOf : ByteArray := prog_10_method_2_code
def yX8_isOf : MethodName := ⟨RX8, "isOf", "(I)Z"⟩
abbrev cX8_takes : ByteArray := prog_10_method_3_code
def yX8_takes : MethodName := ⟨RX8, "takes", "(LFaultMill$Thing;)Z"⟩
def RX9 : String := "FaultMill$Stone"
def TX9 : u_T := fun k => match k with
  | 0 => ("FaultMill$Box", "value", "I", false)
  | _ => ("FaultMill$Box", "next", "LFaultMill$Box;", false)
def tyX9 : Nat → FieldType := fun k => match k with
  | 0 => .int
  | _ => .object "FaultMill$Box"
abbrev wsX90 : List Cond := u_ws RX9 TX9 2
theorem nmX9 : ∀ a, a < 2 → ∀ b, b < 2 → a ≠ b → (TX9 a).2.1 ≠ (TX9 b).2.1 := by decide +kernel
theorem tyX9_ok : ∀ k, k < 2 → parseFieldDescriptor (TX9 k).2.2.1 = some (tyX9 k) := by decide +kernel
abbrev cX9_init : ByteArray := prog_11_method_1_code
def yX9_init : MethodName := ⟨RX9, "<init>", "(I)V"⟩
abbrev cX9_isOf : ByteArray := prog_11_method_2_code
def yX9_isOf : MethodName := ⟨RX9, "isOf", "(I)Z"⟩
abbrev cX9_weight : ByteArray := prog_11_method_3_code
def yX9_weight : MethodName := ⟨RX9, "weight", "(I)I"⟩
def RX10 : String := "FaultMill$Thing"
def TX10 : u_T := fun k => match k with
  | _ => ("", "", "", false)
def tyX10 : Nat → FieldType := fun k => match k with
  | _ => .int
abbrev wsX100 : List Cond := u_ws RX10 TX10 0
theorem nmX10 : ∀ a, a < 0 → ∀ b, b < 0 → a ≠ b → (TX10 a).2.1 ≠ (TX10 b).2.1 := by decide +kernel
theorem tyX10_ok : ∀ k, k < 0 → parseFieldDescriptor (TX10 k).2.2.1 = some (tyX10 k) := by decide +kernel
abbrev cX10_init : ByteArray := prog_12_method_1_code
def yX10_init : MethodName := ⟨RX10, "<init>", "()V"⟩
def RX11 : String := "FaultMill"
def TX11 : u_T := fun k => match k with
  | 0 => ("FaultMill", "places", "[LFaultMill$Thing;", true)
  | 1 => ("FaultMill", "program", "[I", true)
  | 2 => ("FaultMill", "blocks", "LFaultMill$Blocks;", true)
  | 3 => ("FaultMill", "acc", "J", false)
  | 4 => ("FaultMill", "fault", "I", false)
  | 5 => ("FaultMill", "at", "I", false)
  | 6 => ("FaultMill", "fuelLeft", "I", false)
  | 7 => ("FaultMill", "done", "I", false)
  | 8 => ("FaultMill", "caught", "I", false)
  | 9 => ("FaultMill", "finals", "I", false)
  | 10 => ("FaultMill", "letOut", "I", false)
  | _ => ("FaultMill", "made", "I", false)
def tyX11 : Nat → FieldType := fun k => match k with
  | 0 => .array (.object "FaultMill$Thing")
  | 1 => .array .int
  | 2 => .object "FaultMill$Blocks"
  | 3 => .long
  | 4 => .int
  | 5 => .int
  | 6 => .int
  | 7 => .int
  | 8 => .int
  | 9 => .int
  | 10 => .int
  | _ => .int
abbrev wsX110 : List Cond := u_ws RX11 TX11 12
theorem nmX11 : ∀ a, a < 12 → ∀ b, b < 12 → a ≠ b → (TX11 a).2.1 ≠ (TX11 b).2.1 := by decide +kernel
theorem tyX11_ok : ∀ k, k < 12 → parseFieldDescriptor (TX11 k).2.2.1 = some (tyX11 k) := by decide +kernel
abbrev cX11_init : ByteArray := prog_1_method_1_code
def yX11_init : MethodName := ⟨RX11, "<init>", "()V"⟩
abbrev cX11_op : ByteArray := prog_1_method_2_code
def yX11_op : MethodName := ⟨RX11, "op", "(IIII)J"⟩
abbrev cX11_load : ByteArray := prog_1_method_3_code
def yX11_load : MethodName := ⟨RX11, "load", "(IIIII)I"⟩
abbrev cX11_run : ByteArray := prog_1_method_4_code
def yX11_run : MethodName := ⟨RX11, "run", "(II)I"⟩
abbrev cX11_acc : ByteArray := prog_1_method_5_code
def yX11_acc : MethodName := ⟨RX11, "acc", "()J"⟩
abbrev cX11_count : ByteArray := prog_1_method_6_code
def yX11_count : MethodName := ⟨RX11, "count", "(I)I"⟩
abbrev cX11_letFaultOut : ByteArray := prog_1_method_7_code
def yX11_letFaultOut : MethodName := ⟨RX11, "letFaultOut", "()V"⟩
abbrev cX11_throwFault : ByteArray := prog_1_method_8_code
def yX11_throwFault : MethodName := ⟨RX11, "throwFault", "(I)V"⟩
abbrev cX11_step : ByteArray := prog_1_method_9_code
def yX11_step : MethodName := ⟨RX11, "step", "()V"⟩
abbrev cX11_control : ByteArray := prog_1_method_10_code
def yX11_control : MethodName := ⟨RX11, "control", "(III)V"⟩
abbrev cX11_repeat : ByteArray := prog_1_method_11_code
def yX11_repeat : MethodName := ⟨RX11, "repeat", "(II)V"⟩
abbrev cX11_endOfNext : ByteArray := prog_1_method_12_code
def yX11_endOfNext : MethodName := ⟨RX11, "endOfNext", "(I)I"⟩
abbrev cX11_leaveFinishedBlocks : ByteArray := prog_1_method_13_code
def yX11_leaveFinishedBlocks : MethodName := ⟨RX11, "leaveFinishedBlocks", "()V"⟩
abbrev cX11_closeAllBlocks : ByteArray := prog_1_method_14_code
def yX11_closeAllBlocks : MethodName := ⟨RX11, "closeAllBlocks", "()V"⟩
abbrev cX11_closeBlock : ByteArray := prog_1_method_15_code
def yX11_closeBlock : MethodName := ⟨RX11, "closeBlock", "()V"⟩
abbrev cX11_unwind : ByteArray := prog_1_method_16_code
def yX11_unwind : MethodName := ⟨RX11, "unwind", "()V"⟩
abbrev cX11_isCaught : ByteArray := prog_1_method_17_code
def yX11_isCaught : MethodName := ⟨RX11, "isCaught", "(I)Z"⟩
abbrev cX11_answerOf : ByteArray := prog_1_method_18_code
def yX11_answerOf : MethodName := ⟨RX11, "answerOf", "(IIII)J"⟩
abbrev cX11_tell : ByteArray := prog_1_method_19_code
def yX11_tell : MethodName := ⟨RX11, "tell", "(I)Z"⟩
abbrev cX11_isPlace : ByteArray := prog_1_method_20_code
def yX11_isPlace : MethodName := ⟨RX11, "isPlace", "(I)Z"⟩
abbrev cX11_isCell : ByteArray := prog_1_method_21_code
def yX11_isCell : MethodName := ⟨RX11, "isCell", "(II)Z"⟩
abbrev cX11_isSpan : ByteArray := prog_1_method_22_code
def yX11_isSpan : MethodName := ⟨RX11, "isSpan", "(III)Z"⟩
abbrev cX11_isSize : ByteArray := prog_1_method_23_code
def yX11_isSize : MethodName := ⟨RX11, "isSize", "(I)Z"⟩
abbrev cX11_isDivisor : ByteArray := prog_1_method_24_code
def yX11_isDivisor : MethodName := ⟨RX11, "isDivisor", "(I)Z"⟩
abbrev cX11_isThere : ByteArray := prog_1_method_25_code
def yX11_isThere : MethodName := ⟨RX11, "isThere", "(LFaultMill$Thing;)Z"⟩
abbrev cX11_mayMake : ByteArray := prog_1_method_26_code
def yX11_mayMake : MethodName := ⟨RX11, "mayMake", "()Z"⟩
abbrev cX11_fits : ByteArray := prog_1_method_27_code
def yX11_fits : MethodName := ⟨RX11, "fits", "(II)Z"⟩
abbrev cX11_needed : ByteArray := prog_1_method_28_code
def yX11_needed : MethodName := ⟨RX11, "needed", "(II)LFaultMill$Thing;"⟩
abbrev cX11_putNew : ByteArray := prog_1_method_29_code
def yX11_putNew : MethodName := ⟨RX11, "putNew", "(ILFaultMill$Thing;)V"⟩
abbrev cX11_makeRow : ByteArray := prog_1_method_30_code
def yX11_makeRow : MethodName := ⟨RX11, "makeRow", "(III)J"⟩
abbrev cX11_rowCell : ByteArray := prog_1_method_31_code
def yX11_rowCell : MethodName := ⟨RX11, "rowCell", "(III)J"⟩
abbrev cX11_setRowCell : ByteArray := prog_1_method_32_code
def yX11_setRowCell : MethodName := ⟨RX11, "setRowCell", "(III)J"⟩
abbrev cX11_rowLength : ByteArray := prog_1_method_33_code
def yX11_rowLength : MethodName := ⟨RX11, "rowLength", "(II)J"⟩
abbrev cX11_makeSheet : ByteArray := prog_1_method_34_code
def yX11_makeSheet : MethodName := ⟨RX11, "makeSheet", "(III)J"⟩
abbrev cX11_sheetRow : ByteArray := prog_1_method_35_code
def yX11_sheetRow : MethodName := ⟨RX11, "sheetRow", "(III)LFaultMill$Row;"⟩
abbrev cX11_readCell : ByteArray := prog_1_method_36_code
def yX11_readCell : MethodName := ⟨RX11, "readCell", "(LFaultMill$Row;I)J"⟩
abbrev cX11_markCell : ByteArray := prog_1_method_37_code
def yX11_markCell : MethodName := ⟨RX11, "markCell", "(LFaultMill$Row;I)J"⟩
abbrev cX11_makeCase : ByteArray := prog_1_method_38_code
def yX11_makeCase : MethodName := ⟨RX11, "makeCase", "(III)J"⟩
abbrev cX11_newCase : ByteArray := prog_1_method_39_code
def yX11_newCase : MethodName := ⟨RX11, "newCase", "(II)LFaultMill$Shelf;"⟩
abbrev cX11_putIn : ByteArray := prog_1_method_40_code
def yX11_putIn : MethodName := ⟨RX11, "putIn", "(IIIII)J"⟩
abbrev cX11_takeOut : ByteArray := prog_1_method_41_code
def yX11_takeOut : MethodName := ⟨RX11, "takeOut", "(IIII)J"⟩
abbrev cX11_makeBox : ByteArray := prog_1_method_42_code
def yX11_makeBox : MethodName := ⟨RX11, "makeBox", "(II)J"⟩
abbrev cX11_makeLetter : ByteArray := prog_1_method_43_code
def yX11_makeLetter : MethodName := ⟨RX11, "makeLetter", "(II)J"⟩
abbrev cX11_boxValue : ByteArray := prog_1_method_44_code
def yX11_boxValue : MethodName := ⟨RX11, "boxValue", "(I)J"⟩
abbrev cX11_changeBox : ByteArray := prog_1_method_45_code
def yX11_changeBox : MethodName := ⟨RX11, "changeBox", "(I)J"⟩
abbrev cX11_linkBox : ByteArray := prog_1_method_46_code
def yX11_linkBox : MethodName := ⟨RX11, "linkBox", "(II)J"⟩
abbrev cX11_followBox : ByteArray := prog_1_method_47_code
def yX11_followBox : MethodName := ⟨RX11, "followBox", "(II)J"⟩
abbrev cX11_weigh : ByteArray := prog_1_method_48_code
def yX11_weigh : MethodName := ⟨RX11, "weigh", "(II)J"⟩
abbrev cX11_roll : ByteArray := prog_1_method_49_code
def yX11_roll : MethodName := ⟨RX11, "roll", "(II)J"⟩
abbrev cX11_rim : ByteArray := prog_1_method_50_code
def yX11_rim : MethodName := ⟨RX11, "rim", "(I)J"⟩
abbrev cX11_raise : ByteArray := prog_1_method_51_code
def yX11_raise : MethodName := ⟨RX11, "raise", "(I)J"⟩
abbrev cX11_holdsSort : ByteArray := prog_1_method_52_code
def yX11_holdsSort : MethodName := ⟨RX11, "holdsSort", "(II)J"⟩
abbrev cX11_clear : ByteArray := prog_1_method_53_code
def yX11_clear : MethodName := ⟨RX11, "clear", "(I)J"⟩
abbrev cX11_move : ByteArray := prog_1_method_54_code
def yX11_move : MethodName := ⟨RX11, "move", "(II)J"⟩
abbrev cX11_holdSame : ByteArray := prog_1_method_55_code
def yX11_holdSame : MethodName := ⟨RX11, "holdSame", "(II)J"⟩
abbrev cX11_copy : ByteArray := prog_1_method_56_code
def yX11_copy : MethodName := ⟨RX11, "copy", "(III)J"⟩
abbrev cX11_copyCells : ByteArray := prog_1_method_57_code
def yX11_copyCells : MethodName := ⟨RX11, "copyCells", "(LFaultMill$Row;ILFaultMill$Row;II)V"⟩
abbrev cX11_copyThings : ByteArray := prog_1_method_58_code
def yX11_copyThings : MethodName := ⟨RX11, "copyThings", "(LFaultMill$Shelf;ILFaultMill$Shelf;II)V"⟩
def RX12 : String := "FaultMillModel"
def TX12 : u_T := fun k => match k with
  | 0 => ("FaultMillModel", "sort", "[I", false)
  | 1 => ("FaultMillModel", "from", "[I", false)
  | 2 => ("FaultMillModel", "many", "[I", false)
  | 3 => ("FaultMillModel", "todo", "[I", false)
  | 4 => ("FaultMillModel", "held", "[Z", false)
  | 5 => ("FaultMillModel", "cells", "[J", false)
  | 6 => ("FaultMillModel", "things", "I", false)
  | 7 => ("FaultMillModel", "top", "I", false)
  | 8 => ("FaultMillModel", "at", "[I", true)
  | 9 => ("FaultMillModel", "what", "[I", true)
  | 10 => ("FaultMillModel", "one", "[I", true)
  | 11 => ("FaultMillModel", "two", "[I", true)
  | 12 => ("FaultMillModel", "three", "[I", true)
  | 13 => ("FaultMillModel", "acc", "J", false)
  | 14 => ("FaultMillModel", "fuel", "I", false)
  | 15 => ("FaultMillModel", "thrown", "I", false)
  | 16 => ("FaultMillModel", "wrong", "I", false)
  | 17 => ("FaultMillModel", "told", "[I", true)
  | 18 => ("FaultMillModel", "keep", "[I", true)
  | 19 => ("FaultMillModel", "keeps", "I", false)
  | _ => ("FaultMillModel", "threw", "Z", false)
def tyX12 : Nat → FieldType := fun k => match k with
  | 0 => .array .int
  | 1 => .array .int
  | 2 => .array .int
  | 3 => .array .int
  | 4 => .array .boolean
  | 5 => .array .long
  | 6 => .int
  | 7 => .int
  | 8 => .array .int
  | 9 => .array .int
  | 10 => .array .int
  | 11 => .array .int
  | 12 => .array .int
  | 13 => .long
  | 14 => .int
  | 15 => .int
  | 16 => .int
  | 17 => .array .int
  | 18 => .array .int
  | 19 => .int
  | _ => .boolean
abbrev wsX120 : List Cond := u_ws RX12 TX12 21
theorem nmX12 : ∀ a, a < 21 → ∀ b, b < 21 → a ≠ b → (TX12 a).2.1 ≠ (TX12 b).2.1 := by decide +kernel
theorem tyX12_ok : ∀ k, k < 21 → parseFieldDescriptor (TX12 k).2.2.1 = some (tyX12 k) := by decide +kernel
abbrev cX12_init : ByteArray := prog_14_method_1_code
def yX12_init : MethodName := ⟨RX12, "<init>", "()V"⟩
abbrev cX12_thrown : ByteArray := prog_14_method_2_code
def yX12_thrown : MethodName := ⟨RX12, "thrown", "()I"⟩
abbrev cX12_make : ByteArray := prog_14_method_3_code
def yX12_make : MethodName := ⟨RX12, "make", "(II)I"⟩
abbrev cX12_links : ByteArray := prog_14_method_4_code
def yX12_links : MethodName := ⟨RX12, "links", "(II)Z"⟩
abbrev cX12_room : ByteArray := prog_14_method_5_code
def yX12_room : MethodName := ⟨RX12, "room", "(I)V"⟩
abbrev cX12_reach : ByteArray := prog_14_method_6_code
def yX12_reach : MethodName := ⟨RX12, "reach", "(II)I"⟩
abbrev cX12_cell : ByteArray := prog_14_method_7_code
def yX12_cell : MethodName := ⟨RX12, "cell", "(II)J"⟩
abbrev cX12_put : ByteArray := prog_14_method_8_code
def yX12_put : MethodName := ⟨RX12, "put", "(IIJ)V"⟩
abbrev cX12_fails : ByteArray := prog_14_method_9_code
def yX12_fails : MethodName := ⟨RX12, "fails", "(I)Z"⟩
abbrev cX12_place : ByteArray := prog_14_method_10_code
def yX12_place : MethodName := ⟨RX12, "place", "(I)Z"⟩
abbrev cX12_need : ByteArray := prog_14_method_11_code
def yX12_need : MethodName := ⟨RX12, "need", "(I)Z"⟩
abbrev cX12_index : ByteArray := prog_14_method_12_code
def yX12_index : MethodName := ⟨RX12, "index", "(II)Z"⟩
abbrev cX12_size : ByteArray := prog_14_method_13_code
def yX12_size : MethodName := ⟨RX12, "size", "(I)Z"⟩
abbrev cX12_is : ByteArray := prog_14_method_14_code
def yX12_is : MethodName := ⟨RX12, "is", "(II)Z"⟩
abbrev cX12_thing : ByteArray := prog_14_method_15_code
def yX12_thing : MethodName := ⟨RX12, "thing", "(II)Z"⟩
abbrev cX12_nearest : ByteArray := prog_14_method_16_code
def yX12_nearest : MethodName := ⟨RX12, "nearest", "(JI)J"⟩
abbrev cX12_as : ByteArray := prog_14_method_17_code
def yX12_as : MethodName := ⟨RX12, "as", "(IJ)J"⟩
abbrev cX12_no : ByteArray := prog_14_method_18_code
def yX12_no : MethodName := ⟨RX12, "no", "()J"⟩
abbrev cX12_done : ByteArray := prog_14_method_19_code
def yX12_done : MethodName := ⟨RX12, "done", "(IIII)J"⟩
abbrev cX12_rows : ByteArray := prog_14_method_20_code
def yX12_rows : MethodName := ⟨RX12, "rows", "(IIII)J"⟩
abbrev cX12_boxes : ByteArray := prog_14_method_21_code
def yX12_boxes : MethodName := ⟨RX12, "boxes", "(IIII)J"⟩
abbrev cX12_divides : ByteArray := prog_14_method_22_code
def yX12_divides : MethodName := ⟨RX12, "divides", "(II)J"⟩
abbrev cX12_others : ByteArray := prog_14_method_23_code
def yX12_others : MethodName := ⟨RX12, "others", "(IIII)J"⟩
abbrev cX12_copied : ByteArray := prog_14_method_24_code
def yX12_copied : MethodName := ⟨RX12, "copied", "(IIIII)J"⟩
abbrev cX12_op : ByteArray := prog_14_method_25_code
def yX12_op : MethodName := ⟨RX12, "op", "(IIII)J"⟩
abbrev cX12_load : ByteArray := prog_14_method_26_code
def yX12_load : MethodName := ⟨RX12, "load", "(IIIII)I"⟩
abbrev cX12_takes : ByteArray := prog_14_method_27_code
def yX12_takes : MethodName := ⟨RX12, "takes", "(II)Z"⟩
abbrev cX12_block : ByteArray := prog_14_method_28_code
def yX12_block : MethodName := ⟨RX12, "block", "(II)I"⟩
abbrev cX12_run : ByteArray := prog_14_method_29_code
def yX12_run : MethodName := ⟨RX12, "run", "(II)I"⟩
abbrev cX12_acc : ByteArray := prog_14_method_30_code
def yX12_acc : MethodName := ⟨RX12, "acc", "()J"⟩
abbrev cX12_count : ByteArray := prog_14_method_31_code
def yX12_count : MethodName := ⟨RX12, "count", "(I)I"⟩
def RJx00060 : String := "java/lang/ArrayIndexOutOfBoundsException"
def TJx00060 : u_T := fun k => match k with
  | 0 => ("java/lang/Throwable", "cause", "Ljava/lang/Throwable;", false)
  | 1 => ("java/lang/Throwable", "stackTrace", "[Ljava/lang/StackTraceElement;", false)
  | 2 => ("java/lang/Throwable", "suppressedExceptions", "Ljava/util/List;", false)
  | 3 => ("java/lang/Throwable", "detailMessage", "Ljava/lang/String;", false)
  | 4 => ("java/lang/Throwable", "backtrace", "Ljava/lang/Object;", false)
  | _ => ("java/lang/Throwable", "depth", "I", false)
def tyJx00060 : Nat → FieldType := fun k => match k with
  | 0 => .object "java/lang/Throwable"
  | 1 => .array (.object "java/lang/StackTraceElement")
  | 2 => .object "java/util/List"
  | 3 => .object "java/lang/String"
  | 4 => .object "java/lang/Object"
  | _ => .int
abbrev wsJx000600 : List Cond := u_ws RJx00060 TJx00060 6
theorem nmJx00060 : ∀ a, a < 6 → ∀ b, b < 6 → a ≠ b → (TJx00060 a).2.1 ≠ (TJx00060 b).2.1 := by decide +kernel
theorem tyJx00060_ok : ∀ k, k < 6 → parseFieldDescriptor (TJx00060 k).2.2.1 = some (tyJx00060 k) := by decide +kernel
abbrev cJx00060_init_da8c8 : ByteArray := prog_16_method_1_code
def yJx00060_init_da8c8 : MethodName := ⟨RJx00060, "<init>", "()V"⟩
abbrev cJx00060_init_a7421 : ByteArray := prog_16_method_2_code
def yJx00060_init_a7421 : MethodName := ⟨RJx00060, "<init>", "(Ljava/lang/String;)V"⟩
def RJx4e25b : String := "java/lang/ArrayStoreException"
def TJx4e25b : u_T := fun k => match k with
  | 0 => ("java/lang/Throwable", "cause", "Ljava/lang/Throwable;", false)
  | 1 => ("java/lang/Throwable", "stackTrace", "[Ljava/lang/StackTraceElement;", false)
  | 2 => ("java/lang/Throwable", "suppressedExceptions", "Ljava/util/List;", false)
  | 3 => ("java/lang/Throwable", "detailMessage", "Ljava/lang/String;", false)
  | 4 => ("java/lang/Throwable", "backtrace", "Ljava/lang/Object;", false)
  | _ => ("java/lang/Throwable", "depth", "I", false)
def tyJx4e25b : Nat → FieldType := fun k => match k with
  | 0 => .object "java/lang/Throwable"
  | 1 => .array (.object "java/lang/StackTraceElement")
  | 2 => .object "java/util/List"
  | 3 => .object "java/lang/String"
  | 4 => .object "java/lang/Object"
  | _ => .int
abbrev wsJx4e25b0 : List Cond := u_ws RJx4e25b TJx4e25b 6
theorem nmJx4e25b : ∀ a, a < 6 → ∀ b, b < 6 → a ≠ b → (TJx4e25b a).2.1 ≠ (TJx4e25b b).2.1 := by decide +kernel
theorem tyJx4e25b_ok : ∀ k, k < 6 → parseFieldDescriptor (TJx4e25b k).2.2.1 = some (tyJx4e25b k) := by decide +kernel
abbrev cJx4e25b_init_da8c8 : ByteArray := prog_17_method_1_code
def yJx4e25b_init_da8c8 : MethodName := ⟨RJx4e25b, "<init>", "()V"⟩
def RJx3273f : String := "java/lang/ClassCastException"
def TJx3273f : u_T := fun k => match k with
  | 0 => ("java/lang/Throwable", "cause", "Ljava/lang/Throwable;", false)
  | 1 => ("java/lang/Throwable", "stackTrace", "[Ljava/lang/StackTraceElement;", false)
  | 2 => ("java/lang/Throwable", "suppressedExceptions", "Ljava/util/List;", false)
  | 3 => ("java/lang/Throwable", "detailMessage", "Ljava/lang/String;", false)
  | 4 => ("java/lang/Throwable", "backtrace", "Ljava/lang/Object;", false)
  | _ => ("java/lang/Throwable", "depth", "I", false)
def tyJx3273f : Nat → FieldType := fun k => match k with
  | 0 => .object "java/lang/Throwable"
  | 1 => .array (.object "java/lang/StackTraceElement")
  | 2 => .object "java/util/List"
  | 3 => .object "java/lang/String"
  | 4 => .object "java/lang/Object"
  | _ => .int
abbrev wsJx3273f0 : List Cond := u_ws RJx3273f TJx3273f 6
theorem nmJx3273f : ∀ a, a < 6 → ∀ b, b < 6 → a ≠ b → (TJx3273f a).2.1 ≠ (TJx3273f b).2.1 := by decide +kernel
theorem tyJx3273f_ok : ∀ k, k < 6 → parseFieldDescriptor (TJx3273f k).2.2.1 = some (tyJx3273f k) := by decide +kernel
abbrev cJx3273f_init_da8c8 : ByteArray := prog_18_method_1_code
def yJx3273f_init_da8c8 : MethodName := ⟨RJx3273f, "<init>", "()V"⟩
def RJ9 : String := "java/lang/Math"
def TJ9 : u_T := fun k => match k with
  | _ => ("", "", "", false)
def tyJ9 : Nat → FieldType := fun k => match k with
  | _ => .int
abbrev wsJ90 : List Cond := u_ws RJ9 TJ9 0
theorem nmJ9 : ∀ a, a < 0 → ∀ b, b < 0 → a ≠ b → (TJ9 a).2.1 ≠ (TJ9 b).2.1 := by decide +kernel
theorem tyJ9_ok : ∀ k, k < 0 → parseFieldDescriptor (TJ9 k).2.2.1 = some (tyJ9 k) := by decide +kernel
abbrev cJ9_abs_0f7a4 : ByteArray := prog_22_method_59_code
def yJ9_abs_0f7a4 : MethodName := ⟨RJ9, "abs", "(I)I"⟩
abbrev cJ9_max_7cf53 : ByteArray := prog_22_method_65_code
def yJ9_max_7cf53 : MethodName := ⟨RJ9, "max", "(II)I"⟩
abbrev cJ9_min_7cf53 : ByteArray := prog_22_method_69_code
def yJ9_min_7cf53 : MethodName := ⟨RJ9, "min", "(II)I"⟩
def RJxde1cd : String := "java/lang/NegativeArraySizeException"
def TJxde1cd : u_T := fun k => match k with
  | 0 => ("java/lang/Throwable", "cause", "Ljava/lang/Throwable;", false)
  | 1 => ("java/lang/Throwable", "stackTrace", "[Ljava/lang/StackTraceElement;", false)
  | 2 => ("java/lang/Throwable", "suppressedExceptions", "Ljava/util/List;", false)
  | 3 => ("java/lang/Throwable", "detailMessage", "Ljava/lang/String;", false)
  | 4 => ("java/lang/Throwable", "backtrace", "Ljava/lang/Object;", false)
  | _ => ("java/lang/Throwable", "depth", "I", false)
def tyJxde1cd : Nat → FieldType := fun k => match k with
  | 0 => .object "java/lang/Throwable"
  | 1 => .array (.object "java/lang/StackTraceElement")
  | 2 => .object "java/util/List"
  | 3 => .object "java/lang/String"
  | 4 => .object "java/lang/Object"
  | _ => .int
abbrev wsJxde1cd0 : List Cond := u_ws RJxde1cd TJxde1cd 6
theorem nmJxde1cd : ∀ a, a < 6 → ∀ b, b < 6 → a ≠ b → (TJxde1cd a).2.1 ≠ (TJxde1cd b).2.1 := by decide +kernel
theorem tyJxde1cd_ok : ∀ k, k < 6 → parseFieldDescriptor (TJxde1cd k).2.2.1 = some (tyJxde1cd k) := by decide +kernel
abbrev cJxde1cd_init_da8c8 : ByteArray := prog_23_method_1_code
def yJxde1cd_init_da8c8 : MethodName := ⟨RJxde1cd, "<init>", "()V"⟩
def RJx5d777 : String := "java/lang/NullPointerException"
def TJx5d777 : u_T := fun k => match k with
  | 0 => ("java/lang/Throwable", "cause", "Ljava/lang/Throwable;", false)
  | 1 => ("java/lang/Throwable", "stackTrace", "[Ljava/lang/StackTraceElement;", false)
  | 2 => ("java/lang/Throwable", "suppressedExceptions", "Ljava/util/List;", false)
  | 3 => ("java/lang/Throwable", "detailMessage", "Ljava/lang/String;", false)
  | 4 => ("java/lang/Throwable", "backtrace", "Ljava/lang/Object;", false)
  | 5 => ("java/lang/Throwable", "depth", "I", false)
  | 6 => ("java/lang/NullPointerException", "extendedMessageState", "I", false)
  | _ => ("java/lang/NullPointerException", "extendedMessage", "Ljava/lang/String;", false)
def tyJx5d777 : Nat → FieldType := fun k => match k with
  | 0 => .object "java/lang/Throwable"
  | 1 => .array (.object "java/lang/StackTraceElement")
  | 2 => .object "java/util/List"
  | 3 => .object "java/lang/String"
  | 4 => .object "java/lang/Object"
  | 5 => .int
  | 6 => .int
  | _ => .object "java/lang/String"
abbrev wsJx5d7770 : List Cond := u_ws RJx5d777 TJx5d777 8
theorem nmJx5d777 : ∀ a, a < 8 → ∀ b, b < 8 → a ≠ b → (TJx5d777 a).2.1 ≠ (TJx5d777 b).2.1 := by decide +kernel
theorem tyJx5d777_ok : ∀ k, k < 8 → parseFieldDescriptor (TJx5d777 k).2.2.1 = some (tyJx5d777 k) := by decide +kernel
abbrev cJx5d777_init_da8c8 : ByteArray := prog_24_method_1_code
def yJx5d777_init_da8c8 : MethodName := ⟨RJx5d777, "<init>", "()V"⟩
abbrev cJx5d777_fillInStackTrace_cddbd : ByteArray := prog_24_method_3_code
def yJx5d777_fillInStackTrace_cddbd : MethodName := ⟨RJx5d777, "fillInStackTrace", "()Ljava/lang/Throwable;"⟩
def RJ0 : String := "java/lang/String"
def TJ0 : u_T := fun k => match k with
  | _ => ("", "", "", false)
def tyJ0 : Nat → FieldType := fun k => match k with
  | _ => .int
abbrev wsJ00 : List Cond := u_ws RJ0 TJ0 0
theorem nmJ0 : ∀ a, a < 0 → ∀ b, b < 0 → a ≠ b → (TJ0 a).2.1 ≠ (TJ0 b).2.1 := by decide +kernel
theorem tyJ0_ok : ∀ k, k < 0 → parseFieldDescriptor (TJ0 k).2.2.1 = some (tyJ0 k) := by decide +kernel
def RJ10 : String := "java/lang/System"
def TJ10 : u_T := fun k => match k with
  | _ => ("", "", "", false)
def tyJ10 : Nat → FieldType := fun k => match k with
  | _ => .int
abbrev wsJ100 : List Cond := u_ws RJ10 TJ10 0
theorem nmJ10 : ∀ a, a < 0 → ∀ b, b < 0 → a ≠ b → (TJ10 a).2.1 ≠ (TJ10 b).2.1 := by decide +kernel
theorem tyJ10_ok : ∀ k, k < 0 → parseFieldDescriptor (TJ10 k).2.2.1 = some (tyJ10 k) := by decide +kernel
def RL : String := "FaultMillLaw"
abbrev cL_op : ByteArray := method_3_code
def yL_op : MethodName := ⟨RL, "op", "(LFaultMill;IIII[J)I"⟩
abbrev cL_load : ByteArray := method_4_code
def yL_load : MethodName := ⟨RL, "load", "(LFaultMill;IIIII[J)I"⟩
abbrev cL_run : ByteArray := method_5_code
def yL_run : MethodName := ⟨RL, "run", "(LFaultMill;II[J)I"⟩
abbrev cL_law : ByteArray := code
def yL_law : MethodName := ⟨RL, "law", "([I)Z"⟩
abbrev vwCl : List vw_C := [(RJx00060, TJx00060, 6), (RJx4e25b, TJx4e25b, 6), (RJx3273f, TJx3273f, 6), (RJxde1cd, TJxde1cd, 6), (RJx5d777, TJx5d777, 8), (RX0, TX0, 3), (RX1, TX1, 5), (RX3, TX3, 3), (RX4, TX4, 1), (RX5, TX5, 1), (RX7, TX7, 2), (RX8, TX8, 3), (RX9, TX9, 2), (RX11, TX11, 12), (RX12, TX12, 21)]
