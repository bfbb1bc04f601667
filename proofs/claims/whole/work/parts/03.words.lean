/-- the words that every method carries: those of the tables that stay as they are -/
def gT : List Cond := lw_tbl.filter goodWord
theorem gw {w : Cond} (n : Nat) (h : lw_tbl[n]? = some w) (hg : goodWord w = true) : w ∈ gT := List.mem_filter.mpr ⟨List.mem_of_getElem? h, hg⟩
theorem wL_X11_X11_answerOf : Cond.selects RX11 yX11_answerOf yX11_answerOf ∈ gT := gw 0 rfl rfl
theorem wL_X11_X11_makeRow : Cond.selects RX11 yX11_makeRow yX11_makeRow ∈ gT := gw 1 rfl rfl
theorem wL_X11_X11_mayMake : Cond.selects RX11 yX11_mayMake yX11_mayMake ∈ gT := gw 2 rfl rfl
theorem wL_X11_X11_tell : Cond.selects RX11 yX11_tell yX11_tell ∈ gT := gw 3 rfl rfl
theorem wL_X11_X11_isPlace : Cond.selects RX11 yX11_isPlace yX11_isPlace ∈ gT := gw 4 rfl rfl
theorem wL_X11_X11_isSize : Cond.selects RX11 yX11_isSize yX11_isSize ∈ gT := gw 5 rfl rfl
theorem wL_X11_X11_putNew : Cond.selects RX11 yX11_putNew yX11_putNew ∈ gT := gw 6 rfl rfl
theorem wL_X11_X11_rowCell : Cond.selects RX11 yX11_rowCell yX11_rowCell ∈ gT := gw 7 rfl rfl
theorem wL_X11_X11_needed : Cond.selects RX11 yX11_needed yX11_needed ∈ gT := gw 8 rfl rfl
theorem wL_X11_X11_fits : Cond.selects RX11 yX11_fits yX11_fits ∈ gT := gw 9 rfl rfl
theorem wL_X11_X11_isThere : Cond.selects RX11 yX11_isThere yX11_isThere ∈ gT := gw 10 rfl rfl
theorem wL_X11_X11_isCell : Cond.selects RX11 yX11_isCell yX11_isCell ∈ gT := gw 11 rfl rfl
theorem wL_X11_X11_setRowCell : Cond.selects RX11 yX11_setRowCell yX11_setRowCell ∈ gT := gw 12 rfl rfl
theorem wL_X11_X11_rowLength : Cond.selects RX11 yX11_rowLength yX11_rowLength ∈ gT := gw 13 rfl rfl
theorem wL_X11_X11_makeSheet : Cond.selects RX11 yX11_makeSheet yX11_makeSheet ∈ gT := gw 14 rfl rfl
theorem wL_X11_X11_sheetRow : Cond.selects RX11 yX11_sheetRow yX11_sheetRow ∈ gT := gw 15 rfl rfl
theorem wL_X11_X11_markCell : Cond.selects RX11 yX11_markCell yX11_markCell ∈ gT := gw 16 rfl rfl
theorem wL_X11_X11_takeOut : Cond.selects RX11 yX11_takeOut yX11_takeOut ∈ gT := gw 17 rfl rfl
theorem wL_X11_X11_putIn : Cond.selects RX11 yX11_putIn yX11_putIn ∈ gT := gw 18 rfl rfl
theorem wL_X11_X11_makeCase : Cond.selects RX11 yX11_makeCase yX11_makeCase ∈ gT := gw 19 rfl rfl
theorem wL_X11_X11_makeBox : Cond.selects RX11 yX11_makeBox yX11_makeBox ∈ gT := gw 20 rfl rfl
theorem wL_X11_X11_makeLetter : Cond.selects RX11 yX11_makeLetter yX11_makeLetter ∈ gT := gw 21 rfl rfl
theorem wL_X11_X11_boxValue : Cond.selects RX11 yX11_boxValue yX11_boxValue ∈ gT := gw 22 rfl rfl
theorem wL_X11_X11_changeBox : Cond.selects RX11 yX11_changeBox yX11_changeBox ∈ gT := gw 23 rfl rfl
theorem wL_X11_X11_linkBox : Cond.selects RX11 yX11_linkBox yX11_linkBox ∈ gT := gw 24 rfl rfl
theorem wL_X11_X11_followBox : Cond.selects RX11 yX11_followBox yX11_followBox ∈ gT := gw 25 rfl rfl
theorem wL_X11_X11_weigh : Cond.selects RX11 yX11_weigh yX11_weigh ∈ gT := gw 26 rfl rfl
theorem wL_X11_X11_roll : Cond.selects RX11 yX11_roll yX11_roll ∈ gT := gw 27 rfl rfl
theorem wL_X11_X11_rim : Cond.selects RX11 yX11_rim yX11_rim ∈ gT := gw 28 rfl rfl
theorem wL_X11_X11_isDivisor : Cond.selects RX11 yX11_isDivisor yX11_isDivisor ∈ gT := gw 29 rfl rfl
theorem wL_X11_X11_raise : Cond.selects RX11 yX11_raise yX11_raise ∈ gT := gw 30 rfl rfl
theorem wL_X11_X11_holdsSort : Cond.selects RX11 yX11_holdsSort yX11_holdsSort ∈ gT := gw 31 rfl rfl
theorem wL_X11_X11_clear : Cond.selects RX11 yX11_clear yX11_clear ∈ gT := gw 32 rfl rfl
theorem wL_X11_X11_move : Cond.selects RX11 yX11_move yX11_move ∈ gT := gw 33 rfl rfl
theorem wL_X11_X11_holdSame : Cond.selects RX11 yX11_holdSame yX11_holdSame ∈ gT := gw 34 rfl rfl
theorem wL_X11_X11_copy : Cond.selects RX11 yX11_copy yX11_copy ∈ gT := gw 35 rfl rfl
theorem wL_X11_X11_copyCells : Cond.selects RX11 yX11_copyCells yX11_copyCells ∈ gT := gw 36 rfl rfl
theorem wL_X11_X11_isSpan : Cond.selects RX11 yX11_isSpan yX11_isSpan ∈ gT := gw 37 rfl rfl
theorem wL_X11_X11_copyThings : Cond.selects RX11 yX11_copyThings yX11_copyThings ∈ gT := gw 38 rfl rfl
theorem wL_X11_X11_letFaultOut : Cond.selects RX11 yX11_letFaultOut yX11_letFaultOut ∈ gT := gw 39 rfl rfl
theorem wL_X11_X11_step : Cond.selects RX11 yX11_step yX11_step ∈ gT := gw 42 rfl rfl
theorem wL_X11_X11_control : Cond.selects RX11 yX11_control yX11_control ∈ gT := gw 43 rfl rfl
theorem wL_X11_X11_repeat : Cond.selects RX11 yX11_repeat yX11_repeat ∈ gT := gw 44 rfl rfl
theorem wL_X11_X11_endOfNext : Cond.selects RX11 yX11_endOfNext yX11_endOfNext ∈ gT := gw 45 rfl rfl
theorem wL_X11_X11_closeAllBlocks : Cond.selects RX11 yX11_closeAllBlocks yX11_closeAllBlocks ∈ gT := gw 46 rfl rfl
theorem wL_X11_X11_closeBlock : Cond.selects RX11 yX11_closeBlock yX11_closeBlock ∈ gT := gw 47 rfl rfl
theorem wL_X11_X11_unwind : Cond.selects RX11 yX11_unwind yX11_unwind ∈ gT := gw 48 rfl rfl
theorem wL_X11_X11_isCaught : Cond.selects RX11 yX11_isCaught yX11_isCaught ∈ gT := gw 49 rfl rfl
theorem wL_X11_X11_leaveFinishedBlocks : Cond.selects RX11 yX11_leaveFinishedBlocks yX11_leaveFinishedBlocks ∈ gT := gw 50 rfl rfl
theorem wL_X12_X12_done : Cond.selects RX12 yX12_done yX12_done ∈ gT := gw 51 rfl rfl
theorem wL_X12_X12_fails : Cond.selects RX12 yX12_fails yX12_fails ∈ gT := gw 52 rfl rfl
theorem wL_X12_X12_no : Cond.selects RX12 yX12_no yX12_no ∈ gT := gw 53 rfl rfl
theorem wL_X12_X12_rows : Cond.selects RX12 yX12_rows yX12_rows ∈ gT := gw 54 rfl rfl
theorem wL_X12_X12_place : Cond.selects RX12 yX12_place yX12_place ∈ gT := gw 55 rfl rfl
theorem wL_X12_X12_size : Cond.selects RX12 yX12_size yX12_size ∈ gT := gw 56 rfl rfl
theorem wL_X12_X12_make : Cond.selects RX12 yX12_make yX12_make ∈ gT := gw 57 rfl rfl
theorem wL_X12_X12_room : Cond.selects RX12 yX12_room yX12_room ∈ gT := gw 58 rfl rfl
theorem wL_X12_X12_reach : Cond.selects RX12 yX12_reach yX12_reach ∈ gT := gw 59 rfl rfl
theorem wL_X12_X12_links : Cond.selects RX12 yX12_links yX12_links ∈ gT := gw 60 rfl rfl
theorem wL_X12_X12_thing : Cond.selects RX12 yX12_thing yX12_thing ∈ gT := gw 61 rfl rfl
theorem wL_X12_X12_is : Cond.selects RX12 yX12_is yX12_is ∈ gT := gw 62 rfl rfl
theorem wL_X12_X12_need : Cond.selects RX12 yX12_need yX12_need ∈ gT := gw 63 rfl rfl
theorem wL_X12_X12_index : Cond.selects RX12 yX12_index yX12_index ∈ gT := gw 64 rfl rfl
theorem wL_X12_X12_cell : Cond.selects RX12 yX12_cell yX12_cell ∈ gT := gw 65 rfl rfl
theorem wL_X12_X12_put : Cond.selects RX12 yX12_put yX12_put ∈ gT := gw 66 rfl rfl
theorem wL_X12_X12_boxes : Cond.selects RX12 yX12_boxes yX12_boxes ∈ gT := gw 67 rfl rfl
theorem wL_X12_X12_divides : Cond.selects RX12 yX12_divides yX12_divides ∈ gT := gw 68 rfl rfl
theorem wL_X12_X12_others : Cond.selects RX12 yX12_others yX12_others ∈ gT := gw 69 rfl rfl
theorem wL_X12_X12_copied : Cond.selects RX12 yX12_copied yX12_copied ∈ gT := gw 70 rfl rfl
theorem wL_X12_X12_block : Cond.selects RX12 yX12_block yX12_block ∈ gT := gw 71 rfl rfl
theorem wI_L : Cond.initialized RL ∈ gT := gw 72 rfl rfl
theorem wI_X11 : Cond.initialized RX11 ∈ gT := gw 73 rfl rfl
theorem wI_X1 : Cond.initialized RX1 ∈ gT := gw 74 rfl rfl
theorem wI_X12 : Cond.initialized RX12 ∈ gT := gw 75 rfl rfl
theorem wI_X10 : Cond.initialized RX10 ∈ gT := gw 76 rfl rfl
theorem wI_X7 : Cond.initialized RX7 ∈ gT := gw 77 rfl rfl
theorem wI_X8 : Cond.initialized RX8 ∈ gT := gw 78 rfl rfl
theorem wI_X2 : Cond.initialized RX2 ∈ gT := gw 79 rfl rfl
theorem wI_X9 : Cond.initialized RX9 ∈ gT := gw 80 rfl rfl
theorem wI_X3 : Cond.initialized RX3 ∈ gT := gw 81 rfl rfl
theorem wI_X0 : Cond.initialized RX0 ∈ gT := gw 82 rfl rfl
theorem wI_X4 : Cond.initialized RX4 ∈ gT := gw 83 rfl rfl
theorem wI_J9 : Cond.initialized RJ9 ∈ gT := gw 84 rfl rfl
theorem wI_X5 : Cond.initialized RX5 ∈ gT := gw 85 rfl rfl
theorem wI_J10 : Cond.initialized RJ10 ∈ gT := gw 86 rfl rfl
theorem wC_L_8 : Cond.classLink RL 8 RX11 ∈ gT := gw 98 rfl rfl
theorem wT_X11 : Cond.instantiable RX11 12 ∈ gT := gw 99 rfl rfl
theorem wM_L_35 : Cond.methodLink RL 35 yX11_init ∈ gT := gw 100 rfl rfl
theorem wN_X11_init : Cond.instanceMethod yX11_init ∈ gT := gw 101 rfl rfl
theorem wK_X11_init : Cond.code yX11_init cX11_init (2 : Nat) (none : Option FieldType) ∈ gT := gw 102 rfl rfl
theorem wM_X11_1 : Cond.methodLink RX11 1 ⟨"java/lang/Object", "<init>", "()V"⟩ ∈ gT := gw 103 rfl rfl
theorem wN_Object_init : Cond.instanceMethod ⟨"java/lang/Object", "<init>", "()V"⟩ ∈ gT := gw 104 rfl rfl
theorem wK_objInit : Cond.code objectInit object_method_1_code (1 : Nat) (none : Option FieldType) ∈ gT := gw 105 rfl rfl
theorem wC_X11_9 : Cond.classLink RX11 9 RX10 ∈ gT := gw 106 rfl rfl
theorem wC_X11_19 : Cond.classLink RX11 19 RX1 ∈ gT := gw 108 rfl rfl
theorem wT_X1 : Cond.instantiable RX1 5 ∈ gT := gw 109 rfl rfl
theorem wM_X11_21 : Cond.methodLink RX11 21 yX1_init ∈ gT := gw 110 rfl rfl
theorem wN_X1_init : Cond.instanceMethod yX1_init ∈ gT := gw 111 rfl rfl
theorem wK_X1_init : Cond.code yX1_init cX1_init (1 : Nat) (none : Option FieldType) ∈ gT := gw 112 rfl rfl
theorem wM_X1_3 : Cond.methodLink RX1 3 ⟨"java/lang/Object", "<init>", "()V"⟩ ∈ gT := gw 113 rfl rfl
theorem wF_X1_9 : Cond.fieldLink RX1 9 "FaultMill$Blocks" "starts" "[I" ∈ gT := gw 114 rfl rfl
theorem wF_X1_15 : Cond.fieldLink RX1 15 "FaultMill$Blocks" "ends" "[I" ∈ gT := gw 115 rfl rfl
theorem wF_X1_18 : Cond.fieldLink RX1 18 "FaultMill$Blocks" "turns" "[I" ∈ gT := gw 116 rfl rfl
theorem wF_X1_21 : Cond.fieldLink RX1 21 "FaultMill$Blocks" "catches" "[I" ∈ gT := gw 117 rfl rfl
theorem wF_X1_24 : Cond.fieldLink RX1 24 "FaultMill$Blocks" "depth" "I" ∈ gT := gw 118 rfl rfl
theorem wU_X1 : Cond.superclass RX1 "java/lang/Object" ∈ gT := gw 130 rfl rfl
theorem wA_int : Cond.arrayClass .int ∈ gT := gw 131 rfl rfl
theorem wF_X11_11 : Cond.fieldLink RX11 11 "FaultMill" "places" "[LFaultMill$Thing;" ∈ gT := gw 132 rfl rfl
theorem wF_X11_15 : Cond.fieldLink RX11 15 "FaultMill" "program" "[I" ∈ gT := gw 133 rfl rfl
theorem wF_X11_22 : Cond.fieldLink RX11 22 "FaultMill" "blocks" "LFaultMill$Blocks;" ∈ gT := gw 134 rfl rfl
theorem wF_X11_68 : Cond.fieldLink RX11 68 "FaultMill" "acc" "J" ∈ gT := gw 135 rfl rfl
theorem wF_X11_26 : Cond.fieldLink RX11 26 "FaultMill" "fault" "I" ∈ gT := gw 136 rfl rfl
theorem wF_X11_59 : Cond.fieldLink RX11 59 "FaultMill" "at" "I" ∈ gT := gw 137 rfl rfl
theorem wF_X11_56 : Cond.fieldLink RX11 56 "FaultMill" "fuelLeft" "I" ∈ gT := gw 138 rfl rfl
theorem wF_X11_37 : Cond.fieldLink RX11 37 "FaultMill" "done" "I" ∈ gT := gw 139 rfl rfl
theorem wF_X11_72 : Cond.fieldLink RX11 72 "FaultMill" "caught" "I" ∈ gT := gw 140 rfl rfl
theorem wF_X11_75 : Cond.fieldLink RX11 75 "FaultMill" "finals" "I" ∈ gT := gw 141 rfl rfl
theorem wF_X11_78 : Cond.fieldLink RX11 78 "FaultMill" "letOut" "I" ∈ gT := gw 142 rfl rfl
theorem wF_X11_81 : Cond.fieldLink RX11 81 "FaultMill" "made" "I" ∈ gT := gw 143 rfl rfl
theorem wU_X11 : Cond.superclass RX11 "java/lang/Object" ∈ gT := gw 168 rfl rfl
theorem wM_L_57 : Cond.methodLink RL 57 yX11_acc ∈ gT := gw 169 rfl rfl
theorem wN_X11_acc : Cond.instanceMethod yX11_acc ∈ gT := gw 170 rfl rfl
theorem wL_X11_X11_acc : Cond.selects RX11 yX11_acc yX11_acc ∈ gT := gw 171 rfl rfl
theorem wK_X11_acc : Cond.code yX11_acc cX11_acc (1 : Nat) (some FieldType.long) ∈ gT := gw 172 rfl rfl
theorem wM_L_62 : Cond.methodLink RL 62 yX11_count ∈ gT := gw 173 rfl rfl
theorem wN_X11_count : Cond.instanceMethod yX11_count ∈ gT := gw 174 rfl rfl
theorem wL_X11_X11_count : Cond.selects RX11 yX11_count yX11_count ∈ gT := gw 175 rfl rfl
theorem wK_X11_count : Cond.code yX11_count cX11_count (2 : Nat) (some FieldType.int) ∈ gT := gw 176 rfl rfl
theorem wM_L_39 : Cond.methodLink RL 39 yL_op ∈ gT := gw 177 rfl rfl
theorem wS_L_op : Cond.static yL_op ∈ gT := gw 178 rfl rfl
theorem wC_L_13 : Cond.classLink RL 13 "java/lang/ArithmeticException" ∈ gT := gw 180 rfl rfl
theorem wC_L_15 : Cond.classLink RL 15 RJx5d777 ∈ gT := gw 181 rfl rfl
theorem wC_L_17 : Cond.classLink RL 17 RJx00060 ∈ gT := gw 182 rfl rfl
theorem wC_L_19 : Cond.classLink RL 19 RJx3273f ∈ gT := gw 183 rfl rfl
theorem wC_L_21 : Cond.classLink RL 21 RJxde1cd ∈ gT := gw 184 rfl rfl
theorem wC_L_23 : Cond.classLink RL 23 RJx4e25b ∈ gT := gw 185 rfl rfl
theorem wC_L_25 : Cond.classLink RL 25 "java/lang/IllegalStateException" ∈ gT := gw 186 rfl rfl
theorem wM_L_7 : Cond.methodLink RL 7 yX11_op ∈ gT := gw 187 rfl rfl
theorem wN_X11_op : Cond.instanceMethod yX11_op ∈ gT := gw 188 rfl rfl
theorem wL_X11_X11_op : Cond.selects RX11 yX11_op yX11_op ∈ gT := gw 189 rfl rfl
theorem wK_X11_op : Cond.code yX11_op cX11_op (7 : Nat) (some FieldType.long) ∈ gT := gw 190 rfl rfl
theorem wM_X11_30 : Cond.methodLink RX11 30 yX11_answerOf ∈ gT := gw 191 rfl rfl
theorem wN_X11_answerOf : Cond.instanceMethod yX11_answerOf ∈ gT := gw 193 rfl rfl
theorem wK_X11_answerOf : Cond.code yX11_answerOf cX11_answerOf (5 : Nat) (some FieldType.long) ∈ gT := gw 194 rfl rfl
theorem wM_X11_158 : Cond.methodLink RX11 158 yX11_makeRow ∈ gT := gw 195 rfl rfl
theorem wN_X11_makeRow : Cond.instanceMethod yX11_makeRow ∈ gT := gw 197 rfl rfl
theorem wK_X11_makeRow : Cond.code yX11_makeRow cX11_makeRow (5 : Nat) (some FieldType.long) ∈ gT := gw 198 rfl rfl
theorem wM_X11_262 : Cond.methodLink RX11 262 yX11_mayMake ∈ gT := gw 199 rfl rfl
theorem wN_X11_mayMake : Cond.instanceMethod yX11_mayMake ∈ gT := gw 201 rfl rfl
theorem wK_X11_mayMake : Cond.code yX11_mayMake cX11_mayMake (1 : Nat) (some FieldType.boolean) ∈ gT := gw 202 rfl rfl
theorem wM_X11_245 : Cond.methodLink RX11 245 yX11_tell ∈ gT := gw 203 rfl rfl
theorem wN_X11_tell : Cond.instanceMethod yX11_tell ∈ gT := gw 205 rfl rfl
theorem wK_X11_tell : Cond.code yX11_tell cX11_tell (2 : Nat) (some FieldType.boolean) ∈ gT := gw 206 rfl rfl
theorem wM_X11_248 : Cond.methodLink RX11 248 yX11_isPlace ∈ gT := gw 207 rfl rfl
theorem wN_X11_isPlace : Cond.instanceMethod yX11_isPlace ∈ gT := gw 209 rfl rfl
theorem wK_X11_isPlace : Cond.code yX11_isPlace cX11_isPlace (2 : Nat) (some FieldType.boolean) ∈ gT := gw 210 rfl rfl
theorem wM_X11_265 : Cond.methodLink RX11 265 yX11_isSize ∈ gT := gw 211 rfl rfl
theorem wN_X11_isSize : Cond.instanceMethod yX11_isSize ∈ gT := gw 213 rfl rfl
theorem wK_X11_isSize : Cond.code yX11_isSize cX11_isSize (2 : Nat) (some FieldType.boolean) ∈ gT := gw 214 rfl rfl
theorem wC_X11_268 : Cond.classLink RX11 268 RX7 ∈ gT := gw 215 rfl rfl
theorem wT_X7 : Cond.instantiable RX7 2 ∈ gT := gw 216 rfl rfl
theorem wM_X11_270 : Cond.methodLink RX11 270 yX7_init ∈ gT := gw 217 rfl rfl
theorem wN_X7_init : Cond.instanceMethod yX7_init ∈ gT := gw 218 rfl rfl
theorem wK_X7_init : Cond.code yX7_init cX7_init (3 : Nat) (none : Option FieldType) ∈ gT := gw 219 rfl rfl
theorem wN_X10_init : Cond.instanceMethod yX10_init ∈ gT := gw 221 rfl rfl
theorem wK_X10_init : Cond.code yX10_init cX10_init (1 : Nat) (none : Option FieldType) ∈ gT := gw 222 rfl rfl
theorem wM_X10_1 : Cond.methodLink RX10 1 ⟨"java/lang/Object", "<init>", "()V"⟩ ∈ gT := gw 223 rfl rfl
theorem wF_X7_9 : Cond.fieldLink RX7 9 "FaultMill$Row" "kind" "I" ∈ gT := gw 224 rfl rfl
theorem wF_X7_15 : Cond.fieldLink RX7 15 "FaultMill$Row" "cells" "[J" ∈ gT := gw 226 rfl rfl
theorem wU_X7 : Cond.superclass RX7 RX10 ∈ gT := gw 232 rfl rfl
theorem wA_long : Cond.arrayClass .long ∈ gT := gw 233 rfl rfl
theorem wM_X11_272 : Cond.methodLink RX11 272 yX11_putNew ∈ gT := gw 234 rfl rfl
theorem wN_X11_putNew : Cond.instanceMethod yX11_putNew ∈ gT := gw 236 rfl rfl
theorem wK_X11_putNew : Cond.code yX11_putNew cX11_putNew (3 : Nat) (none : Option FieldType) ∈ gT := gw 237 rfl rfl
theorem wM_X11_162 : Cond.methodLink RX11 162 yX11_rowCell ∈ gT := gw 238 rfl rfl
theorem wN_X11_rowCell : Cond.instanceMethod yX11_rowCell ∈ gT := gw 240 rfl rfl
theorem wK_X11_rowCell : Cond.code yX11_rowCell cX11_rowCell (6 : Nat) (some FieldType.long) ∈ gT := gw 241 rfl rfl
theorem wM_X11_276 : Cond.methodLink RX11 276 yX11_needed ∈ gT := gw 242 rfl rfl
theorem wN_X11_needed : Cond.instanceMethod yX11_needed ∈ gT := gw 244 rfl rfl
theorem wK_X11_needed : Cond.code yX11_needed cX11_needed (3 : Nat) (some (FieldType.object "FaultMill$Thing")) ∈ gT := gw 245 rfl rfl
theorem wM_X11_254 : Cond.methodLink RX11 254 yX11_fits ∈ gT := gw 246 rfl rfl
theorem wN_X11_fits : Cond.instanceMethod yX11_fits ∈ gT := gw 248 rfl rfl
theorem wK_X11_fits : Cond.code yX11_fits cX11_fits (4 : Nat) (some FieldType.boolean) ∈ gT := gw 249 rfl rfl
theorem wM_X11_251 : Cond.methodLink RX11 251 ⟨RX10, "isOf", "(I)Z"⟩ ∈ gT := gw 250 rfl rfl
theorem wZ_X10_isOf : Cond.sameMethod RX10 RX10 "isOf" "(I)Z" ∈ gT := gw 252 rfl rfl
theorem wL_X0_X3_isOf : Cond.selects RX0 ⟨RX10, "isOf", "(I)Z"⟩ yX3_isOf ∈ gT := gw 253 rfl rfl
theorem wN_X3_isOf : Cond.instanceMethod yX3_isOf ∈ gT := gw 254 rfl rfl
theorem wK_X3_isOf : Cond.code yX3_isOf cX3_isOf (2 : Nat) (some FieldType.boolean) ∈ gT := gw 255 rfl rfl
theorem wL_X3_X3_isOf : Cond.selects RX3 ⟨RX10, "isOf", "(I)Z"⟩ yX3_isOf ∈ gT := gw 256 rfl rfl
theorem wL_X4_X4_isOf : Cond.selects RX4 ⟨RX10, "isOf", "(I)Z"⟩ yX4_isOf ∈ gT := gw 257 rfl rfl
theorem wN_X4_isOf : Cond.instanceMethod yX4_isOf ∈ gT := gw 258 rfl rfl
theorem wK_X4_isOf : Cond.code yX4_isOf cX4_isOf (2 : Nat) (some FieldType.boolean) ∈ gT := gw 259 rfl rfl
theorem wL_X5_X5_isOf : Cond.selects RX5 ⟨RX10, "isOf", "(I)Z"⟩ yX5_isOf ∈ gT := gw 260 rfl rfl
theorem wN_X5_isOf : Cond.instanceMethod yX5_isOf ∈ gT := gw 261 rfl rfl
theorem wK_X5_isOf : Cond.code yX5_isOf cX5_isOf (2 : Nat) (some FieldType.boolean) ∈ gT := gw 262 rfl rfl
theorem wL_X7_X7_isOf : Cond.selects RX7 ⟨RX10, "isOf", "(I)Z"⟩ yX7_isOf ∈ gT := gw 263 rfl rfl
theorem wN_X7_isOf : Cond.instanceMethod yX7_isOf ∈ gT := gw 264 rfl rfl
theorem wK_X7_isOf : Cond.code yX7_isOf cX7_isOf (2 : Nat) (some FieldType.boolean) ∈ gT := gw 265 rfl rfl
theorem wL_X8_X8_isOf : Cond.selects RX8 ⟨RX10, "isOf", "(I)Z"⟩ yX8_isOf ∈ gT := gw 266 rfl rfl
theorem wN_X8_isOf : Cond.instanceMethod yX8_isOf ∈ gT := gw 267 rfl rfl
theorem wK_X8_isOf : Cond.code yX8_isOf cX8_isOf (2 : Nat) (some FieldType.boolean) ∈ gT := gw 268 rfl rfl
theorem wL_X9_X9_isOf : Cond.selects RX9 ⟨RX10, "isOf", "(I)Z"⟩ yX9_isOf ∈ gT := gw 269 rfl rfl
theorem wN_X9_isOf : Cond.instanceMethod yX9_isOf ∈ gT := gw 270 rfl rfl
theorem wK_X9_isOf : Cond.code yX9_isOf cX9_isOf (2 : Nat) (some FieldType.boolean) ∈ gT := gw 271 rfl rfl
theorem wM_X11_258 : Cond.methodLink RX11 258 yX11_isThere ∈ gT := gw 272 rfl rfl
theorem wN_X11_isThere : Cond.instanceMethod yX11_isThere ∈ gT := gw 274 rfl rfl
theorem wK_X11_isThere : Cond.code yX11_isThere cX11_isThere (2 : Nat) (some FieldType.boolean) ∈ gT := gw 275 rfl rfl
theorem wM_X11_284 : Cond.methodLink RX11 284 yX11_isCell ∈ gT := gw 276 rfl rfl
theorem wN_X11_isCell : Cond.instanceMethod yX11_isCell ∈ gT := gw 278 rfl rfl
theorem wK_X11_isCell : Cond.code yX11_isCell cX11_isCell (3 : Nat) (some FieldType.boolean) ∈ gT := gw 279 rfl rfl
theorem wM_X11_165 : Cond.methodLink RX11 165 yX11_setRowCell ∈ gT := gw 280 rfl rfl
theorem wN_X11_setRowCell : Cond.instanceMethod yX11_setRowCell ∈ gT := gw 282 rfl rfl
theorem wK_X11_setRowCell : Cond.code yX11_setRowCell cX11_setRowCell (6 : Nat) (some FieldType.long) ∈ gT := gw 283 rfl rfl
theorem wM_X11_287 : Cond.methodLink RX11 287 yX7_asCell ∈ gT := gw 284 rfl rfl
theorem wN_X7_asCell : Cond.instanceMethod yX7_asCell ∈ gT := gw 285 rfl rfl
theorem wL_X7_X7_asCell : Cond.selects RX7 yX7_asCell yX7_asCell ∈ gT := gw 286 rfl rfl
theorem wK_X7_asCell : Cond.code yX7_asCell cX7_asCell (3 : Nat) (some FieldType.long) ∈ gT := gw 287 rfl rfl
theorem wM_X11_168 : Cond.methodLink RX11 168 yX11_rowLength ∈ gT := gw 288 rfl rfl
theorem wN_X11_rowLength : Cond.instanceMethod yX11_rowLength ∈ gT := gw 290 rfl rfl
theorem wK_X11_rowLength : Cond.code yX11_rowLength cX11_rowLength (5 : Nat) (some FieldType.long) ∈ gT := gw 291 rfl rfl
theorem wM_X11_172 : Cond.methodLink RX11 172 yX11_makeSheet ∈ gT := gw 292 rfl rfl
theorem wN_X11_makeSheet : Cond.instanceMethod yX11_makeSheet ∈ gT := gw 294 rfl rfl
theorem wK_X11_makeSheet : Cond.code yX11_makeSheet cX11_makeSheet (8 : Nat) (some FieldType.long) ∈ gT := gw 295 rfl rfl
theorem wC_X11_291 : Cond.classLink RX11 291 RX8 ∈ gT := gw 296 rfl rfl
theorem wT_X8 : Cond.instantiable RX8 3 ∈ gT := gw 297 rfl rfl
theorem wM_X11_293 : Cond.methodLink RX11 293 yX8_init ∈ gT := gw 298 rfl rfl
theorem wN_X8_init : Cond.instanceMethod yX8_init ∈ gT := gw 299 rfl rfl
theorem wK_X8_init : Cond.code yX8_init cX8_init (4 : Nat) (none : Option FieldType) ∈ gT := gw 300 rfl rfl
theorem wC_X8_4 : Cond.classLink RX8 4 RX10 ∈ gT := gw 302 rfl rfl
theorem wF_X8_9 : Cond.fieldLink RX8 9 "FaultMill$Shelf" "ownSort" "I" ∈ gT := gw 303 rfl rfl
theorem wF_X8_15 : Cond.fieldLink RX8 15 "FaultMill$Shelf" "thingSort" "I" ∈ gT := gw 304 rfl rfl
theorem wF_X8_18 : Cond.fieldLink RX8 18 "FaultMill$Shelf" "cells" "[LFaultMill$Thing;" ∈ gT := gw 305 rfl rfl
theorem wU_X8 : Cond.superclass RX8 RX10 ∈ gT := gw 313 rfl rfl
theorem wM_X11_175 : Cond.methodLink RX11 175 yX11_sheetRow ∈ gT := gw 314 rfl rfl
theorem wN_X11_sheetRow : Cond.instanceMethod yX11_sheetRow ∈ gT := gw 316 rfl rfl
theorem wK_X11_sheetRow : Cond.code yX11_sheetRow cX11_sheetRow (7 : Nat) (some (FieldType.object "FaultMill$Row")) ∈ gT := gw 317 rfl rfl
theorem wM_X11_179 : Cond.methodLink RX11 179 yX11_readCell ∈ gT := gw 318 rfl rfl
theorem wS_X11_readCell : Cond.static yX11_readCell ∈ gT := gw 319 rfl rfl
theorem wK_X11_readCell : Cond.code yX11_readCell cX11_readCell (2 : Nat) (some FieldType.long) ∈ gT := gw 320 rfl rfl
theorem wM_X11_183 : Cond.methodLink RX11 183 yX11_markCell ∈ gT := gw 321 rfl rfl
theorem wN_X11_markCell : Cond.instanceMethod yX11_markCell ∈ gT := gw 323 rfl rfl
theorem wK_X11_markCell : Cond.code yX11_markCell cX11_markCell (3 : Nat) (some FieldType.long) ∈ gT := gw 324 rfl rfl
theorem wM_X11_186 : Cond.methodLink RX11 186 yX11_takeOut ∈ gT := gw 325 rfl rfl
theorem wN_X11_takeOut : Cond.instanceMethod yX11_takeOut ∈ gT := gw 327 rfl rfl
theorem wK_X11_takeOut : Cond.code yX11_takeOut cX11_takeOut (7 : Nat) (some FieldType.long) ∈ gT := gw 328 rfl rfl
theorem wM_X11_189 : Cond.methodLink RX11 189 yX11_putIn ∈ gT := gw 329 rfl rfl
theorem wN_X11_putIn : Cond.instanceMethod yX11_putIn ∈ gT := gw 331 rfl rfl
theorem wK_X11_putIn : Cond.code yX11_putIn cX11_putIn (8 : Nat) (some FieldType.long) ∈ gT := gw 332 rfl rfl
theorem wM_X11_301 : Cond.methodLink RX11 301 yX8_takes ∈ gT := gw 333 rfl rfl
theorem wN_X8_takes : Cond.instanceMethod yX8_takes ∈ gT := gw 334 rfl rfl
theorem wL_X8_X8_takes : Cond.selects RX8 yX8_takes yX8_takes ∈ gT := gw 335 rfl rfl
theorem wK_X8_takes : Cond.code yX8_takes cX8_takes (2 : Nat) (some FieldType.boolean) ∈ gT := gw 336 rfl rfl
theorem wM_X8_22 : Cond.methodLink RX8 22 ⟨RX10, "isOf", "(I)Z"⟩ ∈ gT := gw 337 rfl rfl
theorem wM_X11_193 : Cond.methodLink RX11 193 yX11_makeCase ∈ gT := gw 338 rfl rfl
theorem wN_X11_makeCase : Cond.instanceMethod yX11_makeCase ∈ gT := gw 340 rfl rfl
theorem wK_X11_makeCase : Cond.code yX11_makeCase cX11_makeCase (5 : Nat) (some FieldType.long) ∈ gT := gw 341 rfl rfl
theorem wM_X11_297 : Cond.methodLink RX11 297 yX11_newCase ∈ gT := gw 342 rfl rfl
theorem wS_X11_newCase : Cond.static yX11_newCase ∈ gT := gw 343 rfl rfl
theorem wK_X11_newCase : Cond.code yX11_newCase cX11_newCase (2 : Nat) (some (FieldType.object "FaultMill$Shelf")) ∈ gT := gw 344 rfl rfl
theorem wM_X11_196 : Cond.methodLink RX11 196 yX11_makeBox ∈ gT := gw 345 rfl rfl
theorem wN_X11_makeBox : Cond.instanceMethod yX11_makeBox ∈ gT := gw 347 rfl rfl
theorem wK_X11_makeBox : Cond.code yX11_makeBox cX11_makeBox (4 : Nat) (some FieldType.long) ∈ gT := gw 348 rfl rfl
theorem wC_X11_304 : Cond.classLink RX11 304 RX9 ∈ gT := gw 349 rfl rfl
theorem wT_X9 : Cond.instantiable RX9 2 ∈ gT := gw 350 rfl rfl
theorem wM_X11_306 : Cond.methodLink RX11 306 yX9_init ∈ gT := gw 351 rfl rfl
theorem wN_X9_init : Cond.instanceMethod yX9_init ∈ gT := gw 352 rfl rfl
theorem wK_X9_init : Cond.code yX9_init cX9_init (2 : Nat) (none : Option FieldType) ∈ gT := gw 353 rfl rfl
theorem wM_X9_3 : Cond.methodLink RX9 3 yX2_init ∈ gT := gw 354 rfl rfl
theorem wN_X2_init : Cond.instanceMethod yX2_init ∈ gT := gw 355 rfl rfl
theorem wK_X2_init : Cond.code yX2_init cX2_init (2 : Nat) (none : Option FieldType) ∈ gT := gw 356 rfl rfl
theorem wF_X2_7 : Cond.fieldLink RX2 7 "FaultMill$Box" "value" "I" ∈ gT := gw 358 rfl rfl
theorem wF_X3_15 : Cond.fieldLink RX3 15 "FaultMill$Disc" "value" "I" ∈ gT := gw 359 rfl rfl
theorem wY_X3_value : Cond.sameField RX3 RX2 "value" "I" ∈ gT := gw 360 rfl rfl
theorem wF_X9_9 : Cond.fieldLink RX9 9 "FaultMill$Stone" "value" "I" ∈ gT := gw 361 rfl rfl
theorem wY_X9_value : Cond.sameField RX9 RX2 "value" "I" ∈ gT := gw 362 rfl rfl
theorem wF_X0_11 : Cond.fieldLink RX0 11 "FaultMill$Ball" "value" "I" ∈ gT := gw 363 rfl rfl
theorem wY_X0_value : Cond.sameField RX0 RX2 "value" "I" ∈ gT := gw 364 rfl rfl
theorem wF_X11_328 : Cond.fieldLink RX11 328 "FaultMill$Box" "value" "I" ∈ gT := gw 365 rfl rfl
theorem wF_X11_331 : Cond.fieldLink RX11 331 "FaultMill$Box" "next" "LFaultMill$Box;" ∈ gT := gw 366 rfl rfl
theorem wU_X9 : Cond.superclass RX9 RX2 ∈ gT := gw 371 rfl rfl
theorem wC_X11_308 : Cond.classLink RX11 308 RX3 ∈ gT := gw 372 rfl rfl
theorem wT_X3 : Cond.instantiable RX3 3 ∈ gT := gw 373 rfl rfl
theorem wM_X11_310 : Cond.methodLink RX11 310 yX3_init ∈ gT := gw 374 rfl rfl
theorem wN_X3_init : Cond.instanceMethod yX3_init ∈ gT := gw 375 rfl rfl
theorem wK_X3_init : Cond.code yX3_init cX3_init (2 : Nat) (none : Option FieldType) ∈ gT := gw 376 rfl rfl
theorem wM_X3_3 : Cond.methodLink RX3 3 yX2_init ∈ gT := gw 377 rfl rfl
theorem wF_X3_9 : Cond.fieldLink RX3 9 "FaultMill$Disc" "rim" "I" ∈ gT := gw 378 rfl rfl
theorem wF_X11_343 : Cond.fieldLink RX11 343 "FaultMill$Disc" "rim" "I" ∈ gT := gw 379 rfl rfl
set_option maxRecDepth 100000 in
theorem wU_X3 : Cond.superclass RX3 RX2 ∈ gT := gw 384 rfl rfl
set_option maxRecDepth 100000 in
theorem wC_X11_311 : Cond.classLink RX11 311 RX0 ∈ gT := gw 385 rfl rfl
set_option maxRecDepth 100000 in
theorem wT_X0 : Cond.instantiable RX0 3 ∈ gT := gw 386 rfl rfl
set_option maxRecDepth 100000 in
theorem wM_X11_313 : Cond.methodLink RX11 313 yX0_init ∈ gT := gw 387 rfl rfl
set_option maxRecDepth 100000 in
theorem wN_X0_init : Cond.instanceMethod yX0_init ∈ gT := gw 388 rfl rfl
set_option maxRecDepth 100000 in
theorem wK_X0_init : Cond.code yX0_init cX0_init (2 : Nat) (none : Option FieldType) ∈ gT := gw 389 rfl rfl
set_option maxRecDepth 100000 in
theorem wM_X0_1 : Cond.methodLink RX0 1 yX3_init ∈ gT := gw 390 rfl rfl
set_option maxRecDepth 100000 in
theorem wU_X0 : Cond.superclass RX0 RX3 ∈ gT := gw 394 rfl rfl
set_option maxRecDepth 100000 in
theorem wC_X11_314 : Cond.classLink RX11 314 RX4 ∈ gT := gw 395 rfl rfl
set_option maxRecDepth 100000 in
theorem wT_X4 : Cond.instantiable RX4 1 ∈ gT := gw 396 rfl rfl
set_option maxRecDepth 100000 in
theorem wM_X11_316 : Cond.methodLink RX11 316 yX4_init ∈ gT := gw 397 rfl rfl
set_option maxRecDepth 100000 in
theorem wN_X4_init : Cond.instanceMethod yX4_init ∈ gT := gw 398 rfl rfl
set_option maxRecDepth 100000 in
theorem wK_X4_init : Cond.code yX4_init cX4_init (2 : Nat) (none : Option FieldType) ∈ gT := gw 399 rfl rfl
set_option maxRecDepth 100000 in
theorem wF_X4_9 : Cond.fieldLink RX4 9 "FaultMill$Drum" "value" "I" ∈ gT := gw 401 rfl rfl
set_option maxRecDepth 100000 in
theorem wU_X4 : Cond.superclass RX4 RX10 ∈ gT := gw 404 rfl rfl
set_option maxRecDepth 100000 in
theorem wM_X11_199 : Cond.methodLink RX11 199 yX11_makeLetter ∈ gT := gw 405 rfl rfl
set_option maxRecDepth 100000 in
theorem wN_X11_makeLetter : Cond.instanceMethod yX11_makeLetter ∈ gT := gw 407 rfl rfl
set_option maxRecDepth 100000 in
theorem wK_X11_makeLetter : Cond.code yX11_makeLetter cX11_makeLetter (4 : Nat) (some FieldType.long) ∈ gT := gw 408 rfl rfl
set_option maxRecDepth 100000 in
theorem wQ_X11_319 : Cond.constant RX11 319 (-2147483648 : Int32) ∈ gT := gw 409 rfl rfl
set_option maxRecDepth 100000 in
theorem wM_X11_320 : Cond.methodLink RX11 320 yJ9_abs_0f7a4 ∈ gT := gw 410 rfl rfl
set_option maxRecDepth 100000 in
theorem wS_J9_abs : Cond.static yJ9_abs_0f7a4 ∈ gT := gw 411 rfl rfl
set_option maxRecDepth 100000 in
theorem wK_J9_abs : Cond.code yJ9_abs_0f7a4 cJ9_abs_0f7a4 (1 : Nat) (some FieldType.int) ∈ gT := gw 412 rfl rfl
set_option maxRecDepth 100000 in
theorem wC_X11_323 : Cond.classLink RX11 323 RX5 ∈ gT := gw 413 rfl rfl
set_option maxRecDepth 100000 in
theorem wT_X5 : Cond.instantiable RX5 1 ∈ gT := gw 414 rfl rfl
set_option maxRecDepth 100000 in
theorem wM_X11_325 : Cond.methodLink RX11 325 yX5_init ∈ gT := gw 415 rfl rfl
set_option maxRecDepth 100000 in
theorem wN_X5_init : Cond.instanceMethod yX5_init ∈ gT := gw 416 rfl rfl
set_option maxRecDepth 100000 in
theorem wK_X5_init : Cond.code yX5_init cX5_init (2 : Nat) (none : Option FieldType) ∈ gT := gw 417 rfl rfl
set_option maxRecDepth 100000 in
theorem wF_X5_9 : Cond.fieldLink RX5 9 "FaultMill$Letter" "sort" "I" ∈ gT := gw 419 rfl rfl
set_option maxRecDepth 100000 in
theorem wU_X5 : Cond.superclass RX5 RX10 ∈ gT := gw 423 rfl rfl
set_option maxRecDepth 100000 in
theorem wM_X11_202 : Cond.methodLink RX11 202 yX11_boxValue ∈ gT := gw 424 rfl rfl
set_option maxRecDepth 100000 in
theorem wN_X11_boxValue : Cond.instanceMethod yX11_boxValue ∈ gT := gw 426 rfl rfl
set_option maxRecDepth 100000 in
theorem wK_X11_boxValue : Cond.code yX11_boxValue cX11_boxValue (4 : Nat) (some FieldType.long) ∈ gT := gw 427 rfl rfl
set_option maxRecDepth 100000 in
theorem wC_X11_326 : Cond.classLink RX11 326 RX2 ∈ gT := gw 428 rfl rfl
set_option maxRecDepth 100000 in
theorem wM_X11_206 : Cond.methodLink RX11 206 yX11_changeBox ∈ gT := gw 429 rfl rfl
set_option maxRecDepth 100000 in
theorem wN_X11_changeBox : Cond.instanceMethod yX11_changeBox ∈ gT := gw 431 rfl rfl
set_option maxRecDepth 100000 in
theorem wK_X11_changeBox : Cond.code yX11_changeBox cX11_changeBox (4 : Nat) (some FieldType.long) ∈ gT := gw 432 rfl rfl
set_option maxRecDepth 100000 in
theorem wM_X11_209 : Cond.methodLink RX11 209 yX11_linkBox ∈ gT := gw 433 rfl rfl
set_option maxRecDepth 100000 in
theorem wN_X11_linkBox : Cond.instanceMethod yX11_linkBox ∈ gT := gw 435 rfl rfl
set_option maxRecDepth 100000 in
theorem wK_X11_linkBox : Cond.code yX11_linkBox cX11_linkBox (6 : Nat) (some FieldType.long) ∈ gT := gw 436 rfl rfl
set_option maxRecDepth 100000 in
theorem wM_X11_212 : Cond.methodLink RX11 212 yX11_followBox ∈ gT := gw 437 rfl rfl
set_option maxRecDepth 100000 in
theorem wN_X11_followBox : Cond.instanceMethod yX11_followBox ∈ gT := gw 439 rfl rfl
set_option maxRecDepth 100000 in
theorem wK_X11_followBox : Cond.code yX11_followBox cX11_followBox (5 : Nat) (some FieldType.long) ∈ gT := gw 440 rfl rfl
set_option maxRecDepth 100000 in
theorem wM_X11_215 : Cond.methodLink RX11 215 yX11_weigh ∈ gT := gw 441 rfl rfl
set_option maxRecDepth 100000 in
theorem wN_X11_weigh : Cond.instanceMethod yX11_weigh ∈ gT := gw 443 rfl rfl
set_option maxRecDepth 100000 in
theorem wK_X11_weigh : Cond.code yX11_weigh cX11_weigh (5 : Nat) (some FieldType.long) ∈ gT := gw 444 rfl rfl
set_option maxRecDepth 100000 in
theorem wM_X11_335 : Cond.methodLink RX11 335 ⟨RX2, "weight", "(I)I"⟩ ∈ gT := gw 445 rfl rfl
set_option maxRecDepth 100000 in
theorem wZ_X2_weight : Cond.sameMethod RX2 RX2 "weight" "(I)I" ∈ gT := gw 447 rfl rfl
set_option maxRecDepth 100000 in
theorem wL_X0_X0_weight : Cond.selects RX0 ⟨RX2, "weight", "(I)I"⟩ yX0_weight ∈ gT := gw 448 rfl rfl
set_option maxRecDepth 100000 in
theorem wN_X0_weight : Cond.instanceMethod yX0_weight ∈ gT := gw 449 rfl rfl
set_option maxRecDepth 100000 in
theorem wK_X0_weight : Cond.code yX0_weight cX0_weight (2 : Nat) (some FieldType.int) ∈ gT := gw 450 rfl rfl
set_option maxRecDepth 100000 in
theorem wM_X0_7 : Cond.methodLink RX0 7 yX3_weight ∈ gT := gw 451 rfl rfl
set_option maxRecDepth 100000 in
theorem wN_X3_weight : Cond.instanceMethod yX3_weight ∈ gT := gw 452 rfl rfl
set_option maxRecDepth 100000 in
theorem wK_X3_weight : Cond.code yX3_weight cX3_weight (2 : Nat) (some FieldType.int) ∈ gT := gw 453 rfl rfl
set_option maxRecDepth 100000 in
theorem wL_X3_X3_weight : Cond.selects RX3 ⟨RX2, "weight", "(I)I"⟩ yX3_weight ∈ gT := gw 454 rfl rfl
set_option maxRecDepth 100000 in
theorem wL_X9_X9_weight : Cond.selects RX9 ⟨RX2, "weight", "(I)I"⟩ yX9_weight ∈ gT := gw 455 rfl rfl
set_option maxRecDepth 100000 in
theorem wN_X9_weight : Cond.instanceMethod yX9_weight ∈ gT := gw 456 rfl rfl
set_option maxRecDepth 100000 in
theorem wK_X9_weight : Cond.code yX9_weight cX9_weight (2 : Nat) (some FieldType.int) ∈ gT := gw 457 rfl rfl
set_option maxRecDepth 100000 in
theorem wM_X11_218 : Cond.methodLink RX11 218 yX11_roll ∈ gT := gw 458 rfl rfl
set_option maxRecDepth 100000 in
theorem wN_X11_roll : Cond.instanceMethod yX11_roll ∈ gT := gw 460 rfl rfl
set_option maxRecDepth 100000 in
theorem wK_X11_roll : Cond.code yX11_roll cX11_roll (5 : Nat) (some FieldType.long) ∈ gT := gw 461 rfl rfl
set_option maxRecDepth 100000 in
theorem wC_X11_338 : Cond.classLink RX11 338 RX6 ∈ gT := gw 462 rfl rfl
set_option maxRecDepth 100000 in
theorem wM_X11_340 : Cond.methodLink RX11 340 ⟨RX6, "rolled", "(I)I"⟩ ∈ gT := gw 464 rfl rfl
set_option maxRecDepth 100000 in
theorem wL_X0_X0_rolled : Cond.selects RX0 ⟨RX6, "rolled", "(I)I"⟩ yX0_rolled ∈ gT := gw 468 rfl rfl
set_option maxRecDepth 100000 in
theorem wN_X0_rolled : Cond.instanceMethod yX0_rolled ∈ gT := gw 470 rfl rfl
set_option maxRecDepth 100000 in
theorem wK_X0_rolled : Cond.code yX0_rolled cX0_rolled (2 : Nat) (some FieldType.int) ∈ gT := gw 472 rfl rfl
set_option maxRecDepth 100000 in
theorem wL_X3_X3_rolled : Cond.selects RX3 ⟨RX6, "rolled", "(I)I"⟩ yX3_rolled ∈ gT := gw 474 rfl rfl
set_option maxRecDepth 100000 in
theorem wN_X3_rolled : Cond.instanceMethod yX3_rolled ∈ gT := gw 476 rfl rfl
set_option maxRecDepth 100000 in
theorem wK_X3_rolled : Cond.code yX3_rolled cX3_rolled (2 : Nat) (some FieldType.int) ∈ gT := gw 478 rfl rfl
set_option maxRecDepth 100000 in
theorem wL_X4_X4_rolled : Cond.selects RX4 ⟨RX6, "rolled", "(I)I"⟩ yX4_rolled ∈ gT := gw 480 rfl rfl
set_option maxRecDepth 100000 in
theorem wN_X4_rolled : Cond.instanceMethod yX4_rolled ∈ gT := gw 482 rfl rfl
set_option maxRecDepth 100000 in
theorem wK_X4_rolled : Cond.code yX4_rolled cX4_rolled (2 : Nat) (some FieldType.int) ∈ gT := gw 484 rfl rfl
set_option maxRecDepth 100000 in
theorem wM_X11_221 : Cond.methodLink RX11 221 yX11_rim ∈ gT := gw 485 rfl rfl
set_option maxRecDepth 100000 in
theorem wN_X11_rim : Cond.instanceMethod yX11_rim ∈ gT := gw 487 rfl rfl
set_option maxRecDepth 100000 in
theorem wK_X11_rim : Cond.code yX11_rim cX11_rim (4 : Nat) (some FieldType.long) ∈ gT := gw 488 rfl rfl
set_option maxRecDepth 100000 in
theorem wM_X11_224 : Cond.methodLink RX11 224 yX11_isDivisor ∈ gT := gw 489 rfl rfl
set_option maxRecDepth 100000 in
theorem wN_X11_isDivisor : Cond.instanceMethod yX11_isDivisor ∈ gT := gw 491 rfl rfl
set_option maxRecDepth 100000 in
theorem wK_X11_isDivisor : Cond.code yX11_isDivisor cX11_isDivisor (2 : Nat) (some FieldType.boolean) ∈ gT := gw 492 rfl rfl
set_option maxRecDepth 100000 in
theorem wM_X11_227 : Cond.methodLink RX11 227 yX11_raise ∈ gT := gw 493 rfl rfl
set_option maxRecDepth 100000 in
theorem wN_X11_raise : Cond.instanceMethod yX11_raise ∈ gT := gw 495 rfl rfl
set_option maxRecDepth 100000 in
theorem wK_X11_raise : Cond.code yX11_raise cX11_raise (4 : Nat) (some FieldType.long) ∈ gT := gw 496 rfl rfl
set_option maxRecDepth 100000 in
theorem wM_X11_230 : Cond.methodLink RX11 230 yX11_holdsSort ∈ gT := gw 497 rfl rfl
set_option maxRecDepth 100000 in
theorem wN_X11_holdsSort : Cond.instanceMethod yX11_holdsSort ∈ gT := gw 499 rfl rfl
set_option maxRecDepth 100000 in
theorem wK_X11_holdsSort : Cond.code yX11_holdsSort cX11_holdsSort (3 : Nat) (some FieldType.long) ∈ gT := gw 500 rfl rfl
set_option maxRecDepth 100000 in
theorem wM_X11_233 : Cond.methodLink RX11 233 yX11_clear ∈ gT := gw 501 rfl rfl
set_option maxRecDepth 100000 in
theorem wN_X11_clear : Cond.instanceMethod yX11_clear ∈ gT := gw 503 rfl rfl
set_option maxRecDepth 100000 in
theorem wK_X11_clear : Cond.code yX11_clear cX11_clear (2 : Nat) (some FieldType.long) ∈ gT := gw 504 rfl rfl
set_option maxRecDepth 100000 in
theorem wM_X11_236 : Cond.methodLink RX11 236 yX11_move ∈ gT := gw 505 rfl rfl
set_option maxRecDepth 100000 in
theorem wN_X11_move : Cond.instanceMethod yX11_move ∈ gT := gw 507 rfl rfl
set_option maxRecDepth 100000 in
theorem wK_X11_move : Cond.code yX11_move cX11_move (3 : Nat) (some FieldType.long) ∈ gT := gw 508 rfl rfl
set_option maxRecDepth 100000 in
theorem wM_X11_239 : Cond.methodLink RX11 239 yX11_holdSame ∈ gT := gw 509 rfl rfl
set_option maxRecDepth 100000 in
theorem wN_X11_holdSame : Cond.instanceMethod yX11_holdSame ∈ gT := gw 511 rfl rfl
set_option maxRecDepth 100000 in
theorem wK_X11_holdSame : Cond.code yX11_holdSame cX11_holdSame (3 : Nat) (some FieldType.long) ∈ gT := gw 512 rfl rfl
set_option maxRecDepth 100000 in
theorem wM_X11_242 : Cond.methodLink RX11 242 yX11_copy ∈ gT := gw 513 rfl rfl
set_option maxRecDepth 100000 in
theorem wN_X11_copy : Cond.instanceMethod yX11_copy ∈ gT := gw 515 rfl rfl
set_option maxRecDepth 100000 in
theorem wK_X11_copy : Cond.code yX11_copy cX11_copy (13 : Nat) (some FieldType.long) ∈ gT := gw 516 rfl rfl
set_option maxRecDepth 100000 in
theorem wM_X11_351 : Cond.methodLink RX11 351 yX11_copyCells ∈ gT := gw 517 rfl rfl
set_option maxRecDepth 100000 in
theorem wN_X11_copyCells : Cond.instanceMethod yX11_copyCells ∈ gT := gw 519 rfl rfl
set_option maxRecDepth 100000 in
theorem wK_X11_copyCells : Cond.code yX11_copyCells cX11_copyCells (6 : Nat) (none : Option FieldType) ∈ gT := gw 520 rfl rfl
set_option maxRecDepth 100000 in
theorem wM_X11_359 : Cond.methodLink RX11 359 yX11_isSpan ∈ gT := gw 521 rfl rfl
set_option maxRecDepth 100000 in
theorem wN_X11_isSpan : Cond.instanceMethod yX11_isSpan ∈ gT := gw 523 rfl rfl
set_option maxRecDepth 100000 in
theorem wK_X11_isSpan : Cond.code yX11_isSpan cX11_isSpan (4 : Nat) (some FieldType.boolean) ∈ gT := gw 524 rfl rfl
set_option maxRecDepth 100000 in
theorem wM_X11_363 : Cond.methodLink RX11 363 ⟨RJ10, "arraycopy", "(Ljava/lang/Object;ILjava/lang/Object;II)V"⟩ ∈ gT := gw 525 rfl rfl
set_option maxRecDepth 100000 in
theorem wS_J10_arraycopy : Cond.static ⟨RJ10, "arraycopy", "(Ljava/lang/Object;ILjava/lang/Object;II)V"⟩ ∈ gT := gw 526 rfl rfl
set_option maxRecDepth 100000 in
theorem wV_J10_arraycopy : Cond.native ⟨RJ10, "arraycopy", "(Ljava/lang/Object;ILjava/lang/Object;II)V"⟩ ∈ gT := gw 527 rfl rfl
set_option maxRecDepth 100000 in
theorem wM_X11_355 : Cond.methodLink RX11 355 yX11_copyThings ∈ gT := gw 528 rfl rfl
set_option maxRecDepth 100000 in
theorem wN_X11_copyThings : Cond.instanceMethod yX11_copyThings ∈ gT := gw 530 rfl rfl
set_option maxRecDepth 100000 in
theorem wK_X11_copyThings : Cond.code yX11_copyThings cX11_copyThings (10 : Nat) (none : Option FieldType) ∈ gT := gw 531 rfl rfl
set_option maxRecDepth 100000 in
theorem wQ_X11_156 : Cond.constantLong RX11 156 (-1 : Int64) ∈ gT := gw 532 rfl rfl
set_option maxRecDepth 100000 in
theorem wM_X11_34 : Cond.methodLink RX11 34 yX11_letFaultOut ∈ gT := gw 533 rfl rfl
set_option maxRecDepth 100000 in
theorem wN_X11_letFaultOut : Cond.instanceMethod yX11_letFaultOut ∈ gT := gw 535 rfl rfl
set_option maxRecDepth 100000 in
theorem wK_X11_letFaultOut : Cond.code yX11_letFaultOut cX11_letFaultOut (1 : Nat) (none : Option FieldType) ∈ gT := gw 536 rfl rfl
set_option maxRecDepth 100000 in
theorem wM_X11_84 : Cond.methodLink RX11 84 yX11_throwFault ∈ gT := gw 537 rfl rfl
set_option maxRecDepth 100000 in
theorem wS_X11_throwFault : Cond.static yX11_throwFault ∈ gT := gw 538 rfl rfl
set_option maxRecDepth 100000 in
theorem wK_X11_throwFault : Cond.code yX11_throwFault cX11_throwFault (1 : Nat) (none : Option FieldType) ∈ gT := gw 539 rfl rfl
set_option maxRecDepth 100000 in
theorem wC_X11_88 : Cond.classLink RX11 88 "java/lang/ArithmeticException" ∈ gT := gw 540 rfl rfl
set_option maxRecDepth 100000 in
theorem wM_X11_90 : Cond.methodLink RX11 90 ⟨"java/lang/ArithmeticException", "<init>", "()V"⟩ ∈ gT := gw 595 rfl rfl
set_option maxRecDepth 100000 in
theorem wC_X11_91 : Cond.classLink RX11 91 RJx5d777 ∈ gT := gw 618 rfl rfl
set_option maxRecDepth 100000 in
theorem wM_X11_93 : Cond.methodLink RX11 93 yJx5d777_init_da8c8 ∈ gT := gw 626 rfl rfl
set_option maxRecDepth 100000 in
theorem wC_X11_40 : Cond.classLink RX11 40 RJx00060 ∈ gT := gw 638 rfl rfl
set_option maxRecDepth 100000 in
theorem wM_X11_94 : Cond.methodLink RX11 94 yJx00060_init_da8c8 ∈ gT := gw 649 rfl rfl
set_option maxRecDepth 100000 in
theorem wC_X11_95 : Cond.classLink RX11 95 RJx3273f ∈ gT := gw 658 rfl rfl
set_option maxRecDepth 100000 in
theorem wM_X11_97 : Cond.methodLink RX11 97 yJx3273f_init_da8c8 ∈ gT := gw 667 rfl rfl
set_option maxRecDepth 100000 in
theorem wC_X11_98 : Cond.classLink RX11 98 RJxde1cd ∈ gT := gw 673 rfl rfl
set_option maxRecDepth 100000 in
theorem wM_X11_100 : Cond.methodLink RX11 100 yJxde1cd_init_da8c8 ∈ gT := gw 682 rfl rfl
set_option maxRecDepth 100000 in
theorem wC_X11_101 : Cond.classLink RX11 101 RJx4e25b ∈ gT := gw 688 rfl rfl
set_option maxRecDepth 100000 in
theorem wM_X11_103 : Cond.methodLink RX11 103 yJx4e25b_init_da8c8 ∈ gT := gw 697 rfl rfl
set_option maxRecDepth 100000 in
theorem wC_X11_104 : Cond.classLink RX11 104 "java/lang/IllegalStateException" ∈ gT := gw 703 rfl rfl
set_option maxRecDepth 100000 in
theorem wM_X11_106 : Cond.methodLink RX11 106 ⟨"java/lang/IllegalStateException", "<init>", "()V"⟩ ∈ gT := gw 712 rfl rfl
set_option maxRecDepth 100000 in
theorem wM_L_49 : Cond.methodLink RL 49 yL_load ∈ gT := gw 718 rfl rfl
set_option maxRecDepth 100000 in
theorem wS_L_load : Cond.static yL_load ∈ gT := gw 719 rfl rfl
set_option maxRecDepth 100000 in
theorem wM_L_27 : Cond.methodLink RL 27 yX11_load ∈ gT := gw 721 rfl rfl
set_option maxRecDepth 100000 in
theorem wN_X11_load : Cond.instanceMethod yX11_load ∈ gT := gw 722 rfl rfl
set_option maxRecDepth 100000 in
theorem wL_X11_X11_load : Cond.selects RX11 yX11_load yX11_load ∈ gT := gw 723 rfl rfl
set_option maxRecDepth 100000 in
theorem wK_X11_load : Cond.code yX11_load cX11_load (7 : Nat) (some FieldType.int) ∈ gT := gw 724 rfl rfl
set_option maxRecDepth 100000 in
theorem wM_X11_44 : Cond.methodLink RX11 44 yJx00060_init_a7421 ∈ gT := gw 726 rfl rfl
set_option maxRecDepth 100000 in
theorem wA_byte : Cond.arrayClass .byte ∈ gT := gw 741 rfl rfl
set_option maxRecDepth 100000 in
theorem wM_L_53 : Cond.methodLink RL 53 yL_run ∈ gT := gw 742 rfl rfl
set_option maxRecDepth 100000 in
theorem wS_L_run : Cond.static yL_run ∈ gT := gw 743 rfl rfl
set_option maxRecDepth 100000 in
theorem wM_L_31 : Cond.methodLink RL 31 yX11_run ∈ gT := gw 745 rfl rfl
set_option maxRecDepth 100000 in
theorem wN_X11_run : Cond.instanceMethod yX11_run ∈ gT := gw 746 rfl rfl
set_option maxRecDepth 100000 in
theorem wL_X11_X11_run : Cond.selects RX11 yX11_run yX11_run ∈ gT := gw 747 rfl rfl
set_option maxRecDepth 100000 in
theorem wK_X11_run : Cond.code yX11_run cX11_run (3 : Nat) (some FieldType.int) ∈ gT := gw 748 rfl rfl
set_option maxRecDepth 100000 in
theorem wM_X11_47 : Cond.methodLink RX11 47 yJ9_min_7cf53 ∈ gT := gw 749 rfl rfl
set_option maxRecDepth 100000 in
theorem wS_J9_min : Cond.static yJ9_min_7cf53 ∈ gT := gw 750 rfl rfl
set_option maxRecDepth 100000 in
theorem wK_J9_min : Cond.code yJ9_min_7cf53 cJ9_min_7cf53 (2 : Nat) (some FieldType.int) ∈ gT := gw 751 rfl rfl
set_option maxRecDepth 100000 in
theorem wM_X11_53 : Cond.methodLink RX11 53 yJ9_max_7cf53 ∈ gT := gw 752 rfl rfl
set_option maxRecDepth 100000 in
theorem wS_J9_max : Cond.static yJ9_max_7cf53 ∈ gT := gw 753 rfl rfl
set_option maxRecDepth 100000 in
theorem wK_J9_max : Cond.code yJ9_max_7cf53 cJ9_max_7cf53 (2 : Nat) (some FieldType.int) ∈ gT := gw 754 rfl rfl
set_option maxRecDepth 100000 in
theorem wM_X11_62 : Cond.methodLink RX11 62 yX11_step ∈ gT := gw 755 rfl rfl
set_option maxRecDepth 100000 in
theorem wN_X11_step : Cond.instanceMethod yX11_step ∈ gT := gw 757 rfl rfl
set_option maxRecDepth 100000 in
theorem wK_X11_step : Cond.code yX11_step cX11_step (5 : Nat) (none : Option FieldType) ∈ gT := gw 758 rfl rfl
set_option maxRecDepth 100000 in
theorem wM_X11_107 : Cond.methodLink RX11 107 yX11_control ∈ gT := gw 759 rfl rfl
set_option maxRecDepth 100000 in
theorem wN_X11_control : Cond.instanceMethod yX11_control ∈ gT := gw 761 rfl rfl
set_option maxRecDepth 100000 in
theorem wK_X11_control : Cond.code yX11_control cX11_control (4 : Nat) (none : Option FieldType) ∈ gT := gw 762 rfl rfl
set_option maxRecDepth 100000 in
theorem wM_X11_117 : Cond.methodLink RX11 117 yX11_repeat ∈ gT := gw 763 rfl rfl
set_option maxRecDepth 100000 in
theorem wN_X11_repeat : Cond.instanceMethod yX11_repeat ∈ gT := gw 765 rfl rfl
set_option maxRecDepth 100000 in
theorem wK_X11_repeat : Cond.code yX11_repeat cX11_repeat (4 : Nat) (none : Option FieldType) ∈ gT := gw 766 rfl rfl
set_option maxRecDepth 100000 in
theorem wM_X11_121 : Cond.methodLink RX11 121 yX11_endOfNext ∈ gT := gw 767 rfl rfl
set_option maxRecDepth 100000 in
theorem wN_X11_endOfNext : Cond.instanceMethod yX11_endOfNext ∈ gT := gw 769 rfl rfl
set_option maxRecDepth 100000 in
theorem wK_X11_endOfNext : Cond.code yX11_endOfNext cX11_endOfNext (4 : Nat) (some FieldType.int) ∈ gT := gw 770 rfl rfl
set_option maxRecDepth 100000 in
theorem wM_X11_129 : Cond.methodLink RX11 129 yX1_innerEnd ∈ gT := gw 771 rfl rfl
set_option maxRecDepth 100000 in
theorem wN_X1_innerEnd : Cond.instanceMethod yX1_innerEnd ∈ gT := gw 772 rfl rfl
set_option maxRecDepth 100000 in
theorem wL_X1_X1_innerEnd : Cond.selects RX1 yX1_innerEnd yX1_innerEnd ∈ gT := gw 773 rfl rfl
set_option maxRecDepth 100000 in
theorem wK_X1_innerEnd : Cond.code yX1_innerEnd cX1_innerEnd (1 : Nat) (some FieldType.int) ∈ gT := gw 774 rfl rfl
set_option maxRecDepth 100000 in
theorem wM_X11_125 : Cond.methodLink RX11 125 yX1_open ∈ gT := gw 775 rfl rfl
set_option maxRecDepth 100000 in
theorem wN_X1_open : Cond.instanceMethod yX1_open ∈ gT := gw 776 rfl rfl
set_option maxRecDepth 100000 in
theorem wL_X1_X1_open : Cond.selects RX1 yX1_open yX1_open ∈ gT := gw 777 rfl rfl
set_option maxRecDepth 100000 in
theorem wK_X1_open : Cond.code yX1_open cX1_open (5 : Nat) (none : Option FieldType) ∈ gT := gw 778 rfl rfl
set_option maxRecDepth 100000 in
theorem wM_X11_65 : Cond.methodLink RX11 65 yX11_closeAllBlocks ∈ gT := gw 779 rfl rfl
set_option maxRecDepth 100000 in
theorem wN_X11_closeAllBlocks : Cond.instanceMethod yX11_closeAllBlocks ∈ gT := gw 781 rfl rfl
set_option maxRecDepth 100000 in
theorem wK_X11_closeAllBlocks : Cond.code yX11_closeAllBlocks cX11_closeAllBlocks (2 : Nat) (none : Option FieldType) ∈ gT := gw 782 rfl rfl
set_option maxRecDepth 100000 in
theorem wM_X11_143 : Cond.methodLink RX11 143 yX11_closeBlock ∈ gT := gw 783 rfl rfl
set_option maxRecDepth 100000 in
theorem wN_X11_closeBlock : Cond.instanceMethod yX11_closeBlock ∈ gT := gw 785 rfl rfl
set_option maxRecDepth 100000 in
theorem wK_X11_closeBlock : Cond.code yX11_closeBlock cX11_closeBlock (1 : Nat) (none : Option FieldType) ∈ gT := gw 786 rfl rfl
set_option maxRecDepth 100000 in
theorem wM_X11_146 : Cond.methodLink RX11 146 yX1_innerCatch ∈ gT := gw 787 rfl rfl
set_option maxRecDepth 100000 in
theorem wN_X1_innerCatch : Cond.instanceMethod yX1_innerCatch ∈ gT := gw 788 rfl rfl
set_option maxRecDepth 100000 in
theorem wL_X1_X1_innerCatch : Cond.selects RX1 yX1_innerCatch yX1_innerCatch ∈ gT := gw 789 rfl rfl
set_option maxRecDepth 100000 in
theorem wK_X1_innerCatch : Cond.code yX1_innerCatch cX1_innerCatch (1 : Nat) (some FieldType.int) ∈ gT := gw 790 rfl rfl
set_option maxRecDepth 100000 in
theorem wM_X11_149 : Cond.methodLink RX11 149 yX1_drop ∈ gT := gw 791 rfl rfl
set_option maxRecDepth 100000 in
theorem wN_X1_drop : Cond.instanceMethod yX1_drop ∈ gT := gw 792 rfl rfl
set_option maxRecDepth 100000 in
theorem wL_X1_X1_drop : Cond.selects RX1 yX1_drop yX1_drop ∈ gT := gw 793 rfl rfl
set_option maxRecDepth 100000 in
theorem wK_X1_drop : Cond.code yX1_drop cX1_drop (1 : Nat) (none : Option FieldType) ∈ gT := gw 794 rfl rfl
set_option maxRecDepth 100000 in
theorem wM_X11_111 : Cond.methodLink RX11 111 yX11_unwind ∈ gT := gw 795 rfl rfl
set_option maxRecDepth 100000 in
theorem wN_X11_unwind : Cond.instanceMethod yX11_unwind ∈ gT := gw 797 rfl rfl
set_option maxRecDepth 100000 in
theorem wK_X11_unwind : Cond.code yX11_unwind cX11_unwind (3 : Nat) (none : Option FieldType) ∈ gT := gw 798 rfl rfl
set_option maxRecDepth 100000 in
theorem wM_X11_152 : Cond.methodLink RX11 152 yX11_isCaught ∈ gT := gw 799 rfl rfl
set_option maxRecDepth 100000 in
theorem wN_X11_isCaught : Cond.instanceMethod yX11_isCaught ∈ gT := gw 801 rfl rfl
set_option maxRecDepth 100000 in
theorem wK_X11_isCaught : Cond.code yX11_isCaught cX11_isCaught (2 : Nat) (some FieldType.boolean) ∈ gT := gw 802 rfl rfl
set_option maxRecDepth 100000 in
theorem wM_X11_114 : Cond.methodLink RX11 114 yX11_leaveFinishedBlocks ∈ gT := gw 803 rfl rfl
set_option maxRecDepth 100000 in
theorem wN_X11_leaveFinishedBlocks : Cond.instanceMethod yX11_leaveFinishedBlocks ∈ gT := gw 805 rfl rfl
set_option maxRecDepth 100000 in
theorem wK_X11_leaveFinishedBlocks : Cond.code yX11_leaveFinishedBlocks cX11_leaveFinishedBlocks (2 : Nat) (none : Option FieldType) ∈ gT := gw 806 rfl rfl
set_option maxRecDepth 100000 in
theorem wM_X11_136 : Cond.methodLink RX11 136 yX1_takeTurn ∈ gT := gw 807 rfl rfl
set_option maxRecDepth 100000 in
theorem wN_X1_takeTurn : Cond.instanceMethod yX1_takeTurn ∈ gT := gw 808 rfl rfl
set_option maxRecDepth 100000 in
theorem wL_X1_X1_takeTurn : Cond.selects RX1 yX1_takeTurn yX1_takeTurn ∈ gT := gw 809 rfl rfl
set_option maxRecDepth 100000 in
theorem wK_X1_takeTurn : Cond.code yX1_takeTurn cX1_takeTurn (1 : Nat) (some FieldType.boolean) ∈ gT := gw 810 rfl rfl
set_option maxRecDepth 100000 in
theorem wM_X11_140 : Cond.methodLink RX11 140 yX1_innerStart ∈ gT := gw 811 rfl rfl
set_option maxRecDepth 100000 in
theorem wN_X1_innerStart : Cond.instanceMethod yX1_innerStart ∈ gT := gw 812 rfl rfl
set_option maxRecDepth 100000 in
theorem wL_X1_X1_innerStart : Cond.selects RX1 yX1_innerStart yX1_innerStart ∈ gT := gw 813 rfl rfl
set_option maxRecDepth 100000 in
theorem wK_X1_innerStart : Cond.code yX1_innerStart cX1_innerStart (1 : Nat) (some FieldType.int) ∈ gT := gw 814 rfl rfl
set_option maxRecDepth 100000 in
theorem wC_L_36 : Cond.classLink RL 36 RX12 ∈ gT := gw 815 rfl rfl
set_option maxRecDepth 100000 in
theorem wT_X12 : Cond.instantiable RX12 21 ∈ gT := gw 816 rfl rfl
set_option maxRecDepth 100000 in
theorem wM_L_38 : Cond.methodLink RL 38 yX12_init ∈ gT := gw 817 rfl rfl
set_option maxRecDepth 100000 in
theorem wN_X12_init : Cond.instanceMethod yX12_init ∈ gT := gw 818 rfl rfl
set_option maxRecDepth 100000 in
theorem wK_X12_init : Cond.code yX12_init cX12_init (2 : Nat) (none : Option FieldType) ∈ gT := gw 819 rfl rfl
set_option maxRecDepth 100000 in
theorem wM_X12_1 : Cond.methodLink RX12 1 ⟨"java/lang/Object", "<init>", "()V"⟩ ∈ gT := gw 820 rfl rfl
set_option maxRecDepth 100000 in
theorem wF_X12_7 : Cond.fieldLink RX12 7 "FaultMillModel" "sort" "[I" ∈ gT := gw 821 rfl rfl
set_option maxRecDepth 100000 in
theorem wF_X12_13 : Cond.fieldLink RX12 13 "FaultMillModel" "from" "[I" ∈ gT := gw 822 rfl rfl
set_option maxRecDepth 100000 in
theorem wF_X12_16 : Cond.fieldLink RX12 16 "FaultMillModel" "many" "[I" ∈ gT := gw 823 rfl rfl
set_option maxRecDepth 100000 in
theorem wF_X12_19 : Cond.fieldLink RX12 19 "FaultMillModel" "todo" "[I" ∈ gT := gw 824 rfl rfl
set_option maxRecDepth 100000 in
theorem wF_X12_22 : Cond.fieldLink RX12 22 "FaultMillModel" "held" "[Z" ∈ gT := gw 825 rfl rfl
set_option maxRecDepth 100000 in
theorem wF_X12_26 : Cond.fieldLink RX12 26 "FaultMillModel" "cells" "[J" ∈ gT := gw 826 rfl rfl
set_option maxRecDepth 100000 in
theorem wF_X12_30 : Cond.fieldLink RX12 30 "FaultMillModel" "things" "I" ∈ gT := gw 827 rfl rfl
set_option maxRecDepth 100000 in
theorem wF_X12_58 : Cond.fieldLink RX12 58 "FaultMillModel" "top" "I" ∈ gT := gw 828 rfl rfl
set_option maxRecDepth 100000 in
theorem wF_X12_34 : Cond.fieldLink RX12 34 "FaultMillModel" "at" "[I" ∈ gT := gw 829 rfl rfl
set_option maxRecDepth 100000 in
theorem wF_X12_37 : Cond.fieldLink RX12 37 "FaultMillModel" "what" "[I" ∈ gT := gw 830 rfl rfl
set_option maxRecDepth 100000 in
theorem wF_X12_40 : Cond.fieldLink RX12 40 "FaultMillModel" "one" "[I" ∈ gT := gw 831 rfl rfl
set_option maxRecDepth 100000 in
theorem wF_X12_43 : Cond.fieldLink RX12 43 "FaultMillModel" "two" "[I" ∈ gT := gw 832 rfl rfl
set_option maxRecDepth 100000 in
theorem wF_X12_46 : Cond.fieldLink RX12 46 "FaultMillModel" "three" "[I" ∈ gT := gw 833 rfl rfl
set_option maxRecDepth 100000 in
theorem wF_X12_143 : Cond.fieldLink RX12 143 "FaultMillModel" "acc" "J" ∈ gT := gw 834 rfl rfl
set_option maxRecDepth 100000 in
theorem wF_X12_165 : Cond.fieldLink RX12 165 "FaultMillModel" "fuel" "I" ∈ gT := gw 835 rfl rfl
set_option maxRecDepth 100000 in
theorem wF_X12_55 : Cond.fieldLink RX12 55 "FaultMillModel" "thrown" "I" ∈ gT := gw 836 rfl rfl
set_option maxRecDepth 100000 in
theorem wF_X12_76 : Cond.fieldLink RX12 76 "FaultMillModel" "wrong" "I" ∈ gT := gw 837 rfl rfl
set_option maxRecDepth 100000 in
theorem wF_X12_49 : Cond.fieldLink RX12 49 "FaultMillModel" "told" "[I" ∈ gT := gw 838 rfl rfl
set_option maxRecDepth 100000 in
theorem wF_X12_52 : Cond.fieldLink RX12 52 "FaultMillModel" "keep" "[I" ∈ gT := gw 839 rfl rfl
set_option maxRecDepth 100000 in
theorem wF_X12_69 : Cond.fieldLink RX12 69 "FaultMillModel" "keeps" "I" ∈ gT := gw 840 rfl rfl
set_option maxRecDepth 100000 in
theorem wF_X12_101 : Cond.fieldLink RX12 101 "FaultMillModel" "threw" "Z" ∈ gT := gw 841 rfl rfl
set_option maxRecDepth 100000 in
theorem wU_X12 : Cond.superclass RX12 "java/lang/Object" ∈ gT := gw 884 rfl rfl
set_option maxRecDepth 100000 in
theorem wA_boolean : Cond.arrayClass .boolean ∈ gT := gw 885 rfl rfl
set_option maxRecDepth 100000 in
theorem wM_L_45 : Cond.methodLink RL 45 yX12_thrown ∈ gT := gw 886 rfl rfl
set_option maxRecDepth 100000 in
theorem wN_X12_thrown : Cond.instanceMethod yX12_thrown ∈ gT := gw 887 rfl rfl
set_option maxRecDepth 100000 in
theorem wL_X12_X12_thrown : Cond.selects RX12 yX12_thrown yX12_thrown ∈ gT := gw 888 rfl rfl
set_option maxRecDepth 100000 in
theorem wK_X12_thrown : Cond.code yX12_thrown cX12_thrown (1 : Nat) (some FieldType.int) ∈ gT := gw 889 rfl rfl
set_option maxRecDepth 100000 in
theorem wM_L_44 : Cond.methodLink RL 44 yX12_op ∈ gT := gw 890 rfl rfl
set_option maxRecDepth 100000 in
theorem wN_X12_op : Cond.instanceMethod yX12_op ∈ gT := gw 891 rfl rfl
set_option maxRecDepth 100000 in
theorem wL_X12_X12_op : Cond.selects RX12 yX12_op yX12_op ∈ gT := gw 892 rfl rfl
set_option maxRecDepth 100000 in
theorem wK_X12_op : Cond.code yX12_op cX12_op (7 : Nat) (some FieldType.long) ∈ gT := gw 893 rfl rfl
set_option maxRecDepth 100000 in
theorem wM_X12_162 : Cond.methodLink RX12 162 yX12_done ∈ gT := gw 894 rfl rfl
set_option maxRecDepth 100000 in
theorem wN_X12_done : Cond.instanceMethod yX12_done ∈ gT := gw 896 rfl rfl
set_option maxRecDepth 100000 in
theorem wK_X12_done : Cond.code yX12_done cX12_done (5 : Nat) (some FieldType.long) ∈ gT := gw 897 rfl rfl
set_option maxRecDepth 100000 in
theorem wQ_X12_105 : Cond.constantLong RX12 105 (-1 : Int64) ∈ gT := gw 898 rfl rfl
set_option maxRecDepth 100000 in
theorem wM_X12_79 : Cond.methodLink RX12 79 yX12_fails ∈ gT := gw 899 rfl rfl
set_option maxRecDepth 100000 in
theorem wN_X12_fails : Cond.instanceMethod yX12_fails ∈ gT := gw 901 rfl rfl
set_option maxRecDepth 100000 in
theorem wK_X12_fails : Cond.code yX12_fails cX12_fails (2 : Nat) (some FieldType.boolean) ∈ gT := gw 902 rfl rfl
set_option maxRecDepth 100000 in
theorem wM_X12_107 : Cond.methodLink RX12 107 yX12_no ∈ gT := gw 903 rfl rfl
set_option maxRecDepth 100000 in
theorem wN_X12_no : Cond.instanceMethod yX12_no ∈ gT := gw 905 rfl rfl
set_option maxRecDepth 100000 in
theorem wK_X12_no : Cond.code yX12_no cX12_no (1 : Nat) (some FieldType.long) ∈ gT := gw 906 rfl rfl
set_option maxRecDepth 100000 in
theorem wM_X12_111 : Cond.methodLink RX12 111 yX12_rows ∈ gT := gw 907 rfl rfl
set_option maxRecDepth 100000 in
theorem wN_X12_rows : Cond.instanceMethod yX12_rows ∈ gT := gw 909 rfl rfl
set_option maxRecDepth 100000 in
theorem wK_X12_rows : Cond.code yX12_rows cX12_rows (8 : Nat) (some FieldType.long) ∈ gT := gw 910 rfl rfl
set_option maxRecDepth 100000 in
theorem wM_X12_83 : Cond.methodLink RX12 83 yX12_place ∈ gT := gw 911 rfl rfl
set_option maxRecDepth 100000 in
theorem wN_X12_place : Cond.instanceMethod yX12_place ∈ gT := gw 913 rfl rfl
set_option maxRecDepth 100000 in
theorem wK_X12_place : Cond.code yX12_place cX12_place (2 : Nat) (some FieldType.boolean) ∈ gT := gw 914 rfl rfl
set_option maxRecDepth 100000 in
theorem wM_X12_125 : Cond.methodLink RX12 125 yX12_size ∈ gT := gw 915 rfl rfl
set_option maxRecDepth 100000 in
theorem wN_X12_size : Cond.instanceMethod yX12_size ∈ gT := gw 917 rfl rfl
set_option maxRecDepth 100000 in
theorem wK_X12_size : Cond.code yX12_size cX12_size (2 : Nat) (some FieldType.boolean) ∈ gT := gw 918 rfl rfl
set_option maxRecDepth 100000 in
theorem wM_X12_128 : Cond.methodLink RX12 128 yX12_make ∈ gT := gw 919 rfl rfl
set_option maxRecDepth 100000 in
theorem wN_X12_make : Cond.instanceMethod yX12_make ∈ gT := gw 921 rfl rfl
set_option maxRecDepth 100000 in
theorem wK_X12_make : Cond.code yX12_make cX12_make (5 : Nat) (some FieldType.int) ∈ gT := gw 922 rfl rfl
set_option maxRecDepth 100000 in
theorem wM_X12_61 : Cond.methodLink RX12 61 yX12_room ∈ gT := gw 923 rfl rfl
set_option maxRecDepth 100000 in
theorem wN_X12_room : Cond.instanceMethod yX12_room ∈ gT := gw 925 rfl rfl
set_option maxRecDepth 100000 in
theorem wK_X12_room : Cond.code yX12_room cX12_room (17 : Nat) (none : Option FieldType) ∈ gT := gw 926 rfl rfl
set_option maxRecDepth 100000 in
theorem wM_X12_65 : Cond.methodLink RX12 65 yX12_reach ∈ gT := gw 927 rfl rfl
set_option maxRecDepth 100000 in
theorem wN_X12_reach : Cond.instanceMethod yX12_reach ∈ gT := gw 929 rfl rfl
set_option maxRecDepth 100000 in
theorem wK_X12_reach : Cond.code yX12_reach cX12_reach (3 : Nat) (some FieldType.int) ∈ gT := gw 930 rfl rfl
set_option maxRecDepth 100000 in
theorem wM_X12_72 : Cond.methodLink RX12 72 yX12_links ∈ gT := gw 931 rfl rfl
set_option maxRecDepth 100000 in
theorem wN_X12_links : Cond.instanceMethod yX12_links ∈ gT := gw 933 rfl rfl
set_option maxRecDepth 100000 in
theorem wK_X12_links : Cond.code yX12_links cX12_links (3 : Nat) (some FieldType.boolean) ∈ gT := gw 934 rfl rfl
set_option maxRecDepth 100000 in
theorem wM_X12_131 : Cond.methodLink RX12 131 yX12_thing ∈ gT := gw 935 rfl rfl
set_option maxRecDepth 100000 in
theorem wN_X12_thing : Cond.instanceMethod yX12_thing ∈ gT := gw 937 rfl rfl
set_option maxRecDepth 100000 in
theorem wK_X12_thing : Cond.code yX12_thing cX12_thing (3 : Nat) (some FieldType.boolean) ∈ gT := gw 938 rfl rfl
set_option maxRecDepth 100000 in
theorem wM_X12_86 : Cond.methodLink RX12 86 yX12_is ∈ gT := gw 939 rfl rfl
set_option maxRecDepth 100000 in
theorem wN_X12_is : Cond.instanceMethod yX12_is ∈ gT := gw 941 rfl rfl
set_option maxRecDepth 100000 in
theorem wK_X12_is : Cond.code yX12_is cX12_is (4 : Nat) (some FieldType.boolean) ∈ gT := gw 942 rfl rfl
set_option maxRecDepth 100000 in
theorem wM_X12_134 : Cond.methodLink RX12 134 yX12_need ∈ gT := gw 943 rfl rfl
set_option maxRecDepth 100000 in
theorem wN_X12_need : Cond.instanceMethod yX12_need ∈ gT := gw 945 rfl rfl
set_option maxRecDepth 100000 in
theorem wK_X12_need : Cond.code yX12_need cX12_need (2 : Nat) (some FieldType.boolean) ∈ gT := gw 946 rfl rfl
set_option maxRecDepth 100000 in
theorem wM_X12_137 : Cond.methodLink RX12 137 yX12_index ∈ gT := gw 947 rfl rfl
set_option maxRecDepth 100000 in
theorem wN_X12_index : Cond.instanceMethod yX12_index ∈ gT := gw 949 rfl rfl
set_option maxRecDepth 100000 in
theorem wK_X12_index : Cond.code yX12_index cX12_index (3 : Nat) (some FieldType.boolean) ∈ gT := gw 950 rfl rfl
set_option maxRecDepth 100000 in
theorem wM_X12_140 : Cond.methodLink RX12 140 yX12_cell ∈ gT := gw 951 rfl rfl
set_option maxRecDepth 100000 in
theorem wN_X12_cell : Cond.instanceMethod yX12_cell ∈ gT := gw 953 rfl rfl
set_option maxRecDepth 100000 in
theorem wK_X12_cell : Cond.code yX12_cell cX12_cell (3 : Nat) (some FieldType.long) ∈ gT := gw 954 rfl rfl
set_option maxRecDepth 100000 in
theorem wM_X12_147 : Cond.methodLink RX12 147 yX12_as ∈ gT := gw 955 rfl rfl
set_option maxRecDepth 100000 in
theorem wS_X12_as : Cond.static yX12_as ∈ gT := gw 956 rfl rfl
set_option maxRecDepth 100000 in
theorem wK_X12_as : Cond.code yX12_as cX12_as (3 : Nat) (some FieldType.long) ∈ gT := gw 957 rfl rfl
set_option maxRecDepth 100000 in
theorem wQ_X12_95 : Cond.constantLong RX12 95 (65535 : Int64) ∈ gT := gw 958 rfl rfl
set_option maxRecDepth 100000 in
theorem wM_X12_97 : Cond.methodLink RX12 97 yX12_nearest ∈ gT := gw 959 rfl rfl
set_option maxRecDepth 100000 in
theorem wS_X12_nearest : Cond.static yX12_nearest ∈ gT := gw 960 rfl rfl
set_option maxRecDepth 100000 in
theorem wK_X12_nearest : Cond.code yX12_nearest cX12_nearest (12 : Nat) (some FieldType.long) ∈ gT := gw 961 rfl rfl
set_option maxRecDepth 100000 in
theorem wQ_X12_91 : Cond.constantLong RX12 91 (-9223372036854775808 : Int64) ∈ gT := gw 962 rfl rfl
set_option maxRecDepth 100000 in
theorem wQ_X12_93 : Cond.constantLong RX12 93 (9223372036854775807 : Int64) ∈ gT := gw 963 rfl rfl
set_option maxRecDepth 100000 in
theorem wM_X12_151 : Cond.methodLink RX12 151 yX12_put ∈ gT := gw 964 rfl rfl
set_option maxRecDepth 100000 in
theorem wN_X12_put : Cond.instanceMethod yX12_put ∈ gT := gw 966 rfl rfl
set_option maxRecDepth 100000 in
theorem wK_X12_put : Cond.code yX12_put cX12_put (5 : Nat) (none : Option FieldType) ∈ gT := gw 967 rfl rfl
set_option maxRecDepth 100000 in
theorem wM_X12_115 : Cond.methodLink RX12 115 yX12_boxes ∈ gT := gw 968 rfl rfl
set_option maxRecDepth 100000 in
theorem wN_X12_boxes : Cond.instanceMethod yX12_boxes ∈ gT := gw 970 rfl rfl
set_option maxRecDepth 100000 in
theorem wK_X12_boxes : Cond.code yX12_boxes cX12_boxes (7 : Nat) (some FieldType.long) ∈ gT := gw 971 rfl rfl
set_option maxRecDepth 100000 in
theorem wQ_X12_157 : Cond.constant RX12 157 (-2147483648 : Int32) ∈ gT := gw 972 rfl rfl
set_option maxRecDepth 100000 in
theorem wM_X12_118 : Cond.methodLink RX12 118 yX12_divides ∈ gT := gw 973 rfl rfl
set_option maxRecDepth 100000 in
theorem wN_X12_divides : Cond.instanceMethod yX12_divides ∈ gT := gw 975 rfl rfl
set_option maxRecDepth 100000 in
theorem wK_X12_divides : Cond.code yX12_divides cX12_divides (7 : Nat) (some FieldType.long) ∈ gT := gw 976 rfl rfl
set_option maxRecDepth 100000 in
theorem wM_X12_122 : Cond.methodLink RX12 122 yX12_others ∈ gT := gw 977 rfl rfl
set_option maxRecDepth 100000 in
theorem wN_X12_others : Cond.instanceMethod yX12_others ∈ gT := gw 979 rfl rfl
set_option maxRecDepth 100000 in
theorem wK_X12_others : Cond.code yX12_others cX12_others (5 : Nat) (some FieldType.long) ∈ gT := gw 980 rfl rfl
set_option maxRecDepth 100000 in
theorem wM_X12_158 : Cond.methodLink RX12 158 yX12_copied ∈ gT := gw 981 rfl rfl
set_option maxRecDepth 100000 in
theorem wN_X12_copied : Cond.instanceMethod yX12_copied ∈ gT := gw 983 rfl rfl
set_option maxRecDepth 100000 in
theorem wK_X12_copied : Cond.code yX12_copied cX12_copied (13 : Nat) (some FieldType.long) ∈ gT := gw 984 rfl rfl
set_option maxRecDepth 100000 in
theorem wM_L_52 : Cond.methodLink RL 52 yX12_load ∈ gT := gw 985 rfl rfl
set_option maxRecDepth 100000 in
theorem wN_X12_load : Cond.instanceMethod yX12_load ∈ gT := gw 986 rfl rfl
set_option maxRecDepth 100000 in
theorem wL_X12_X12_load : Cond.selects RX12 yX12_load yX12_load ∈ gT := gw 987 rfl rfl
set_option maxRecDepth 100000 in
theorem wK_X12_load : Cond.code yX12_load cX12_load (6 : Nat) (some FieldType.int) ∈ gT := gw 988 rfl rfl
set_option maxRecDepth 100000 in
theorem wM_L_56 : Cond.methodLink RL 56 yX12_run ∈ gT := gw 989 rfl rfl
set_option maxRecDepth 100000 in
theorem wN_X12_run : Cond.instanceMethod yX12_run ∈ gT := gw 990 rfl rfl
set_option maxRecDepth 100000 in
theorem wL_X12_X12_run : Cond.selects RX12 yX12_run yX12_run ∈ gT := gw 991 rfl rfl
set_option maxRecDepth 100000 in
theorem wK_X12_run : Cond.code yX12_run cX12_run (4 : Nat) (some FieldType.int) ∈ gT := gw 992 rfl rfl
set_option maxRecDepth 100000 in
theorem wM_X12_168 : Cond.methodLink RX12 168 yX12_block ∈ gT := gw 993 rfl rfl
set_option maxRecDepth 100000 in
theorem wN_X12_block : Cond.instanceMethod yX12_block ∈ gT := gw 995 rfl rfl
set_option maxRecDepth 100000 in
theorem wK_X12_block : Cond.code yX12_block cX12_block (10 : Nat) (some FieldType.int) ∈ gT := gw 996 rfl rfl
set_option maxRecDepth 100000 in
theorem wM_X12_171 : Cond.methodLink RX12 171 yX12_takes ∈ gT := gw 997 rfl rfl
set_option maxRecDepth 100000 in
theorem wS_X12_takes : Cond.static yX12_takes ∈ gT := gw 998 rfl rfl
set_option maxRecDepth 100000 in
theorem wK_X12_takes : Cond.code yX12_takes cX12_takes (2 : Nat) (some FieldType.boolean) ∈ gT := gw 999 rfl rfl
set_option maxRecDepth 100000 in
theorem wM_L_61 : Cond.methodLink RL 61 yX12_acc ∈ gT := gw 1000 rfl rfl
set_option maxRecDepth 100000 in
theorem wN_X12_acc : Cond.instanceMethod yX12_acc ∈ gT := gw 1001 rfl rfl
set_option maxRecDepth 100000 in
theorem wL_X12_X12_acc : Cond.selects RX12 yX12_acc yX12_acc ∈ gT := gw 1002 rfl rfl
set_option maxRecDepth 100000 in
theorem wK_X12_acc : Cond.code yX12_acc cX12_acc (1 : Nat) (some FieldType.long) ∈ gT := gw 1003 rfl rfl
set_option maxRecDepth 100000 in
theorem wM_L_66 : Cond.methodLink RL 66 yX12_count ∈ gT := gw 1004 rfl rfl
set_option maxRecDepth 100000 in
theorem wN_X12_count : Cond.instanceMethod yX12_count ∈ gT := gw 1005 rfl rfl
set_option maxRecDepth 100000 in
theorem wL_X12_X12_count : Cond.selects RX12 yX12_count yX12_count ∈ gT := gw 1006 rfl rfl
set_option maxRecDepth 100000 in
theorem wK_X12_count : Cond.code yX12_count cX12_count (2 : Nat) (some FieldType.int) ∈ gT := gw 1007 rfl rfl
set_option maxRecDepth 100000 in
theorem wZ_X3_weight : Cond.sameMethod RX3 RX3 "weight" "(I)I" ∈ gT := gw 1008 rfl rfl
theorem inG0 : ∀ w ∈ wsX00, w ∈ gT := by decide +kernel
theorem inG1 : ∀ w ∈ wsX10, w ∈ gT := by decide +kernel
theorem inG3 : ∀ w ∈ wsX30, w ∈ gT := by decide +kernel
theorem inG4 : ∀ w ∈ wsX40, w ∈ gT := by decide +kernel
theorem inG5 : ∀ w ∈ wsX50, w ∈ gT := by decide +kernel
theorem inG7 : ∀ w ∈ wsX70, w ∈ gT := by decide +kernel
theorem inG8 : ∀ w ∈ wsX80, w ∈ gT := by decide +kernel
theorem inG9 : ∀ w ∈ wsX90, w ∈ gT := by decide +kernel
theorem inG11 : ∀ w ∈ wsX110, w ∈ gT := by decide +kernel
theorem inG12 : ∀ w ∈ wsX120, w ∈ gT := by decide +kernel
