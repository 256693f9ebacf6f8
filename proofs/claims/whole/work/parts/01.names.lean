/-! ===== names: classes, fields, methods, words, decode rows (written by mk_names.py) ===== -/
def R_MT : String := "MomentTree"
def T_MT : u_T := fun k => match k with
  | 0 => ("MomentTree", "tape", "[B", true)
  | 1 => ("MomentTree", "tapeLength", "I", false)
  | 2 => ("MomentTree", "tree", "LMomentTree$Tree;", true)
  | _ => ("MomentTree", "current", "LMomentTree$Version;", false)
def ty_MT : Nat → FieldType := fun k => match k with
  | 0 => .array .byte
  | 1 => .int
  | 2 => .object "MomentTree$Tree"
  | _ => .object "MomentTree$Version"
theorem nm_MT : ∀ a, a < 4 → ∀ b, b < 4 → a ≠ b → (T_MT a).2.1 ≠ (T_MT b).2.1 := by decide +kernel
theorem ok_MT : ∀ k, k < 4 → parseFieldDescriptor (T_MT k).2.2.1 = some (ty_MT k) := by decide +kernel
def R_TR : String := "MomentTree$Tree"
def T_TR : u_T := fun k => match k with
  | 0 => ("MomentTree$Tree", "root", "LMomentTree$Version;", false)
  | _ => ("MomentTree$Tree", "versions", "I", false)
def ty_TR : Nat → FieldType := fun k => match k with
  | 0 => .object "MomentTree$Version"
  | _ => .int
theorem nm_TR : ∀ a, a < 2 → ∀ b, b < 2 → a ≠ b → (T_TR a).2.1 ≠ (T_TR b).2.1 := by decide +kernel
theorem ok_TR : ∀ k, k < 2 → parseFieldDescriptor (T_TR k).2.2.1 = some (ty_TR k) := by decide +kernel
def R_VE : String := "MomentTree$Version"
def T_VE : u_T := fun k => match k with
  | 0 => ("MomentTree$Version", "key", "[B", true)
  | 1 => ("MomentTree$Version", "moment", "I", true)
  | 2 => ("MomentTree$Version", "place", "I", false)
  | 3 => ("MomentTree$Version", "size", "I", false)
  | 4 => ("MomentTree$Version", "height", "I", false)
  | 5 => ("MomentTree$Version", "left", "LMomentTree$Version;", false)
  | _ => ("MomentTree$Version", "right", "LMomentTree$Version;", false)
def ty_VE : Nat → FieldType := fun k => match k with
  | 0 => .array .byte
  | 1 => .int
  | 2 => .int
  | 3 => .int
  | 4 => .int
  | 5 => .object "MomentTree$Version"
  | _ => .object "MomentTree$Version"
theorem nm_VE : ∀ a, a < 7 → ∀ b, b < 7 → a ≠ b → (T_VE a).2.1 ≠ (T_VE b).2.1 := by decide +kernel
theorem ok_VE : ∀ k, k < 7 → parseFieldDescriptor (T_VE k).2.2.1 = some (ty_VE k) := by decide +kernel
def R_MO : String := "MomentTreeModel"
def T_MO : u_T := fun k => match k with
  | 0 => ("MomentTreeModel", "failed", "I", false)
  | 1 => ("MomentTreeModel", "tape", "[B", true)
  | 2 => ("MomentTreeModel", "taped", "I", false)
  | 3 => ("MomentTreeModel", "keys", "[B", true)
  | 4 => ("MomentTreeModel", "lengths", "[I", true)
  | 5 => ("MomentTreeModel", "moments", "[I", true)
  | 6 => ("MomentTreeModel", "places", "[I", true)
  | 7 => ("MomentTreeModel", "sizes", "[I", true)
  | 8 => ("MomentTreeModel", "size", "I", false)
  | _ => ("MomentTreeModel", "at", "I", false)
def ty_MO : Nat → FieldType := fun k => match k with
  | 0 => .int
  | 1 => .array .byte
  | 2 => .int
  | 3 => .array .byte
  | 4 => .array .int
  | 5 => .array .int
  | 6 => .array .int
  | 7 => .array .int
  | 8 => .int
  | _ => .int
theorem nm_MO : ∀ a, a < 10 → ∀ b, b < 10 → a ≠ b → (T_MO a).2.1 ≠ (T_MO b).2.1 := by decide +kernel
theorem ok_MO : ∀ k, k < 10 → parseFieldDescriptor (T_MO k).2.2.1 = some (ty_MO k) := by decide +kernel
abbrev cls_L : List vw_C := [(R_MT, T_MT, 4), (R_TR, T_TR, 2), (R_VE, T_VE, 7), (R_MO, T_MO, 10)]
def R_LA : String := "MomentTreeLaw"
abbrev b_MT_init : ByteArray := prog_1_method_1_code
abbrev y_MT_init : MethodName := ⟨"MomentTree", "<init>", "()V"⟩
abbrev b_TR_init : ByteArray := prog_2_method_1_code
abbrev y_TR_init : MethodName := ⟨"MomentTree$Tree", "<init>", "()V"⟩
abbrev b_MT_clear : ByteArray := prog_1_method_11_code
abbrev y_MT_clear : MethodName := ⟨"MomentTree", "clear", "()I"⟩
abbrev b_TR_empty : ByteArray := prog_2_method_4_code
abbrev y_TR_empty : MethodName := ⟨"MomentTree$Tree", "empty", "()V"⟩
abbrev b_MT_count : ByteArray := prog_1_method_12_code
abbrev y_MT_count : MethodName := ⟨"MomentTree", "count", "()I"⟩
abbrev b_TR_countIfSound : ByteArray := prog_2_method_5_code
abbrev y_TR_countIfSound : MethodName := ⟨"MomentTree$Tree", "countIfSound", "()I"⟩
abbrev b_TR_countSound : ByteArray := prog_2_method_13_code
abbrev y_TR_countSound : MethodName := ⟨"MomentTree$Tree", "countSound", "(LMomentTree$Version;LMomentTree$Version;LMomentTree$Version;I)I"⟩
abbrev b_TR_isBalanced : ByteArray := prog_2_method_14_code
abbrev y_TR_isBalanced : MethodName := ⟨"MomentTree$Tree", "isBalanced", "(LMomentTree$Version;)Z"⟩
abbrev b_TR_leaning : ByteArray := prog_2_method_12_code
abbrev y_TR_leaning : MethodName := ⟨"MomentTree$Tree", "leaning", "(LMomentTree$Version;)I"⟩
abbrev b_TR_heightOf : ByteArray := prog_2_method_10_code
abbrev y_TR_heightOf : MethodName := ⟨"MomentTree$Tree", "heightOf", "(LMomentTree$Version;)I"⟩
abbrev b_TR_heightFromSides : ByteArray := prog_2_method_11_code
abbrev y_TR_heightFromSides : MethodName := ⟨"MomentTree$Tree", "heightFromSides", "(LMomentTree$Version;)I"⟩
abbrev b_TR_isBetween : ByteArray := prog_2_method_15_code
abbrev y_TR_isBetween : MethodName := ⟨"MomentTree$Tree", "isBetween", "(LMomentTree$Version;LMomentTree$Version;LMomentTree$Version;)Z"⟩
abbrev b_VE_orderOf : ByteArray := prog_3_method_2_code
abbrev y_VE_orderOf : MethodName := ⟨"MomentTree$Version", "orderOf", "([BI)I"⟩
abbrev b_VE_orderOfKeys : ByteArray := prog_3_method_3_code
abbrev y_VE_orderOfKeys : MethodName := ⟨"MomentTree$Version", "orderOfKeys", "([B[B)I"⟩
abbrev b_JI_compare : ByteArray := prog_11_method_40_code
abbrev y_JI_compare : MethodName := ⟨"java/lang/Integer", "compare", "(II)I"⟩
abbrev b_LA_feed : ByteArray := method_3_code
abbrev y_LA_feed : MethodName := ⟨"MomentTreeLaw", "feed", "(LMomentTree;IIIII[J)I"⟩
abbrev b_MT_feed : ByteArray := prog_1_method_2_code
abbrev y_MT_feed : MethodName := ⟨"MomentTree", "feed", "(IIIII)I"⟩
abbrev b_MT_append : ByteArray := prog_1_method_13_code
abbrev y_MT_append : MethodName := ⟨"MomentTree", "append", "(I)V"⟩
abbrev b_LA_end : ByteArray := method_4_code
abbrev y_LA_end : MethodName := ⟨"MomentTreeLaw", "end", "(LMomentTree;I[J)I"⟩
abbrev b_MT_end : ByteArray := prog_1_method_3_code
abbrev y_MT_end : MethodName := ⟨"MomentTree", "end", "(I)I"⟩
abbrev b_LA_put : ByteArray := method_5_code
abbrev y_LA_put : MethodName := ⟨"MomentTreeLaw", "put", "(LMomentTree;III[J)I"⟩
abbrev b_MT_put : ByteArray := prog_1_method_4_code
abbrev y_MT_put : MethodName := ⟨"MomentTree", "put", "(III)I"⟩
abbrev b_MT_tapeIsKey : ByteArray := prog_1_method_14_code
abbrev y_MT_tapeIsKey : MethodName := ⟨"MomentTree", "tapeIsKey", "()Z"⟩
abbrev b_MT_takeTape : ByteArray := prog_1_method_15_code
abbrev y_MT_takeTape : MethodName := ⟨"MomentTree", "takeTape", "()[B"⟩
abbrev b_JA_copyOf : ByteArray := prog_16_method_121_code
abbrev y_JA_copyOf : MethodName := ⟨"java/util/Arrays", "copyOf", "([BI)[B"⟩
abbrev b_TR_firstFrom : ByteArray := prog_2_method_2_code
abbrev y_TR_firstFrom : MethodName := ⟨"MomentTree$Tree", "firstFrom", "([BIZ)LMomentTree$Version;"⟩
abbrev b_VE_init : ByteArray := prog_3_method_1_code
abbrev y_VE_init : MethodName := ⟨"MomentTree$Version", "<init>", "([BIII)V"⟩
abbrev b_TR_add : ByteArray := prog_2_method_3_code
abbrev y_TR_add : MethodName := ⟨"MomentTree$Tree", "add", "(LMomentTree$Version;)V"⟩
abbrev b_TR_withAdded : ByteArray := prog_2_method_6_code
abbrev y_TR_withAdded : MethodName := ⟨"MomentTree$Tree", "withAdded", "(LMomentTree$Version;LMomentTree$Version;I)LMomentTree$Version;"⟩
abbrev b_TR_balanced : ByteArray := prog_2_method_7_code
abbrev y_TR_balanced : MethodName := ⟨"MomentTree$Tree", "balanced", "(LMomentTree$Version;)LMomentTree$Version;"⟩
abbrev b_TR_turnedLeft : ByteArray := prog_2_method_9_code
abbrev y_TR_turnedLeft : MethodName := ⟨"MomentTree$Tree", "turnedLeft", "(LMomentTree$Version;)LMomentTree$Version;"⟩
abbrev b_TR_turnedRight : ByteArray := prog_2_method_8_code
abbrev y_TR_turnedRight : MethodName := ⟨"MomentTree$Tree", "turnedRight", "(LMomentTree$Version;)LMomentTree$Version;"⟩
abbrev b_LA_find : ByteArray := method_6_code
abbrev y_LA_find : MethodName := ⟨"MomentTreeLaw", "find", "(LMomentTree;I[J)I"⟩
abbrev b_MT_find : ByteArray := prog_1_method_5_code
abbrev y_MT_find : MethodName := ⟨"MomentTree", "find", "(I)I"⟩
abbrev b_MT_goTo : ByteArray := prog_1_method_16_code
abbrev y_MT_goTo : MethodName := ⟨"MomentTree", "goTo", "(LMomentTree$Version;)I"⟩
abbrev b_LA_seek : ByteArray := method_7_code
abbrev y_LA_seek : MethodName := ⟨"MomentTreeLaw", "seek", "(LMomentTree;IZ[J)I"⟩
abbrev b_MT_seek : ByteArray := prog_1_method_6_code
abbrev y_MT_seek : MethodName := ⟨"MomentTree", "seek", "(IZ)I"⟩
abbrev b_LA_next : ByteArray := method_8_code
abbrev y_LA_next : MethodName := ⟨"MomentTreeLaw", "next", "(LMomentTree;[J)I"⟩
abbrev b_MT_next : ByteArray := prog_1_method_7_code
abbrev y_MT_next : MethodName := ⟨"MomentTree", "next", "()I"⟩
abbrev b_LA_first : ByteArray := method_9_code
abbrev y_LA_first : MethodName := ⟨"MomentTreeLaw", "first", "(LMomentTree;[J)I"⟩
abbrev b_MT_first : ByteArray := prog_1_method_8_code
abbrev y_MT_first : MethodName := ⟨"MomentTree", "first", "()I"⟩
abbrev b_LA_current : ByteArray := method_10_code
abbrev y_LA_current : MethodName := ⟨"MomentTreeLaw", "current", "(LMomentTree;I[J)I"⟩
abbrev b_MT_current : ByteArray := prog_1_method_9_code
abbrev y_MT_current : MethodName := ⟨"MomentTree", "current", "(I)I"⟩
abbrev b_LA_word : ByteArray := method_11_code
abbrev y_LA_word : MethodName := ⟨"MomentTreeLaw", "word", "(LMomentTree;I[J)I"⟩
abbrev b_MT_word : ByteArray := prog_1_method_10_code
abbrev y_MT_word : MethodName := ⟨"MomentTree", "word", "(I)J"⟩
abbrev b_MO_init : ByteArray := prog_5_method_1_code
abbrev y_MO_init : MethodName := ⟨"MomentTreeModel", "<init>", "()V"⟩
abbrev b_MO_thrown : ByteArray := prog_5_method_2_code
abbrev y_MO_thrown : MethodName := ⟨"MomentTreeModel", "thrown", "()I"⟩
abbrev b_MO_feed : ByteArray := prog_5_method_4_code
abbrev y_MO_feed : MethodName := ⟨"MomentTreeModel", "feed", "(IIIII)I"⟩
abbrev b_MO_fail : ByteArray := prog_5_method_3_code
abbrev y_MO_fail : MethodName := ⟨"MomentTreeModel", "fail", "(I)I"⟩
abbrev b_MO_end : ByteArray := prog_5_method_5_code
abbrev y_MO_end : MethodName := ⟨"MomentTreeModel", "end", "(I)I"⟩
abbrev b_MO_put : ByteArray := prog_5_method_9_code
abbrev y_MO_put : MethodName := ⟨"MomentTreeModel", "put", "(III)I"⟩
abbrev b_MO_before : ByteArray := prog_5_method_7_code
abbrev y_MO_before : MethodName := ⟨"MomentTreeModel", "before", "(II)I"⟩
abbrev b_MO_compare : ByteArray := prog_5_method_6_code
abbrev y_MO_compare : MethodName := ⟨"MomentTreeModel", "compare", "(III)I"⟩
abbrev b_MO_moveUp : ByteArray := prog_5_method_8_code
abbrev y_MO_moveUp : MethodName := ⟨"MomentTreeModel", "moveUp", "(I)V"⟩
abbrev b_MO_find : ByteArray := prog_5_method_11_code
abbrev y_MO_find : MethodName := ⟨"MomentTreeModel", "find", "(I)I"⟩
abbrev b_MO_go : ByteArray := prog_5_method_10_code
abbrev y_MO_go : MethodName := ⟨"MomentTreeModel", "go", "(IZI)I"⟩
abbrev b_MO_seek : ByteArray := prog_5_method_12_code
abbrev y_MO_seek : MethodName := ⟨"MomentTreeModel", "seek", "(IZ)I"⟩
abbrev b_MO_next : ByteArray := prog_5_method_13_code
abbrev y_MO_next : MethodName := ⟨"MomentTreeModel", "next", "()I"⟩
abbrev b_MO_first : ByteArray := prog_5_method_14_code
abbrev y_MO_first : MethodName := ⟨"MomentTreeModel", "first", "()I"⟩
abbrev b_MO_current : ByteArray := prog_5_method_15_code
abbrev y_MO_current : MethodName := ⟨"MomentTreeModel", "current", "(I)I"⟩
abbrev b_MO_word : ByteArray := prog_5_method_16_code
abbrev y_MO_word : MethodName := ⟨"MomentTreeModel", "word", "(I)J"⟩
abbrev b_MO_clear : ByteArray := prog_5_method_17_code
abbrev y_MO_clear : MethodName := ⟨"MomentTreeModel", "clear", "()I"⟩
abbrev b_MO_count : ByteArray := prog_5_method_18_code
abbrev y_MO_count : MethodName := ⟨"MomentTreeModel", "count", "()I"⟩
abbrev b_LA_law : ByteArray := code
abbrev y_LA_law : MethodName := ⟨"MomentTreeLaw", "law", "([I)Z"⟩
def tb_ws : List Cond := lw_tbl.filter goodWord
theorem tb_in {w : Cond} {i : Nat} (h : lw_tbl[i]? = some w) (hg : goodWord w = true) : w ∈ tb_ws := List.mem_filter.mpr ⟨List.mem_of_getElem? h, hg⟩
theorem wse_MT_append : Cond.selects "MomentTree" y_MT_append y_MT_append ∈ tb_ws := tb_in (i := 1) (by decide +kernel) (by decide +kernel)
theorem wse_MT_tapeIsKey : Cond.selects "MomentTree" y_MT_tapeIsKey y_MT_tapeIsKey ∈ tb_ws := tb_in (i := 2) (by decide +kernel) (by decide +kernel)
theorem wse_MT_takeTape : Cond.selects "MomentTree" y_MT_takeTape y_MT_takeTape ∈ tb_ws := tb_in (i := 3) (by decide +kernel) (by decide +kernel)
theorem wse_MT_goTo : Cond.selects "MomentTree" y_MT_goTo y_MT_goTo ∈ tb_ws := tb_in (i := 4) (by decide +kernel) (by decide +kernel)
theorem wse_MO_fail : Cond.selects "MomentTreeModel" y_MO_fail y_MO_fail ∈ tb_ws := tb_in (i := 5) (by decide +kernel) (by decide +kernel)
theorem wse_MO_before : Cond.selects "MomentTreeModel" y_MO_before y_MO_before ∈ tb_ws := tb_in (i := 6) (by decide +kernel) (by decide +kernel)
theorem wse_MO_compare : Cond.selects "MomentTreeModel" y_MO_compare y_MO_compare ∈ tb_ws := tb_in (i := 7) (by decide +kernel) (by decide +kernel)
theorem wse_MO_moveUp : Cond.selects "MomentTreeModel" y_MO_moveUp y_MO_moveUp ∈ tb_ws := tb_in (i := 8) (by decide +kernel) (by decide +kernel)
theorem wse_MO_go : Cond.selects "MomentTreeModel" y_MO_go y_MO_go ∈ tb_ws := tb_in (i := 9) (by decide +kernel) (by decide +kernel)
theorem wi_LA : Cond.initialized "MomentTreeLaw" ∈ tb_ws := tb_in (i := 10) (by decide +kernel) (by decide +kernel)
theorem wi_MT : Cond.initialized "MomentTree" ∈ tb_ws := tb_in (i := 11) (by decide +kernel) (by decide +kernel)
theorem wi_TR : Cond.initialized "MomentTree$Tree" ∈ tb_ws := tb_in (i := 12) (by decide +kernel) (by decide +kernel)
theorem wi_MO : Cond.initialized "MomentTreeModel" ∈ tb_ws := tb_in (i := 13) (by decide +kernel) (by decide +kernel)
theorem wi_JT : Cond.initialized "java/lang/Throwable" ∈ tb_ws := tb_in (i := 14) (by decide +kernel) (by decide +kernel)
theorem wi_JE : Cond.initialized "java/lang/Exception" ∈ tb_ws := tb_in (i := 15) (by decide +kernel) (by decide +kernel)
theorem wi_JR : Cond.initialized "java/lang/RuntimeException" ∈ tb_ws := tb_in (i := 16) (by decide +kernel) (by decide +kernel)
theorem wi_IO : Cond.initialized "java/lang/IndexOutOfBoundsException" ∈ tb_ws := tb_in (i := 17) (by decide +kernel) (by decide +kernel)
theorem wi_IA : Cond.initialized "java/lang/IllegalArgumentException" ∈ tb_ws := tb_in (i := 18) (by decide +kernel) (by decide +kernel)
theorem wi_JA : Cond.initialized "java/util/Arrays" ∈ tb_ws := tb_in (i := 19) (by decide +kernel) (by decide +kernel)
theorem wi_JM : Cond.initialized "java/lang/Math" ∈ tb_ws := tb_in (i := 20) (by decide +kernel) (by decide +kernel)
theorem wi_JS : Cond.initialized "java/lang/System" ∈ tb_ws := tb_in (i := 21) (by decide +kernel) (by decide +kernel)
theorem wi_VE : Cond.initialized "MomentTree$Version" ∈ tb_ws := tb_in (i := 22) (by decide +kernel) (by decide +kernel)
theorem wi_JI : Cond.initialized "java/lang/Integer" ∈ tb_ws := tb_in (i := 23) (by decide +kernel) (by decide +kernel)
theorem wi_IS : Cond.initialized "java/lang/IllegalStateException" ∈ tb_ws := tb_in (i := 24) (by decide +kernel) (by decide +kernel)
theorem wi_NS : Cond.initialized "java/util/NoSuchElementException" ∈ tb_ws := tb_in (i := 25) (by decide +kernel) (by decide +kernel)
theorem wc_LA_8 : Cond.classLink "MomentTreeLaw" 8 "MomentTree" ∈ tb_ws := tb_in (i := 26) (by decide +kernel) (by decide +kernel)
theorem win_MT : Cond.instantiable "MomentTree" 4 ∈ tb_ws := tb_in (i := 27) (by decide +kernel) (by decide +kernel)
theorem wl_LA_50 : Cond.methodLink "MomentTreeLaw" 50 y_MT_init ∈ tb_ws := tb_in (i := 28) (by decide +kernel) (by decide +kernel)
theorem wim_MT_init : Cond.instanceMethod y_MT_init ∈ tb_ws := tb_in (i := 29) (by decide +kernel) (by decide +kernel)
theorem wco_MT_init : Cond.code y_MT_init b_MT_init 1 none ∈ tb_ws := tb_in (i := 30) (by decide +kernel) (by decide +kernel)
theorem wl_MT_1 : Cond.methodLink "MomentTree" 1 Lib.objectInit ∈ tb_ws := tb_in (i := 31) (by decide +kernel) (by decide +kernel)
theorem wim_JO_init : Cond.instanceMethod Lib.objectInit ∈ tb_ws := tb_in (i := 32) (by decide +kernel) (by decide +kernel)
theorem wco_JO_init : Cond.code Lib.objectInit ⟨#[0xb1]⟩ 1 none ∈ tb_ws := tb_in (i := 33) (by decide +kernel) (by decide +kernel)
theorem wc_MT_17 : Cond.classLink "MomentTree" 17 "MomentTree$Tree" ∈ tb_ws := tb_in (i := 34) (by decide +kernel) (by decide +kernel)
theorem win_TR : Cond.instantiable "MomentTree$Tree" 2 ∈ tb_ws := tb_in (i := 35) (by decide +kernel) (by decide +kernel)
theorem wl_MT_19 : Cond.methodLink "MomentTree" 19 y_TR_init ∈ tb_ws := tb_in (i := 36) (by decide +kernel) (by decide +kernel)
theorem wim_TR_init : Cond.instanceMethod y_TR_init ∈ tb_ws := tb_in (i := 37) (by decide +kernel) (by decide +kernel)
theorem wco_TR_init : Cond.code y_TR_init b_TR_init 1 none ∈ tb_ws := tb_in (i := 38) (by decide +kernel) (by decide +kernel)
theorem wl_TR_1 : Cond.methodLink "MomentTree$Tree" 1 Lib.objectInit ∈ tb_ws := tb_in (i := 39) (by decide +kernel) (by decide +kernel)
theorem wf_TR_7 : Cond.fieldLink "MomentTree$Tree" 7 "MomentTree$Tree" "root" "LMomentTree$Version;" ∈ tb_ws := tb_in (i := 40) (by decide +kernel) (by decide +kernel)
theorem wf_TR_13 : Cond.fieldLink "MomentTree$Tree" 13 "MomentTree$Tree" "versions" "I" ∈ tb_ws := tb_in (i := 41) (by decide +kernel) (by decide +kernel)
theorem wf_MT_62 : Cond.fieldLink "MomentTree" 62 "MomentTree$Tree" "versions" "I" ∈ tb_ws := tb_in (i := 42) (by decide +kernel) (by decide +kernel)
theorem wa_byte : Cond.arrayClass .byte ∈ tb_ws := tb_in (i := 48) (by decide +kernel) (by decide +kernel)
theorem wf_MT_9 : Cond.fieldLink "MomentTree" 9 "MomentTree" "tape" "[B" ∈ tb_ws := tb_in (i := 49) (by decide +kernel) (by decide +kernel)
theorem wf_MT_13 : Cond.fieldLink "MomentTree" 13 "MomentTree" "tapeLength" "I" ∈ tb_ws := tb_in (i := 50) (by decide +kernel) (by decide +kernel)
theorem wf_MT_20 : Cond.fieldLink "MomentTree" 20 "MomentTree" "tree" "LMomentTree$Tree;" ∈ tb_ws := tb_in (i := 51) (by decide +kernel) (by decide +kernel)
theorem wf_MT_24 : Cond.fieldLink "MomentTree" 24 "MomentTree" "current" "LMomentTree$Version;" ∈ tb_ws := tb_in (i := 52) (by decide +kernel) (by decide +kernel)
theorem wl_LA_91 : Cond.methodLink "MomentTreeLaw" 91 y_MT_clear ∈ tb_ws := tb_in (i := 62) (by decide +kernel) (by decide +kernel)
theorem wim_MT_clear : Cond.instanceMethod y_MT_clear ∈ tb_ws := tb_in (i := 63) (by decide +kernel) (by decide +kernel)
theorem wse_MT_clear : Cond.selects "MomentTree" y_MT_clear y_MT_clear ∈ tb_ws := tb_in (i := 64) (by decide +kernel) (by decide +kernel)
theorem wco_MT_clear : Cond.code y_MT_clear b_MT_clear 2 (some .int) ∈ tb_ws := tb_in (i := 65) (by decide +kernel) (by decide +kernel)
theorem wl_MT_95 : Cond.methodLink "MomentTree" 95 y_TR_empty ∈ tb_ws := tb_in (i := 66) (by decide +kernel) (by decide +kernel)
theorem wim_TR_empty : Cond.instanceMethod y_TR_empty ∈ tb_ws := tb_in (i := 67) (by decide +kernel) (by decide +kernel)
theorem wse_TR_empty : Cond.selects "MomentTree$Tree" y_TR_empty y_TR_empty ∈ tb_ws := tb_in (i := 68) (by decide +kernel) (by decide +kernel)
theorem wco_TR_empty : Cond.code y_TR_empty b_TR_empty 1 none ∈ tb_ws := tb_in (i := 69) (by decide +kernel) (by decide +kernel)
theorem wl_LA_95 : Cond.methodLink "MomentTreeLaw" 95 y_MT_count ∈ tb_ws := tb_in (i := 70) (by decide +kernel) (by decide +kernel)
theorem wim_MT_count : Cond.instanceMethod y_MT_count ∈ tb_ws := tb_in (i := 71) (by decide +kernel) (by decide +kernel)
theorem wse_MT_count : Cond.selects "MomentTree" y_MT_count y_MT_count ∈ tb_ws := tb_in (i := 72) (by decide +kernel) (by decide +kernel)
theorem wco_MT_count : Cond.code y_MT_count b_MT_count 1 (some .int) ∈ tb_ws := tb_in (i := 73) (by decide +kernel) (by decide +kernel)
theorem wl_MT_98 : Cond.methodLink "MomentTree" 98 y_TR_countIfSound ∈ tb_ws := tb_in (i := 74) (by decide +kernel) (by decide +kernel)
theorem wim_TR_countIfSound : Cond.instanceMethod y_TR_countIfSound ∈ tb_ws := tb_in (i := 75) (by decide +kernel) (by decide +kernel)
theorem wse_TR_countIfSound : Cond.selects "MomentTree$Tree" y_TR_countIfSound y_TR_countIfSound ∈ tb_ws := tb_in (i := 76) (by decide +kernel) (by decide +kernel)
theorem wco_TR_countIfSound : Cond.code y_TR_countIfSound b_TR_countIfSound 1 (some .int) ∈ tb_ws := tb_in (i := 77) (by decide +kernel) (by decide +kernel)
theorem wl_TR_33 : Cond.methodLink "MomentTree$Tree" 33 y_TR_countSound ∈ tb_ws := tb_in (i := 78) (by decide +kernel) (by decide +kernel)
theorem wst_TR_countSound : Cond.static y_TR_countSound ∈ tb_ws := tb_in (i := 79) (by decide +kernel) (by decide +kernel)
theorem wco_TR_countSound : Cond.code y_TR_countSound b_TR_countSound 6 (some .int) ∈ tb_ws := tb_in (i := 80) (by decide +kernel) (by decide +kernel)
theorem wl_TR_73 : Cond.methodLink "MomentTree$Tree" 73 y_TR_isBalanced ∈ tb_ws := tb_in (i := 81) (by decide +kernel) (by decide +kernel)
theorem wst_TR_isBalanced : Cond.static y_TR_isBalanced ∈ tb_ws := tb_in (i := 82) (by decide +kernel) (by decide +kernel)
theorem wco_TR_isBalanced : Cond.code y_TR_isBalanced b_TR_isBalanced 2 (some .boolean) ∈ tb_ws := tb_in (i := 83) (by decide +kernel) (by decide +kernel)
theorem wl_TR_55 : Cond.methodLink "MomentTree$Tree" 55 y_TR_leaning ∈ tb_ws := tb_in (i := 84) (by decide +kernel) (by decide +kernel)
theorem wst_TR_leaning : Cond.static y_TR_leaning ∈ tb_ws := tb_in (i := 85) (by decide +kernel) (by decide +kernel)
theorem wco_TR_leaning : Cond.code y_TR_leaning b_TR_leaning 1 (some .int) ∈ tb_ws := tb_in (i := 86) (by decide +kernel) (by decide +kernel)
theorem wl_TR_64 : Cond.methodLink "MomentTree$Tree" 64 y_TR_heightOf ∈ tb_ws := tb_in (i := 87) (by decide +kernel) (by decide +kernel)
theorem wst_TR_heightOf : Cond.static y_TR_heightOf ∈ tb_ws := tb_in (i := 88) (by decide +kernel) (by decide +kernel)
theorem wco_TR_heightOf : Cond.code y_TR_heightOf b_TR_heightOf 1 (some .int) ∈ tb_ws := tb_in (i := 89) (by decide +kernel) (by decide +kernel)
theorem wl_TR_48 : Cond.methodLink "MomentTree$Tree" 48 y_TR_heightFromSides ∈ tb_ws := tb_in (i := 90) (by decide +kernel) (by decide +kernel)
theorem wst_TR_heightFromSides : Cond.static y_TR_heightFromSides ∈ tb_ws := tb_in (i := 91) (by decide +kernel) (by decide +kernel)
theorem wco_TR_heightFromSides : Cond.code y_TR_heightFromSides b_TR_heightFromSides 1 (some .int) ∈ tb_ws := tb_in (i := 92) (by decide +kernel) (by decide +kernel)
theorem wl_TR_67 : Cond.methodLink "MomentTree$Tree" 67 Lib.Math.max.name ∈ tb_ws := tb_in (i := 93) (by decide +kernel) (by decide +kernel)
theorem wst_JM_max : Cond.static Lib.Math.max.name ∈ tb_ws := tb_in (i := 94) (by decide +kernel) (by decide +kernel)
theorem wco_JM_max : Cond.code Lib.Math.max.name Lib.Math.max.code 2 (some .int) ∈ tb_ws := tb_in (i := 95) (by decide +kernel) (by decide +kernel)
theorem wl_TR_77 : Cond.methodLink "MomentTree$Tree" 77 y_TR_isBetween ∈ tb_ws := tb_in (i := 96) (by decide +kernel) (by decide +kernel)
theorem wst_TR_isBetween : Cond.static y_TR_isBetween ∈ tb_ws := tb_in (i := 97) (by decide +kernel) (by decide +kernel)
theorem wco_TR_isBetween : Cond.code y_TR_isBetween b_TR_isBetween 3 (some .boolean) ∈ tb_ws := tb_in (i := 98) (by decide +kernel) (by decide +kernel)
theorem wl_TR_17 : Cond.methodLink "MomentTree$Tree" 17 y_VE_orderOf ∈ tb_ws := tb_in (i := 99) (by decide +kernel) (by decide +kernel)
theorem wim_VE_orderOf : Cond.instanceMethod y_VE_orderOf ∈ tb_ws := tb_in (i := 100) (by decide +kernel) (by decide +kernel)
theorem wse_VE_orderOf : Cond.selects "MomentTree$Version" y_VE_orderOf y_VE_orderOf ∈ tb_ws := tb_in (i := 101) (by decide +kernel) (by decide +kernel)
theorem wco_VE_orderOf : Cond.code y_VE_orderOf b_VE_orderOf 4 (some .int) ∈ tb_ws := tb_in (i := 102) (by decide +kernel) (by decide +kernel)
theorem wl_VE_33 : Cond.methodLink "MomentTree$Version" 33 y_VE_orderOfKeys ∈ tb_ws := tb_in (i := 103) (by decide +kernel) (by decide +kernel)
theorem wst_VE_orderOfKeys : Cond.static y_VE_orderOfKeys ∈ tb_ws := tb_in (i := 104) (by decide +kernel) (by decide +kernel)
theorem wco_VE_orderOfKeys : Cond.code y_VE_orderOfKeys b_VE_orderOfKeys 5 (some .int) ∈ tb_ws := tb_in (i := 105) (by decide +kernel) (by decide +kernel)
theorem wl_VE_43 : Cond.methodLink "MomentTree$Version" 43 Lib.Math.min.name ∈ tb_ws := tb_in (i := 106) (by decide +kernel) (by decide +kernel)
theorem wst_JM_min : Cond.static Lib.Math.min.name ∈ tb_ws := tb_in (i := 107) (by decide +kernel) (by decide +kernel)
theorem wco_JM_min : Cond.code Lib.Math.min.name Lib.Math.min.code 2 (some .int) ∈ tb_ws := tb_in (i := 108) (by decide +kernel) (by decide +kernel)
theorem wl_VE_37 : Cond.methodLink "MomentTree$Version" 37 y_JI_compare ∈ tb_ws := tb_in (i := 109) (by decide +kernel) (by decide +kernel)
theorem wst_JI_compare : Cond.static y_JI_compare ∈ tb_ws := tb_in (i := 110) (by decide +kernel) (by decide +kernel)
theorem wco_JI_compare : Cond.code y_JI_compare b_JI_compare 2 (some .int) ∈ tb_ws := tb_in (i := 111) (by decide +kernel) (by decide +kernel)
theorem wl_LA_54 : Cond.methodLink "MomentTreeLaw" 54 y_LA_feed ∈ tb_ws := tb_in (i := 112) (by decide +kernel) (by decide +kernel)
theorem wst_LA_feed : Cond.static y_LA_feed ∈ tb_ws := tb_in (i := 113) (by decide +kernel) (by decide +kernel)
theorem wcw_LA_feed : Cond.codeWith y_LA_feed b_LA_feed 8 (some .int) [(0, 16, 19, 13)] ∈ tb_ws := tb_in (i := 114) (by decide +kernel) (by decide +kernel)
theorem wc_LA_13 : Cond.classLink "MomentTreeLaw" 13 "java/lang/IndexOutOfBoundsException" ∈ tb_ws := tb_in (i := 115) (by decide +kernel) (by decide +kernel)
theorem wl_LA_7 : Cond.methodLink "MomentTreeLaw" 7 y_MT_feed ∈ tb_ws := tb_in (i := 116) (by decide +kernel) (by decide +kernel)
theorem wim_MT_feed : Cond.instanceMethod y_MT_feed ∈ tb_ws := tb_in (i := 117) (by decide +kernel) (by decide +kernel)
theorem wse_MT_feed : Cond.selects "MomentTree" y_MT_feed y_MT_feed ∈ tb_ws := tb_in (i := 118) (by decide +kernel) (by decide +kernel)
theorem wco_MT_feed : Cond.code y_MT_feed b_MT_feed 6 (some .int) ∈ tb_ws := tb_in (i := 119) (by decide +kernel) (by decide +kernel)
theorem wc_MT_28 : Cond.classLink "MomentTree" 28 "java/lang/IndexOutOfBoundsException" ∈ tb_ws := tb_in (i := 120) (by decide +kernel) (by decide +kernel)
theorem win_IO : Cond.instantiable "java/lang/IndexOutOfBoundsException" 6 ∈ tb_ws := tb_in (i := 121) (by decide +kernel) (by decide +kernel)
theorem win_JT : Cond.instantiable "java/lang/Throwable" 6 ∈ tb_ws := tb_in (i := 160) (by decide +kernel) (by decide +kernel)
theorem wl_MT_30 : Cond.methodLink "MomentTree" 30 ⟨"java/lang/IndexOutOfBoundsException", "<init>", "()V"⟩ ∈ tb_ws := tb_in (i := 162) (by decide +kernel) (by decide +kernel)
theorem wl_MT_31 : Cond.methodLink "MomentTree" 31 y_MT_append ∈ tb_ws := tb_in (i := 184) (by decide +kernel) (by decide +kernel)
theorem wim_MT_append : Cond.instanceMethod y_MT_append ∈ tb_ws := tb_in (i := 186) (by decide +kernel) (by decide +kernel)
theorem wco_MT_append : Cond.code y_MT_append b_MT_append 3 none ∈ tb_ws := tb_in (i := 187) (by decide +kernel) (by decide +kernel)
theorem wl_LA_63 : Cond.methodLink "MomentTreeLaw" 63 y_LA_end ∈ tb_ws := tb_in (i := 188) (by decide +kernel) (by decide +kernel)
theorem wst_LA_end : Cond.static y_LA_end ∈ tb_ws := tb_in (i := 189) (by decide +kernel) (by decide +kernel)
theorem wcw_LA_end : Cond.codeWith y_LA_end b_LA_end 4 (some .int) [(0, 9, 12, 19)] ∈ tb_ws := tb_in (i := 190) (by decide +kernel) (by decide +kernel)
theorem wc_LA_19 : Cond.classLink "MomentTreeLaw" 19 "java/lang/IllegalArgumentException" ∈ tb_ws := tb_in (i := 191) (by decide +kernel) (by decide +kernel)
theorem wl_LA_15 : Cond.methodLink "MomentTreeLaw" 15 y_MT_end ∈ tb_ws := tb_in (i := 192) (by decide +kernel) (by decide +kernel)
theorem wim_MT_end : Cond.instanceMethod y_MT_end ∈ tb_ws := tb_in (i := 193) (by decide +kernel) (by decide +kernel)
theorem wse_MT_end : Cond.selects "MomentTree" y_MT_end y_MT_end ∈ tb_ws := tb_in (i := 194) (by decide +kernel) (by decide +kernel)
theorem wco_MT_end : Cond.code y_MT_end b_MT_end 2 (some .int) ∈ tb_ws := tb_in (i := 195) (by decide +kernel) (by decide +kernel)
theorem wc_MT_35 : Cond.classLink "MomentTree" 35 "java/lang/IllegalArgumentException" ∈ tb_ws := tb_in (i := 196) (by decide +kernel) (by decide +kernel)
theorem win_IA : Cond.instantiable "java/lang/IllegalArgumentException" 6 ∈ tb_ws := tb_in (i := 197) (by decide +kernel) (by decide +kernel)
theorem wl_MT_37 : Cond.methodLink "MomentTree" 37 ⟨"java/lang/IllegalArgumentException", "<init>", "()V"⟩ ∈ tb_ws := tb_in (i := 205) (by decide +kernel) (by decide +kernel)
theorem wl_LA_67 : Cond.methodLink "MomentTreeLaw" 67 y_LA_put ∈ tb_ws := tb_in (i := 211) (by decide +kernel) (by decide +kernel)
theorem wst_LA_put : Cond.static y_LA_put ∈ tb_ws := tb_in (i := 212) (by decide +kernel) (by decide +kernel)
theorem wcw_LA_put : Cond.codeWith y_LA_put b_LA_put 6 (some .int) [(0, 12, 15, 19), (0, 12, 19, 25)] ∈ tb_ws := tb_in (i := 213) (by decide +kernel) (by decide +kernel)
theorem wc_LA_25 : Cond.classLink "MomentTreeLaw" 25 "java/lang/IllegalStateException" ∈ tb_ws := tb_in (i := 214) (by decide +kernel) (by decide +kernel)
theorem wl_LA_21 : Cond.methodLink "MomentTreeLaw" 21 y_MT_put ∈ tb_ws := tb_in (i := 215) (by decide +kernel) (by decide +kernel)
theorem wim_MT_put : Cond.instanceMethod y_MT_put ∈ tb_ws := tb_in (i := 216) (by decide +kernel) (by decide +kernel)
theorem wse_MT_put : Cond.selects "MomentTree" y_MT_put y_MT_put ∈ tb_ws := tb_in (i := 217) (by decide +kernel) (by decide +kernel)
theorem wco_MT_put : Cond.code y_MT_put b_MT_put 6 (some .int) ∈ tb_ws := tb_in (i := 218) (by decide +kernel) (by decide +kernel)
theorem wl_MT_38 : Cond.methodLink "MomentTree" 38 y_MT_tapeIsKey ∈ tb_ws := tb_in (i := 219) (by decide +kernel) (by decide +kernel)
theorem wim_MT_tapeIsKey : Cond.instanceMethod y_MT_tapeIsKey ∈ tb_ws := tb_in (i := 221) (by decide +kernel) (by decide +kernel)
theorem wco_MT_tapeIsKey : Cond.code y_MT_tapeIsKey b_MT_tapeIsKey 1 (some .boolean) ∈ tb_ws := tb_in (i := 222) (by decide +kernel) (by decide +kernel)
theorem wl_MT_42 : Cond.methodLink "MomentTree" 42 y_MT_takeTape ∈ tb_ws := tb_in (i := 223) (by decide +kernel) (by decide +kernel)
theorem wim_MT_takeTape : Cond.instanceMethod y_MT_takeTape ∈ tb_ws := tb_in (i := 225) (by decide +kernel) (by decide +kernel)
theorem wco_MT_takeTape : Cond.code y_MT_takeTape b_MT_takeTape 2 (some (.array .byte)) ∈ tb_ws := tb_in (i := 226) (by decide +kernel) (by decide +kernel)
theorem wl_MT_102 : Cond.methodLink "MomentTree" 102 y_JA_copyOf ∈ tb_ws := tb_in (i := 227) (by decide +kernel) (by decide +kernel)
theorem wst_JA_copyOf : Cond.static y_JA_copyOf ∈ tb_ws := tb_in (i := 228) (by decide +kernel) (by decide +kernel)
theorem wco_JA_copyOf : Cond.code y_JA_copyOf b_JA_copyOf 3 (some (.array .byte)) ∈ tb_ws := tb_in (i := 229) (by decide +kernel) (by decide +kernel)
theorem wl_JA_310 : Cond.methodLink "java/util/Arrays" 310 ⟨"[B", "clone", "()Ljava/lang/Object;"⟩ ∈ tb_ws := tb_in (i := 230) (by decide +kernel) (by decide +kernel)
theorem wna_JO_clone : Cond.native ⟨"java/lang/Object", "clone", "()Ljava/lang/Object;"⟩ ∈ tb_ws := tb_in (i := 232) (by decide +kernel) (by decide +kernel)
theorem wim_JO_clone : Cond.instanceMethod ⟨"java/lang/Object", "clone", "()Ljava/lang/Object;"⟩ ∈ tb_ws := tb_in (i := 233) (by decide +kernel) (by decide +kernel)
theorem wc_JA_311 : Cond.classLink "java/util/Arrays" 311 "[B" ∈ tb_ws := tb_in (i := 236) (by decide +kernel) (by decide +kernel)
theorem wl_JA_304 : Cond.methodLink "java/util/Arrays" 304 Lib.Math.min.name ∈ tb_ws := tb_in (i := 237) (by decide +kernel) (by decide +kernel)
theorem wl_JA_150 : Cond.methodLink "java/util/Arrays" 150 arraycopyName ∈ tb_ws := tb_in (i := 238) (by decide +kernel) (by decide +kernel)
theorem wst_JS_arraycopy : Cond.static arraycopyName ∈ tb_ws := tb_in (i := 239) (by decide +kernel) (by decide +kernel)
theorem wna_JS_arraycopy : Cond.native arraycopyName ∈ tb_ws := tb_in (i := 240) (by decide +kernel) (by decide +kernel)
theorem wl_MT_46 : Cond.methodLink "MomentTree" 46 y_TR_firstFrom ∈ tb_ws := tb_in (i := 241) (by decide +kernel) (by decide +kernel)
theorem wim_TR_firstFrom : Cond.instanceMethod y_TR_firstFrom ∈ tb_ws := tb_in (i := 242) (by decide +kernel) (by decide +kernel)
theorem wse_TR_firstFrom : Cond.selects "MomentTree$Tree" y_TR_firstFrom y_TR_firstFrom ∈ tb_ws := tb_in (i := 243) (by decide +kernel) (by decide +kernel)
theorem wco_TR_firstFrom : Cond.code y_TR_firstFrom b_TR_firstFrom 8 (some (.object "MomentTree$Version")) ∈ tb_ws := tb_in (i := 244) (by decide +kernel) (by decide +kernel)
theorem wl_MT_50 : Cond.methodLink "MomentTree" 50 y_VE_orderOf ∈ tb_ws := tb_in (i := 245) (by decide +kernel) (by decide +kernel)
theorem wc_MT_65 : Cond.classLink "MomentTree" 65 "java/lang/IllegalStateException" ∈ tb_ws := tb_in (i := 246) (by decide +kernel) (by decide +kernel)
theorem win_IS : Cond.instantiable "java/lang/IllegalStateException" 6 ∈ tb_ws := tb_in (i := 247) (by decide +kernel) (by decide +kernel)
theorem wl_MT_67 : Cond.methodLink "MomentTree" 67 ⟨"java/lang/IllegalStateException", "<init>", "()V"⟩ ∈ tb_ws := tb_in (i := 255) (by decide +kernel) (by decide +kernel)
theorem wc_MT_51 : Cond.classLink "MomentTree" 51 "MomentTree$Version" ∈ tb_ws := tb_in (i := 261) (by decide +kernel) (by decide +kernel)
theorem win_VE : Cond.instantiable "MomentTree$Version" 7 ∈ tb_ws := tb_in (i := 262) (by decide +kernel) (by decide +kernel)
theorem wl_MT_68 : Cond.methodLink "MomentTree" 68 y_VE_init ∈ tb_ws := tb_in (i := 263) (by decide +kernel) (by decide +kernel)
theorem wim_VE_init : Cond.instanceMethod y_VE_init ∈ tb_ws := tb_in (i := 264) (by decide +kernel) (by decide +kernel)
theorem wco_VE_init : Cond.code y_VE_init b_VE_init 5 none ∈ tb_ws := tb_in (i := 265) (by decide +kernel) (by decide +kernel)
theorem wl_VE_1 : Cond.methodLink "MomentTree$Version" 1 Lib.objectInit ∈ tb_ws := tb_in (i := 266) (by decide +kernel) (by decide +kernel)
theorem wf_VE_7 : Cond.fieldLink "MomentTree$Version" 7 "MomentTree$Version" "key" "[B" ∈ tb_ws := tb_in (i := 267) (by decide +kernel) (by decide +kernel)
theorem wf_MT_75 : Cond.fieldLink "MomentTree" 75 "MomentTree$Version" "key" "[B" ∈ tb_ws := tb_in (i := 268) (by decide +kernel) (by decide +kernel)
theorem wf_TR_37 : Cond.fieldLink "MomentTree$Tree" 37 "MomentTree$Version" "key" "[B" ∈ tb_ws := tb_in (i := 269) (by decide +kernel) (by decide +kernel)
theorem wf_VE_13 : Cond.fieldLink "MomentTree$Version" 13 "MomentTree$Version" "moment" "I" ∈ tb_ws := tb_in (i := 270) (by decide +kernel) (by decide +kernel)
theorem wf_TR_41 : Cond.fieldLink "MomentTree$Tree" 41 "MomentTree$Version" "moment" "I" ∈ tb_ws := tb_in (i := 271) (by decide +kernel) (by decide +kernel)
theorem wf_MT_86 : Cond.fieldLink "MomentTree" 86 "MomentTree$Version" "moment" "I" ∈ tb_ws := tb_in (i := 272) (by decide +kernel) (by decide +kernel)
theorem wf_VE_17 : Cond.fieldLink "MomentTree$Version" 17 "MomentTree$Version" "place" "I" ∈ tb_ws := tb_in (i := 273) (by decide +kernel) (by decide +kernel)
theorem wf_MT_56 : Cond.fieldLink "MomentTree" 56 "MomentTree$Version" "place" "I" ∈ tb_ws := tb_in (i := 274) (by decide +kernel) (by decide +kernel)
theorem wf_VE_20 : Cond.fieldLink "MomentTree$Version" 20 "MomentTree$Version" "size" "I" ∈ tb_ws := tb_in (i := 275) (by decide +kernel) (by decide +kernel)
theorem wf_MT_59 : Cond.fieldLink "MomentTree" 59 "MomentTree$Version" "size" "I" ∈ tb_ws := tb_in (i := 276) (by decide +kernel) (by decide +kernel)
theorem wf_VE_23 : Cond.fieldLink "MomentTree$Version" 23 "MomentTree$Version" "height" "I" ∈ tb_ws := tb_in (i := 277) (by decide +kernel) (by decide +kernel)
theorem wf_TR_52 : Cond.fieldLink "MomentTree$Tree" 52 "MomentTree$Version" "height" "I" ∈ tb_ws := tb_in (i := 278) (by decide +kernel) (by decide +kernel)
theorem wf_VE_26 : Cond.fieldLink "MomentTree$Version" 26 "MomentTree$Version" "left" "LMomentTree$Version;" ∈ tb_ws := tb_in (i := 279) (by decide +kernel) (by decide +kernel)
theorem wf_TR_23 : Cond.fieldLink "MomentTree$Tree" 23 "MomentTree$Version" "left" "LMomentTree$Version;" ∈ tb_ws := tb_in (i := 280) (by decide +kernel) (by decide +kernel)
theorem wf_VE_30 : Cond.fieldLink "MomentTree$Version" 30 "MomentTree$Version" "right" "LMomentTree$Version;" ∈ tb_ws := tb_in (i := 281) (by decide +kernel) (by decide +kernel)
theorem wf_TR_26 : Cond.fieldLink "MomentTree$Tree" 26 "MomentTree$Version" "right" "LMomentTree$Version;" ∈ tb_ws := tb_in (i := 282) (by decide +kernel) (by decide +kernel)
theorem wl_MT_71 : Cond.methodLink "MomentTree" 71 y_TR_add ∈ tb_ws := tb_in (i := 298) (by decide +kernel) (by decide +kernel)
theorem wim_TR_add : Cond.instanceMethod y_TR_add ∈ tb_ws := tb_in (i := 299) (by decide +kernel) (by decide +kernel)
theorem wse_TR_add : Cond.selects "MomentTree$Tree" y_TR_add y_TR_add ∈ tb_ws := tb_in (i := 300) (by decide +kernel) (by decide +kernel)
theorem wco_TR_add : Cond.code y_TR_add b_TR_add 2 none ∈ tb_ws := tb_in (i := 301) (by decide +kernel) (by decide +kernel)
theorem wl_TR_29 : Cond.methodLink "MomentTree$Tree" 29 y_TR_withAdded ∈ tb_ws := tb_in (i := 302) (by decide +kernel) (by decide +kernel)
theorem wst_TR_withAdded : Cond.static y_TR_withAdded ∈ tb_ws := tb_in (i := 303) (by decide +kernel) (by decide +kernel)
theorem wco_TR_withAdded : Cond.code y_TR_withAdded b_TR_withAdded 3 (some (.object "MomentTree$Version")) ∈ tb_ws := tb_in (i := 304) (by decide +kernel) (by decide +kernel)
theorem wl_TR_44 : Cond.methodLink "MomentTree$Tree" 44 y_TR_balanced ∈ tb_ws := tb_in (i := 305) (by decide +kernel) (by decide +kernel)
theorem wst_TR_balanced : Cond.static y_TR_balanced ∈ tb_ws := tb_in (i := 306) (by decide +kernel) (by decide +kernel)
theorem wco_TR_balanced : Cond.code y_TR_balanced b_TR_balanced 2 (some (.object "MomentTree$Version")) ∈ tb_ws := tb_in (i := 307) (by decide +kernel) (by decide +kernel)
theorem wl_TR_58 : Cond.methodLink "MomentTree$Tree" 58 y_TR_turnedLeft ∈ tb_ws := tb_in (i := 308) (by decide +kernel) (by decide +kernel)
theorem wst_TR_turnedLeft : Cond.static y_TR_turnedLeft ∈ tb_ws := tb_in (i := 309) (by decide +kernel) (by decide +kernel)
theorem wco_TR_turnedLeft : Cond.code y_TR_turnedLeft b_TR_turnedLeft 2 (some (.object "MomentTree$Version")) ∈ tb_ws := tb_in (i := 310) (by decide +kernel) (by decide +kernel)
theorem wl_TR_61 : Cond.methodLink "MomentTree$Tree" 61 y_TR_turnedRight ∈ tb_ws := tb_in (i := 311) (by decide +kernel) (by decide +kernel)
theorem wst_TR_turnedRight : Cond.static y_TR_turnedRight ∈ tb_ws := tb_in (i := 312) (by decide +kernel) (by decide +kernel)
theorem wco_TR_turnedRight : Cond.code y_TR_turnedRight b_TR_turnedRight 2 (some (.object "MomentTree$Version")) ∈ tb_ws := tb_in (i := 313) (by decide +kernel) (by decide +kernel)
theorem wl_LA_71 : Cond.methodLink "MomentTreeLaw" 71 y_LA_find ∈ tb_ws := tb_in (i := 314) (by decide +kernel) (by decide +kernel)
theorem wst_LA_find : Cond.static y_LA_find ∈ tb_ws := tb_in (i := 315) (by decide +kernel) (by decide +kernel)
theorem wcw_LA_find : Cond.codeWith y_LA_find b_LA_find 4 (some .int) [(0, 9, 12, 19), (0, 9, 15, 30)] ∈ tb_ws := tb_in (i := 316) (by decide +kernel) (by decide +kernel)
theorem wc_LA_30 : Cond.classLink "MomentTreeLaw" 30 "java/util/NoSuchElementException" ∈ tb_ws := tb_in (i := 317) (by decide +kernel) (by decide +kernel)
theorem wl_LA_27 : Cond.methodLink "MomentTreeLaw" 27 y_MT_find ∈ tb_ws := tb_in (i := 318) (by decide +kernel) (by decide +kernel)
theorem wim_MT_find : Cond.instanceMethod y_MT_find ∈ tb_ws := tb_in (i := 319) (by decide +kernel) (by decide +kernel)
theorem wse_MT_find : Cond.selects "MomentTree" y_MT_find y_MT_find ∈ tb_ws := tb_in (i := 320) (by decide +kernel) (by decide +kernel)
theorem wco_MT_find : Cond.code y_MT_find b_MT_find 5 (some .int) ∈ tb_ws := tb_in (i := 321) (by decide +kernel) (by decide +kernel)
theorem wl_MT_78 : Cond.methodLink "MomentTree" 78 y_VE_orderOfKeys ∈ tb_ws := tb_in (i := 322) (by decide +kernel) (by decide +kernel)
theorem wl_MT_82 : Cond.methodLink "MomentTree" 82 y_MT_goTo ∈ tb_ws := tb_in (i := 323) (by decide +kernel) (by decide +kernel)
theorem wim_MT_goTo : Cond.instanceMethod y_MT_goTo ∈ tb_ws := tb_in (i := 325) (by decide +kernel) (by decide +kernel)
theorem wco_MT_goTo : Cond.code y_MT_goTo b_MT_goTo 2 (some .int) ∈ tb_ws := tb_in (i := 326) (by decide +kernel) (by decide +kernel)
theorem wc_MT_92 : Cond.classLink "MomentTree" 92 "java/util/NoSuchElementException" ∈ tb_ws := tb_in (i := 327) (by decide +kernel) (by decide +kernel)
theorem win_NS : Cond.instantiable "java/util/NoSuchElementException" 6 ∈ tb_ws := tb_in (i := 328) (by decide +kernel) (by decide +kernel)
theorem wl_MT_94 : Cond.methodLink "MomentTree" 94 ⟨"java/util/NoSuchElementException", "<init>", "()V"⟩ ∈ tb_ws := tb_in (i := 336) (by decide +kernel) (by decide +kernel)
theorem wl_LA_74 : Cond.methodLink "MomentTreeLaw" 74 y_LA_seek ∈ tb_ws := tb_in (i := 342) (by decide +kernel) (by decide +kernel)
theorem wst_LA_seek : Cond.static y_LA_seek ∈ tb_ws := tb_in (i := 343) (by decide +kernel) (by decide +kernel)
theorem wcw_LA_seek : Cond.codeWith y_LA_seek b_LA_seek 5 (some .int) [(0, 10, 13, 19), (0, 10, 17, 30)] ∈ tb_ws := tb_in (i := 344) (by decide +kernel) (by decide +kernel)
theorem wl_LA_32 : Cond.methodLink "MomentTreeLaw" 32 y_MT_seek ∈ tb_ws := tb_in (i := 345) (by decide +kernel) (by decide +kernel)
theorem wim_MT_seek : Cond.instanceMethod y_MT_seek ∈ tb_ws := tb_in (i := 346) (by decide +kernel) (by decide +kernel)
theorem wse_MT_seek : Cond.selects "MomentTree" y_MT_seek y_MT_seek ∈ tb_ws := tb_in (i := 347) (by decide +kernel) (by decide +kernel)
theorem wco_MT_seek : Cond.code y_MT_seek b_MT_seek 3 (some .int) ∈ tb_ws := tb_in (i := 348) (by decide +kernel) (by decide +kernel)
theorem wl_LA_78 : Cond.methodLink "MomentTreeLaw" 78 y_LA_next ∈ tb_ws := tb_in (i := 349) (by decide +kernel) (by decide +kernel)
theorem wst_LA_next : Cond.static y_LA_next ∈ tb_ws := tb_in (i := 350) (by decide +kernel) (by decide +kernel)
theorem wcw_LA_next : Cond.codeWith y_LA_next b_LA_next 3 (some .int) [(0, 8, 11, 30)] ∈ tb_ws := tb_in (i := 351) (by decide +kernel) (by decide +kernel)
theorem wl_LA_36 : Cond.methodLink "MomentTreeLaw" 36 y_MT_next ∈ tb_ws := tb_in (i := 352) (by decide +kernel) (by decide +kernel)
theorem wim_MT_next : Cond.instanceMethod y_MT_next ∈ tb_ws := tb_in (i := 353) (by decide +kernel) (by decide +kernel)
theorem wse_MT_next : Cond.selects "MomentTree" y_MT_next y_MT_next ∈ tb_ws := tb_in (i := 354) (by decide +kernel) (by decide +kernel)
theorem wco_MT_next : Cond.code y_MT_next b_MT_next 1 (some .int) ∈ tb_ws := tb_in (i := 355) (by decide +kernel) (by decide +kernel)
theorem wl_LA_82 : Cond.methodLink "MomentTreeLaw" 82 y_LA_first ∈ tb_ws := tb_in (i := 356) (by decide +kernel) (by decide +kernel)
theorem wst_LA_first : Cond.static y_LA_first ∈ tb_ws := tb_in (i := 357) (by decide +kernel) (by decide +kernel)
theorem wcw_LA_first : Cond.codeWith y_LA_first b_LA_first 3 (some .int) [(0, 8, 11, 30)] ∈ tb_ws := tb_in (i := 358) (by decide +kernel) (by decide +kernel)
theorem wl_LA_40 : Cond.methodLink "MomentTreeLaw" 40 y_MT_first ∈ tb_ws := tb_in (i := 359) (by decide +kernel) (by decide +kernel)
theorem wim_MT_first : Cond.instanceMethod y_MT_first ∈ tb_ws := tb_in (i := 360) (by decide +kernel) (by decide +kernel)
theorem wse_MT_first : Cond.selects "MomentTree" y_MT_first y_MT_first ∈ tb_ws := tb_in (i := 361) (by decide +kernel) (by decide +kernel)
theorem wco_MT_first : Cond.code y_MT_first b_MT_first 1 (some .int) ∈ tb_ws := tb_in (i := 362) (by decide +kernel) (by decide +kernel)
theorem wf_MT_89 : Cond.fieldLink "MomentTree" 89 "MomentTree" "BEFORE_ALL_KEYS" "[B" ∈ tb_ws := tb_in (i := 363) (by decide +kernel) (by decide +kernel)
theorem wl_LA_85 : Cond.methodLink "MomentTreeLaw" 85 y_LA_current ∈ tb_ws := tb_in (i := 365) (by decide +kernel) (by decide +kernel)
theorem wst_LA_current : Cond.static y_LA_current ∈ tb_ws := tb_in (i := 366) (by decide +kernel) (by decide +kernel)
theorem wcw_LA_current : Cond.codeWith y_LA_current b_LA_current 4 (some .int) [(0, 9, 12, 19), (0, 9, 15, 30)] ∈ tb_ws := tb_in (i := 367) (by decide +kernel) (by decide +kernel)
theorem wl_LA_43 : Cond.methodLink "MomentTreeLaw" 43 y_MT_current ∈ tb_ws := tb_in (i := 368) (by decide +kernel) (by decide +kernel)
theorem wim_MT_current : Cond.instanceMethod y_MT_current ∈ tb_ws := tb_in (i := 369) (by decide +kernel) (by decide +kernel)
theorem wse_MT_current : Cond.selects "MomentTree" y_MT_current y_MT_current ∈ tb_ws := tb_in (i := 370) (by decide +kernel) (by decide +kernel)
theorem wco_MT_current : Cond.code y_MT_current b_MT_current 2 (some .int) ∈ tb_ws := tb_in (i := 371) (by decide +kernel) (by decide +kernel)
theorem wl_LA_88 : Cond.methodLink "MomentTreeLaw" 88 y_LA_word ∈ tb_ws := tb_in (i := 372) (by decide +kernel) (by decide +kernel)
theorem wst_LA_word : Cond.static y_LA_word ∈ tb_ws := tb_in (i := 373) (by decide +kernel) (by decide +kernel)
theorem wcw_LA_word : Cond.codeWith y_LA_word b_LA_word 4 (some .int) [(0, 8, 11, 30), (0, 8, 14, 13)] ∈ tb_ws := tb_in (i := 374) (by decide +kernel) (by decide +kernel)
theorem wl_LA_46 : Cond.methodLink "MomentTreeLaw" 46 y_MT_word ∈ tb_ws := tb_in (i := 375) (by decide +kernel) (by decide +kernel)
theorem wim_MT_word : Cond.instanceMethod y_MT_word ∈ tb_ws := tb_in (i := 376) (by decide +kernel) (by decide +kernel)
theorem wse_MT_word : Cond.selects "MomentTree" y_MT_word y_MT_word ∈ tb_ws := tb_in (i := 377) (by decide +kernel) (by decide +kernel)
theorem wco_MT_word : Cond.code y_MT_word b_MT_word 6 (some .long) ∈ tb_ws := tb_in (i := 378) (by decide +kernel) (by decide +kernel)
theorem wc_LA_51 : Cond.classLink "MomentTreeLaw" 51 "MomentTreeModel" ∈ tb_ws := tb_in (i := 379) (by decide +kernel) (by decide +kernel)
theorem win_MO : Cond.instantiable "MomentTreeModel" 10 ∈ tb_ws := tb_in (i := 380) (by decide +kernel) (by decide +kernel)
theorem wl_LA_53 : Cond.methodLink "MomentTreeLaw" 53 y_MO_init ∈ tb_ws := tb_in (i := 381) (by decide +kernel) (by decide +kernel)
theorem wim_MO_init : Cond.instanceMethod y_MO_init ∈ tb_ws := tb_in (i := 382) (by decide +kernel) (by decide +kernel)
theorem wco_MO_init : Cond.code y_MO_init b_MO_init 1 none ∈ tb_ws := tb_in (i := 383) (by decide +kernel) (by decide +kernel)
theorem wl_MO_1 : Cond.methodLink "MomentTreeModel" 1 Lib.objectInit ∈ tb_ws := tb_in (i := 384) (by decide +kernel) (by decide +kernel)
theorem wf_MO_33 : Cond.fieldLink "MomentTreeModel" 33 "MomentTreeModel" "failed" "I" ∈ tb_ws := tb_in (i := 385) (by decide +kernel) (by decide +kernel)
theorem wf_MO_7 : Cond.fieldLink "MomentTreeModel" 7 "MomentTreeModel" "tape" "[B" ∈ tb_ws := tb_in (i := 386) (by decide +kernel) (by decide +kernel)
theorem wf_MO_36 : Cond.fieldLink "MomentTreeModel" 36 "MomentTreeModel" "taped" "I" ∈ tb_ws := tb_in (i := 387) (by decide +kernel) (by decide +kernel)
theorem wf_MO_13 : Cond.fieldLink "MomentTreeModel" 13 "MomentTreeModel" "keys" "[B" ∈ tb_ws := tb_in (i := 388) (by decide +kernel) (by decide +kernel)
theorem wf_MO_16 : Cond.fieldLink "MomentTreeModel" 16 "MomentTreeModel" "lengths" "[I" ∈ tb_ws := tb_in (i := 389) (by decide +kernel) (by decide +kernel)
theorem wf_MO_20 : Cond.fieldLink "MomentTreeModel" 20 "MomentTreeModel" "moments" "[I" ∈ tb_ws := tb_in (i := 390) (by decide +kernel) (by decide +kernel)
theorem wf_MO_23 : Cond.fieldLink "MomentTreeModel" 23 "MomentTreeModel" "places" "[I" ∈ tb_ws := tb_in (i := 391) (by decide +kernel) (by decide +kernel)
theorem wf_MO_26 : Cond.fieldLink "MomentTreeModel" 26 "MomentTreeModel" "sizes" "[I" ∈ tb_ws := tb_in (i := 392) (by decide +kernel) (by decide +kernel)
theorem wf_MO_43 : Cond.fieldLink "MomentTreeModel" 43 "MomentTreeModel" "size" "I" ∈ tb_ws := tb_in (i := 393) (by decide +kernel) (by decide +kernel)
theorem wf_MO_29 : Cond.fieldLink "MomentTreeModel" 29 "MomentTreeModel" "at" "I" ∈ tb_ws := tb_in (i := 394) (by decide +kernel) (by decide +kernel)
theorem wa_int : Cond.arrayClass .int ∈ tb_ws := tb_in (i := 416) (by decide +kernel) (by decide +kernel)
theorem wl_LA_60 : Cond.methodLink "MomentTreeLaw" 60 y_MO_thrown ∈ tb_ws := tb_in (i := 417) (by decide +kernel) (by decide +kernel)
theorem wim_MO_thrown : Cond.instanceMethod y_MO_thrown ∈ tb_ws := tb_in (i := 418) (by decide +kernel) (by decide +kernel)
theorem wse_MO_thrown : Cond.selects "MomentTreeModel" y_MO_thrown y_MO_thrown ∈ tb_ws := tb_in (i := 419) (by decide +kernel) (by decide +kernel)
theorem wco_MO_thrown : Cond.code y_MO_thrown b_MO_thrown 1 (some .int) ∈ tb_ws := tb_in (i := 420) (by decide +kernel) (by decide +kernel)
theorem wl_LA_59 : Cond.methodLink "MomentTreeLaw" 59 y_MO_feed ∈ tb_ws := tb_in (i := 421) (by decide +kernel) (by decide +kernel)
theorem wim_MO_feed : Cond.instanceMethod y_MO_feed ∈ tb_ws := tb_in (i := 422) (by decide +kernel) (by decide +kernel)
theorem wse_MO_feed : Cond.selects "MomentTreeModel" y_MO_feed y_MO_feed ∈ tb_ws := tb_in (i := 423) (by decide +kernel) (by decide +kernel)
theorem wco_MO_feed : Cond.code y_MO_feed b_MO_feed 8 (some .int) ∈ tb_ws := tb_in (i := 424) (by decide +kernel) (by decide +kernel)
theorem wl_MO_39 : Cond.methodLink "MomentTreeModel" 39 y_MO_fail ∈ tb_ws := tb_in (i := 425) (by decide +kernel) (by decide +kernel)
theorem wim_MO_fail : Cond.instanceMethod y_MO_fail ∈ tb_ws := tb_in (i := 427) (by decide +kernel) (by decide +kernel)
theorem wco_MO_fail : Cond.code y_MO_fail b_MO_fail 2 (some .int) ∈ tb_ws := tb_in (i := 428) (by decide +kernel) (by decide +kernel)
theorem wl_LA_66 : Cond.methodLink "MomentTreeLaw" 66 y_MO_end ∈ tb_ws := tb_in (i := 429) (by decide +kernel) (by decide +kernel)
theorem wim_MO_end : Cond.instanceMethod y_MO_end ∈ tb_ws := tb_in (i := 430) (by decide +kernel) (by decide +kernel)
theorem wse_MO_end : Cond.selects "MomentTreeModel" y_MO_end y_MO_end ∈ tb_ws := tb_in (i := 431) (by decide +kernel) (by decide +kernel)
theorem wco_MO_end : Cond.code y_MO_end b_MO_end 2 (some .int) ∈ tb_ws := tb_in (i := 432) (by decide +kernel) (by decide +kernel)
theorem wl_LA_70 : Cond.methodLink "MomentTreeLaw" 70 y_MO_put ∈ tb_ws := tb_in (i := 433) (by decide +kernel) (by decide +kernel)
theorem wim_MO_put : Cond.instanceMethod y_MO_put ∈ tb_ws := tb_in (i := 434) (by decide +kernel) (by decide +kernel)
theorem wse_MO_put : Cond.selects "MomentTreeModel" y_MO_put y_MO_put ∈ tb_ws := tb_in (i := 435) (by decide +kernel) (by decide +kernel)
theorem wco_MO_put : Cond.code y_MO_put b_MO_put 8 (some .int) ∈ tb_ws := tb_in (i := 436) (by decide +kernel) (by decide +kernel)
theorem wl_MO_50 : Cond.methodLink "MomentTreeModel" 50 y_MO_before ∈ tb_ws := tb_in (i := 437) (by decide +kernel) (by decide +kernel)
theorem wim_MO_before : Cond.instanceMethod y_MO_before ∈ tb_ws := tb_in (i := 439) (by decide +kernel) (by decide +kernel)
theorem wco_MO_before : Cond.code y_MO_before b_MO_before 4 (some .int) ∈ tb_ws := tb_in (i := 440) (by decide +kernel) (by decide +kernel)
theorem wl_MO_46 : Cond.methodLink "MomentTreeModel" 46 y_MO_compare ∈ tb_ws := tb_in (i := 441) (by decide +kernel) (by decide +kernel)
theorem wim_MO_compare : Cond.instanceMethod y_MO_compare ∈ tb_ws := tb_in (i := 443) (by decide +kernel) (by decide +kernel)
theorem wco_MO_compare : Cond.code y_MO_compare b_MO_compare 6 (some .int) ∈ tb_ws := tb_in (i := 444) (by decide +kernel) (by decide +kernel)
theorem wl_MO_54 : Cond.methodLink "MomentTreeModel" 54 y_MO_moveUp ∈ tb_ws := tb_in (i := 445) (by decide +kernel) (by decide +kernel)
theorem wim_MO_moveUp : Cond.instanceMethod y_MO_moveUp ∈ tb_ws := tb_in (i := 447) (by decide +kernel) (by decide +kernel)
theorem wco_MO_moveUp : Cond.code y_MO_moveUp b_MO_moveUp 4 none ∈ tb_ws := tb_in (i := 448) (by decide +kernel) (by decide +kernel)
theorem wl_LA_73 : Cond.methodLink "MomentTreeLaw" 73 y_MO_find ∈ tb_ws := tb_in (i := 449) (by decide +kernel) (by decide +kernel)
theorem wim_MO_find : Cond.instanceMethod y_MO_find ∈ tb_ws := tb_in (i := 450) (by decide +kernel) (by decide +kernel)
theorem wse_MO_find : Cond.selects "MomentTreeModel" y_MO_find y_MO_find ∈ tb_ws := tb_in (i := 451) (by decide +kernel) (by decide +kernel)
theorem wco_MO_find : Cond.code y_MO_find b_MO_find 4 (some .int) ∈ tb_ws := tb_in (i := 452) (by decide +kernel) (by decide +kernel)
theorem wl_MO_58 : Cond.methodLink "MomentTreeModel" 58 y_MO_go ∈ tb_ws := tb_in (i := 453) (by decide +kernel) (by decide +kernel)
theorem wim_MO_go : Cond.instanceMethod y_MO_go ∈ tb_ws := tb_in (i := 455) (by decide +kernel) (by decide +kernel)
theorem wco_MO_go : Cond.code y_MO_go b_MO_go 4 (some .int) ∈ tb_ws := tb_in (i := 456) (by decide +kernel) (by decide +kernel)
theorem wl_LA_77 : Cond.methodLink "MomentTreeLaw" 77 y_MO_seek ∈ tb_ws := tb_in (i := 457) (by decide +kernel) (by decide +kernel)
theorem wim_MO_seek : Cond.instanceMethod y_MO_seek ∈ tb_ws := tb_in (i := 458) (by decide +kernel) (by decide +kernel)
theorem wse_MO_seek : Cond.selects "MomentTreeModel" y_MO_seek y_MO_seek ∈ tb_ws := tb_in (i := 459) (by decide +kernel) (by decide +kernel)
theorem wco_MO_seek : Cond.code y_MO_seek b_MO_seek 5 (some .int) ∈ tb_ws := tb_in (i := 460) (by decide +kernel) (by decide +kernel)
theorem wl_LA_81 : Cond.methodLink "MomentTreeLaw" 81 y_MO_next ∈ tb_ws := tb_in (i := 461) (by decide +kernel) (by decide +kernel)
theorem wim_MO_next : Cond.instanceMethod y_MO_next ∈ tb_ws := tb_in (i := 462) (by decide +kernel) (by decide +kernel)
theorem wse_MO_next : Cond.selects "MomentTreeModel" y_MO_next y_MO_next ∈ tb_ws := tb_in (i := 463) (by decide +kernel) (by decide +kernel)
theorem wco_MO_next : Cond.code y_MO_next b_MO_next 1 (some .int) ∈ tb_ws := tb_in (i := 464) (by decide +kernel) (by decide +kernel)
theorem wl_LA_84 : Cond.methodLink "MomentTreeLaw" 84 y_MO_first ∈ tb_ws := tb_in (i := 465) (by decide +kernel) (by decide +kernel)
theorem wim_MO_first : Cond.instanceMethod y_MO_first ∈ tb_ws := tb_in (i := 466) (by decide +kernel) (by decide +kernel)
theorem wse_MO_first : Cond.selects "MomentTreeModel" y_MO_first y_MO_first ∈ tb_ws := tb_in (i := 467) (by decide +kernel) (by decide +kernel)
theorem wco_MO_first : Cond.code y_MO_first b_MO_first 1 (some .int) ∈ tb_ws := tb_in (i := 468) (by decide +kernel) (by decide +kernel)
theorem wl_LA_87 : Cond.methodLink "MomentTreeLaw" 87 y_MO_current ∈ tb_ws := tb_in (i := 469) (by decide +kernel) (by decide +kernel)
theorem wim_MO_current : Cond.instanceMethod y_MO_current ∈ tb_ws := tb_in (i := 470) (by decide +kernel) (by decide +kernel)
theorem wse_MO_current : Cond.selects "MomentTreeModel" y_MO_current y_MO_current ∈ tb_ws := tb_in (i := 471) (by decide +kernel) (by decide +kernel)
theorem wco_MO_current : Cond.code y_MO_current b_MO_current 2 (some .int) ∈ tb_ws := tb_in (i := 472) (by decide +kernel) (by decide +kernel)
theorem wl_LA_90 : Cond.methodLink "MomentTreeLaw" 90 y_MO_word ∈ tb_ws := tb_in (i := 473) (by decide +kernel) (by decide +kernel)
theorem wim_MO_word : Cond.instanceMethod y_MO_word ∈ tb_ws := tb_in (i := 474) (by decide +kernel) (by decide +kernel)
theorem wse_MO_word : Cond.selects "MomentTreeModel" y_MO_word y_MO_word ∈ tb_ws := tb_in (i := 475) (by decide +kernel) (by decide +kernel)
theorem wco_MO_word : Cond.code y_MO_word b_MO_word 5 (some .long) ∈ tb_ws := tb_in (i := 476) (by decide +kernel) (by decide +kernel)
theorem wk_MO_62 : Cond.constantLong "MomentTreeModel" 62 256 ∈ tb_ws := tb_in (i := 477) (by decide +kernel) (by decide +kernel)
theorem wl_LA_94 : Cond.methodLink "MomentTreeLaw" 94 y_MO_clear ∈ tb_ws := tb_in (i := 478) (by decide +kernel) (by decide +kernel)
theorem wim_MO_clear : Cond.instanceMethod y_MO_clear ∈ tb_ws := tb_in (i := 479) (by decide +kernel) (by decide +kernel)
theorem wse_MO_clear : Cond.selects "MomentTreeModel" y_MO_clear y_MO_clear ∈ tb_ws := tb_in (i := 480) (by decide +kernel) (by decide +kernel)
theorem wco_MO_clear : Cond.code y_MO_clear b_MO_clear 2 (some .int) ∈ tb_ws := tb_in (i := 481) (by decide +kernel) (by decide +kernel)
theorem wl_LA_98 : Cond.methodLink "MomentTreeLaw" 98 y_MO_count ∈ tb_ws := tb_in (i := 482) (by decide +kernel) (by decide +kernel)
theorem wim_MO_count : Cond.instanceMethod y_MO_count ∈ tb_ws := tb_in (i := 483) (by decide +kernel) (by decide +kernel)
theorem wse_MO_count : Cond.selects "MomentTreeModel" y_MO_count y_MO_count ∈ tb_ws := tb_in (i := 484) (by decide +kernel) (by decide +kernel)
theorem wco_MO_count : Cond.code y_MO_count b_MO_count 1 (some .int) ∈ tb_ws := tb_in (i := 485) (by decide +kernel) (by decide +kernel)
theorem wa_long : Cond.arrayClass .long ∈ tb_ws := tb_in (i := 486) (by decide +kernel) (by decide +kernel)
theorem in_MT : ∀ w ∈ u_ws R_MT T_MT 4, w ∈ tb_ws := by decide +kernel
theorem in_TR : ∀ w ∈ u_ws R_TR T_TR 2, w ∈ tb_ws := by decide +kernel
theorem in_VE : ∀ w ∈ u_ws R_VE T_VE 7, w ∈ tb_ws := by decide +kernel
theorem in_MO : ∀ w ∈ u_ws R_MO T_MO 10, w ∈ tb_ws := by decide +kernel
theorem d_MT_init_0 : decode b_MT_init 0 = .ok (.aload_n 0, 1) := by decide +kernel
theorem d_MT_init_1 : decode b_MT_init 1 = .ok (.invokespecial 1, 3) := by decide +kernel
theorem d_MT_init_4 : decode b_MT_init 4 = .ok (.aload_n 0, 1) := by decide +kernel
theorem d_MT_init_5 : decode b_MT_init 5 = .ok (.bipush 60, 2) := by decide +kernel
theorem d_MT_init_7 : decode b_MT_init 7 = .ok (.newarray .byte, 2) := by decide +kernel
theorem d_MT_init_9 : decode b_MT_init 9 = .ok (.putfield 9, 3) := by decide +kernel
theorem d_MT_init_12 : decode b_MT_init 12 = .ok (.aload_n 0, 1) := by decide +kernel
theorem d_MT_init_13 : decode b_MT_init 13 = .ok (.iconst 0, 1) := by decide +kernel
theorem d_MT_init_14 : decode b_MT_init 14 = .ok (.putfield 13, 3) := by decide +kernel
theorem d_MT_init_17 : decode b_MT_init 17 = .ok (.aload_n 0, 1) := by decide +kernel
theorem d_MT_init_18 : decode b_MT_init 18 = .ok (.new 17, 3) := by decide +kernel
theorem d_MT_init_21 : decode b_MT_init 21 = .ok (.dup, 1) := by decide +kernel
theorem d_MT_init_22 : decode b_MT_init 22 = .ok (.invokespecial 19, 3) := by decide +kernel
theorem d_MT_init_25 : decode b_MT_init 25 = .ok (.putfield 20, 3) := by decide +kernel
theorem d_MT_init_28 : decode b_MT_init 28 = .ok (.aload_n 0, 1) := by decide +kernel
theorem d_MT_init_29 : decode b_MT_init 29 = .ok (.aconst_null, 1) := by decide +kernel
theorem d_MT_init_30 : decode b_MT_init 30 = .ok (.putfield 24, 3) := by decide +kernel
theorem d_MT_init_33 : decode b_MT_init 33 = .ok (.return_, 1) := by decide +kernel
theorem d_TR_init_0 : decode b_TR_init 0 = .ok (.aload_n 0, 1) := by decide +kernel
theorem d_TR_init_1 : decode b_TR_init 1 = .ok (.invokespecial 1, 3) := by decide +kernel
theorem d_TR_init_4 : decode b_TR_init 4 = .ok (.aload_n 0, 1) := by decide +kernel
theorem d_TR_init_5 : decode b_TR_init 5 = .ok (.aconst_null, 1) := by decide +kernel
theorem d_TR_init_6 : decode b_TR_init 6 = .ok (.putfield 7, 3) := by decide +kernel
theorem d_TR_init_9 : decode b_TR_init 9 = .ok (.aload_n 0, 1) := by decide +kernel
theorem d_TR_init_10 : decode b_TR_init 10 = .ok (.iconst 0, 1) := by decide +kernel
theorem d_TR_init_11 : decode b_TR_init 11 = .ok (.putfield 13, 3) := by decide +kernel
theorem d_TR_init_14 : decode b_TR_init 14 = .ok (.return_, 1) := by decide +kernel
theorem d_MT_clear_0 : decode b_MT_clear 0 = .ok (.aload_n 0, 1) := by decide +kernel
theorem d_MT_clear_1 : decode b_MT_clear 1 = .ok (.getfield 20, 3) := by decide +kernel
theorem d_MT_clear_4 : decode b_MT_clear 4 = .ok (.getfield 62, 3) := by decide +kernel
theorem d_MT_clear_7 : decode b_MT_clear 7 = .ok (.istore_n 1, 1) := by decide +kernel
theorem d_MT_clear_8 : decode b_MT_clear 8 = .ok (.aload_n 0, 1) := by decide +kernel
theorem d_MT_clear_9 : decode b_MT_clear 9 = .ok (.getfield 20, 3) := by decide +kernel
theorem d_MT_clear_12 : decode b_MT_clear 12 = .ok (.invokevirtual 95, 3) := by decide +kernel
theorem d_MT_clear_15 : decode b_MT_clear 15 = .ok (.aload_n 0, 1) := by decide +kernel
theorem d_MT_clear_16 : decode b_MT_clear 16 = .ok (.aconst_null, 1) := by decide +kernel
theorem d_MT_clear_17 : decode b_MT_clear 17 = .ok (.putfield 24, 3) := by decide +kernel
theorem d_MT_clear_20 : decode b_MT_clear 20 = .ok (.iload_n 1, 1) := by decide +kernel
theorem d_MT_clear_21 : decode b_MT_clear 21 = .ok (.ireturn, 1) := by decide +kernel
theorem d_TR_empty_0 : decode b_TR_empty 0 = .ok (.aload_n 0, 1) := by decide +kernel
theorem d_TR_empty_1 : decode b_TR_empty 1 = .ok (.aconst_null, 1) := by decide +kernel
theorem d_TR_empty_2 : decode b_TR_empty 2 = .ok (.putfield 7, 3) := by decide +kernel
theorem d_TR_empty_5 : decode b_TR_empty 5 = .ok (.aload_n 0, 1) := by decide +kernel
theorem d_TR_empty_6 : decode b_TR_empty 6 = .ok (.iconst 0, 1) := by decide +kernel
theorem d_TR_empty_7 : decode b_TR_empty 7 = .ok (.putfield 13, 3) := by decide +kernel
theorem d_TR_empty_10 : decode b_TR_empty 10 = .ok (.return_, 1) := by decide +kernel
theorem d_MT_count_0 : decode b_MT_count 0 = .ok (.aload_n 0, 1) := by decide +kernel
theorem d_MT_count_1 : decode b_MT_count 1 = .ok (.getfield 20, 3) := by decide +kernel
theorem d_MT_count_4 : decode b_MT_count 4 = .ok (.invokevirtual 98, 3) := by decide +kernel
theorem d_MT_count_7 : decode b_MT_count 7 = .ok (.ireturn, 1) := by decide +kernel
theorem d_TR_countIfSound_0 : decode b_TR_countIfSound 0 = .ok (.aload_n 0, 1) := by decide +kernel
theorem d_TR_countIfSound_1 : decode b_TR_countIfSound 1 = .ok (.getfield 7, 3) := by decide +kernel
theorem d_TR_countIfSound_4 : decode b_TR_countIfSound 4 = .ok (.aconst_null, 1) := by decide +kernel
theorem d_TR_countIfSound_5 : decode b_TR_countIfSound 5 = .ok (.aconst_null, 1) := by decide +kernel
theorem d_TR_countIfSound_6 : decode b_TR_countIfSound 6 = .ok (.iconst 0, 1) := by decide +kernel
theorem d_TR_countIfSound_7 : decode b_TR_countIfSound 7 = .ok (.invokestatic 33, 3) := by decide +kernel
theorem d_TR_countIfSound_10 : decode b_TR_countIfSound 10 = .ok (.ireturn, 1) := by decide +kernel
theorem d_TR_countSound_0 : decode b_TR_countSound 0 = .ok (.aload_n 0, 1) := by decide +kernel
theorem d_TR_countSound_1 : decode b_TR_countSound 1 = .ok (.ifnonnull 5, 3) := by decide +kernel
theorem d_TR_countSound_4 : decode b_TR_countSound 4 = .ok (.iconst 0, 1) := by decide +kernel
theorem d_TR_countSound_5 : decode b_TR_countSound 5 = .ok (.ireturn, 1) := by decide +kernel
theorem d_TR_countSound_6 : decode b_TR_countSound 6 = .ok (.iload_n 3, 1) := by decide +kernel
theorem d_TR_countSound_7 : decode b_TR_countSound 7 = .ok (.bipush 40, 2) := by decide +kernel
theorem d_TR_countSound_9 : decode b_TR_countSound 9 = .ok (.if_icmp .ge 19, 3) := by decide +kernel
theorem d_TR_countSound_12 : decode b_TR_countSound 12 = .ok (.aload_n 0, 1) := by decide +kernel
theorem d_TR_countSound_13 : decode b_TR_countSound 13 = .ok (.invokestatic 73, 3) := by decide +kernel
theorem d_TR_countSound_16 : decode b_TR_countSound 16 = .ok (.ifCond .eq 12, 3) := by decide +kernel
theorem d_TR_countSound_19 : decode b_TR_countSound 19 = .ok (.aload_n 0, 1) := by decide +kernel
theorem d_TR_countSound_20 : decode b_TR_countSound 20 = .ok (.aload_n 1, 1) := by decide +kernel
theorem d_TR_countSound_21 : decode b_TR_countSound 21 = .ok (.aload_n 2, 1) := by decide +kernel
theorem d_TR_countSound_22 : decode b_TR_countSound 22 = .ok (.invokestatic 77, 3) := by decide +kernel
theorem d_TR_countSound_25 : decode b_TR_countSound 25 = .ok (.ifCond .ne 5, 3) := by decide +kernel
theorem d_TR_countSound_28 : decode b_TR_countSound 28 = .ok (.iconst (-1), 1) := by decide +kernel
theorem d_TR_countSound_29 : decode b_TR_countSound 29 = .ok (.ireturn, 1) := by decide +kernel
theorem d_TR_countSound_30 : decode b_TR_countSound 30 = .ok (.aload_n 0, 1) := by decide +kernel
theorem d_TR_countSound_31 : decode b_TR_countSound 31 = .ok (.getfield 23, 3) := by decide +kernel
theorem d_TR_countSound_34 : decode b_TR_countSound 34 = .ok (.aload_n 1, 1) := by decide +kernel
theorem d_TR_countSound_35 : decode b_TR_countSound 35 = .ok (.aload_n 0, 1) := by decide +kernel
theorem d_TR_countSound_36 : decode b_TR_countSound 36 = .ok (.iload_n 3, 1) := by decide +kernel
theorem d_TR_countSound_37 : decode b_TR_countSound 37 = .ok (.iconst 1, 1) := by decide +kernel
theorem d_TR_countSound_38 : decode b_TR_countSound 38 = .ok (.iadd, 1) := by decide +kernel
theorem d_TR_countSound_39 : decode b_TR_countSound 39 = .ok (.invokestatic 33, 3) := by decide +kernel
theorem d_TR_countSound_42 : decode b_TR_countSound 42 = .ok (.istore 4, 2) := by decide +kernel
theorem d_TR_countSound_44 : decode b_TR_countSound 44 = .ok (.aload_n 0, 1) := by decide +kernel
theorem d_TR_countSound_45 : decode b_TR_countSound 45 = .ok (.getfield 26, 3) := by decide +kernel
theorem d_TR_countSound_48 : decode b_TR_countSound 48 = .ok (.aload_n 0, 1) := by decide +kernel
theorem d_TR_countSound_49 : decode b_TR_countSound 49 = .ok (.aload_n 2, 1) := by decide +kernel
theorem d_TR_countSound_50 : decode b_TR_countSound 50 = .ok (.iload_n 3, 1) := by decide +kernel
theorem d_TR_countSound_51 : decode b_TR_countSound 51 = .ok (.iconst 1, 1) := by decide +kernel
theorem d_TR_countSound_52 : decode b_TR_countSound 52 = .ok (.iadd, 1) := by decide +kernel
theorem d_TR_countSound_53 : decode b_TR_countSound 53 = .ok (.invokestatic 33, 3) := by decide +kernel
theorem d_TR_countSound_56 : decode b_TR_countSound 56 = .ok (.istore 5, 2) := by decide +kernel
theorem d_TR_countSound_58 : decode b_TR_countSound 58 = .ok (.iload 4, 2) := by decide +kernel
theorem d_TR_countSound_60 : decode b_TR_countSound 60 = .ok (.ifCond .lt 8, 3) := by decide +kernel
theorem d_TR_countSound_63 : decode b_TR_countSound 63 = .ok (.iload 5, 2) := by decide +kernel
theorem d_TR_countSound_65 : decode b_TR_countSound 65 = .ok (.ifCond .ge 7, 3) := by decide +kernel
theorem d_TR_countSound_68 : decode b_TR_countSound 68 = .ok (.iconst (-1), 1) := by decide +kernel
theorem d_TR_countSound_69 : decode b_TR_countSound 69 = .ok (.goto 10, 3) := by decide +kernel
theorem d_TR_countSound_72 : decode b_TR_countSound 72 = .ok (.iload 4, 2) := by decide +kernel
theorem d_TR_countSound_74 : decode b_TR_countSound 74 = .ok (.iconst 1, 1) := by decide +kernel
theorem d_TR_countSound_75 : decode b_TR_countSound 75 = .ok (.iadd, 1) := by decide +kernel
theorem d_TR_countSound_76 : decode b_TR_countSound 76 = .ok (.iload 5, 2) := by decide +kernel
theorem d_TR_countSound_78 : decode b_TR_countSound 78 = .ok (.iadd, 1) := by decide +kernel
theorem d_TR_countSound_79 : decode b_TR_countSound 79 = .ok (.ireturn, 1) := by decide +kernel
theorem d_TR_isBalanced_0 : decode b_TR_isBalanced 0 = .ok (.aload_n 0, 1) := by decide +kernel
theorem d_TR_isBalanced_1 : decode b_TR_isBalanced 1 = .ok (.invokestatic 55, 3) := by decide +kernel
theorem d_TR_isBalanced_4 : decode b_TR_isBalanced 4 = .ok (.istore_n 1, 1) := by decide +kernel
theorem d_TR_isBalanced_5 : decode b_TR_isBalanced 5 = .ok (.aload_n 0, 1) := by decide +kernel
theorem d_TR_isBalanced_6 : decode b_TR_isBalanced 6 = .ok (.getfield 52, 3) := by decide +kernel
theorem d_TR_isBalanced_9 : decode b_TR_isBalanced 9 = .ok (.aload_n 0, 1) := by decide +kernel
theorem d_TR_isBalanced_10 : decode b_TR_isBalanced 10 = .ok (.invokestatic 48, 3) := by decide +kernel
theorem d_TR_isBalanced_13 : decode b_TR_isBalanced 13 = .ok (.if_icmp .ne 17, 3) := by decide +kernel
theorem d_TR_isBalanced_16 : decode b_TR_isBalanced 16 = .ok (.iload_n 1, 1) := by decide +kernel
theorem d_TR_isBalanced_17 : decode b_TR_isBalanced 17 = .ok (.iconst (-1), 1) := by decide +kernel
theorem d_TR_isBalanced_18 : decode b_TR_isBalanced 18 = .ok (.if_icmp .lt 12, 3) := by decide +kernel
theorem d_TR_isBalanced_21 : decode b_TR_isBalanced 21 = .ok (.iload_n 1, 1) := by decide +kernel
theorem d_TR_isBalanced_22 : decode b_TR_isBalanced 22 = .ok (.iconst 1, 1) := by decide +kernel
theorem d_TR_isBalanced_23 : decode b_TR_isBalanced 23 = .ok (.if_icmp .gt 7, 3) := by decide +kernel
theorem d_TR_isBalanced_26 : decode b_TR_isBalanced 26 = .ok (.iconst 1, 1) := by decide +kernel
theorem d_TR_isBalanced_27 : decode b_TR_isBalanced 27 = .ok (.goto 4, 3) := by decide +kernel
theorem d_TR_isBalanced_30 : decode b_TR_isBalanced 30 = .ok (.iconst 0, 1) := by decide +kernel
theorem d_TR_isBalanced_31 : decode b_TR_isBalanced 31 = .ok (.ireturn, 1) := by decide +kernel
theorem d_TR_leaning_0 : decode b_TR_leaning 0 = .ok (.aload_n 0, 1) := by decide +kernel
theorem d_TR_leaning_1 : decode b_TR_leaning 1 = .ok (.ifnonnull 7, 3) := by decide +kernel
theorem d_TR_leaning_4 : decode b_TR_leaning 4 = .ok (.iconst 0, 1) := by decide +kernel
theorem d_TR_leaning_5 : decode b_TR_leaning 5 = .ok (.goto 18, 3) := by decide +kernel
theorem d_TR_leaning_8 : decode b_TR_leaning 8 = .ok (.aload_n 0, 1) := by decide +kernel
theorem d_TR_leaning_9 : decode b_TR_leaning 9 = .ok (.getfield 23, 3) := by decide +kernel
theorem d_TR_leaning_12 : decode b_TR_leaning 12 = .ok (.invokestatic 64, 3) := by decide +kernel
theorem d_TR_leaning_15 : decode b_TR_leaning 15 = .ok (.aload_n 0, 1) := by decide +kernel
theorem d_TR_leaning_16 : decode b_TR_leaning 16 = .ok (.getfield 26, 3) := by decide +kernel
theorem d_TR_leaning_19 : decode b_TR_leaning 19 = .ok (.invokestatic 64, 3) := by decide +kernel
theorem d_TR_leaning_22 : decode b_TR_leaning 22 = .ok (.isub, 1) := by decide +kernel
theorem d_TR_leaning_23 : decode b_TR_leaning 23 = .ok (.ireturn, 1) := by decide +kernel
theorem d_TR_heightOf_0 : decode b_TR_heightOf 0 = .ok (.aload_n 0, 1) := by decide +kernel
theorem d_TR_heightOf_1 : decode b_TR_heightOf 1 = .ok (.ifnonnull 7, 3) := by decide +kernel
theorem d_TR_heightOf_4 : decode b_TR_heightOf 4 = .ok (.iconst 0, 1) := by decide +kernel
theorem d_TR_heightOf_5 : decode b_TR_heightOf 5 = .ok (.goto 7, 3) := by decide +kernel
theorem d_TR_heightOf_8 : decode b_TR_heightOf 8 = .ok (.aload_n 0, 1) := by decide +kernel
theorem d_TR_heightOf_9 : decode b_TR_heightOf 9 = .ok (.getfield 52, 3) := by decide +kernel
theorem d_TR_heightOf_12 : decode b_TR_heightOf 12 = .ok (.ireturn, 1) := by decide +kernel
theorem d_TR_heightFromSides_0 : decode b_TR_heightFromSides 0 = .ok (.iconst 1, 1) := by decide +kernel
theorem d_TR_heightFromSides_1 : decode b_TR_heightFromSides 1 = .ok (.aload_n 0, 1) := by decide +kernel
theorem d_TR_heightFromSides_2 : decode b_TR_heightFromSides 2 = .ok (.getfield 23, 3) := by decide +kernel
theorem d_TR_heightFromSides_5 : decode b_TR_heightFromSides 5 = .ok (.invokestatic 64, 3) := by decide +kernel
theorem d_TR_heightFromSides_8 : decode b_TR_heightFromSides 8 = .ok (.aload_n 0, 1) := by decide +kernel
theorem d_TR_heightFromSides_9 : decode b_TR_heightFromSides 9 = .ok (.getfield 26, 3) := by decide +kernel
theorem d_TR_heightFromSides_12 : decode b_TR_heightFromSides 12 = .ok (.invokestatic 64, 3) := by decide +kernel
theorem d_TR_heightFromSides_15 : decode b_TR_heightFromSides 15 = .ok (.invokestatic 67, 3) := by decide +kernel
theorem d_TR_heightFromSides_18 : decode b_TR_heightFromSides 18 = .ok (.iadd, 1) := by decide +kernel
theorem d_TR_heightFromSides_19 : decode b_TR_heightFromSides 19 = .ok (.ireturn, 1) := by decide +kernel
theorem d_TR_isBetween_0 : decode b_TR_isBetween 0 = .ok (.aload_n 1, 1) := by decide +kernel
theorem d_TR_isBetween_1 : decode b_TR_isBetween 1 = .ok (.ifnull 18, 3) := by decide +kernel
theorem d_TR_isBetween_4 : decode b_TR_isBetween 4 = .ok (.aload_n 1, 1) := by decide +kernel
theorem d_TR_isBetween_5 : decode b_TR_isBetween 5 = .ok (.aload_n 0, 1) := by decide +kernel
theorem d_TR_isBetween_6 : decode b_TR_isBetween 6 = .ok (.getfield 37, 3) := by decide +kernel
theorem d_TR_isBetween_9 : decode b_TR_isBetween 9 = .ok (.aload_n 0, 1) := by decide +kernel
theorem d_TR_isBetween_10 : decode b_TR_isBetween 10 = .ok (.getfield 41, 3) := by decide +kernel
theorem d_TR_isBetween_13 : decode b_TR_isBetween 13 = .ok (.invokevirtual 17, 3) := by decide +kernel
theorem d_TR_isBetween_16 : decode b_TR_isBetween 16 = .ok (.ifCond .le 26, 3) := by decide +kernel
theorem d_TR_isBetween_19 : decode b_TR_isBetween 19 = .ok (.aload_n 2, 1) := by decide +kernel
theorem d_TR_isBetween_20 : decode b_TR_isBetween 20 = .ok (.ifnull 18, 3) := by decide +kernel
theorem d_TR_isBetween_23 : decode b_TR_isBetween 23 = .ok (.aload_n 2, 1) := by decide +kernel
theorem d_TR_isBetween_24 : decode b_TR_isBetween 24 = .ok (.aload_n 0, 1) := by decide +kernel
theorem d_TR_isBetween_25 : decode b_TR_isBetween 25 = .ok (.getfield 37, 3) := by decide +kernel
theorem d_TR_isBetween_28 : decode b_TR_isBetween 28 = .ok (.aload_n 0, 1) := by decide +kernel
theorem d_TR_isBetween_29 : decode b_TR_isBetween 29 = .ok (.getfield 41, 3) := by decide +kernel
theorem d_TR_isBetween_32 : decode b_TR_isBetween 32 = .ok (.invokevirtual 17, 3) := by decide +kernel
theorem d_TR_isBetween_35 : decode b_TR_isBetween 35 = .ok (.ifCond .ge 7, 3) := by decide +kernel
theorem d_TR_isBetween_38 : decode b_TR_isBetween 38 = .ok (.iconst 1, 1) := by decide +kernel
theorem d_TR_isBetween_39 : decode b_TR_isBetween 39 = .ok (.goto 4, 3) := by decide +kernel
theorem d_TR_isBetween_42 : decode b_TR_isBetween 42 = .ok (.iconst 0, 1) := by decide +kernel
theorem d_TR_isBetween_43 : decode b_TR_isBetween 43 = .ok (.ireturn, 1) := by decide +kernel
theorem d_VE_orderOf_0 : decode b_VE_orderOf 0 = .ok (.aload_n 1, 1) := by decide +kernel
theorem d_VE_orderOf_1 : decode b_VE_orderOf 1 = .ok (.aload_n 0, 1) := by decide +kernel
theorem d_VE_orderOf_2 : decode b_VE_orderOf 2 = .ok (.getfield 7, 3) := by decide +kernel
theorem d_VE_orderOf_5 : decode b_VE_orderOf 5 = .ok (.invokestatic 33, 3) := by decide +kernel
theorem d_VE_orderOf_8 : decode b_VE_orderOf 8 = .ok (.istore_n 3, 1) := by decide +kernel
theorem d_VE_orderOf_9 : decode b_VE_orderOf 9 = .ok (.iload_n 3, 1) := by decide +kernel
theorem d_VE_orderOf_10 : decode b_VE_orderOf 10 = .ok (.ifCond .eq 7, 3) := by decide +kernel
theorem d_VE_orderOf_13 : decode b_VE_orderOf 13 = .ok (.iload_n 3, 1) := by decide +kernel
theorem d_VE_orderOf_14 : decode b_VE_orderOf 14 = .ok (.goto 11, 3) := by decide +kernel
theorem d_VE_orderOf_17 : decode b_VE_orderOf 17 = .ok (.aload_n 0, 1) := by decide +kernel
theorem d_VE_orderOf_18 : decode b_VE_orderOf 18 = .ok (.getfield 13, 3) := by decide +kernel
theorem d_VE_orderOf_21 : decode b_VE_orderOf 21 = .ok (.iload_n 2, 1) := by decide +kernel
theorem d_VE_orderOf_22 : decode b_VE_orderOf 22 = .ok (.invokestatic 37, 3) := by decide +kernel
theorem d_VE_orderOf_25 : decode b_VE_orderOf 25 = .ok (.ireturn, 1) := by decide +kernel
theorem d_VE_orderOfKeys_0 : decode b_VE_orderOfKeys 0 = .ok (.aload_n 0, 1) := by decide +kernel
theorem d_VE_orderOfKeys_1 : decode b_VE_orderOfKeys 1 = .ok (.arraylength, 1) := by decide +kernel
theorem d_VE_orderOfKeys_2 : decode b_VE_orderOfKeys 2 = .ok (.aload_n 1, 1) := by decide +kernel
theorem d_VE_orderOfKeys_3 : decode b_VE_orderOfKeys 3 = .ok (.arraylength, 1) := by decide +kernel
theorem d_VE_orderOfKeys_4 : decode b_VE_orderOfKeys 4 = .ok (.invokestatic 43, 3) := by decide +kernel
theorem d_VE_orderOfKeys_7 : decode b_VE_orderOfKeys 7 = .ok (.istore_n 2, 1) := by decide +kernel
theorem d_VE_orderOfKeys_8 : decode b_VE_orderOfKeys 8 = .ok (.iconst 0, 1) := by decide +kernel
theorem d_VE_orderOfKeys_9 : decode b_VE_orderOfKeys 9 = .ok (.istore_n 3, 1) := by decide +kernel
theorem d_VE_orderOfKeys_10 : decode b_VE_orderOfKeys 10 = .ok (.iload_n 3, 1) := by decide +kernel
theorem d_VE_orderOfKeys_11 : decode b_VE_orderOfKeys 11 = .ok (.iload_n 2, 1) := by decide +kernel
theorem d_VE_orderOfKeys_12 : decode b_VE_orderOfKeys 12 = .ok (.if_icmp .ge 34, 3) := by decide +kernel
theorem d_VE_orderOfKeys_15 : decode b_VE_orderOfKeys 15 = .ok (.aload_n 0, 1) := by decide +kernel
theorem d_VE_orderOfKeys_16 : decode b_VE_orderOfKeys 16 = .ok (.iload_n 3, 1) := by decide +kernel
theorem d_VE_orderOfKeys_17 : decode b_VE_orderOfKeys 17 = .ok (.baload, 1) := by decide +kernel
theorem d_VE_orderOfKeys_18 : decode b_VE_orderOfKeys 18 = .ok (.sipush 255, 3) := by decide +kernel
theorem d_VE_orderOfKeys_21 : decode b_VE_orderOfKeys 21 = .ok (.iand, 1) := by decide +kernel
theorem d_VE_orderOfKeys_22 : decode b_VE_orderOfKeys 22 = .ok (.aload_n 1, 1) := by decide +kernel
theorem d_VE_orderOfKeys_23 : decode b_VE_orderOfKeys 23 = .ok (.iload_n 3, 1) := by decide +kernel
theorem d_VE_orderOfKeys_24 : decode b_VE_orderOfKeys 24 = .ok (.baload, 1) := by decide +kernel
theorem d_VE_orderOfKeys_25 : decode b_VE_orderOfKeys 25 = .ok (.sipush 255, 3) := by decide +kernel
theorem d_VE_orderOfKeys_28 : decode b_VE_orderOfKeys 28 = .ok (.iand, 1) := by decide +kernel
theorem d_VE_orderOfKeys_29 : decode b_VE_orderOfKeys 29 = .ok (.isub, 1) := by decide +kernel
theorem d_VE_orderOfKeys_30 : decode b_VE_orderOfKeys 30 = .ok (.istore 4, 2) := by decide +kernel
theorem d_VE_orderOfKeys_32 : decode b_VE_orderOfKeys 32 = .ok (.iload 4, 2) := by decide +kernel
theorem d_VE_orderOfKeys_34 : decode b_VE_orderOfKeys 34 = .ok (.ifCond .eq 6, 3) := by decide +kernel
theorem d_VE_orderOfKeys_37 : decode b_VE_orderOfKeys 37 = .ok (.iload 4, 2) := by decide +kernel
theorem d_VE_orderOfKeys_39 : decode b_VE_orderOfKeys 39 = .ok (.ireturn, 1) := by decide +kernel
theorem d_VE_orderOfKeys_40 : decode b_VE_orderOfKeys 40 = .ok (.iinc 3 1, 3) := by decide +kernel
theorem d_VE_orderOfKeys_43 : decode b_VE_orderOfKeys 43 = .ok (.goto (-33), 3) := by decide +kernel
theorem d_VE_orderOfKeys_46 : decode b_VE_orderOfKeys 46 = .ok (.aload_n 0, 1) := by decide +kernel
theorem d_VE_orderOfKeys_47 : decode b_VE_orderOfKeys 47 = .ok (.arraylength, 1) := by decide +kernel
theorem d_VE_orderOfKeys_48 : decode b_VE_orderOfKeys 48 = .ok (.aload_n 1, 1) := by decide +kernel
theorem d_VE_orderOfKeys_49 : decode b_VE_orderOfKeys 49 = .ok (.arraylength, 1) := by decide +kernel
theorem d_VE_orderOfKeys_50 : decode b_VE_orderOfKeys 50 = .ok (.isub, 1) := by decide +kernel
theorem d_VE_orderOfKeys_51 : decode b_VE_orderOfKeys 51 = .ok (.ireturn, 1) := by decide +kernel
theorem d_JI_compare_0 : decode b_JI_compare 0 = .ok (.iload_n 0, 1) := by decide +kernel
theorem d_JI_compare_1 : decode b_JI_compare 1 = .ok (.iload_n 1, 1) := by decide +kernel
theorem d_JI_compare_2 : decode b_JI_compare 2 = .ok (.if_icmp .ge 7, 3) := by decide +kernel
theorem d_JI_compare_5 : decode b_JI_compare 5 = .ok (.iconst (-1), 1) := by decide +kernel
theorem d_JI_compare_6 : decode b_JI_compare 6 = .ok (.goto 13, 3) := by decide +kernel
theorem d_JI_compare_9 : decode b_JI_compare 9 = .ok (.iload_n 0, 1) := by decide +kernel
theorem d_JI_compare_10 : decode b_JI_compare 10 = .ok (.iload_n 1, 1) := by decide +kernel
theorem d_JI_compare_11 : decode b_JI_compare 11 = .ok (.if_icmp .ne 7, 3) := by decide +kernel
theorem d_JI_compare_14 : decode b_JI_compare 14 = .ok (.iconst 0, 1) := by decide +kernel
theorem d_JI_compare_15 : decode b_JI_compare 15 = .ok (.goto 4, 3) := by decide +kernel
theorem d_JI_compare_18 : decode b_JI_compare 18 = .ok (.iconst 1, 1) := by decide +kernel
theorem d_JI_compare_19 : decode b_JI_compare 19 = .ok (.ireturn, 1) := by decide +kernel
theorem d_LA_feed_0 : decode b_LA_feed 0 = .ok (.aload 6, 2) := by decide +kernel
theorem d_LA_feed_2 : decode b_LA_feed 2 = .ok (.iconst 0, 1) := by decide +kernel
theorem d_LA_feed_3 : decode b_LA_feed 3 = .ok (.aload_n 0, 1) := by decide +kernel
theorem d_LA_feed_4 : decode b_LA_feed 4 = .ok (.iload_n 1, 1) := by decide +kernel
theorem d_LA_feed_5 : decode b_LA_feed 5 = .ok (.iload_n 2, 1) := by decide +kernel
theorem d_LA_feed_6 : decode b_LA_feed 6 = .ok (.iload_n 3, 1) := by decide +kernel
theorem d_LA_feed_7 : decode b_LA_feed 7 = .ok (.iload 4, 2) := by decide +kernel
theorem d_LA_feed_9 : decode b_LA_feed 9 = .ok (.iload 5, 2) := by decide +kernel
theorem d_LA_feed_11 : decode b_LA_feed 11 = .ok (.invokevirtual 7, 3) := by decide +kernel
theorem d_LA_feed_14 : decode b_LA_feed 14 = .ok (.i2l, 1) := by decide +kernel
theorem d_LA_feed_15 : decode b_LA_feed 15 = .ok (.lastore, 1) := by decide +kernel
theorem d_LA_feed_16 : decode b_LA_feed 16 = .ok (.goto 7, 3) := by decide +kernel
theorem d_LA_feed_19 : decode b_LA_feed 19 = .ok (.astore 7, 2) := by decide +kernel
theorem d_LA_feed_21 : decode b_LA_feed 21 = .ok (.iconst 1, 1) := by decide +kernel
theorem d_LA_feed_22 : decode b_LA_feed 22 = .ok (.ireturn, 1) := by decide +kernel
theorem d_LA_feed_23 : decode b_LA_feed 23 = .ok (.iconst 0, 1) := by decide +kernel
theorem d_LA_feed_24 : decode b_LA_feed 24 = .ok (.ireturn, 1) := by decide +kernel
theorem d_MT_feed_0 : decode b_MT_feed 0 = .ok (.aload_n 0, 1) := by decide +kernel
theorem d_MT_feed_1 : decode b_MT_feed 1 = .ok (.getfield 13, 3) := by decide +kernel
theorem d_MT_feed_4 : decode b_MT_feed 4 = .ok (.bipush 40, 2) := by decide +kernel
theorem d_MT_feed_6 : decode b_MT_feed 6 = .ok (.if_icmp .le 11, 3) := by decide +kernel
theorem d_MT_feed_9 : decode b_MT_feed 9 = .ok (.new 28, 3) := by decide +kernel
theorem d_MT_feed_12 : decode b_MT_feed 12 = .ok (.dup, 1) := by decide +kernel
theorem d_MT_feed_13 : decode b_MT_feed 13 = .ok (.invokespecial 30, 3) := by decide +kernel
theorem d_MT_feed_16 : decode b_MT_feed 16 = .ok (.athrow, 1) := by decide +kernel
theorem d_MT_feed_17 : decode b_MT_feed 17 = .ok (.aload_n 0, 1) := by decide +kernel
theorem d_MT_feed_18 : decode b_MT_feed 18 = .ok (.iload_n 1, 1) := by decide +kernel
theorem d_MT_feed_19 : decode b_MT_feed 19 = .ok (.invokevirtual 31, 3) := by decide +kernel
theorem d_MT_feed_22 : decode b_MT_feed 22 = .ok (.aload_n 0, 1) := by decide +kernel
theorem d_MT_feed_23 : decode b_MT_feed 23 = .ok (.iload_n 2, 1) := by decide +kernel
theorem d_MT_feed_24 : decode b_MT_feed 24 = .ok (.invokevirtual 31, 3) := by decide +kernel
theorem d_MT_feed_27 : decode b_MT_feed 27 = .ok (.aload_n 0, 1) := by decide +kernel
theorem d_MT_feed_28 : decode b_MT_feed 28 = .ok (.iload_n 3, 1) := by decide +kernel
theorem d_MT_feed_29 : decode b_MT_feed 29 = .ok (.invokevirtual 31, 3) := by decide +kernel
theorem d_MT_feed_32 : decode b_MT_feed 32 = .ok (.aload_n 0, 1) := by decide +kernel
theorem d_MT_feed_33 : decode b_MT_feed 33 = .ok (.iload 4, 2) := by decide +kernel
theorem d_MT_feed_35 : decode b_MT_feed 35 = .ok (.invokevirtual 31, 3) := by decide +kernel
theorem d_MT_feed_38 : decode b_MT_feed 38 = .ok (.aload_n 0, 1) := by decide +kernel
theorem d_MT_feed_39 : decode b_MT_feed 39 = .ok (.iload 5, 2) := by decide +kernel
theorem d_MT_feed_41 : decode b_MT_feed 41 = .ok (.invokevirtual 31, 3) := by decide +kernel
theorem d_MT_feed_44 : decode b_MT_feed 44 = .ok (.aload_n 0, 1) := by decide +kernel
theorem d_MT_feed_45 : decode b_MT_feed 45 = .ok (.getfield 13, 3) := by decide +kernel
theorem d_MT_feed_48 : decode b_MT_feed 48 = .ok (.ireturn, 1) := by decide +kernel
theorem d_MT_append_0 : decode b_MT_append 0 = .ok (.bipush 24, 2) := by decide +kernel
theorem d_MT_append_2 : decode b_MT_append 2 = .ok (.istore_n 2, 1) := by decide +kernel
theorem d_MT_append_3 : decode b_MT_append 3 = .ok (.iload_n 2, 1) := by decide +kernel
theorem d_MT_append_4 : decode b_MT_append 4 = .ok (.ifCond .lt 41, 3) := by decide +kernel
theorem d_MT_append_7 : decode b_MT_append 7 = .ok (.aload_n 0, 1) := by decide +kernel
theorem d_MT_append_8 : decode b_MT_append 8 = .ok (.getfield 13, 3) := by decide +kernel
theorem d_MT_append_11 : decode b_MT_append 11 = .ok (.bipush 60, 2) := by decide +kernel
theorem d_MT_append_13 : decode b_MT_append 13 = .ok (.if_icmp .ge 32, 3) := by decide +kernel
theorem d_MT_append_16 : decode b_MT_append 16 = .ok (.aload_n 0, 1) := by decide +kernel
theorem d_MT_append_17 : decode b_MT_append 17 = .ok (.getfield 9, 3) := by decide +kernel
theorem d_MT_append_20 : decode b_MT_append 20 = .ok (.aload_n 0, 1) := by decide +kernel
theorem d_MT_append_21 : decode b_MT_append 21 = .ok (.getfield 13, 3) := by decide +kernel
theorem d_MT_append_24 : decode b_MT_append 24 = .ok (.iload_n 1, 1) := by decide +kernel
theorem d_MT_append_25 : decode b_MT_append 25 = .ok (.iload_n 2, 1) := by decide +kernel
theorem d_MT_append_26 : decode b_MT_append 26 = .ok (.ishr, 1) := by decide +kernel
theorem d_MT_append_27 : decode b_MT_append 27 = .ok (.i2b, 1) := by decide +kernel
theorem d_MT_append_28 : decode b_MT_append 28 = .ok (.bastore, 1) := by decide +kernel
theorem d_MT_append_29 : decode b_MT_append 29 = .ok (.aload_n 0, 1) := by decide +kernel
theorem d_MT_append_30 : decode b_MT_append 30 = .ok (.dup, 1) := by decide +kernel
theorem d_MT_append_31 : decode b_MT_append 31 = .ok (.getfield 13, 3) := by decide +kernel
theorem d_MT_append_34 : decode b_MT_append 34 = .ok (.iconst 1, 1) := by decide +kernel
theorem d_MT_append_35 : decode b_MT_append 35 = .ok (.iadd, 1) := by decide +kernel
theorem d_MT_append_36 : decode b_MT_append 36 = .ok (.putfield 13, 3) := by decide +kernel
theorem d_MT_append_39 : decode b_MT_append 39 = .ok (.iinc 2 (-8), 3) := by decide +kernel
theorem d_MT_append_42 : decode b_MT_append 42 = .ok (.goto (-39), 3) := by decide +kernel
theorem d_MT_append_45 : decode b_MT_append 45 = .ok (.return_, 1) := by decide +kernel
theorem d_LA_end_0 : decode b_LA_end 0 = .ok (.aload_n 2, 1) := by decide +kernel
theorem d_LA_end_1 : decode b_LA_end 1 = .ok (.iconst 0, 1) := by decide +kernel
theorem d_LA_end_2 : decode b_LA_end 2 = .ok (.aload_n 0, 1) := by decide +kernel
theorem d_LA_end_3 : decode b_LA_end 3 = .ok (.iload_n 1, 1) := by decide +kernel
theorem d_LA_end_4 : decode b_LA_end 4 = .ok (.invokevirtual 15, 3) := by decide +kernel
theorem d_LA_end_7 : decode b_LA_end 7 = .ok (.i2l, 1) := by decide +kernel
theorem d_LA_end_8 : decode b_LA_end 8 = .ok (.lastore, 1) := by decide +kernel
theorem d_LA_end_9 : decode b_LA_end 9 = .ok (.goto 6, 3) := by decide +kernel
theorem d_LA_end_12 : decode b_LA_end 12 = .ok (.astore_n 3, 1) := by decide +kernel
theorem d_LA_end_13 : decode b_LA_end 13 = .ok (.iconst 1, 1) := by decide +kernel
theorem d_LA_end_14 : decode b_LA_end 14 = .ok (.ireturn, 1) := by decide +kernel
theorem d_LA_end_15 : decode b_LA_end 15 = .ok (.iconst 0, 1) := by decide +kernel
theorem d_LA_end_16 : decode b_LA_end 16 = .ok (.ireturn, 1) := by decide +kernel
theorem d_MT_end_0 : decode b_MT_end 0 = .ok (.iload_n 1, 1) := by decide +kernel
theorem d_MT_end_1 : decode b_MT_end 1 = .ok (.ifCond .lt 11, 3) := by decide +kernel
theorem d_MT_end_4 : decode b_MT_end 4 = .ok (.iload_n 1, 1) := by decide +kernel
theorem d_MT_end_5 : decode b_MT_end 5 = .ok (.aload_n 0, 1) := by decide +kernel
theorem d_MT_end_6 : decode b_MT_end 6 = .ok (.getfield 13, 3) := by decide +kernel
theorem d_MT_end_9 : decode b_MT_end 9 = .ok (.if_icmp .le 11, 3) := by decide +kernel
theorem d_MT_end_12 : decode b_MT_end 12 = .ok (.new 35, 3) := by decide +kernel
theorem d_MT_end_15 : decode b_MT_end 15 = .ok (.dup, 1) := by decide +kernel
theorem d_MT_end_16 : decode b_MT_end 16 = .ok (.invokespecial 37, 3) := by decide +kernel
theorem d_MT_end_19 : decode b_MT_end 19 = .ok (.athrow, 1) := by decide +kernel
theorem d_MT_end_20 : decode b_MT_end 20 = .ok (.aload_n 0, 1) := by decide +kernel
theorem d_MT_end_21 : decode b_MT_end 21 = .ok (.iload_n 1, 1) := by decide +kernel
theorem d_MT_end_22 : decode b_MT_end 22 = .ok (.putfield 13, 3) := by decide +kernel
theorem d_MT_end_25 : decode b_MT_end 25 = .ok (.iload_n 1, 1) := by decide +kernel
theorem d_MT_end_26 : decode b_MT_end 26 = .ok (.ireturn, 1) := by decide +kernel
theorem d_LA_put_0 : decode b_LA_put 0 = .ok (.aload 4, 2) := by decide +kernel
theorem d_LA_put_2 : decode b_LA_put 2 = .ok (.iconst 0, 1) := by decide +kernel
theorem d_LA_put_3 : decode b_LA_put 3 = .ok (.aload_n 0, 1) := by decide +kernel
theorem d_LA_put_4 : decode b_LA_put 4 = .ok (.iload_n 1, 1) := by decide +kernel
theorem d_LA_put_5 : decode b_LA_put 5 = .ok (.iload_n 2, 1) := by decide +kernel
theorem d_LA_put_6 : decode b_LA_put 6 = .ok (.iload_n 3, 1) := by decide +kernel
theorem d_LA_put_7 : decode b_LA_put 7 = .ok (.invokevirtual 21, 3) := by decide +kernel
theorem d_LA_put_10 : decode b_LA_put 10 = .ok (.i2l, 1) := by decide +kernel
theorem d_LA_put_11 : decode b_LA_put 11 = .ok (.lastore, 1) := by decide +kernel
theorem d_LA_put_12 : decode b_LA_put 12 = .ok (.goto 11, 3) := by decide +kernel
theorem d_LA_put_15 : decode b_LA_put 15 = .ok (.astore 5, 2) := by decide +kernel
theorem d_LA_put_17 : decode b_LA_put 17 = .ok (.iconst 1, 1) := by decide +kernel
theorem d_LA_put_18 : decode b_LA_put 18 = .ok (.ireturn, 1) := by decide +kernel
theorem d_LA_put_19 : decode b_LA_put 19 = .ok (.astore 5, 2) := by decide +kernel
theorem d_LA_put_21 : decode b_LA_put 21 = .ok (.iconst 2, 1) := by decide +kernel
theorem d_LA_put_22 : decode b_LA_put 22 = .ok (.ireturn, 1) := by decide +kernel
theorem d_LA_put_23 : decode b_LA_put 23 = .ok (.iconst 0, 1) := by decide +kernel
theorem d_LA_put_24 : decode b_LA_put 24 = .ok (.ireturn, 1) := by decide +kernel
theorem d_MT_put_0 : decode b_MT_put 0 = .ok (.iload_n 1, 1) := by decide +kernel
theorem d_MT_put_1 : decode b_MT_put 1 = .ok (.ifCond .lt 26, 3) := by decide +kernel
theorem d_MT_put_4 : decode b_MT_put 4 = .ok (.iload_n 2, 1) := by decide +kernel
theorem d_MT_put_5 : decode b_MT_put 5 = .ok (.iconst (-1), 1) := by decide +kernel
theorem d_MT_put_6 : decode b_MT_put 6 = .ok (.if_icmp .lt 21, 3) := by decide +kernel
theorem d_MT_put_9 : decode b_MT_put 9 = .ok (.iload_n 3, 1) := by decide +kernel
theorem d_MT_put_10 : decode b_MT_put 10 = .ok (.ifCond .lt 17, 3) := by decide +kernel
theorem d_MT_put_13 : decode b_MT_put 13 = .ok (.iload_n 3, 1) := by decide +kernel
theorem d_MT_put_14 : decode b_MT_put 14 = .ok (.sipush 1000, 3) := by decide +kernel
theorem d_MT_put_17 : decode b_MT_put 17 = .ok (.if_icmp .gt 10, 3) := by decide +kernel
theorem d_MT_put_20 : decode b_MT_put 20 = .ok (.aload_n 0, 1) := by decide +kernel
theorem d_MT_put_21 : decode b_MT_put 21 = .ok (.invokevirtual 38, 3) := by decide +kernel
theorem d_MT_put_24 : decode b_MT_put 24 = .ok (.ifCond .ne 11, 3) := by decide +kernel
theorem d_MT_put_27 : decode b_MT_put 27 = .ok (.new 35, 3) := by decide +kernel
theorem d_MT_put_30 : decode b_MT_put 30 = .ok (.dup, 1) := by decide +kernel
theorem d_MT_put_31 : decode b_MT_put 31 = .ok (.invokespecial 37, 3) := by decide +kernel
theorem d_MT_put_34 : decode b_MT_put 34 = .ok (.athrow, 1) := by decide +kernel
theorem d_MT_put_35 : decode b_MT_put 35 = .ok (.aload_n 0, 1) := by decide +kernel
theorem d_MT_put_36 : decode b_MT_put 36 = .ok (.invokevirtual 42, 3) := by decide +kernel
theorem d_MT_put_39 : decode b_MT_put 39 = .ok (.astore 4, 2) := by decide +kernel
theorem d_MT_put_41 : decode b_MT_put 41 = .ok (.aload_n 0, 1) := by decide +kernel
theorem d_MT_put_42 : decode b_MT_put 42 = .ok (.getfield 20, 3) := by decide +kernel
theorem d_MT_put_45 : decode b_MT_put 45 = .ok (.aload 4, 2) := by decide +kernel
theorem d_MT_put_47 : decode b_MT_put 47 = .ok (.iload_n 1, 1) := by decide +kernel
theorem d_MT_put_48 : decode b_MT_put 48 = .ok (.iconst 0, 1) := by decide +kernel
theorem d_MT_put_49 : decode b_MT_put 49 = .ok (.invokevirtual 46, 3) := by decide +kernel
theorem d_MT_put_52 : decode b_MT_put 52 = .ok (.astore 5, 2) := by decide +kernel
theorem d_MT_put_54 : decode b_MT_put 54 = .ok (.aload 5, 2) := by decide +kernel
theorem d_MT_put_56 : decode b_MT_put 56 = .ok (.ifnull 34, 3) := by decide +kernel
theorem d_MT_put_59 : decode b_MT_put 59 = .ok (.aload 5, 2) := by decide +kernel
theorem d_MT_put_61 : decode b_MT_put 61 = .ok (.aload 4, 2) := by decide +kernel
theorem d_MT_put_63 : decode b_MT_put 63 = .ok (.iload_n 1, 1) := by decide +kernel
theorem d_MT_put_64 : decode b_MT_put 64 = .ok (.invokevirtual 50, 3) := by decide +kernel
theorem d_MT_put_67 : decode b_MT_put 67 = .ok (.ifCond .ne 23, 3) := by decide +kernel
theorem d_MT_put_70 : decode b_MT_put 70 = .ok (.aload 5, 2) := by decide +kernel
theorem d_MT_put_72 : decode b_MT_put 72 = .ok (.iload_n 2, 1) := by decide +kernel
theorem d_MT_put_73 : decode b_MT_put 73 = .ok (.putfield 56, 3) := by decide +kernel
theorem d_MT_put_76 : decode b_MT_put 76 = .ok (.aload 5, 2) := by decide +kernel
theorem d_MT_put_78 : decode b_MT_put 78 = .ok (.iload_n 3, 1) := by decide +kernel
theorem d_MT_put_79 : decode b_MT_put 79 = .ok (.putfield 59, 3) := by decide +kernel
theorem d_MT_put_82 : decode b_MT_put 82 = .ok (.aload_n 0, 1) := by decide +kernel
theorem d_MT_put_83 : decode b_MT_put 83 = .ok (.getfield 20, 3) := by decide +kernel
theorem d_MT_put_86 : decode b_MT_put 86 = .ok (.getfield 62, 3) := by decide +kernel
theorem d_MT_put_89 : decode b_MT_put 89 = .ok (.ireturn, 1) := by decide +kernel
theorem d_MT_put_90 : decode b_MT_put 90 = .ok (.aload_n 0, 1) := by decide +kernel
theorem d_MT_put_91 : decode b_MT_put 91 = .ok (.getfield 20, 3) := by decide +kernel
theorem d_MT_put_94 : decode b_MT_put 94 = .ok (.getfield 62, 3) := by decide +kernel
theorem d_MT_put_97 : decode b_MT_put 97 = .ok (.sipush 160, 3) := by decide +kernel
theorem d_MT_put_100 : decode b_MT_put 100 = .ok (.if_icmp .lt 11, 3) := by decide +kernel
theorem d_MT_put_103 : decode b_MT_put 103 = .ok (.new 65, 3) := by decide +kernel
theorem d_MT_put_106 : decode b_MT_put 106 = .ok (.dup, 1) := by decide +kernel
theorem d_MT_put_107 : decode b_MT_put 107 = .ok (.invokespecial 67, 3) := by decide +kernel
theorem d_MT_put_110 : decode b_MT_put 110 = .ok (.athrow, 1) := by decide +kernel
theorem d_MT_put_111 : decode b_MT_put 111 = .ok (.aload_n 0, 1) := by decide +kernel
theorem d_MT_put_112 : decode b_MT_put 112 = .ok (.getfield 20, 3) := by decide +kernel
theorem d_MT_put_115 : decode b_MT_put 115 = .ok (.new 51, 3) := by decide +kernel
theorem d_MT_put_118 : decode b_MT_put 118 = .ok (.dup, 1) := by decide +kernel
theorem d_MT_put_119 : decode b_MT_put 119 = .ok (.aload 4, 2) := by decide +kernel
theorem d_MT_put_121 : decode b_MT_put 121 = .ok (.iload_n 1, 1) := by decide +kernel
theorem d_MT_put_122 : decode b_MT_put 122 = .ok (.iload_n 2, 1) := by decide +kernel
theorem d_MT_put_123 : decode b_MT_put 123 = .ok (.iload_n 3, 1) := by decide +kernel
theorem d_MT_put_124 : decode b_MT_put 124 = .ok (.invokespecial 68, 3) := by decide +kernel
theorem d_MT_put_127 : decode b_MT_put 127 = .ok (.invokevirtual 71, 3) := by decide +kernel
theorem d_MT_put_130 : decode b_MT_put 130 = .ok (.aload_n 0, 1) := by decide +kernel
theorem d_MT_put_131 : decode b_MT_put 131 = .ok (.getfield 20, 3) := by decide +kernel
theorem d_MT_put_134 : decode b_MT_put 134 = .ok (.getfield 62, 3) := by decide +kernel
theorem d_MT_put_137 : decode b_MT_put 137 = .ok (.ireturn, 1) := by decide +kernel
theorem d_MT_tapeIsKey_0 : decode b_MT_tapeIsKey 0 = .ok (.aload_n 0, 1) := by decide +kernel
theorem d_MT_tapeIsKey_1 : decode b_MT_tapeIsKey 1 = .ok (.getfield 13, 3) := by decide +kernel
theorem d_MT_tapeIsKey_4 : decode b_MT_tapeIsKey 4 = .ok (.iconst 1, 1) := by decide +kernel
theorem d_MT_tapeIsKey_5 : decode b_MT_tapeIsKey 5 = .ok (.if_icmp .lt 16, 3) := by decide +kernel
theorem d_MT_tapeIsKey_8 : decode b_MT_tapeIsKey 8 = .ok (.aload_n 0, 1) := by decide +kernel
theorem d_MT_tapeIsKey_9 : decode b_MT_tapeIsKey 9 = .ok (.getfield 13, 3) := by decide +kernel
theorem d_MT_tapeIsKey_12 : decode b_MT_tapeIsKey 12 = .ok (.bipush 40, 2) := by decide +kernel
theorem d_MT_tapeIsKey_14 : decode b_MT_tapeIsKey 14 = .ok (.if_icmp .gt 7, 3) := by decide +kernel
theorem d_MT_tapeIsKey_17 : decode b_MT_tapeIsKey 17 = .ok (.iconst 1, 1) := by decide +kernel
theorem d_MT_tapeIsKey_18 : decode b_MT_tapeIsKey 18 = .ok (.goto 4, 3) := by decide +kernel
theorem d_MT_tapeIsKey_21 : decode b_MT_tapeIsKey 21 = .ok (.iconst 0, 1) := by decide +kernel
theorem d_MT_tapeIsKey_22 : decode b_MT_tapeIsKey 22 = .ok (.ireturn, 1) := by decide +kernel
theorem d_MT_takeTape_0 : decode b_MT_takeTape 0 = .ok (.aload_n 0, 1) := by decide +kernel
theorem d_MT_takeTape_1 : decode b_MT_takeTape 1 = .ok (.getfield 9, 3) := by decide +kernel
theorem d_MT_takeTape_4 : decode b_MT_takeTape 4 = .ok (.aload_n 0, 1) := by decide +kernel
theorem d_MT_takeTape_5 : decode b_MT_takeTape 5 = .ok (.getfield 13, 3) := by decide +kernel
theorem d_MT_takeTape_8 : decode b_MT_takeTape 8 = .ok (.invokestatic 102, 3) := by decide +kernel
theorem d_MT_takeTape_11 : decode b_MT_takeTape 11 = .ok (.astore_n 1, 1) := by decide +kernel
theorem d_MT_takeTape_12 : decode b_MT_takeTape 12 = .ok (.aload_n 0, 1) := by decide +kernel
theorem d_MT_takeTape_13 : decode b_MT_takeTape 13 = .ok (.iconst 0, 1) := by decide +kernel
theorem d_MT_takeTape_14 : decode b_MT_takeTape 14 = .ok (.putfield 13, 3) := by decide +kernel
theorem d_MT_takeTape_17 : decode b_MT_takeTape 17 = .ok (.aload_n 1, 1) := by decide +kernel
theorem d_MT_takeTape_18 : decode b_MT_takeTape 18 = .ok (.areturn, 1) := by decide +kernel
theorem d_JA_copyOf_0 : decode b_JA_copyOf 0 = .ok (.iload_n 1, 1) := by decide +kernel
theorem d_JA_copyOf_1 : decode b_JA_copyOf 1 = .ok (.aload_n 0, 1) := by decide +kernel
theorem d_JA_copyOf_2 : decode b_JA_copyOf 2 = .ok (.arraylength, 1) := by decide +kernel
theorem d_JA_copyOf_3 : decode b_JA_copyOf 3 = .ok (.if_icmp .ne 11, 3) := by decide +kernel
theorem d_JA_copyOf_6 : decode b_JA_copyOf 6 = .ok (.aload_n 0, 1) := by decide +kernel
theorem d_JA_copyOf_7 : decode b_JA_copyOf 7 = .ok (.invokevirtual 310, 3) := by decide +kernel
theorem d_JA_copyOf_10 : decode b_JA_copyOf 10 = .ok (.checkcast 311, 3) := by decide +kernel
theorem d_JA_copyOf_13 : decode b_JA_copyOf 13 = .ok (.areturn, 1) := by decide +kernel
theorem d_JA_copyOf_14 : decode b_JA_copyOf 14 = .ok (.iload_n 1, 1) := by decide +kernel
theorem d_JA_copyOf_15 : decode b_JA_copyOf 15 = .ok (.newarray .byte, 2) := by decide +kernel
theorem d_JA_copyOf_17 : decode b_JA_copyOf 17 = .ok (.astore_n 2, 1) := by decide +kernel
theorem d_JA_copyOf_18 : decode b_JA_copyOf 18 = .ok (.aload_n 0, 1) := by decide +kernel
theorem d_JA_copyOf_19 : decode b_JA_copyOf 19 = .ok (.iconst 0, 1) := by decide +kernel
theorem d_JA_copyOf_20 : decode b_JA_copyOf 20 = .ok (.aload_n 2, 1) := by decide +kernel
theorem d_JA_copyOf_21 : decode b_JA_copyOf 21 = .ok (.iconst 0, 1) := by decide +kernel
theorem d_JA_copyOf_22 : decode b_JA_copyOf 22 = .ok (.aload_n 0, 1) := by decide +kernel
theorem d_JA_copyOf_23 : decode b_JA_copyOf 23 = .ok (.arraylength, 1) := by decide +kernel
theorem d_JA_copyOf_24 : decode b_JA_copyOf 24 = .ok (.iload_n 1, 1) := by decide +kernel
theorem d_JA_copyOf_25 : decode b_JA_copyOf 25 = .ok (.invokestatic 304, 3) := by decide +kernel
theorem d_JA_copyOf_28 : decode b_JA_copyOf 28 = .ok (.invokestatic 150, 3) := by decide +kernel
theorem d_JA_copyOf_31 : decode b_JA_copyOf 31 = .ok (.aload_n 2, 1) := by decide +kernel
theorem d_JA_copyOf_32 : decode b_JA_copyOf 32 = .ok (.areturn, 1) := by decide +kernel
theorem d_TR_firstFrom_0 : decode b_TR_firstFrom 0 = .ok (.aconst_null, 1) := by decide +kernel
theorem d_TR_firstFrom_1 : decode b_TR_firstFrom 1 = .ok (.astore 4, 2) := by decide +kernel
theorem d_TR_firstFrom_3 : decode b_TR_firstFrom 3 = .ok (.aload_n 0, 1) := by decide +kernel
theorem d_TR_firstFrom_4 : decode b_TR_firstFrom 4 = .ok (.getfield 7, 3) := by decide +kernel
theorem d_TR_firstFrom_7 : decode b_TR_firstFrom 7 = .ok (.astore 5, 2) := by decide +kernel
theorem d_TR_firstFrom_9 : decode b_TR_firstFrom 9 = .ok (.iconst 0, 1) := by decide +kernel
theorem d_TR_firstFrom_10 : decode b_TR_firstFrom 10 = .ok (.istore 6, 2) := by decide +kernel
theorem d_TR_firstFrom_12 : decode b_TR_firstFrom 12 = .ok (.aload 5, 2) := by decide +kernel
theorem d_TR_firstFrom_14 : decode b_TR_firstFrom 14 = .ok (.ifnull 60, 3) := by decide +kernel
theorem d_TR_firstFrom_17 : decode b_TR_firstFrom 17 = .ok (.iload 6, 2) := by decide +kernel
theorem d_TR_firstFrom_19 : decode b_TR_firstFrom 19 = .ok (.bipush 40, 2) := by decide +kernel
theorem d_TR_firstFrom_21 : decode b_TR_firstFrom 21 = .ok (.if_icmp .ge 53, 3) := by decide +kernel
theorem d_TR_firstFrom_24 : decode b_TR_firstFrom 24 = .ok (.aload 5, 2) := by decide +kernel
theorem d_TR_firstFrom_26 : decode b_TR_firstFrom 26 = .ok (.aload_n 1, 1) := by decide +kernel
theorem d_TR_firstFrom_27 : decode b_TR_firstFrom 27 = .ok (.iload_n 2, 1) := by decide +kernel
theorem d_TR_firstFrom_28 : decode b_TR_firstFrom 28 = .ok (.invokevirtual 17, 3) := by decide +kernel
theorem d_TR_firstFrom_31 : decode b_TR_firstFrom 31 = .ok (.istore 7, 2) := by decide +kernel
theorem d_TR_firstFrom_33 : decode b_TR_firstFrom 33 = .ok (.iload 7, 2) := by decide +kernel
theorem d_TR_firstFrom_35 : decode b_TR_firstFrom 35 = .ok (.ifCond .lt 12, 3) := by decide +kernel
theorem d_TR_firstFrom_38 : decode b_TR_firstFrom 38 = .ok (.iload 7, 2) := by decide +kernel
theorem d_TR_firstFrom_40 : decode b_TR_firstFrom 40 = .ok (.ifCond .ne 21, 3) := by decide +kernel
theorem d_TR_firstFrom_43 : decode b_TR_firstFrom 43 = .ok (.iload_n 3, 1) := by decide +kernel
theorem d_TR_firstFrom_44 : decode b_TR_firstFrom 44 = .ok (.ifCond .ne 17, 3) := by decide +kernel
theorem d_TR_firstFrom_47 : decode b_TR_firstFrom 47 = .ok (.aload 5, 2) := by decide +kernel
theorem d_TR_firstFrom_49 : decode b_TR_firstFrom 49 = .ok (.astore 4, 2) := by decide +kernel
theorem d_TR_firstFrom_51 : decode b_TR_firstFrom 51 = .ok (.aload 5, 2) := by decide +kernel
theorem d_TR_firstFrom_53 : decode b_TR_firstFrom 53 = .ok (.getfield 23, 3) := by decide +kernel
theorem d_TR_firstFrom_56 : decode b_TR_firstFrom 56 = .ok (.astore 5, 2) := by decide +kernel
theorem d_TR_firstFrom_58 : decode b_TR_firstFrom 58 = .ok (.goto 10, 3) := by decide +kernel
theorem d_TR_firstFrom_61 : decode b_TR_firstFrom 61 = .ok (.aload 5, 2) := by decide +kernel
theorem d_TR_firstFrom_63 : decode b_TR_firstFrom 63 = .ok (.getfield 26, 3) := by decide +kernel
theorem d_TR_firstFrom_66 : decode b_TR_firstFrom 66 = .ok (.astore 5, 2) := by decide +kernel
theorem d_TR_firstFrom_68 : decode b_TR_firstFrom 68 = .ok (.iinc 6 1, 3) := by decide +kernel
theorem d_TR_firstFrom_71 : decode b_TR_firstFrom 71 = .ok (.goto (-59), 3) := by decide +kernel
theorem d_TR_firstFrom_74 : decode b_TR_firstFrom 74 = .ok (.aload 4, 2) := by decide +kernel
theorem d_TR_firstFrom_76 : decode b_TR_firstFrom 76 = .ok (.areturn, 1) := by decide +kernel
theorem d_VE_init_0 : decode b_VE_init 0 = .ok (.aload_n 0, 1) := by decide +kernel
theorem d_VE_init_1 : decode b_VE_init 1 = .ok (.invokespecial 1, 3) := by decide +kernel
theorem d_VE_init_4 : decode b_VE_init 4 = .ok (.aload_n 0, 1) := by decide +kernel
theorem d_VE_init_5 : decode b_VE_init 5 = .ok (.aload_n 1, 1) := by decide +kernel
theorem d_VE_init_6 : decode b_VE_init 6 = .ok (.putfield 7, 3) := by decide +kernel
theorem d_VE_init_9 : decode b_VE_init 9 = .ok (.aload_n 0, 1) := by decide +kernel
theorem d_VE_init_10 : decode b_VE_init 10 = .ok (.iload_n 2, 1) := by decide +kernel
theorem d_VE_init_11 : decode b_VE_init 11 = .ok (.putfield 13, 3) := by decide +kernel
theorem d_VE_init_14 : decode b_VE_init 14 = .ok (.aload_n 0, 1) := by decide +kernel
theorem d_VE_init_15 : decode b_VE_init 15 = .ok (.iload_n 3, 1) := by decide +kernel
theorem d_VE_init_16 : decode b_VE_init 16 = .ok (.putfield 17, 3) := by decide +kernel
theorem d_VE_init_19 : decode b_VE_init 19 = .ok (.aload_n 0, 1) := by decide +kernel
theorem d_VE_init_20 : decode b_VE_init 20 = .ok (.iload 4, 2) := by decide +kernel
theorem d_VE_init_22 : decode b_VE_init 22 = .ok (.putfield 20, 3) := by decide +kernel
theorem d_VE_init_25 : decode b_VE_init 25 = .ok (.aload_n 0, 1) := by decide +kernel
theorem d_VE_init_26 : decode b_VE_init 26 = .ok (.iconst 1, 1) := by decide +kernel
theorem d_VE_init_27 : decode b_VE_init 27 = .ok (.putfield 23, 3) := by decide +kernel
theorem d_VE_init_30 : decode b_VE_init 30 = .ok (.aload_n 0, 1) := by decide +kernel
theorem d_VE_init_31 : decode b_VE_init 31 = .ok (.aconst_null, 1) := by decide +kernel
theorem d_VE_init_32 : decode b_VE_init 32 = .ok (.putfield 26, 3) := by decide +kernel
theorem d_VE_init_35 : decode b_VE_init 35 = .ok (.aload_n 0, 1) := by decide +kernel
theorem d_VE_init_36 : decode b_VE_init 36 = .ok (.aconst_null, 1) := by decide +kernel
theorem d_VE_init_37 : decode b_VE_init 37 = .ok (.putfield 30, 3) := by decide +kernel
theorem d_VE_init_40 : decode b_VE_init 40 = .ok (.return_, 1) := by decide +kernel
theorem d_TR_add_0 : decode b_TR_add 0 = .ok (.aload_n 0, 1) := by decide +kernel
theorem d_TR_add_1 : decode b_TR_add 1 = .ok (.aload_n 0, 1) := by decide +kernel
theorem d_TR_add_2 : decode b_TR_add 2 = .ok (.getfield 7, 3) := by decide +kernel
theorem d_TR_add_5 : decode b_TR_add 5 = .ok (.aload_n 1, 1) := by decide +kernel
theorem d_TR_add_6 : decode b_TR_add 6 = .ok (.iconst 0, 1) := by decide +kernel
theorem d_TR_add_7 : decode b_TR_add 7 = .ok (.invokestatic 29, 3) := by decide +kernel
theorem d_TR_add_10 : decode b_TR_add 10 = .ok (.putfield 7, 3) := by decide +kernel
theorem d_TR_add_13 : decode b_TR_add 13 = .ok (.aload_n 0, 1) := by decide +kernel
theorem d_TR_add_14 : decode b_TR_add 14 = .ok (.dup, 1) := by decide +kernel
theorem d_TR_add_15 : decode b_TR_add 15 = .ok (.getfield 13, 3) := by decide +kernel
theorem d_TR_add_18 : decode b_TR_add 18 = .ok (.iconst 1, 1) := by decide +kernel
theorem d_TR_add_19 : decode b_TR_add 19 = .ok (.iadd, 1) := by decide +kernel
theorem d_TR_add_20 : decode b_TR_add 20 = .ok (.putfield 13, 3) := by decide +kernel
theorem d_TR_add_23 : decode b_TR_add 23 = .ok (.return_, 1) := by decide +kernel
theorem d_TR_withAdded_0 : decode b_TR_withAdded 0 = .ok (.aload_n 0, 1) := by decide +kernel
theorem d_TR_withAdded_1 : decode b_TR_withAdded 1 = .ok (.ifnonnull 5, 3) := by decide +kernel
theorem d_TR_withAdded_4 : decode b_TR_withAdded 4 = .ok (.aload_n 1, 1) := by decide +kernel
theorem d_TR_withAdded_5 : decode b_TR_withAdded 5 = .ok (.areturn, 1) := by decide +kernel
theorem d_TR_withAdded_6 : decode b_TR_withAdded 6 = .ok (.iload_n 2, 1) := by decide +kernel
theorem d_TR_withAdded_7 : decode b_TR_withAdded 7 = .ok (.bipush 40, 2) := by decide +kernel
theorem d_TR_withAdded_9 : decode b_TR_withAdded 9 = .ok (.if_icmp .lt 5, 3) := by decide +kernel
theorem d_TR_withAdded_12 : decode b_TR_withAdded 12 = .ok (.aload_n 0, 1) := by decide +kernel
theorem d_TR_withAdded_13 : decode b_TR_withAdded 13 = .ok (.areturn, 1) := by decide +kernel
theorem d_TR_withAdded_14 : decode b_TR_withAdded 14 = .ok (.aload_n 0, 1) := by decide +kernel
theorem d_TR_withAdded_15 : decode b_TR_withAdded 15 = .ok (.aload_n 1, 1) := by decide +kernel
theorem d_TR_withAdded_16 : decode b_TR_withAdded 16 = .ok (.getfield 37, 3) := by decide +kernel
theorem d_TR_withAdded_19 : decode b_TR_withAdded 19 = .ok (.aload_n 1, 1) := by decide +kernel
theorem d_TR_withAdded_20 : decode b_TR_withAdded 20 = .ok (.getfield 41, 3) := by decide +kernel
theorem d_TR_withAdded_23 : decode b_TR_withAdded 23 = .ok (.invokevirtual 17, 3) := by decide +kernel
theorem d_TR_withAdded_26 : decode b_TR_withAdded 26 = .ok (.ifCond .ge 21, 3) := by decide +kernel
theorem d_TR_withAdded_29 : decode b_TR_withAdded 29 = .ok (.aload_n 0, 1) := by decide +kernel
theorem d_TR_withAdded_30 : decode b_TR_withAdded 30 = .ok (.aload_n 0, 1) := by decide +kernel
theorem d_TR_withAdded_31 : decode b_TR_withAdded 31 = .ok (.getfield 23, 3) := by decide +kernel
theorem d_TR_withAdded_34 : decode b_TR_withAdded 34 = .ok (.aload_n 1, 1) := by decide +kernel
theorem d_TR_withAdded_35 : decode b_TR_withAdded 35 = .ok (.iload_n 2, 1) := by decide +kernel
theorem d_TR_withAdded_36 : decode b_TR_withAdded 36 = .ok (.iconst 1, 1) := by decide +kernel
theorem d_TR_withAdded_37 : decode b_TR_withAdded 37 = .ok (.iadd, 1) := by decide +kernel
theorem d_TR_withAdded_38 : decode b_TR_withAdded 38 = .ok (.invokestatic 29, 3) := by decide +kernel
theorem d_TR_withAdded_41 : decode b_TR_withAdded 41 = .ok (.putfield 23, 3) := by decide +kernel
theorem d_TR_withAdded_44 : decode b_TR_withAdded 44 = .ok (.goto 18, 3) := by decide +kernel
theorem d_TR_withAdded_47 : decode b_TR_withAdded 47 = .ok (.aload_n 0, 1) := by decide +kernel
theorem d_TR_withAdded_48 : decode b_TR_withAdded 48 = .ok (.aload_n 0, 1) := by decide +kernel
theorem d_TR_withAdded_49 : decode b_TR_withAdded 49 = .ok (.getfield 26, 3) := by decide +kernel
theorem d_TR_withAdded_52 : decode b_TR_withAdded 52 = .ok (.aload_n 1, 1) := by decide +kernel
theorem d_TR_withAdded_53 : decode b_TR_withAdded 53 = .ok (.iload_n 2, 1) := by decide +kernel
theorem d_TR_withAdded_54 : decode b_TR_withAdded 54 = .ok (.iconst 1, 1) := by decide +kernel
theorem d_TR_withAdded_55 : decode b_TR_withAdded 55 = .ok (.iadd, 1) := by decide +kernel
theorem d_TR_withAdded_56 : decode b_TR_withAdded 56 = .ok (.invokestatic 29, 3) := by decide +kernel
theorem d_TR_withAdded_59 : decode b_TR_withAdded 59 = .ok (.putfield 26, 3) := by decide +kernel
theorem d_TR_withAdded_62 : decode b_TR_withAdded 62 = .ok (.aload_n 0, 1) := by decide +kernel
theorem d_TR_withAdded_63 : decode b_TR_withAdded 63 = .ok (.invokestatic 44, 3) := by decide +kernel
theorem d_TR_withAdded_66 : decode b_TR_withAdded 66 = .ok (.areturn, 1) := by decide +kernel
theorem d_TR_balanced_0 : decode b_TR_balanced 0 = .ok (.aload_n 0, 1) := by decide +kernel
theorem d_TR_balanced_1 : decode b_TR_balanced 1 = .ok (.aload_n 0, 1) := by decide +kernel
theorem d_TR_balanced_2 : decode b_TR_balanced 2 = .ok (.invokestatic 48, 3) := by decide +kernel
theorem d_TR_balanced_5 : decode b_TR_balanced 5 = .ok (.putfield 52, 3) := by decide +kernel
theorem d_TR_balanced_8 : decode b_TR_balanced 8 = .ok (.aload_n 0, 1) := by decide +kernel
theorem d_TR_balanced_9 : decode b_TR_balanced 9 = .ok (.invokestatic 55, 3) := by decide +kernel
theorem d_TR_balanced_12 : decode b_TR_balanced 12 = .ok (.istore_n 1, 1) := by decide +kernel
theorem d_TR_balanced_13 : decode b_TR_balanced 13 = .ok (.iload_n 1, 1) := by decide +kernel
theorem d_TR_balanced_14 : decode b_TR_balanced 14 = .ok (.iconst 1, 1) := by decide +kernel
theorem d_TR_balanced_15 : decode b_TR_balanced 15 = .ok (.if_icmp .le 29, 3) := by decide +kernel
theorem d_TR_balanced_18 : decode b_TR_balanced 18 = .ok (.aload_n 0, 1) := by decide +kernel
theorem d_TR_balanced_19 : decode b_TR_balanced 19 = .ok (.getfield 23, 3) := by decide +kernel
theorem d_TR_balanced_22 : decode b_TR_balanced 22 = .ok (.invokestatic 55, 3) := by decide +kernel
theorem d_TR_balanced_25 : decode b_TR_balanced 25 = .ok (.ifCond .ge 14, 3) := by decide +kernel
theorem d_TR_balanced_28 : decode b_TR_balanced 28 = .ok (.aload_n 0, 1) := by decide +kernel
theorem d_TR_balanced_29 : decode b_TR_balanced 29 = .ok (.aload_n 0, 1) := by decide +kernel
theorem d_TR_balanced_30 : decode b_TR_balanced 30 = .ok (.getfield 23, 3) := by decide +kernel
theorem d_TR_balanced_33 : decode b_TR_balanced 33 = .ok (.invokestatic 58, 3) := by decide +kernel
theorem d_TR_balanced_36 : decode b_TR_balanced 36 = .ok (.putfield 23, 3) := by decide +kernel
theorem d_TR_balanced_39 : decode b_TR_balanced 39 = .ok (.aload_n 0, 1) := by decide +kernel
theorem d_TR_balanced_40 : decode b_TR_balanced 40 = .ok (.invokestatic 61, 3) := by decide +kernel
theorem d_TR_balanced_43 : decode b_TR_balanced 43 = .ok (.areturn, 1) := by decide +kernel
theorem d_TR_balanced_44 : decode b_TR_balanced 44 = .ok (.iload_n 1, 1) := by decide +kernel
theorem d_TR_balanced_45 : decode b_TR_balanced 45 = .ok (.iconst (-1), 1) := by decide +kernel
theorem d_TR_balanced_46 : decode b_TR_balanced 46 = .ok (.if_icmp .ge 29, 3) := by decide +kernel
theorem d_TR_balanced_49 : decode b_TR_balanced 49 = .ok (.aload_n 0, 1) := by decide +kernel
theorem d_TR_balanced_50 : decode b_TR_balanced 50 = .ok (.getfield 26, 3) := by decide +kernel
theorem d_TR_balanced_53 : decode b_TR_balanced 53 = .ok (.invokestatic 55, 3) := by decide +kernel
theorem d_TR_balanced_56 : decode b_TR_balanced 56 = .ok (.ifCond .le 14, 3) := by decide +kernel
theorem d_TR_balanced_59 : decode b_TR_balanced 59 = .ok (.aload_n 0, 1) := by decide +kernel
theorem d_TR_balanced_60 : decode b_TR_balanced 60 = .ok (.aload_n 0, 1) := by decide +kernel
theorem d_TR_balanced_61 : decode b_TR_balanced 61 = .ok (.getfield 26, 3) := by decide +kernel
theorem d_TR_balanced_64 : decode b_TR_balanced 64 = .ok (.invokestatic 61, 3) := by decide +kernel
theorem d_TR_balanced_67 : decode b_TR_balanced 67 = .ok (.putfield 26, 3) := by decide +kernel
theorem d_TR_balanced_70 : decode b_TR_balanced 70 = .ok (.aload_n 0, 1) := by decide +kernel
theorem d_TR_balanced_71 : decode b_TR_balanced 71 = .ok (.invokestatic 58, 3) := by decide +kernel
theorem d_TR_balanced_74 : decode b_TR_balanced 74 = .ok (.areturn, 1) := by decide +kernel
theorem d_TR_balanced_75 : decode b_TR_balanced 75 = .ok (.aload_n 0, 1) := by decide +kernel
theorem d_TR_balanced_76 : decode b_TR_balanced 76 = .ok (.areturn, 1) := by decide +kernel
theorem d_TR_turnedLeft_0 : decode b_TR_turnedLeft 0 = .ok (.aload_n 0, 1) := by decide +kernel
theorem d_TR_turnedLeft_1 : decode b_TR_turnedLeft 1 = .ok (.ifnull 10, 3) := by decide +kernel
theorem d_TR_turnedLeft_4 : decode b_TR_turnedLeft 4 = .ok (.aload_n 0, 1) := by decide +kernel
theorem d_TR_turnedLeft_5 : decode b_TR_turnedLeft 5 = .ok (.getfield 26, 3) := by decide +kernel
theorem d_TR_turnedLeft_8 : decode b_TR_turnedLeft 8 = .ok (.ifnonnull 5, 3) := by decide +kernel
theorem d_TR_turnedLeft_11 : decode b_TR_turnedLeft 11 = .ok (.aload_n 0, 1) := by decide +kernel
theorem d_TR_turnedLeft_12 : decode b_TR_turnedLeft 12 = .ok (.areturn, 1) := by decide +kernel
theorem d_TR_turnedLeft_13 : decode b_TR_turnedLeft 13 = .ok (.aload_n 0, 1) := by decide +kernel
theorem d_TR_turnedLeft_14 : decode b_TR_turnedLeft 14 = .ok (.getfield 26, 3) := by decide +kernel
theorem d_TR_turnedLeft_17 : decode b_TR_turnedLeft 17 = .ok (.astore_n 1, 1) := by decide +kernel
theorem d_TR_turnedLeft_18 : decode b_TR_turnedLeft 18 = .ok (.aload_n 0, 1) := by decide +kernel
theorem d_TR_turnedLeft_19 : decode b_TR_turnedLeft 19 = .ok (.aload_n 1, 1) := by decide +kernel
theorem d_TR_turnedLeft_20 : decode b_TR_turnedLeft 20 = .ok (.getfield 23, 3) := by decide +kernel
theorem d_TR_turnedLeft_23 : decode b_TR_turnedLeft 23 = .ok (.putfield 26, 3) := by decide +kernel
theorem d_TR_turnedLeft_26 : decode b_TR_turnedLeft 26 = .ok (.aload_n 1, 1) := by decide +kernel
theorem d_TR_turnedLeft_27 : decode b_TR_turnedLeft 27 = .ok (.aload_n 0, 1) := by decide +kernel
theorem d_TR_turnedLeft_28 : decode b_TR_turnedLeft 28 = .ok (.putfield 23, 3) := by decide +kernel
theorem d_TR_turnedLeft_31 : decode b_TR_turnedLeft 31 = .ok (.aload_n 0, 1) := by decide +kernel
theorem d_TR_turnedLeft_32 : decode b_TR_turnedLeft 32 = .ok (.aload_n 0, 1) := by decide +kernel
theorem d_TR_turnedLeft_33 : decode b_TR_turnedLeft 33 = .ok (.invokestatic 48, 3) := by decide +kernel
theorem d_TR_turnedLeft_36 : decode b_TR_turnedLeft 36 = .ok (.putfield 52, 3) := by decide +kernel
theorem d_TR_turnedLeft_39 : decode b_TR_turnedLeft 39 = .ok (.aload_n 1, 1) := by decide +kernel
theorem d_TR_turnedLeft_40 : decode b_TR_turnedLeft 40 = .ok (.aload_n 1, 1) := by decide +kernel
theorem d_TR_turnedLeft_41 : decode b_TR_turnedLeft 41 = .ok (.invokestatic 48, 3) := by decide +kernel
theorem d_TR_turnedLeft_44 : decode b_TR_turnedLeft 44 = .ok (.putfield 52, 3) := by decide +kernel
theorem d_TR_turnedLeft_47 : decode b_TR_turnedLeft 47 = .ok (.aload_n 1, 1) := by decide +kernel
theorem d_TR_turnedLeft_48 : decode b_TR_turnedLeft 48 = .ok (.areturn, 1) := by decide +kernel
theorem d_TR_turnedRight_0 : decode b_TR_turnedRight 0 = .ok (.aload_n 0, 1) := by decide +kernel
theorem d_TR_turnedRight_1 : decode b_TR_turnedRight 1 = .ok (.ifnull 10, 3) := by decide +kernel
theorem d_TR_turnedRight_4 : decode b_TR_turnedRight 4 = .ok (.aload_n 0, 1) := by decide +kernel
theorem d_TR_turnedRight_5 : decode b_TR_turnedRight 5 = .ok (.getfield 23, 3) := by decide +kernel
theorem d_TR_turnedRight_8 : decode b_TR_turnedRight 8 = .ok (.ifnonnull 5, 3) := by decide +kernel
theorem d_TR_turnedRight_11 : decode b_TR_turnedRight 11 = .ok (.aload_n 0, 1) := by decide +kernel
theorem d_TR_turnedRight_12 : decode b_TR_turnedRight 12 = .ok (.areturn, 1) := by decide +kernel
theorem d_TR_turnedRight_13 : decode b_TR_turnedRight 13 = .ok (.aload_n 0, 1) := by decide +kernel
theorem d_TR_turnedRight_14 : decode b_TR_turnedRight 14 = .ok (.getfield 23, 3) := by decide +kernel
theorem d_TR_turnedRight_17 : decode b_TR_turnedRight 17 = .ok (.astore_n 1, 1) := by decide +kernel
theorem d_TR_turnedRight_18 : decode b_TR_turnedRight 18 = .ok (.aload_n 0, 1) := by decide +kernel
theorem d_TR_turnedRight_19 : decode b_TR_turnedRight 19 = .ok (.aload_n 1, 1) := by decide +kernel
theorem d_TR_turnedRight_20 : decode b_TR_turnedRight 20 = .ok (.getfield 26, 3) := by decide +kernel
theorem d_TR_turnedRight_23 : decode b_TR_turnedRight 23 = .ok (.putfield 23, 3) := by decide +kernel
theorem d_TR_turnedRight_26 : decode b_TR_turnedRight 26 = .ok (.aload_n 1, 1) := by decide +kernel
theorem d_TR_turnedRight_27 : decode b_TR_turnedRight 27 = .ok (.aload_n 0, 1) := by decide +kernel
theorem d_TR_turnedRight_28 : decode b_TR_turnedRight 28 = .ok (.putfield 26, 3) := by decide +kernel
theorem d_TR_turnedRight_31 : decode b_TR_turnedRight 31 = .ok (.aload_n 0, 1) := by decide +kernel
theorem d_TR_turnedRight_32 : decode b_TR_turnedRight 32 = .ok (.aload_n 0, 1) := by decide +kernel
theorem d_TR_turnedRight_33 : decode b_TR_turnedRight 33 = .ok (.invokestatic 48, 3) := by decide +kernel
theorem d_TR_turnedRight_36 : decode b_TR_turnedRight 36 = .ok (.putfield 52, 3) := by decide +kernel
theorem d_TR_turnedRight_39 : decode b_TR_turnedRight 39 = .ok (.aload_n 1, 1) := by decide +kernel
theorem d_TR_turnedRight_40 : decode b_TR_turnedRight 40 = .ok (.aload_n 1, 1) := by decide +kernel
theorem d_TR_turnedRight_41 : decode b_TR_turnedRight 41 = .ok (.invokestatic 48, 3) := by decide +kernel
theorem d_TR_turnedRight_44 : decode b_TR_turnedRight 44 = .ok (.putfield 52, 3) := by decide +kernel
theorem d_TR_turnedRight_47 : decode b_TR_turnedRight 47 = .ok (.aload_n 1, 1) := by decide +kernel
theorem d_TR_turnedRight_48 : decode b_TR_turnedRight 48 = .ok (.areturn, 1) := by decide +kernel
theorem d_LA_find_0 : decode b_LA_find 0 = .ok (.aload_n 2, 1) := by decide +kernel
theorem d_LA_find_1 : decode b_LA_find 1 = .ok (.iconst 0, 1) := by decide +kernel
theorem d_LA_find_2 : decode b_LA_find 2 = .ok (.aload_n 0, 1) := by decide +kernel
theorem d_LA_find_3 : decode b_LA_find 3 = .ok (.iload_n 1, 1) := by decide +kernel
theorem d_LA_find_4 : decode b_LA_find 4 = .ok (.invokevirtual 27, 3) := by decide +kernel
theorem d_LA_find_7 : decode b_LA_find 7 = .ok (.i2l, 1) := by decide +kernel
theorem d_LA_find_8 : decode b_LA_find 8 = .ok (.lastore, 1) := by decide +kernel
theorem d_LA_find_9 : decode b_LA_find 9 = .ok (.goto 9, 3) := by decide +kernel
theorem d_LA_find_12 : decode b_LA_find 12 = .ok (.astore_n 3, 1) := by decide +kernel
theorem d_LA_find_13 : decode b_LA_find 13 = .ok (.iconst 1, 1) := by decide +kernel
theorem d_LA_find_14 : decode b_LA_find 14 = .ok (.ireturn, 1) := by decide +kernel
theorem d_LA_find_15 : decode b_LA_find 15 = .ok (.astore_n 3, 1) := by decide +kernel
theorem d_LA_find_16 : decode b_LA_find 16 = .ok (.iconst 2, 1) := by decide +kernel
theorem d_LA_find_17 : decode b_LA_find 17 = .ok (.ireturn, 1) := by decide +kernel
theorem d_LA_find_18 : decode b_LA_find 18 = .ok (.iconst 0, 1) := by decide +kernel
theorem d_LA_find_19 : decode b_LA_find 19 = .ok (.ireturn, 1) := by decide +kernel
theorem d_MT_find_0 : decode b_MT_find 0 = .ok (.aload_n 0, 1) := by decide +kernel
theorem d_MT_find_1 : decode b_MT_find 1 = .ok (.invokevirtual 38, 3) := by decide +kernel
theorem d_MT_find_4 : decode b_MT_find 4 = .ok (.ifCond .ne 11, 3) := by decide +kernel
theorem d_MT_find_7 : decode b_MT_find 7 = .ok (.new 35, 3) := by decide +kernel
theorem d_MT_find_10 : decode b_MT_find 10 = .ok (.dup, 1) := by decide +kernel
theorem d_MT_find_11 : decode b_MT_find 11 = .ok (.invokespecial 37, 3) := by decide +kernel
theorem d_MT_find_14 : decode b_MT_find 14 = .ok (.athrow, 1) := by decide +kernel
theorem d_MT_find_15 : decode b_MT_find 15 = .ok (.aload_n 0, 1) := by decide +kernel
theorem d_MT_find_16 : decode b_MT_find 16 = .ok (.invokevirtual 42, 3) := by decide +kernel
theorem d_MT_find_19 : decode b_MT_find 19 = .ok (.astore_n 2, 1) := by decide +kernel
theorem d_MT_find_20 : decode b_MT_find 20 = .ok (.aload_n 0, 1) := by decide +kernel
theorem d_MT_find_21 : decode b_MT_find 21 = .ok (.getfield 20, 3) := by decide +kernel
theorem d_MT_find_24 : decode b_MT_find 24 = .ok (.aload_n 2, 1) := by decide +kernel
theorem d_MT_find_25 : decode b_MT_find 25 = .ok (.iload_n 1, 1) := by decide +kernel
theorem d_MT_find_26 : decode b_MT_find 26 = .ok (.iconst 0, 1) := by decide +kernel
theorem d_MT_find_27 : decode b_MT_find 27 = .ok (.invokevirtual 46, 3) := by decide +kernel
theorem d_MT_find_30 : decode b_MT_find 30 = .ok (.astore_n 3, 1) := by decide +kernel
theorem d_MT_find_31 : decode b_MT_find 31 = .ok (.aload_n 3, 1) := by decide +kernel
theorem d_MT_find_32 : decode b_MT_find 32 = .ok (.ifnull 18, 3) := by decide +kernel
theorem d_MT_find_35 : decode b_MT_find 35 = .ok (.aload_n 2, 1) := by decide +kernel
theorem d_MT_find_36 : decode b_MT_find 36 = .ok (.aload_n 3, 1) := by decide +kernel
theorem d_MT_find_37 : decode b_MT_find 37 = .ok (.getfield 75, 3) := by decide +kernel
theorem d_MT_find_40 : decode b_MT_find 40 = .ok (.invokestatic 78, 3) := by decide +kernel
theorem d_MT_find_43 : decode b_MT_find 43 = .ok (.ifCond .ne 7, 3) := by decide +kernel
theorem d_MT_find_46 : decode b_MT_find 46 = .ok (.iconst 1, 1) := by decide +kernel
theorem d_MT_find_47 : decode b_MT_find 47 = .ok (.goto 4, 3) := by decide +kernel
theorem d_MT_find_50 : decode b_MT_find 50 = .ok (.iconst 0, 1) := by decide +kernel
theorem d_MT_find_51 : decode b_MT_find 51 = .ok (.istore 4, 2) := by decide +kernel
theorem d_MT_find_53 : decode b_MT_find 53 = .ok (.aload_n 0, 1) := by decide +kernel
theorem d_MT_find_54 : decode b_MT_find 54 = .ok (.iload 4, 2) := by decide +kernel
theorem d_MT_find_56 : decode b_MT_find 56 = .ok (.ifCond .eq 7, 3) := by decide +kernel
theorem d_MT_find_59 : decode b_MT_find 59 = .ok (.aload_n 3, 1) := by decide +kernel
theorem d_MT_find_60 : decode b_MT_find 60 = .ok (.goto 4, 3) := by decide +kernel
theorem d_MT_find_63 : decode b_MT_find 63 = .ok (.aconst_null, 1) := by decide +kernel
theorem d_MT_find_64 : decode b_MT_find 64 = .ok (.invokevirtual 82, 3) := by decide +kernel
theorem d_MT_find_67 : decode b_MT_find 67 = .ok (.ireturn, 1) := by decide +kernel
theorem d_MT_goTo_0 : decode b_MT_goTo 0 = .ok (.aload_n 0, 1) := by decide +kernel
theorem d_MT_goTo_1 : decode b_MT_goTo 1 = .ok (.aload_n 1, 1) := by decide +kernel
theorem d_MT_goTo_2 : decode b_MT_goTo 2 = .ok (.putfield 24, 3) := by decide +kernel
theorem d_MT_goTo_5 : decode b_MT_goTo 5 = .ok (.aload_n 1, 1) := by decide +kernel
theorem d_MT_goTo_6 : decode b_MT_goTo 6 = .ok (.ifnonnull 11, 3) := by decide +kernel
theorem d_MT_goTo_9 : decode b_MT_goTo 9 = .ok (.new 92, 3) := by decide +kernel
theorem d_MT_goTo_12 : decode b_MT_goTo 12 = .ok (.dup, 1) := by decide +kernel
theorem d_MT_goTo_13 : decode b_MT_goTo 13 = .ok (.invokespecial 94, 3) := by decide +kernel
theorem d_MT_goTo_16 : decode b_MT_goTo 16 = .ok (.athrow, 1) := by decide +kernel
theorem d_MT_goTo_17 : decode b_MT_goTo 17 = .ok (.aload_n 1, 1) := by decide +kernel
theorem d_MT_goTo_18 : decode b_MT_goTo 18 = .ok (.getfield 56, 3) := by decide +kernel
theorem d_MT_goTo_21 : decode b_MT_goTo 21 = .ok (.ireturn, 1) := by decide +kernel
theorem d_LA_seek_0 : decode b_LA_seek 0 = .ok (.aload_n 3, 1) := by decide +kernel
theorem d_LA_seek_1 : decode b_LA_seek 1 = .ok (.iconst 0, 1) := by decide +kernel
theorem d_LA_seek_2 : decode b_LA_seek 2 = .ok (.aload_n 0, 1) := by decide +kernel
theorem d_LA_seek_3 : decode b_LA_seek 3 = .ok (.iload_n 1, 1) := by decide +kernel
theorem d_LA_seek_4 : decode b_LA_seek 4 = .ok (.iload_n 2, 1) := by decide +kernel
theorem d_LA_seek_5 : decode b_LA_seek 5 = .ok (.invokevirtual 32, 3) := by decide +kernel
theorem d_LA_seek_8 : decode b_LA_seek 8 = .ok (.i2l, 1) := by decide +kernel
theorem d_LA_seek_9 : decode b_LA_seek 9 = .ok (.lastore, 1) := by decide +kernel
theorem d_LA_seek_10 : decode b_LA_seek 10 = .ok (.goto 11, 3) := by decide +kernel
theorem d_LA_seek_13 : decode b_LA_seek 13 = .ok (.astore 4, 2) := by decide +kernel
theorem d_LA_seek_15 : decode b_LA_seek 15 = .ok (.iconst 1, 1) := by decide +kernel
theorem d_LA_seek_16 : decode b_LA_seek 16 = .ok (.ireturn, 1) := by decide +kernel
theorem d_LA_seek_17 : decode b_LA_seek 17 = .ok (.astore 4, 2) := by decide +kernel
theorem d_LA_seek_19 : decode b_LA_seek 19 = .ok (.iconst 2, 1) := by decide +kernel
theorem d_LA_seek_20 : decode b_LA_seek 20 = .ok (.ireturn, 1) := by decide +kernel
theorem d_LA_seek_21 : decode b_LA_seek 21 = .ok (.iconst 0, 1) := by decide +kernel
theorem d_LA_seek_22 : decode b_LA_seek 22 = .ok (.ireturn, 1) := by decide +kernel
theorem d_MT_seek_0 : decode b_MT_seek 0 = .ok (.aload_n 0, 1) := by decide +kernel
theorem d_MT_seek_1 : decode b_MT_seek 1 = .ok (.getfield 13, 3) := by decide +kernel
theorem d_MT_seek_4 : decode b_MT_seek 4 = .ok (.bipush 40, 2) := by decide +kernel
theorem d_MT_seek_6 : decode b_MT_seek 6 = .ok (.if_icmp .le 11, 3) := by decide +kernel
theorem d_MT_seek_9 : decode b_MT_seek 9 = .ok (.new 35, 3) := by decide +kernel
theorem d_MT_seek_12 : decode b_MT_seek 12 = .ok (.dup, 1) := by decide +kernel
theorem d_MT_seek_13 : decode b_MT_seek 13 = .ok (.invokespecial 37, 3) := by decide +kernel
theorem d_MT_seek_16 : decode b_MT_seek 16 = .ok (.athrow, 1) := by decide +kernel
theorem d_MT_seek_17 : decode b_MT_seek 17 = .ok (.aload_n 0, 1) := by decide +kernel
theorem d_MT_seek_18 : decode b_MT_seek 18 = .ok (.aload_n 0, 1) := by decide +kernel
theorem d_MT_seek_19 : decode b_MT_seek 19 = .ok (.getfield 20, 3) := by decide +kernel
theorem d_MT_seek_22 : decode b_MT_seek 22 = .ok (.aload_n 0, 1) := by decide +kernel
theorem d_MT_seek_23 : decode b_MT_seek 23 = .ok (.invokevirtual 42, 3) := by decide +kernel
theorem d_MT_seek_26 : decode b_MT_seek 26 = .ok (.iload_n 1, 1) := by decide +kernel
theorem d_MT_seek_27 : decode b_MT_seek 27 = .ok (.iload_n 2, 1) := by decide +kernel
theorem d_MT_seek_28 : decode b_MT_seek 28 = .ok (.invokevirtual 46, 3) := by decide +kernel
theorem d_MT_seek_31 : decode b_MT_seek 31 = .ok (.invokevirtual 82, 3) := by decide +kernel
theorem d_MT_seek_34 : decode b_MT_seek 34 = .ok (.ireturn, 1) := by decide +kernel
theorem d_LA_next_0 : decode b_LA_next 0 = .ok (.aload_n 1, 1) := by decide +kernel
theorem d_LA_next_1 : decode b_LA_next 1 = .ok (.iconst 0, 1) := by decide +kernel
theorem d_LA_next_2 : decode b_LA_next 2 = .ok (.aload_n 0, 1) := by decide +kernel
theorem d_LA_next_3 : decode b_LA_next 3 = .ok (.invokevirtual 36, 3) := by decide +kernel
theorem d_LA_next_6 : decode b_LA_next 6 = .ok (.i2l, 1) := by decide +kernel
theorem d_LA_next_7 : decode b_LA_next 7 = .ok (.lastore, 1) := by decide +kernel
theorem d_LA_next_8 : decode b_LA_next 8 = .ok (.goto 6, 3) := by decide +kernel
theorem d_LA_next_11 : decode b_LA_next 11 = .ok (.astore_n 2, 1) := by decide +kernel
theorem d_LA_next_12 : decode b_LA_next 12 = .ok (.iconst 1, 1) := by decide +kernel
theorem d_LA_next_13 : decode b_LA_next 13 = .ok (.ireturn, 1) := by decide +kernel
theorem d_LA_next_14 : decode b_LA_next 14 = .ok (.iconst 0, 1) := by decide +kernel
theorem d_LA_next_15 : decode b_LA_next 15 = .ok (.ireturn, 1) := by decide +kernel
theorem d_MT_next_0 : decode b_MT_next 0 = .ok (.aload_n 0, 1) := by decide +kernel
theorem d_MT_next_1 : decode b_MT_next 1 = .ok (.aload_n 0, 1) := by decide +kernel
theorem d_MT_next_2 : decode b_MT_next 2 = .ok (.getfield 24, 3) := by decide +kernel
theorem d_MT_next_5 : decode b_MT_next 5 = .ok (.ifnonnull 7, 3) := by decide +kernel
theorem d_MT_next_8 : decode b_MT_next 8 = .ok (.aconst_null, 1) := by decide +kernel
theorem d_MT_next_9 : decode b_MT_next 9 = .ok (.goto 25, 3) := by decide +kernel
theorem d_MT_next_12 : decode b_MT_next 12 = .ok (.aload_n 0, 1) := by decide +kernel
theorem d_MT_next_13 : decode b_MT_next 13 = .ok (.getfield 20, 3) := by decide +kernel
theorem d_MT_next_16 : decode b_MT_next 16 = .ok (.aload_n 0, 1) := by decide +kernel
theorem d_MT_next_17 : decode b_MT_next 17 = .ok (.getfield 24, 3) := by decide +kernel
theorem d_MT_next_20 : decode b_MT_next 20 = .ok (.getfield 75, 3) := by decide +kernel
theorem d_MT_next_23 : decode b_MT_next 23 = .ok (.aload_n 0, 1) := by decide +kernel
theorem d_MT_next_24 : decode b_MT_next 24 = .ok (.getfield 24, 3) := by decide +kernel
theorem d_MT_next_27 : decode b_MT_next 27 = .ok (.getfield 86, 3) := by decide +kernel
theorem d_MT_next_30 : decode b_MT_next 30 = .ok (.iconst 1, 1) := by decide +kernel
theorem d_MT_next_31 : decode b_MT_next 31 = .ok (.invokevirtual 46, 3) := by decide +kernel
theorem d_MT_next_34 : decode b_MT_next 34 = .ok (.invokevirtual 82, 3) := by decide +kernel
theorem d_MT_next_37 : decode b_MT_next 37 = .ok (.ireturn, 1) := by decide +kernel
theorem d_LA_first_0 : decode b_LA_first 0 = .ok (.aload_n 1, 1) := by decide +kernel
theorem d_LA_first_1 : decode b_LA_first 1 = .ok (.iconst 0, 1) := by decide +kernel
theorem d_LA_first_2 : decode b_LA_first 2 = .ok (.aload_n 0, 1) := by decide +kernel
theorem d_LA_first_3 : decode b_LA_first 3 = .ok (.invokevirtual 40, 3) := by decide +kernel
theorem d_LA_first_6 : decode b_LA_first 6 = .ok (.i2l, 1) := by decide +kernel
theorem d_LA_first_7 : decode b_LA_first 7 = .ok (.lastore, 1) := by decide +kernel
theorem d_LA_first_8 : decode b_LA_first 8 = .ok (.goto 6, 3) := by decide +kernel
theorem d_LA_first_11 : decode b_LA_first 11 = .ok (.astore_n 2, 1) := by decide +kernel
theorem d_LA_first_12 : decode b_LA_first 12 = .ok (.iconst 1, 1) := by decide +kernel
theorem d_LA_first_13 : decode b_LA_first 13 = .ok (.ireturn, 1) := by decide +kernel
theorem d_LA_first_14 : decode b_LA_first 14 = .ok (.iconst 0, 1) := by decide +kernel
theorem d_LA_first_15 : decode b_LA_first 15 = .ok (.ireturn, 1) := by decide +kernel
theorem d_MT_first_0 : decode b_MT_first 0 = .ok (.aload_n 0, 1) := by decide +kernel
theorem d_MT_first_1 : decode b_MT_first 1 = .ok (.aload_n 0, 1) := by decide +kernel
theorem d_MT_first_2 : decode b_MT_first 2 = .ok (.getfield 20, 3) := by decide +kernel
theorem d_MT_first_5 : decode b_MT_first 5 = .ok (.getstatic 89, 3) := by decide +kernel
theorem d_MT_first_8 : decode b_MT_first 8 = .ok (.iconst 0, 1) := by decide +kernel
theorem d_MT_first_9 : decode b_MT_first 9 = .ok (.iconst 0, 1) := by decide +kernel
theorem d_MT_first_10 : decode b_MT_first 10 = .ok (.invokevirtual 46, 3) := by decide +kernel
theorem d_MT_first_13 : decode b_MT_first 13 = .ok (.invokevirtual 82, 3) := by decide +kernel
theorem d_MT_first_16 : decode b_MT_first 16 = .ok (.ireturn, 1) := by decide +kernel
theorem d_LA_current_0 : decode b_LA_current 0 = .ok (.aload_n 2, 1) := by decide +kernel
theorem d_LA_current_1 : decode b_LA_current 1 = .ok (.iconst 0, 1) := by decide +kernel
theorem d_LA_current_2 : decode b_LA_current 2 = .ok (.aload_n 0, 1) := by decide +kernel
theorem d_LA_current_3 : decode b_LA_current 3 = .ok (.iload_n 1, 1) := by decide +kernel
theorem d_LA_current_4 : decode b_LA_current 4 = .ok (.invokevirtual 43, 3) := by decide +kernel
theorem d_LA_current_7 : decode b_LA_current 7 = .ok (.i2l, 1) := by decide +kernel
theorem d_LA_current_8 : decode b_LA_current 8 = .ok (.lastore, 1) := by decide +kernel
theorem d_LA_current_9 : decode b_LA_current 9 = .ok (.goto 9, 3) := by decide +kernel
theorem d_LA_current_12 : decode b_LA_current 12 = .ok (.astore_n 3, 1) := by decide +kernel
theorem d_LA_current_13 : decode b_LA_current 13 = .ok (.iconst 1, 1) := by decide +kernel
theorem d_LA_current_14 : decode b_LA_current 14 = .ok (.ireturn, 1) := by decide +kernel
theorem d_LA_current_15 : decode b_LA_current 15 = .ok (.astore_n 3, 1) := by decide +kernel
theorem d_LA_current_16 : decode b_LA_current 16 = .ok (.iconst 2, 1) := by decide +kernel
theorem d_LA_current_17 : decode b_LA_current 17 = .ok (.ireturn, 1) := by decide +kernel
theorem d_LA_current_18 : decode b_LA_current 18 = .ok (.iconst 0, 1) := by decide +kernel
theorem d_LA_current_19 : decode b_LA_current 19 = .ok (.ireturn, 1) := by decide +kernel
theorem d_MT_current_0 : decode b_MT_current 0 = .ok (.iload_n 1, 1) := by decide +kernel
theorem d_MT_current_1 : decode b_MT_current 1 = .ok (.ifCond .lt 8, 3) := by decide +kernel
theorem d_MT_current_4 : decode b_MT_current 4 = .ok (.iload_n 1, 1) := by decide +kernel
theorem d_MT_current_5 : decode b_MT_current 5 = .ok (.iconst 3, 1) := by decide +kernel
theorem d_MT_current_6 : decode b_MT_current 6 = .ok (.if_icmp .le 11, 3) := by decide +kernel
theorem d_MT_current_9 : decode b_MT_current 9 = .ok (.new 35, 3) := by decide +kernel
theorem d_MT_current_12 : decode b_MT_current 12 = .ok (.dup, 1) := by decide +kernel
theorem d_MT_current_13 : decode b_MT_current 13 = .ok (.invokespecial 37, 3) := by decide +kernel
theorem d_MT_current_16 : decode b_MT_current 16 = .ok (.athrow, 1) := by decide +kernel
theorem d_MT_current_17 : decode b_MT_current 17 = .ok (.aload_n 0, 1) := by decide +kernel
theorem d_MT_current_18 : decode b_MT_current 18 = .ok (.getfield 24, 3) := by decide +kernel
theorem d_MT_current_21 : decode b_MT_current 21 = .ok (.ifnonnull 11, 3) := by decide +kernel
theorem d_MT_current_24 : decode b_MT_current 24 = .ok (.new 92, 3) := by decide +kernel
theorem d_MT_current_27 : decode b_MT_current 27 = .ok (.dup, 1) := by decide +kernel
theorem d_MT_current_28 : decode b_MT_current 28 = .ok (.invokespecial 94, 3) := by decide +kernel
theorem d_MT_current_31 : decode b_MT_current 31 = .ok (.athrow, 1) := by decide +kernel
theorem d_MT_current_32 : decode b_MT_current 32 = .ok (.iload_n 1, 1) := by decide +kernel
theorem d_MT_current_33 : decode b_MT_current 33 = .ok (.tableswitch 51 0 2 #[27, 35, 43], 27) := by decide +kernel
theorem d_MT_current_60 : decode b_MT_current 60 = .ok (.aload_n 0, 1) := by decide +kernel
theorem d_MT_current_61 : decode b_MT_current 61 = .ok (.getfield 24, 3) := by decide +kernel
theorem d_MT_current_64 : decode b_MT_current 64 = .ok (.getfield 86, 3) := by decide +kernel
theorem d_MT_current_67 : decode b_MT_current 67 = .ok (.ireturn, 1) := by decide +kernel
theorem d_MT_current_68 : decode b_MT_current 68 = .ok (.aload_n 0, 1) := by decide +kernel
theorem d_MT_current_69 : decode b_MT_current 69 = .ok (.getfield 24, 3) := by decide +kernel
theorem d_MT_current_72 : decode b_MT_current 72 = .ok (.getfield 56, 3) := by decide +kernel
theorem d_MT_current_75 : decode b_MT_current 75 = .ok (.ireturn, 1) := by decide +kernel
theorem d_MT_current_76 : decode b_MT_current 76 = .ok (.aload_n 0, 1) := by decide +kernel
theorem d_MT_current_77 : decode b_MT_current 77 = .ok (.getfield 24, 3) := by decide +kernel
theorem d_MT_current_80 : decode b_MT_current 80 = .ok (.getfield 59, 3) := by decide +kernel
theorem d_MT_current_83 : decode b_MT_current 83 = .ok (.ireturn, 1) := by decide +kernel
theorem d_MT_current_84 : decode b_MT_current 84 = .ok (.aload_n 0, 1) := by decide +kernel
theorem d_MT_current_85 : decode b_MT_current 85 = .ok (.getfield 24, 3) := by decide +kernel
theorem d_MT_current_88 : decode b_MT_current 88 = .ok (.getfield 75, 3) := by decide +kernel
theorem d_MT_current_91 : decode b_MT_current 91 = .ok (.arraylength, 1) := by decide +kernel
theorem d_MT_current_92 : decode b_MT_current 92 = .ok (.ireturn, 1) := by decide +kernel
theorem d_LA_word_0 : decode b_LA_word 0 = .ok (.aload_n 2, 1) := by decide +kernel
theorem d_LA_word_1 : decode b_LA_word 1 = .ok (.iconst 0, 1) := by decide +kernel
theorem d_LA_word_2 : decode b_LA_word 2 = .ok (.aload_n 0, 1) := by decide +kernel
theorem d_LA_word_3 : decode b_LA_word 3 = .ok (.iload_n 1, 1) := by decide +kernel
theorem d_LA_word_4 : decode b_LA_word 4 = .ok (.invokevirtual 46, 3) := by decide +kernel
theorem d_LA_word_7 : decode b_LA_word 7 = .ok (.lastore, 1) := by decide +kernel
theorem d_LA_word_8 : decode b_LA_word 8 = .ok (.goto 9, 3) := by decide +kernel
theorem d_LA_word_11 : decode b_LA_word 11 = .ok (.astore_n 3, 1) := by decide +kernel
theorem d_LA_word_12 : decode b_LA_word 12 = .ok (.iconst 1, 1) := by decide +kernel
theorem d_LA_word_13 : decode b_LA_word 13 = .ok (.ireturn, 1) := by decide +kernel
theorem d_LA_word_14 : decode b_LA_word 14 = .ok (.astore_n 3, 1) := by decide +kernel
theorem d_LA_word_15 : decode b_LA_word 15 = .ok (.iconst 2, 1) := by decide +kernel
theorem d_LA_word_16 : decode b_LA_word 16 = .ok (.ireturn, 1) := by decide +kernel
theorem d_LA_word_17 : decode b_LA_word 17 = .ok (.iconst 0, 1) := by decide +kernel
theorem d_LA_word_18 : decode b_LA_word 18 = .ok (.ireturn, 1) := by decide +kernel
theorem d_MT_word_0 : decode b_MT_word 0 = .ok (.aload_n 0, 1) := by decide +kernel
theorem d_MT_word_1 : decode b_MT_word 1 = .ok (.getfield 24, 3) := by decide +kernel
theorem d_MT_word_4 : decode b_MT_word 4 = .ok (.ifnonnull 11, 3) := by decide +kernel
theorem d_MT_word_7 : decode b_MT_word 7 = .ok (.new 92, 3) := by decide +kernel
theorem d_MT_word_10 : decode b_MT_word 10 = .ok (.dup, 1) := by decide +kernel
theorem d_MT_word_11 : decode b_MT_word 11 = .ok (.invokespecial 94, 3) := by decide +kernel
theorem d_MT_word_14 : decode b_MT_word 14 = .ok (.athrow, 1) := by decide +kernel
theorem d_MT_word_15 : decode b_MT_word 15 = .ok (.aload_n 0, 1) := by decide +kernel
theorem d_MT_word_16 : decode b_MT_word 16 = .ok (.getfield 24, 3) := by decide +kernel
theorem d_MT_word_19 : decode b_MT_word 19 = .ok (.getfield 75, 3) := by decide +kernel
theorem d_MT_word_22 : decode b_MT_word 22 = .ok (.astore_n 2, 1) := by decide +kernel
theorem d_MT_word_23 : decode b_MT_word 23 = .ok (.iload_n 1, 1) := by decide +kernel
theorem d_MT_word_24 : decode b_MT_word 24 = .ok (.ifCond .lt 9, 3) := by decide +kernel
theorem d_MT_word_27 : decode b_MT_word 27 = .ok (.iload_n 1, 1) := by decide +kernel
theorem d_MT_word_28 : decode b_MT_word 28 = .ok (.aload_n 2, 1) := by decide +kernel
theorem d_MT_word_29 : decode b_MT_word 29 = .ok (.arraylength, 1) := by decide +kernel
theorem d_MT_word_30 : decode b_MT_word 30 = .ok (.if_icmp .lt 11, 3) := by decide +kernel
theorem d_MT_word_33 : decode b_MT_word 33 = .ok (.new 28, 3) := by decide +kernel
theorem d_MT_word_36 : decode b_MT_word 36 = .ok (.dup, 1) := by decide +kernel
theorem d_MT_word_37 : decode b_MT_word 37 = .ok (.invokespecial 30, 3) := by decide +kernel
theorem d_MT_word_40 : decode b_MT_word 40 = .ok (.athrow, 1) := by decide +kernel
theorem d_MT_word_41 : decode b_MT_word 41 = .ok (.lconst 0, 1) := by decide +kernel
theorem d_MT_word_42 : decode b_MT_word 42 = .ok (.lstore_n 3, 1) := by decide +kernel
theorem d_MT_word_43 : decode b_MT_word 43 = .ok (.iload_n 1, 1) := by decide +kernel
theorem d_MT_word_44 : decode b_MT_word 44 = .ok (.istore 5, 2) := by decide +kernel
theorem d_MT_word_46 : decode b_MT_word 46 = .ok (.iload 5, 2) := by decide +kernel
theorem d_MT_word_48 : decode b_MT_word 48 = .ok (.iload_n 1, 1) := by decide +kernel
theorem d_MT_word_49 : decode b_MT_word 49 = .ok (.bipush 8, 2) := by decide +kernel
theorem d_MT_word_51 : decode b_MT_word 51 = .ok (.iadd, 1) := by decide +kernel
theorem d_MT_word_52 : decode b_MT_word 52 = .ok (.if_icmp .ge 35, 3) := by decide +kernel
theorem d_MT_word_55 : decode b_MT_word 55 = .ok (.lload_n 3, 1) := by decide +kernel
theorem d_MT_word_56 : decode b_MT_word 56 = .ok (.bipush 8, 2) := by decide +kernel
theorem d_MT_word_58 : decode b_MT_word 58 = .ok (.lshl, 1) := by decide +kernel
theorem d_MT_word_59 : decode b_MT_word 59 = .ok (.iload 5, 2) := by decide +kernel
theorem d_MT_word_61 : decode b_MT_word 61 = .ok (.aload_n 2, 1) := by decide +kernel
theorem d_MT_word_62 : decode b_MT_word 62 = .ok (.arraylength, 1) := by decide +kernel
theorem d_MT_word_63 : decode b_MT_word 63 = .ok (.if_icmp .ge 14, 3) := by decide +kernel
theorem d_MT_word_66 : decode b_MT_word 66 = .ok (.aload_n 2, 1) := by decide +kernel
theorem d_MT_word_67 : decode b_MT_word 67 = .ok (.iload 5, 2) := by decide +kernel
theorem d_MT_word_69 : decode b_MT_word 69 = .ok (.baload, 1) := by decide +kernel
theorem d_MT_word_70 : decode b_MT_word 70 = .ok (.sipush 255, 3) := by decide +kernel
theorem d_MT_word_73 : decode b_MT_word 73 = .ok (.iand, 1) := by decide +kernel
theorem d_MT_word_74 : decode b_MT_word 74 = .ok (.goto 4, 3) := by decide +kernel
theorem d_MT_word_77 : decode b_MT_word 77 = .ok (.iconst 0, 1) := by decide +kernel
theorem d_MT_word_78 : decode b_MT_word 78 = .ok (.i2l, 1) := by decide +kernel
theorem d_MT_word_79 : decode b_MT_word 79 = .ok (.lor, 1) := by decide +kernel
theorem d_MT_word_80 : decode b_MT_word 80 = .ok (.lstore_n 3, 1) := by decide +kernel
theorem d_MT_word_81 : decode b_MT_word 81 = .ok (.iinc 5 1, 3) := by decide +kernel
theorem d_MT_word_84 : decode b_MT_word 84 = .ok (.goto (-38), 3) := by decide +kernel
theorem d_MT_word_87 : decode b_MT_word 87 = .ok (.lload_n 3, 1) := by decide +kernel
theorem d_MT_word_88 : decode b_MT_word 88 = .ok (.lreturn, 1) := by decide +kernel
theorem d_MO_init_0 : decode b_MO_init 0 = .ok (.aload_n 0, 1) := by decide +kernel
theorem d_MO_init_1 : decode b_MO_init 1 = .ok (.invokespecial 1, 3) := by decide +kernel
theorem d_MO_init_4 : decode b_MO_init 4 = .ok (.aload_n 0, 1) := by decide +kernel
theorem d_MO_init_5 : decode b_MO_init 5 = .ok (.bipush 60, 2) := by decide +kernel
theorem d_MO_init_7 : decode b_MO_init 7 = .ok (.newarray .byte, 2) := by decide +kernel
theorem d_MO_init_9 : decode b_MO_init 9 = .ok (.putfield 7, 3) := by decide +kernel
theorem d_MO_init_12 : decode b_MO_init 12 = .ok (.aload_n 0, 1) := by decide +kernel
theorem d_MO_init_13 : decode b_MO_init 13 = .ok (.sipush 6440, 3) := by decide +kernel
theorem d_MO_init_16 : decode b_MO_init 16 = .ok (.newarray .byte, 2) := by decide +kernel
theorem d_MO_init_18 : decode b_MO_init 18 = .ok (.putfield 13, 3) := by decide +kernel
theorem d_MO_init_21 : decode b_MO_init 21 = .ok (.aload_n 0, 1) := by decide +kernel
theorem d_MO_init_22 : decode b_MO_init 22 = .ok (.sipush 161, 3) := by decide +kernel
theorem d_MO_init_25 : decode b_MO_init 25 = .ok (.newarray .int, 2) := by decide +kernel
theorem d_MO_init_27 : decode b_MO_init 27 = .ok (.putfield 16, 3) := by decide +kernel
theorem d_MO_init_30 : decode b_MO_init 30 = .ok (.aload_n 0, 1) := by decide +kernel
theorem d_MO_init_31 : decode b_MO_init 31 = .ok (.sipush 161, 3) := by decide +kernel
theorem d_MO_init_34 : decode b_MO_init 34 = .ok (.newarray .int, 2) := by decide +kernel
theorem d_MO_init_36 : decode b_MO_init 36 = .ok (.putfield 20, 3) := by decide +kernel
theorem d_MO_init_39 : decode b_MO_init 39 = .ok (.aload_n 0, 1) := by decide +kernel
theorem d_MO_init_40 : decode b_MO_init 40 = .ok (.sipush 161, 3) := by decide +kernel
theorem d_MO_init_43 : decode b_MO_init 43 = .ok (.newarray .int, 2) := by decide +kernel
theorem d_MO_init_45 : decode b_MO_init 45 = .ok (.putfield 23, 3) := by decide +kernel
theorem d_MO_init_48 : decode b_MO_init 48 = .ok (.aload_n 0, 1) := by decide +kernel
theorem d_MO_init_49 : decode b_MO_init 49 = .ok (.sipush 161, 3) := by decide +kernel
theorem d_MO_init_52 : decode b_MO_init 52 = .ok (.newarray .int, 2) := by decide +kernel
theorem d_MO_init_54 : decode b_MO_init 54 = .ok (.putfield 26, 3) := by decide +kernel
theorem d_MO_init_57 : decode b_MO_init 57 = .ok (.aload_n 0, 1) := by decide +kernel
theorem d_MO_init_58 : decode b_MO_init 58 = .ok (.iconst (-1), 1) := by decide +kernel
theorem d_MO_init_59 : decode b_MO_init 59 = .ok (.putfield 29, 3) := by decide +kernel
theorem d_MO_init_62 : decode b_MO_init 62 = .ok (.return_, 1) := by decide +kernel
theorem d_MO_thrown_0 : decode b_MO_thrown 0 = .ok (.aload_n 0, 1) := by decide +kernel
theorem d_MO_thrown_1 : decode b_MO_thrown 1 = .ok (.getfield 33, 3) := by decide +kernel
theorem d_MO_thrown_4 : decode b_MO_thrown 4 = .ok (.ireturn, 1) := by decide +kernel
theorem d_MO_feed_0 : decode b_MO_feed 0 = .ok (.aload_n 0, 1) := by decide +kernel
theorem d_MO_feed_1 : decode b_MO_feed 1 = .ok (.iconst 0, 1) := by decide +kernel
theorem d_MO_feed_2 : decode b_MO_feed 2 = .ok (.putfield 33, 3) := by decide +kernel
theorem d_MO_feed_5 : decode b_MO_feed 5 = .ok (.aload_n 0, 1) := by decide +kernel
theorem d_MO_feed_6 : decode b_MO_feed 6 = .ok (.getfield 36, 3) := by decide +kernel
theorem d_MO_feed_9 : decode b_MO_feed 9 = .ok (.bipush 20, 2) := by decide +kernel
theorem d_MO_feed_11 : decode b_MO_feed 11 = .ok (.iadd, 1) := by decide +kernel
theorem d_MO_feed_12 : decode b_MO_feed 12 = .ok (.bipush 60, 2) := by decide +kernel
theorem d_MO_feed_14 : decode b_MO_feed 14 = .ok (.if_icmp .le 9, 3) := by decide +kernel
theorem d_MO_feed_17 : decode b_MO_feed 17 = .ok (.aload_n 0, 1) := by decide +kernel
theorem d_MO_feed_18 : decode b_MO_feed 18 = .ok (.iconst 1, 1) := by decide +kernel
theorem d_MO_feed_19 : decode b_MO_feed 19 = .ok (.invokevirtual 39, 3) := by decide +kernel
theorem d_MO_feed_22 : decode b_MO_feed 22 = .ok (.ireturn, 1) := by decide +kernel
theorem d_MO_feed_23 : decode b_MO_feed 23 = .ok (.iconst 0, 1) := by decide +kernel
theorem d_MO_feed_24 : decode b_MO_feed 24 = .ok (.istore 6, 2) := by decide +kernel
theorem d_MO_feed_26 : decode b_MO_feed 26 = .ok (.iload 6, 2) := by decide +kernel
theorem d_MO_feed_28 : decode b_MO_feed 28 = .ok (.bipush 20, 2) := by decide +kernel
theorem d_MO_feed_30 : decode b_MO_feed 30 = .ok (.if_icmp .ge 90, 3) := by decide +kernel
theorem d_MO_feed_33 : decode b_MO_feed 33 = .ok (.iload 6, 2) := by decide +kernel
theorem d_MO_feed_35 : decode b_MO_feed 35 = .ok (.iconst 4, 1) := by decide +kernel
theorem d_MO_feed_36 : decode b_MO_feed 36 = .ok (.if_icmp .ge 7, 3) := by decide +kernel
theorem d_MO_feed_39 : decode b_MO_feed 39 = .ok (.iload_n 1, 1) := by decide +kernel
theorem d_MO_feed_40 : decode b_MO_feed 40 = .ok (.goto 39, 3) := by decide +kernel
theorem d_MO_feed_43 : decode b_MO_feed 43 = .ok (.iload 6, 2) := by decide +kernel
theorem d_MO_feed_45 : decode b_MO_feed 45 = .ok (.bipush 8, 2) := by decide +kernel
theorem d_MO_feed_47 : decode b_MO_feed 47 = .ok (.if_icmp .ge 7, 3) := by decide +kernel
theorem d_MO_feed_50 : decode b_MO_feed 50 = .ok (.iload_n 2, 1) := by decide +kernel
theorem d_MO_feed_51 : decode b_MO_feed 51 = .ok (.goto 28, 3) := by decide +kernel
theorem d_MO_feed_54 : decode b_MO_feed 54 = .ok (.iload 6, 2) := by decide +kernel
theorem d_MO_feed_56 : decode b_MO_feed 56 = .ok (.bipush 12, 2) := by decide +kernel
theorem d_MO_feed_58 : decode b_MO_feed 58 = .ok (.if_icmp .ge 7, 3) := by decide +kernel
theorem d_MO_feed_61 : decode b_MO_feed 61 = .ok (.iload_n 3, 1) := by decide +kernel
theorem d_MO_feed_62 : decode b_MO_feed 62 = .ok (.goto 17, 3) := by decide +kernel
theorem d_MO_feed_65 : decode b_MO_feed 65 = .ok (.iload 6, 2) := by decide +kernel
theorem d_MO_feed_67 : decode b_MO_feed 67 = .ok (.bipush 16, 2) := by decide +kernel
theorem d_MO_feed_69 : decode b_MO_feed 69 = .ok (.if_icmp .ge 8, 3) := by decide +kernel
theorem d_MO_feed_72 : decode b_MO_feed 72 = .ok (.iload 4, 2) := by decide +kernel
theorem d_MO_feed_74 : decode b_MO_feed 74 = .ok (.goto 5, 3) := by decide +kernel
theorem d_MO_feed_77 : decode b_MO_feed 77 = .ok (.iload 5, 2) := by decide +kernel
theorem d_MO_feed_79 : decode b_MO_feed 79 = .ok (.istore 7, 2) := by decide +kernel
theorem d_MO_feed_81 : decode b_MO_feed 81 = .ok (.aload_n 0, 1) := by decide +kernel
theorem d_MO_feed_82 : decode b_MO_feed 82 = .ok (.getfield 7, 3) := by decide +kernel
theorem d_MO_feed_85 : decode b_MO_feed 85 = .ok (.aload_n 0, 1) := by decide +kernel
theorem d_MO_feed_86 : decode b_MO_feed 86 = .ok (.getfield 36, 3) := by decide +kernel
theorem d_MO_feed_89 : decode b_MO_feed 89 = .ok (.iload 7, 2) := by decide +kernel
theorem d_MO_feed_91 : decode b_MO_feed 91 = .ok (.bipush 24, 2) := by decide +kernel
theorem d_MO_feed_93 : decode b_MO_feed 93 = .ok (.bipush 8, 2) := by decide +kernel
theorem d_MO_feed_95 : decode b_MO_feed 95 = .ok (.iload 6, 2) := by decide +kernel
theorem d_MO_feed_97 : decode b_MO_feed 97 = .ok (.iconst 4, 1) := by decide +kernel
theorem d_MO_feed_98 : decode b_MO_feed 98 = .ok (.irem, 1) := by decide +kernel
theorem d_MO_feed_99 : decode b_MO_feed 99 = .ok (.imul, 1) := by decide +kernel
theorem d_MO_feed_100 : decode b_MO_feed 100 = .ok (.isub, 1) := by decide +kernel
theorem d_MO_feed_101 : decode b_MO_feed 101 = .ok (.ishr, 1) := by decide +kernel
theorem d_MO_feed_102 : decode b_MO_feed 102 = .ok (.i2b, 1) := by decide +kernel
theorem d_MO_feed_103 : decode b_MO_feed 103 = .ok (.bastore, 1) := by decide +kernel
theorem d_MO_feed_104 : decode b_MO_feed 104 = .ok (.aload_n 0, 1) := by decide +kernel
theorem d_MO_feed_105 : decode b_MO_feed 105 = .ok (.dup, 1) := by decide +kernel
theorem d_MO_feed_106 : decode b_MO_feed 106 = .ok (.getfield 36, 3) := by decide +kernel
theorem d_MO_feed_109 : decode b_MO_feed 109 = .ok (.iconst 1, 1) := by decide +kernel
theorem d_MO_feed_110 : decode b_MO_feed 110 = .ok (.iadd, 1) := by decide +kernel
theorem d_MO_feed_111 : decode b_MO_feed 111 = .ok (.putfield 36, 3) := by decide +kernel
theorem d_MO_feed_114 : decode b_MO_feed 114 = .ok (.iinc 6 1, 3) := by decide +kernel
theorem d_MO_feed_117 : decode b_MO_feed 117 = .ok (.goto (-91), 3) := by decide +kernel
theorem d_MO_feed_120 : decode b_MO_feed 120 = .ok (.aload_n 0, 1) := by decide +kernel
theorem d_MO_feed_121 : decode b_MO_feed 121 = .ok (.getfield 36, 3) := by decide +kernel
theorem d_MO_feed_124 : decode b_MO_feed 124 = .ok (.ireturn, 1) := by decide +kernel
theorem d_MO_fail_0 : decode b_MO_fail 0 = .ok (.aload_n 0, 1) := by decide +kernel
theorem d_MO_fail_1 : decode b_MO_fail 1 = .ok (.iload_n 1, 1) := by decide +kernel
theorem d_MO_fail_2 : decode b_MO_fail 2 = .ok (.putfield 33, 3) := by decide +kernel
theorem d_MO_fail_5 : decode b_MO_fail 5 = .ok (.iconst 0, 1) := by decide +kernel
theorem d_MO_fail_6 : decode b_MO_fail 6 = .ok (.ireturn, 1) := by decide +kernel
theorem d_MO_end_0 : decode b_MO_end 0 = .ok (.aload_n 0, 1) := by decide +kernel
theorem d_MO_end_1 : decode b_MO_end 1 = .ok (.iconst 0, 1) := by decide +kernel
theorem d_MO_end_2 : decode b_MO_end 2 = .ok (.putfield 33, 3) := by decide +kernel
theorem d_MO_end_5 : decode b_MO_end 5 = .ok (.iload_n 1, 1) := by decide +kernel
theorem d_MO_end_6 : decode b_MO_end 6 = .ok (.ifCond .lt 11, 3) := by decide +kernel
theorem d_MO_end_9 : decode b_MO_end 9 = .ok (.iload_n 1, 1) := by decide +kernel
theorem d_MO_end_10 : decode b_MO_end 10 = .ok (.aload_n 0, 1) := by decide +kernel
theorem d_MO_end_11 : decode b_MO_end 11 = .ok (.getfield 36, 3) := by decide +kernel
theorem d_MO_end_14 : decode b_MO_end 14 = .ok (.if_icmp .le 9, 3) := by decide +kernel
theorem d_MO_end_17 : decode b_MO_end 17 = .ok (.aload_n 0, 1) := by decide +kernel
theorem d_MO_end_18 : decode b_MO_end 18 = .ok (.iconst 1, 1) := by decide +kernel
theorem d_MO_end_19 : decode b_MO_end 19 = .ok (.invokevirtual 39, 3) := by decide +kernel
theorem d_MO_end_22 : decode b_MO_end 22 = .ok (.ireturn, 1) := by decide +kernel
theorem d_MO_end_23 : decode b_MO_end 23 = .ok (.aload_n 0, 1) := by decide +kernel
theorem d_MO_end_24 : decode b_MO_end 24 = .ok (.iload_n 1, 1) := by decide +kernel
theorem d_MO_end_25 : decode b_MO_end 25 = .ok (.putfield 36, 3) := by decide +kernel
theorem d_MO_end_28 : decode b_MO_end 28 = .ok (.iload_n 1, 1) := by decide +kernel
theorem d_MO_end_29 : decode b_MO_end 29 = .ok (.ireturn, 1) := by decide +kernel
theorem d_MO_put_0 : decode b_MO_put 0 = .ok (.aload_n 0, 1) := by decide +kernel
theorem d_MO_put_1 : decode b_MO_put 1 = .ok (.iconst 0, 1) := by decide +kernel
theorem d_MO_put_2 : decode b_MO_put 2 = .ok (.putfield 33, 3) := by decide +kernel
theorem d_MO_put_5 : decode b_MO_put 5 = .ok (.aload_n 0, 1) := by decide +kernel
theorem d_MO_put_6 : decode b_MO_put 6 = .ok (.getfield 36, 3) := by decide +kernel
theorem d_MO_put_9 : decode b_MO_put 9 = .ok (.iconst 1, 1) := by decide +kernel
theorem d_MO_put_10 : decode b_MO_put 10 = .ok (.if_icmp .lt 32, 3) := by decide +kernel
theorem d_MO_put_13 : decode b_MO_put 13 = .ok (.aload_n 0, 1) := by decide +kernel
theorem d_MO_put_14 : decode b_MO_put 14 = .ok (.getfield 36, 3) := by decide +kernel
theorem d_MO_put_17 : decode b_MO_put 17 = .ok (.bipush 40, 2) := by decide +kernel
theorem d_MO_put_19 : decode b_MO_put 19 = .ok (.if_icmp .gt 23, 3) := by decide +kernel
theorem d_MO_put_22 : decode b_MO_put 22 = .ok (.iload_n 1, 1) := by decide +kernel
theorem d_MO_put_23 : decode b_MO_put 23 = .ok (.ifCond .lt 19, 3) := by decide +kernel
theorem d_MO_put_26 : decode b_MO_put 26 = .ok (.iload_n 2, 1) := by decide +kernel
theorem d_MO_put_27 : decode b_MO_put 27 = .ok (.iconst (-1), 1) := by decide +kernel
theorem d_MO_put_28 : decode b_MO_put 28 = .ok (.if_icmp .lt 14, 3) := by decide +kernel
theorem d_MO_put_31 : decode b_MO_put 31 = .ok (.iload_n 3, 1) := by decide +kernel
theorem d_MO_put_32 : decode b_MO_put 32 = .ok (.ifCond .lt 10, 3) := by decide +kernel
theorem d_MO_put_35 : decode b_MO_put 35 = .ok (.iload_n 3, 1) := by decide +kernel
theorem d_MO_put_36 : decode b_MO_put 36 = .ok (.sipush 1000, 3) := by decide +kernel
theorem d_MO_put_39 : decode b_MO_put 39 = .ok (.if_icmp .le 9, 3) := by decide +kernel
theorem d_MO_put_42 : decode b_MO_put 42 = .ok (.aload_n 0, 1) := by decide +kernel
theorem d_MO_put_43 : decode b_MO_put 43 = .ok (.iconst 1, 1) := by decide +kernel
theorem d_MO_put_44 : decode b_MO_put 44 = .ok (.invokevirtual 39, 3) := by decide +kernel
theorem d_MO_put_47 : decode b_MO_put 47 = .ok (.ireturn, 1) := by decide +kernel
theorem d_MO_put_48 : decode b_MO_put 48 = .ok (.aload_n 0, 1) := by decide +kernel
theorem d_MO_put_49 : decode b_MO_put 49 = .ok (.getfield 36, 3) := by decide +kernel
theorem d_MO_put_52 : decode b_MO_put 52 = .ok (.istore 4, 2) := by decide +kernel
theorem d_MO_put_54 : decode b_MO_put 54 = .ok (.aload_n 0, 1) := by decide +kernel
theorem d_MO_put_55 : decode b_MO_put 55 = .ok (.iconst 0, 1) := by decide +kernel
theorem d_MO_put_56 : decode b_MO_put 56 = .ok (.putfield 36, 3) := by decide +kernel
theorem d_MO_put_59 : decode b_MO_put 59 = .ok (.aload_n 0, 1) := by decide +kernel
theorem d_MO_put_60 : decode b_MO_put 60 = .ok (.iload 4, 2) := by decide +kernel
theorem d_MO_put_62 : decode b_MO_put 62 = .ok (.iload_n 1, 1) := by decide +kernel
theorem d_MO_put_63 : decode b_MO_put 63 = .ok (.invokevirtual 50, 3) := by decide +kernel
theorem d_MO_put_66 : decode b_MO_put 66 = .ok (.istore 5, 2) := by decide +kernel
theorem d_MO_put_68 : decode b_MO_put 68 = .ok (.iload 5, 2) := by decide +kernel
theorem d_MO_put_70 : decode b_MO_put 70 = .ok (.aload_n 0, 1) := by decide +kernel
theorem d_MO_put_71 : decode b_MO_put 71 = .ok (.getfield 43, 3) := by decide +kernel
theorem d_MO_put_74 : decode b_MO_put 74 = .ok (.if_icmp .ge 19, 3) := by decide +kernel
theorem d_MO_put_77 : decode b_MO_put 77 = .ok (.aload_n 0, 1) := by decide +kernel
theorem d_MO_put_78 : decode b_MO_put 78 = .ok (.iload 5, 2) := by decide +kernel
theorem d_MO_put_80 : decode b_MO_put 80 = .ok (.iload 4, 2) := by decide +kernel
theorem d_MO_put_82 : decode b_MO_put 82 = .ok (.iload_n 1, 1) := by decide +kernel
theorem d_MO_put_83 : decode b_MO_put 83 = .ok (.invokevirtual 46, 3) := by decide +kernel
theorem d_MO_put_86 : decode b_MO_put 86 = .ok (.ifCond .ne 7, 3) := by decide +kernel
theorem d_MO_put_89 : decode b_MO_put 89 = .ok (.iconst 1, 1) := by decide +kernel
theorem d_MO_put_90 : decode b_MO_put 90 = .ok (.goto 4, 3) := by decide +kernel
theorem d_MO_put_93 : decode b_MO_put 93 = .ok (.iconst 0, 1) := by decide +kernel
theorem d_MO_put_94 : decode b_MO_put 94 = .ok (.istore 6, 2) := by decide +kernel
theorem d_MO_put_96 : decode b_MO_put 96 = .ok (.iload 6, 2) := by decide +kernel
theorem d_MO_put_98 : decode b_MO_put 98 = .ok (.ifCond .ne 19, 3) := by decide +kernel
theorem d_MO_put_101 : decode b_MO_put 101 = .ok (.aload_n 0, 1) := by decide +kernel
theorem d_MO_put_102 : decode b_MO_put 102 = .ok (.getfield 43, 3) := by decide +kernel
theorem d_MO_put_105 : decode b_MO_put 105 = .ok (.sipush 160, 3) := by decide +kernel
theorem d_MO_put_108 : decode b_MO_put 108 = .ok (.if_icmp .ne 9, 3) := by decide +kernel
theorem d_MO_put_111 : decode b_MO_put 111 = .ok (.aload_n 0, 1) := by decide +kernel
theorem d_MO_put_112 : decode b_MO_put 112 = .ok (.iconst 2, 1) := by decide +kernel
theorem d_MO_put_113 : decode b_MO_put 113 = .ok (.invokevirtual 39, 3) := by decide +kernel
theorem d_MO_put_116 : decode b_MO_put 116 = .ok (.ireturn, 1) := by decide +kernel
theorem d_MO_put_117 : decode b_MO_put 117 = .ok (.iload 6, 2) := by decide +kernel
theorem d_MO_put_119 : decode b_MO_put 119 = .ok (.ifCond .ne 91, 3) := by decide +kernel
theorem d_MO_put_122 : decode b_MO_put 122 = .ok (.aload_n 0, 1) := by decide +kernel
theorem d_MO_put_123 : decode b_MO_put 123 = .ok (.iload 5, 2) := by decide +kernel
theorem d_MO_put_125 : decode b_MO_put 125 = .ok (.invokevirtual 54, 3) := by decide +kernel
theorem d_MO_put_128 : decode b_MO_put 128 = .ok (.aload_n 0, 1) := by decide +kernel
theorem d_MO_put_129 : decode b_MO_put 129 = .ok (.dup, 1) := by decide +kernel
theorem d_MO_put_130 : decode b_MO_put 130 = .ok (.getfield 43, 3) := by decide +kernel
theorem d_MO_put_133 : decode b_MO_put 133 = .ok (.iconst 1, 1) := by decide +kernel
theorem d_MO_put_134 : decode b_MO_put 134 = .ok (.iadd, 1) := by decide +kernel
theorem d_MO_put_135 : decode b_MO_put 135 = .ok (.putfield 43, 3) := by decide +kernel
theorem d_MO_put_138 : decode b_MO_put 138 = .ok (.aload_n 0, 1) := by decide +kernel
theorem d_MO_put_139 : decode b_MO_put 139 = .ok (.getfield 29, 3) := by decide +kernel
theorem d_MO_put_142 : decode b_MO_put 142 = .ok (.iload 5, 2) := by decide +kernel
theorem d_MO_put_144 : decode b_MO_put 144 = .ok (.if_icmp .lt 13, 3) := by decide +kernel
theorem d_MO_put_147 : decode b_MO_put 147 = .ok (.aload_n 0, 1) := by decide +kernel
theorem d_MO_put_148 : decode b_MO_put 148 = .ok (.dup, 1) := by decide +kernel
theorem d_MO_put_149 : decode b_MO_put 149 = .ok (.getfield 29, 3) := by decide +kernel
theorem d_MO_put_152 : decode b_MO_put 152 = .ok (.iconst 1, 1) := by decide +kernel
theorem d_MO_put_153 : decode b_MO_put 153 = .ok (.iadd, 1) := by decide +kernel
theorem d_MO_put_154 : decode b_MO_put 154 = .ok (.putfield 29, 3) := by decide +kernel
theorem d_MO_put_157 : decode b_MO_put 157 = .ok (.iconst 0, 1) := by decide +kernel
theorem d_MO_put_158 : decode b_MO_put 158 = .ok (.istore 7, 2) := by decide +kernel
theorem d_MO_put_160 : decode b_MO_put 160 = .ok (.iload 7, 2) := by decide +kernel
theorem d_MO_put_162 : decode b_MO_put 162 = .ok (.iload 4, 2) := by decide +kernel
theorem d_MO_put_164 : decode b_MO_put 164 = .ok (.if_icmp .ge 29, 3) := by decide +kernel
theorem d_MO_put_167 : decode b_MO_put 167 = .ok (.aload_n 0, 1) := by decide +kernel
theorem d_MO_put_168 : decode b_MO_put 168 = .ok (.getfield 13, 3) := by decide +kernel
theorem d_MO_put_171 : decode b_MO_put 171 = .ok (.bipush 40, 2) := by decide +kernel
theorem d_MO_put_173 : decode b_MO_put 173 = .ok (.iload 5, 2) := by decide +kernel
theorem d_MO_put_175 : decode b_MO_put 175 = .ok (.imul, 1) := by decide +kernel
theorem d_MO_put_176 : decode b_MO_put 176 = .ok (.iload 7, 2) := by decide +kernel
theorem d_MO_put_178 : decode b_MO_put 178 = .ok (.iadd, 1) := by decide +kernel
theorem d_MO_put_179 : decode b_MO_put 179 = .ok (.aload_n 0, 1) := by decide +kernel
theorem d_MO_put_180 : decode b_MO_put 180 = .ok (.getfield 7, 3) := by decide +kernel
theorem d_MO_put_183 : decode b_MO_put 183 = .ok (.iload 7, 2) := by decide +kernel
theorem d_MO_put_185 : decode b_MO_put 185 = .ok (.baload, 1) := by decide +kernel
theorem d_MO_put_186 : decode b_MO_put 186 = .ok (.bastore, 1) := by decide +kernel
theorem d_MO_put_187 : decode b_MO_put 187 = .ok (.iinc 7 1, 3) := by decide +kernel
theorem d_MO_put_190 : decode b_MO_put 190 = .ok (.goto (-30), 3) := by decide +kernel
theorem d_MO_put_193 : decode b_MO_put 193 = .ok (.aload_n 0, 1) := by decide +kernel
theorem d_MO_put_194 : decode b_MO_put 194 = .ok (.getfield 16, 3) := by decide +kernel
theorem d_MO_put_197 : decode b_MO_put 197 = .ok (.iload 5, 2) := by decide +kernel
theorem d_MO_put_199 : decode b_MO_put 199 = .ok (.iload 4, 2) := by decide +kernel
theorem d_MO_put_201 : decode b_MO_put 201 = .ok (.iastore, 1) := by decide +kernel
theorem d_MO_put_202 : decode b_MO_put 202 = .ok (.aload_n 0, 1) := by decide +kernel
theorem d_MO_put_203 : decode b_MO_put 203 = .ok (.getfield 20, 3) := by decide +kernel
theorem d_MO_put_206 : decode b_MO_put 206 = .ok (.iload 5, 2) := by decide +kernel
theorem d_MO_put_208 : decode b_MO_put 208 = .ok (.iload_n 1, 1) := by decide +kernel
theorem d_MO_put_209 : decode b_MO_put 209 = .ok (.iastore, 1) := by decide +kernel
theorem d_MO_put_210 : decode b_MO_put 210 = .ok (.aload_n 0, 1) := by decide +kernel
theorem d_MO_put_211 : decode b_MO_put 211 = .ok (.getfield 23, 3) := by decide +kernel
theorem d_MO_put_214 : decode b_MO_put 214 = .ok (.iload 5, 2) := by decide +kernel
theorem d_MO_put_216 : decode b_MO_put 216 = .ok (.iload_n 2, 1) := by decide +kernel
theorem d_MO_put_217 : decode b_MO_put 217 = .ok (.iastore, 1) := by decide +kernel
theorem d_MO_put_218 : decode b_MO_put 218 = .ok (.aload_n 0, 1) := by decide +kernel
theorem d_MO_put_219 : decode b_MO_put 219 = .ok (.getfield 26, 3) := by decide +kernel
theorem d_MO_put_222 : decode b_MO_put 222 = .ok (.iload 5, 2) := by decide +kernel
theorem d_MO_put_224 : decode b_MO_put 224 = .ok (.iload_n 3, 1) := by decide +kernel
theorem d_MO_put_225 : decode b_MO_put 225 = .ok (.iastore, 1) := by decide +kernel
theorem d_MO_put_226 : decode b_MO_put 226 = .ok (.aload_n 0, 1) := by decide +kernel
theorem d_MO_put_227 : decode b_MO_put 227 = .ok (.getfield 43, 3) := by decide +kernel
theorem d_MO_put_230 : decode b_MO_put 230 = .ok (.ireturn, 1) := by decide +kernel
theorem d_MO_before_0 : decode b_MO_before 0 = .ok (.iconst 0, 1) := by decide +kernel
theorem d_MO_before_1 : decode b_MO_before 1 = .ok (.istore_n 3, 1) := by decide +kernel
theorem d_MO_before_2 : decode b_MO_before 2 = .ok (.iload_n 3, 1) := by decide +kernel
theorem d_MO_before_3 : decode b_MO_before 3 = .ok (.aload_n 0, 1) := by decide +kernel
theorem d_MO_before_4 : decode b_MO_before 4 = .ok (.getfield 43, 3) := by decide +kernel
theorem d_MO_before_7 : decode b_MO_before 7 = .ok (.if_icmp .ge 19, 3) := by decide +kernel
theorem d_MO_before_10 : decode b_MO_before 10 = .ok (.aload_n 0, 1) := by decide +kernel
theorem d_MO_before_11 : decode b_MO_before 11 = .ok (.iload_n 3, 1) := by decide +kernel
theorem d_MO_before_12 : decode b_MO_before 12 = .ok (.iload_n 1, 1) := by decide +kernel
theorem d_MO_before_13 : decode b_MO_before 13 = .ok (.iload_n 2, 1) := by decide +kernel
theorem d_MO_before_14 : decode b_MO_before 14 = .ok (.invokevirtual 46, 3) := by decide +kernel
theorem d_MO_before_17 : decode b_MO_before 17 = .ok (.ifCond .ge 9, 3) := by decide +kernel
theorem d_MO_before_20 : decode b_MO_before 20 = .ok (.iinc 3 1, 3) := by decide +kernel
theorem d_MO_before_23 : decode b_MO_before 23 = .ok (.goto (-21), 3) := by decide +kernel
theorem d_MO_before_26 : decode b_MO_before 26 = .ok (.iload_n 3, 1) := by decide +kernel
theorem d_MO_before_27 : decode b_MO_before 27 = .ok (.ireturn, 1) := by decide +kernel
theorem d_MO_compare_0 : decode b_MO_compare 0 = .ok (.iconst 0, 1) := by decide +kernel
theorem d_MO_compare_1 : decode b_MO_compare 1 = .ok (.istore 4, 2) := by decide +kernel
theorem d_MO_compare_3 : decode b_MO_compare 3 = .ok (.iload 4, 2) := by decide +kernel
theorem d_MO_compare_5 : decode b_MO_compare 5 = .ok (.aload_n 0, 1) := by decide +kernel
theorem d_MO_compare_6 : decode b_MO_compare 6 = .ok (.getfield 16, 3) := by decide +kernel
theorem d_MO_compare_9 : decode b_MO_compare 9 = .ok (.iload_n 1, 1) := by decide +kernel
theorem d_MO_compare_10 : decode b_MO_compare 10 = .ok (.iaload, 1) := by decide +kernel
theorem d_MO_compare_11 : decode b_MO_compare 11 = .ok (.if_icmp .ge 53, 3) := by decide +kernel
theorem d_MO_compare_14 : decode b_MO_compare 14 = .ok (.iload 4, 2) := by decide +kernel
theorem d_MO_compare_16 : decode b_MO_compare 16 = .ok (.iload_n 2, 1) := by decide +kernel
theorem d_MO_compare_17 : decode b_MO_compare 17 = .ok (.if_icmp .ge 47, 3) := by decide +kernel
theorem d_MO_compare_20 : decode b_MO_compare 20 = .ok (.aload_n 0, 1) := by decide +kernel
theorem d_MO_compare_21 : decode b_MO_compare 21 = .ok (.getfield 13, 3) := by decide +kernel
theorem d_MO_compare_24 : decode b_MO_compare 24 = .ok (.bipush 40, 2) := by decide +kernel
theorem d_MO_compare_26 : decode b_MO_compare 26 = .ok (.iload_n 1, 1) := by decide +kernel
theorem d_MO_compare_27 : decode b_MO_compare 27 = .ok (.imul, 1) := by decide +kernel
theorem d_MO_compare_28 : decode b_MO_compare 28 = .ok (.iload 4, 2) := by decide +kernel
theorem d_MO_compare_30 : decode b_MO_compare 30 = .ok (.iadd, 1) := by decide +kernel
theorem d_MO_compare_31 : decode b_MO_compare 31 = .ok (.baload, 1) := by decide +kernel
theorem d_MO_compare_32 : decode b_MO_compare 32 = .ok (.sipush 255, 3) := by decide +kernel
theorem d_MO_compare_35 : decode b_MO_compare 35 = .ok (.iand, 1) := by decide +kernel
theorem d_MO_compare_36 : decode b_MO_compare 36 = .ok (.aload_n 0, 1) := by decide +kernel
theorem d_MO_compare_37 : decode b_MO_compare 37 = .ok (.getfield 7, 3) := by decide +kernel
theorem d_MO_compare_40 : decode b_MO_compare 40 = .ok (.iload 4, 2) := by decide +kernel
theorem d_MO_compare_42 : decode b_MO_compare 42 = .ok (.baload, 1) := by decide +kernel
theorem d_MO_compare_43 : decode b_MO_compare 43 = .ok (.sipush 255, 3) := by decide +kernel
theorem d_MO_compare_46 : decode b_MO_compare 46 = .ok (.iand, 1) := by decide +kernel
theorem d_MO_compare_47 : decode b_MO_compare 47 = .ok (.isub, 1) := by decide +kernel
theorem d_MO_compare_48 : decode b_MO_compare 48 = .ok (.istore 5, 2) := by decide +kernel
theorem d_MO_compare_50 : decode b_MO_compare 50 = .ok (.iload 5, 2) := by decide +kernel
theorem d_MO_compare_52 : decode b_MO_compare 52 = .ok (.ifCond .eq 6, 3) := by decide +kernel
theorem d_MO_compare_55 : decode b_MO_compare 55 = .ok (.iload 5, 2) := by decide +kernel
theorem d_MO_compare_57 : decode b_MO_compare 57 = .ok (.ireturn, 1) := by decide +kernel
theorem d_MO_compare_58 : decode b_MO_compare 58 = .ok (.iinc 4 1, 3) := by decide +kernel
theorem d_MO_compare_61 : decode b_MO_compare 61 = .ok (.goto (-58), 3) := by decide +kernel
theorem d_MO_compare_64 : decode b_MO_compare 64 = .ok (.aload_n 0, 1) := by decide +kernel
theorem d_MO_compare_65 : decode b_MO_compare 65 = .ok (.getfield 16, 3) := by decide +kernel
theorem d_MO_compare_68 : decode b_MO_compare 68 = .ok (.iload_n 1, 1) := by decide +kernel
theorem d_MO_compare_69 : decode b_MO_compare 69 = .ok (.iaload, 1) := by decide +kernel
theorem d_MO_compare_70 : decode b_MO_compare 70 = .ok (.iload_n 2, 1) := by decide +kernel
theorem d_MO_compare_71 : decode b_MO_compare 71 = .ok (.if_icmp .eq 12, 3) := by decide +kernel
theorem d_MO_compare_74 : decode b_MO_compare 74 = .ok (.aload_n 0, 1) := by decide +kernel
theorem d_MO_compare_75 : decode b_MO_compare 75 = .ok (.getfield 16, 3) := by decide +kernel
theorem d_MO_compare_78 : decode b_MO_compare 78 = .ok (.iload_n 1, 1) := by decide +kernel
theorem d_MO_compare_79 : decode b_MO_compare 79 = .ok (.iaload, 1) := by decide +kernel
theorem d_MO_compare_80 : decode b_MO_compare 80 = .ok (.iload_n 2, 1) := by decide +kernel
theorem d_MO_compare_81 : decode b_MO_compare 81 = .ok (.isub, 1) := by decide +kernel
theorem d_MO_compare_82 : decode b_MO_compare 82 = .ok (.ireturn, 1) := by decide +kernel
theorem d_MO_compare_83 : decode b_MO_compare 83 = .ok (.aload_n 0, 1) := by decide +kernel
theorem d_MO_compare_84 : decode b_MO_compare 84 = .ok (.getfield 20, 3) := by decide +kernel
theorem d_MO_compare_87 : decode b_MO_compare 87 = .ok (.iload_n 1, 1) := by decide +kernel
theorem d_MO_compare_88 : decode b_MO_compare 88 = .ok (.iaload, 1) := by decide +kernel
theorem d_MO_compare_89 : decode b_MO_compare 89 = .ok (.iload_n 3, 1) := by decide +kernel
theorem d_MO_compare_90 : decode b_MO_compare 90 = .ok (.if_icmp .le 7, 3) := by decide +kernel
theorem d_MO_compare_93 : decode b_MO_compare 93 = .ok (.iconst (-1), 1) := by decide +kernel
theorem d_MO_compare_94 : decode b_MO_compare 94 = .ok (.goto 18, 3) := by decide +kernel
theorem d_MO_compare_97 : decode b_MO_compare 97 = .ok (.aload_n 0, 1) := by decide +kernel
theorem d_MO_compare_98 : decode b_MO_compare 98 = .ok (.getfield 20, 3) := by decide +kernel
theorem d_MO_compare_101 : decode b_MO_compare 101 = .ok (.iload_n 1, 1) := by decide +kernel
theorem d_MO_compare_102 : decode b_MO_compare 102 = .ok (.iaload, 1) := by decide +kernel
theorem d_MO_compare_103 : decode b_MO_compare 103 = .ok (.iload_n 3, 1) := by decide +kernel
theorem d_MO_compare_104 : decode b_MO_compare 104 = .ok (.if_icmp .ge 7, 3) := by decide +kernel
theorem d_MO_compare_107 : decode b_MO_compare 107 = .ok (.iconst 1, 1) := by decide +kernel
theorem d_MO_compare_108 : decode b_MO_compare 108 = .ok (.goto 4, 3) := by decide +kernel
theorem d_MO_compare_111 : decode b_MO_compare 111 = .ok (.iconst 0, 1) := by decide +kernel
theorem d_MO_compare_112 : decode b_MO_compare 112 = .ok (.ireturn, 1) := by decide +kernel
theorem d_MO_moveUp_0 : decode b_MO_moveUp 0 = .ok (.aload_n 0, 1) := by decide +kernel
theorem d_MO_moveUp_1 : decode b_MO_moveUp 1 = .ok (.getfield 43, 3) := by decide +kernel
theorem d_MO_moveUp_4 : decode b_MO_moveUp 4 = .ok (.istore_n 2, 1) := by decide +kernel
theorem d_MO_moveUp_5 : decode b_MO_moveUp 5 = .ok (.iload_n 2, 1) := by decide +kernel
theorem d_MO_moveUp_6 : decode b_MO_moveUp 6 = .ok (.iload_n 1, 1) := by decide +kernel
theorem d_MO_moveUp_7 : decode b_MO_moveUp 7 = .ok (.if_icmp .le 104, 3) := by decide +kernel
theorem d_MO_moveUp_10 : decode b_MO_moveUp 10 = .ok (.iconst 0, 1) := by decide +kernel
theorem d_MO_moveUp_11 : decode b_MO_moveUp 11 = .ok (.istore_n 3, 1) := by decide +kernel
theorem d_MO_moveUp_12 : decode b_MO_moveUp 12 = .ok (.iload_n 3, 1) := by decide +kernel
theorem d_MO_moveUp_13 : decode b_MO_moveUp 13 = .ok (.bipush 40, 2) := by decide +kernel
theorem d_MO_moveUp_15 : decode b_MO_moveUp 15 = .ok (.if_icmp .ge 34, 3) := by decide +kernel
theorem d_MO_moveUp_18 : decode b_MO_moveUp 18 = .ok (.aload_n 0, 1) := by decide +kernel
theorem d_MO_moveUp_19 : decode b_MO_moveUp 19 = .ok (.getfield 13, 3) := by decide +kernel
theorem d_MO_moveUp_22 : decode b_MO_moveUp 22 = .ok (.bipush 40, 2) := by decide +kernel
theorem d_MO_moveUp_24 : decode b_MO_moveUp 24 = .ok (.iload_n 2, 1) := by decide +kernel
theorem d_MO_moveUp_25 : decode b_MO_moveUp 25 = .ok (.imul, 1) := by decide +kernel
theorem d_MO_moveUp_26 : decode b_MO_moveUp 26 = .ok (.iload_n 3, 1) := by decide +kernel
theorem d_MO_moveUp_27 : decode b_MO_moveUp 27 = .ok (.iadd, 1) := by decide +kernel
theorem d_MO_moveUp_28 : decode b_MO_moveUp 28 = .ok (.aload_n 0, 1) := by decide +kernel
theorem d_MO_moveUp_29 : decode b_MO_moveUp 29 = .ok (.getfield 13, 3) := by decide +kernel
theorem d_MO_moveUp_32 : decode b_MO_moveUp 32 = .ok (.bipush 40, 2) := by decide +kernel
theorem d_MO_moveUp_34 : decode b_MO_moveUp 34 = .ok (.iload_n 2, 1) := by decide +kernel
theorem d_MO_moveUp_35 : decode b_MO_moveUp 35 = .ok (.imul, 1) := by decide +kernel
theorem d_MO_moveUp_36 : decode b_MO_moveUp 36 = .ok (.bipush 40, 2) := by decide +kernel
theorem d_MO_moveUp_38 : decode b_MO_moveUp 38 = .ok (.isub, 1) := by decide +kernel
theorem d_MO_moveUp_39 : decode b_MO_moveUp 39 = .ok (.iload_n 3, 1) := by decide +kernel
theorem d_MO_moveUp_40 : decode b_MO_moveUp 40 = .ok (.iadd, 1) := by decide +kernel
theorem d_MO_moveUp_41 : decode b_MO_moveUp 41 = .ok (.baload, 1) := by decide +kernel
theorem d_MO_moveUp_42 : decode b_MO_moveUp 42 = .ok (.bastore, 1) := by decide +kernel
theorem d_MO_moveUp_43 : decode b_MO_moveUp 43 = .ok (.iinc 3 1, 3) := by decide +kernel
theorem d_MO_moveUp_46 : decode b_MO_moveUp 46 = .ok (.goto (-34), 3) := by decide +kernel
theorem d_MO_moveUp_49 : decode b_MO_moveUp 49 = .ok (.aload_n 0, 1) := by decide +kernel
theorem d_MO_moveUp_50 : decode b_MO_moveUp 50 = .ok (.getfield 16, 3) := by decide +kernel
theorem d_MO_moveUp_53 : decode b_MO_moveUp 53 = .ok (.iload_n 2, 1) := by decide +kernel
theorem d_MO_moveUp_54 : decode b_MO_moveUp 54 = .ok (.aload_n 0, 1) := by decide +kernel
theorem d_MO_moveUp_55 : decode b_MO_moveUp 55 = .ok (.getfield 16, 3) := by decide +kernel
theorem d_MO_moveUp_58 : decode b_MO_moveUp 58 = .ok (.iload_n 2, 1) := by decide +kernel
theorem d_MO_moveUp_59 : decode b_MO_moveUp 59 = .ok (.iconst 1, 1) := by decide +kernel
theorem d_MO_moveUp_60 : decode b_MO_moveUp 60 = .ok (.isub, 1) := by decide +kernel
theorem d_MO_moveUp_61 : decode b_MO_moveUp 61 = .ok (.iaload, 1) := by decide +kernel
theorem d_MO_moveUp_62 : decode b_MO_moveUp 62 = .ok (.iastore, 1) := by decide +kernel
theorem d_MO_moveUp_63 : decode b_MO_moveUp 63 = .ok (.aload_n 0, 1) := by decide +kernel
theorem d_MO_moveUp_64 : decode b_MO_moveUp 64 = .ok (.getfield 20, 3) := by decide +kernel
theorem d_MO_moveUp_67 : decode b_MO_moveUp 67 = .ok (.iload_n 2, 1) := by decide +kernel
theorem d_MO_moveUp_68 : decode b_MO_moveUp 68 = .ok (.aload_n 0, 1) := by decide +kernel
theorem d_MO_moveUp_69 : decode b_MO_moveUp 69 = .ok (.getfield 20, 3) := by decide +kernel
theorem d_MO_moveUp_72 : decode b_MO_moveUp 72 = .ok (.iload_n 2, 1) := by decide +kernel
theorem d_MO_moveUp_73 : decode b_MO_moveUp 73 = .ok (.iconst 1, 1) := by decide +kernel
theorem d_MO_moveUp_74 : decode b_MO_moveUp 74 = .ok (.isub, 1) := by decide +kernel
theorem d_MO_moveUp_75 : decode b_MO_moveUp 75 = .ok (.iaload, 1) := by decide +kernel
theorem d_MO_moveUp_76 : decode b_MO_moveUp 76 = .ok (.iastore, 1) := by decide +kernel
theorem d_MO_moveUp_77 : decode b_MO_moveUp 77 = .ok (.aload_n 0, 1) := by decide +kernel
theorem d_MO_moveUp_78 : decode b_MO_moveUp 78 = .ok (.getfield 23, 3) := by decide +kernel
theorem d_MO_moveUp_81 : decode b_MO_moveUp 81 = .ok (.iload_n 2, 1) := by decide +kernel
theorem d_MO_moveUp_82 : decode b_MO_moveUp 82 = .ok (.aload_n 0, 1) := by decide +kernel
theorem d_MO_moveUp_83 : decode b_MO_moveUp 83 = .ok (.getfield 23, 3) := by decide +kernel
theorem d_MO_moveUp_86 : decode b_MO_moveUp 86 = .ok (.iload_n 2, 1) := by decide +kernel
theorem d_MO_moveUp_87 : decode b_MO_moveUp 87 = .ok (.iconst 1, 1) := by decide +kernel
theorem d_MO_moveUp_88 : decode b_MO_moveUp 88 = .ok (.isub, 1) := by decide +kernel
theorem d_MO_moveUp_89 : decode b_MO_moveUp 89 = .ok (.iaload, 1) := by decide +kernel
theorem d_MO_moveUp_90 : decode b_MO_moveUp 90 = .ok (.iastore, 1) := by decide +kernel
theorem d_MO_moveUp_91 : decode b_MO_moveUp 91 = .ok (.aload_n 0, 1) := by decide +kernel
theorem d_MO_moveUp_92 : decode b_MO_moveUp 92 = .ok (.getfield 26, 3) := by decide +kernel
theorem d_MO_moveUp_95 : decode b_MO_moveUp 95 = .ok (.iload_n 2, 1) := by decide +kernel
theorem d_MO_moveUp_96 : decode b_MO_moveUp 96 = .ok (.aload_n 0, 1) := by decide +kernel
theorem d_MO_moveUp_97 : decode b_MO_moveUp 97 = .ok (.getfield 26, 3) := by decide +kernel
theorem d_MO_moveUp_100 : decode b_MO_moveUp 100 = .ok (.iload_n 2, 1) := by decide +kernel
theorem d_MO_moveUp_101 : decode b_MO_moveUp 101 = .ok (.iconst 1, 1) := by decide +kernel
theorem d_MO_moveUp_102 : decode b_MO_moveUp 102 = .ok (.isub, 1) := by decide +kernel
theorem d_MO_moveUp_103 : decode b_MO_moveUp 103 = .ok (.iaload, 1) := by decide +kernel
theorem d_MO_moveUp_104 : decode b_MO_moveUp 104 = .ok (.iastore, 1) := by decide +kernel
theorem d_MO_moveUp_105 : decode b_MO_moveUp 105 = .ok (.iinc 2 (-1), 3) := by decide +kernel
theorem d_MO_moveUp_108 : decode b_MO_moveUp 108 = .ok (.goto (-103), 3) := by decide +kernel
theorem d_MO_moveUp_111 : decode b_MO_moveUp 111 = .ok (.return_, 1) := by decide +kernel
theorem d_MO_find_0 : decode b_MO_find 0 = .ok (.aload_n 0, 1) := by decide +kernel
theorem d_MO_find_1 : decode b_MO_find 1 = .ok (.iconst 0, 1) := by decide +kernel
theorem d_MO_find_2 : decode b_MO_find 2 = .ok (.putfield 33, 3) := by decide +kernel
theorem d_MO_find_5 : decode b_MO_find 5 = .ok (.aload_n 0, 1) := by decide +kernel
theorem d_MO_find_6 : decode b_MO_find 6 = .ok (.getfield 36, 3) := by decide +kernel
theorem d_MO_find_9 : decode b_MO_find 9 = .ok (.iconst 1, 1) := by decide +kernel
theorem d_MO_find_10 : decode b_MO_find 10 = .ok (.if_icmp .lt 12, 3) := by decide +kernel
theorem d_MO_find_13 : decode b_MO_find 13 = .ok (.aload_n 0, 1) := by decide +kernel
theorem d_MO_find_14 : decode b_MO_find 14 = .ok (.getfield 36, 3) := by decide +kernel
theorem d_MO_find_17 : decode b_MO_find 17 = .ok (.bipush 40, 2) := by decide +kernel
theorem d_MO_find_19 : decode b_MO_find 19 = .ok (.if_icmp .le 9, 3) := by decide +kernel
theorem d_MO_find_22 : decode b_MO_find 22 = .ok (.aload_n 0, 1) := by decide +kernel
theorem d_MO_find_23 : decode b_MO_find 23 = .ok (.iconst 1, 1) := by decide +kernel
theorem d_MO_find_24 : decode b_MO_find 24 = .ok (.invokevirtual 39, 3) := by decide +kernel
theorem d_MO_find_27 : decode b_MO_find 27 = .ok (.ireturn, 1) := by decide +kernel
theorem d_MO_find_28 : decode b_MO_find 28 = .ok (.aload_n 0, 1) := by decide +kernel
theorem d_MO_find_29 : decode b_MO_find 29 = .ok (.getfield 36, 3) := by decide +kernel
theorem d_MO_find_32 : decode b_MO_find 32 = .ok (.istore_n 2, 1) := by decide +kernel
theorem d_MO_find_33 : decode b_MO_find 33 = .ok (.aload_n 0, 1) := by decide +kernel
theorem d_MO_find_34 : decode b_MO_find 34 = .ok (.iconst 0, 1) := by decide +kernel
theorem d_MO_find_35 : decode b_MO_find 35 = .ok (.putfield 36, 3) := by decide +kernel
theorem d_MO_find_38 : decode b_MO_find 38 = .ok (.aload_n 0, 1) := by decide +kernel
theorem d_MO_find_39 : decode b_MO_find 39 = .ok (.iload_n 2, 1) := by decide +kernel
theorem d_MO_find_40 : decode b_MO_find 40 = .ok (.iload_n 1, 1) := by decide +kernel
theorem d_MO_find_41 : decode b_MO_find 41 = .ok (.invokevirtual 50, 3) := by decide +kernel
theorem d_MO_find_44 : decode b_MO_find 44 = .ok (.istore_n 3, 1) := by decide +kernel
theorem d_MO_find_45 : decode b_MO_find 45 = .ok (.aload_n 0, 1) := by decide +kernel
theorem d_MO_find_46 : decode b_MO_find 46 = .ok (.iload_n 3, 1) := by decide +kernel
theorem d_MO_find_47 : decode b_MO_find 47 = .ok (.iload_n 3, 1) := by decide +kernel
theorem d_MO_find_48 : decode b_MO_find 48 = .ok (.aload_n 0, 1) := by decide +kernel
theorem d_MO_find_49 : decode b_MO_find 49 = .ok (.getfield 43, 3) := by decide +kernel
theorem d_MO_find_52 : decode b_MO_find 52 = .ok (.if_icmp .ge 22, 3) := by decide +kernel
theorem d_MO_find_55 : decode b_MO_find 55 = .ok (.aload_n 0, 1) := by decide +kernel
theorem d_MO_find_56 : decode b_MO_find 56 = .ok (.iload_n 3, 1) := by decide +kernel
theorem d_MO_find_57 : decode b_MO_find 57 = .ok (.iload_n 2, 1) := by decide +kernel
theorem d_MO_find_58 : decode b_MO_find 58 = .ok (.aload_n 0, 1) := by decide +kernel
theorem d_MO_find_59 : decode b_MO_find 59 = .ok (.getfield 20, 3) := by decide +kernel
theorem d_MO_find_62 : decode b_MO_find 62 = .ok (.iload_n 3, 1) := by decide +kernel
theorem d_MO_find_63 : decode b_MO_find 63 = .ok (.iaload, 1) := by decide +kernel
theorem d_MO_find_64 : decode b_MO_find 64 = .ok (.invokevirtual 46, 3) := by decide +kernel
theorem d_MO_find_67 : decode b_MO_find 67 = .ok (.ifCond .ne 7, 3) := by decide +kernel
theorem d_MO_find_70 : decode b_MO_find 70 = .ok (.iconst 1, 1) := by decide +kernel
theorem d_MO_find_71 : decode b_MO_find 71 = .ok (.goto 4, 3) := by decide +kernel
theorem d_MO_find_74 : decode b_MO_find 74 = .ok (.iconst 0, 1) := by decide +kernel
theorem d_MO_find_75 : decode b_MO_find 75 = .ok (.iconst 2, 1) := by decide +kernel
theorem d_MO_find_76 : decode b_MO_find 76 = .ok (.invokevirtual 58, 3) := by decide +kernel
theorem d_MO_find_79 : decode b_MO_find 79 = .ok (.ireturn, 1) := by decide +kernel
theorem d_MO_go_0 : decode b_MO_go 0 = .ok (.aload_n 0, 1) := by decide +kernel
theorem d_MO_go_1 : decode b_MO_go 1 = .ok (.iload_n 2, 1) := by decide +kernel
theorem d_MO_go_2 : decode b_MO_go 2 = .ok (.ifCond .eq 7, 3) := by decide +kernel
theorem d_MO_go_5 : decode b_MO_go 5 = .ok (.iload_n 1, 1) := by decide +kernel
theorem d_MO_go_6 : decode b_MO_go 6 = .ok (.goto 4, 3) := by decide +kernel
theorem d_MO_go_9 : decode b_MO_go 9 = .ok (.iconst (-1), 1) := by decide +kernel
theorem d_MO_go_10 : decode b_MO_go 10 = .ok (.putfield 29, 3) := by decide +kernel
theorem d_MO_go_13 : decode b_MO_go 13 = .ok (.iload_n 2, 1) := by decide +kernel
theorem d_MO_go_14 : decode b_MO_go 14 = .ok (.ifCond .eq 12, 3) := by decide +kernel
theorem d_MO_go_17 : decode b_MO_go 17 = .ok (.aload_n 0, 1) := by decide +kernel
theorem d_MO_go_18 : decode b_MO_go 18 = .ok (.getfield 23, 3) := by decide +kernel
theorem d_MO_go_21 : decode b_MO_go 21 = .ok (.iload_n 1, 1) := by decide +kernel
theorem d_MO_go_22 : decode b_MO_go 22 = .ok (.iaload, 1) := by decide +kernel
theorem d_MO_go_23 : decode b_MO_go 23 = .ok (.goto 8, 3) := by decide +kernel
theorem d_MO_go_26 : decode b_MO_go 26 = .ok (.aload_n 0, 1) := by decide +kernel
theorem d_MO_go_27 : decode b_MO_go 27 = .ok (.iload_n 3, 1) := by decide +kernel
theorem d_MO_go_28 : decode b_MO_go 28 = .ok (.invokevirtual 39, 3) := by decide +kernel
theorem d_MO_go_31 : decode b_MO_go 31 = .ok (.ireturn, 1) := by decide +kernel
theorem d_MO_seek_0 : decode b_MO_seek 0 = .ok (.aload_n 0, 1) := by decide +kernel
theorem d_MO_seek_1 : decode b_MO_seek 1 = .ok (.iconst 0, 1) := by decide +kernel
theorem d_MO_seek_2 : decode b_MO_seek 2 = .ok (.putfield 33, 3) := by decide +kernel
theorem d_MO_seek_5 : decode b_MO_seek 5 = .ok (.aload_n 0, 1) := by decide +kernel
theorem d_MO_seek_6 : decode b_MO_seek 6 = .ok (.getfield 36, 3) := by decide +kernel
theorem d_MO_seek_9 : decode b_MO_seek 9 = .ok (.bipush 40, 2) := by decide +kernel
theorem d_MO_seek_11 : decode b_MO_seek 11 = .ok (.if_icmp .le 9, 3) := by decide +kernel
theorem d_MO_seek_14 : decode b_MO_seek 14 = .ok (.aload_n 0, 1) := by decide +kernel
theorem d_MO_seek_15 : decode b_MO_seek 15 = .ok (.iconst 1, 1) := by decide +kernel
theorem d_MO_seek_16 : decode b_MO_seek 16 = .ok (.invokevirtual 39, 3) := by decide +kernel
theorem d_MO_seek_19 : decode b_MO_seek 19 = .ok (.ireturn, 1) := by decide +kernel
theorem d_MO_seek_20 : decode b_MO_seek 20 = .ok (.aload_n 0, 1) := by decide +kernel
theorem d_MO_seek_21 : decode b_MO_seek 21 = .ok (.getfield 36, 3) := by decide +kernel
theorem d_MO_seek_24 : decode b_MO_seek 24 = .ok (.istore_n 3, 1) := by decide +kernel
theorem d_MO_seek_25 : decode b_MO_seek 25 = .ok (.aload_n 0, 1) := by decide +kernel
theorem d_MO_seek_26 : decode b_MO_seek 26 = .ok (.iconst 0, 1) := by decide +kernel
theorem d_MO_seek_27 : decode b_MO_seek 27 = .ok (.putfield 36, 3) := by decide +kernel
theorem d_MO_seek_30 : decode b_MO_seek 30 = .ok (.aload_n 0, 1) := by decide +kernel
theorem d_MO_seek_31 : decode b_MO_seek 31 = .ok (.iload_n 3, 1) := by decide +kernel
theorem d_MO_seek_32 : decode b_MO_seek 32 = .ok (.iload_n 1, 1) := by decide +kernel
theorem d_MO_seek_33 : decode b_MO_seek 33 = .ok (.invokevirtual 50, 3) := by decide +kernel
theorem d_MO_seek_36 : decode b_MO_seek 36 = .ok (.istore 4, 2) := by decide +kernel
theorem d_MO_seek_38 : decode b_MO_seek 38 = .ok (.iload_n 2, 1) := by decide +kernel
theorem d_MO_seek_39 : decode b_MO_seek 39 = .ok (.ifCond .eq 26, 3) := by decide +kernel
theorem d_MO_seek_42 : decode b_MO_seek 42 = .ok (.iload 4, 2) := by decide +kernel
theorem d_MO_seek_44 : decode b_MO_seek 44 = .ok (.aload_n 0, 1) := by decide +kernel
theorem d_MO_seek_45 : decode b_MO_seek 45 = .ok (.getfield 43, 3) := by decide +kernel
theorem d_MO_seek_48 : decode b_MO_seek 48 = .ok (.if_icmp .ge 17, 3) := by decide +kernel
theorem d_MO_seek_51 : decode b_MO_seek 51 = .ok (.aload_n 0, 1) := by decide +kernel
theorem d_MO_seek_52 : decode b_MO_seek 52 = .ok (.iload 4, 2) := by decide +kernel
theorem d_MO_seek_54 : decode b_MO_seek 54 = .ok (.iload_n 3, 1) := by decide +kernel
theorem d_MO_seek_55 : decode b_MO_seek 55 = .ok (.iload_n 1, 1) := by decide +kernel
theorem d_MO_seek_56 : decode b_MO_seek 56 = .ok (.invokevirtual 46, 3) := by decide +kernel
theorem d_MO_seek_59 : decode b_MO_seek 59 = .ok (.ifCond .ne 6, 3) := by decide +kernel
theorem d_MO_seek_62 : decode b_MO_seek 62 = .ok (.iinc 4 1, 3) := by decide +kernel
theorem d_MO_seek_65 : decode b_MO_seek 65 = .ok (.aload_n 0, 1) := by decide +kernel
theorem d_MO_seek_66 : decode b_MO_seek 66 = .ok (.iload 4, 2) := by decide +kernel
theorem d_MO_seek_68 : decode b_MO_seek 68 = .ok (.iload 4, 2) := by decide +kernel
theorem d_MO_seek_70 : decode b_MO_seek 70 = .ok (.aload_n 0, 1) := by decide +kernel
theorem d_MO_seek_71 : decode b_MO_seek 71 = .ok (.getfield 43, 3) := by decide +kernel
theorem d_MO_seek_74 : decode b_MO_seek 74 = .ok (.if_icmp .ge 7, 3) := by decide +kernel
theorem d_MO_seek_77 : decode b_MO_seek 77 = .ok (.iconst 1, 1) := by decide +kernel
theorem d_MO_seek_78 : decode b_MO_seek 78 = .ok (.goto 4, 3) := by decide +kernel
theorem d_MO_seek_81 : decode b_MO_seek 81 = .ok (.iconst 0, 1) := by decide +kernel
theorem d_MO_seek_82 : decode b_MO_seek 82 = .ok (.iconst 2, 1) := by decide +kernel
theorem d_MO_seek_83 : decode b_MO_seek 83 = .ok (.invokevirtual 58, 3) := by decide +kernel
theorem d_MO_seek_86 : decode b_MO_seek 86 = .ok (.ireturn, 1) := by decide +kernel
theorem d_MO_next_0 : decode b_MO_next 0 = .ok (.aload_n 0, 1) := by decide +kernel
theorem d_MO_next_1 : decode b_MO_next 1 = .ok (.iconst 0, 1) := by decide +kernel
theorem d_MO_next_2 : decode b_MO_next 2 = .ok (.putfield 33, 3) := by decide +kernel
theorem d_MO_next_5 : decode b_MO_next 5 = .ok (.aload_n 0, 1) := by decide +kernel
theorem d_MO_next_6 : decode b_MO_next 6 = .ok (.aload_n 0, 1) := by decide +kernel
theorem d_MO_next_7 : decode b_MO_next 7 = .ok (.getfield 29, 3) := by decide +kernel
theorem d_MO_next_10 : decode b_MO_next 10 = .ok (.iconst 1, 1) := by decide +kernel
theorem d_MO_next_11 : decode b_MO_next 11 = .ok (.iadd, 1) := by decide +kernel
theorem d_MO_next_12 : decode b_MO_next 12 = .ok (.aload_n 0, 1) := by decide +kernel
theorem d_MO_next_13 : decode b_MO_next 13 = .ok (.getfield 29, 3) := by decide +kernel
theorem d_MO_next_16 : decode b_MO_next 16 = .ok (.ifCond .lt 20, 3) := by decide +kernel
theorem d_MO_next_19 : decode b_MO_next 19 = .ok (.aload_n 0, 1) := by decide +kernel
theorem d_MO_next_20 : decode b_MO_next 20 = .ok (.getfield 29, 3) := by decide +kernel
theorem d_MO_next_23 : decode b_MO_next 23 = .ok (.iconst 1, 1) := by decide +kernel
theorem d_MO_next_24 : decode b_MO_next 24 = .ok (.iadd, 1) := by decide +kernel
theorem d_MO_next_25 : decode b_MO_next 25 = .ok (.aload_n 0, 1) := by decide +kernel
theorem d_MO_next_26 : decode b_MO_next 26 = .ok (.getfield 43, 3) := by decide +kernel
theorem d_MO_next_29 : decode b_MO_next 29 = .ok (.if_icmp .ge 7, 3) := by decide +kernel
theorem d_MO_next_32 : decode b_MO_next 32 = .ok (.iconst 1, 1) := by decide +kernel
theorem d_MO_next_33 : decode b_MO_next 33 = .ok (.goto 4, 3) := by decide +kernel
theorem d_MO_next_36 : decode b_MO_next 36 = .ok (.iconst 0, 1) := by decide +kernel
theorem d_MO_next_37 : decode b_MO_next 37 = .ok (.iconst 1, 1) := by decide +kernel
theorem d_MO_next_38 : decode b_MO_next 38 = .ok (.invokevirtual 58, 3) := by decide +kernel
theorem d_MO_next_41 : decode b_MO_next 41 = .ok (.ireturn, 1) := by decide +kernel
theorem d_MO_first_0 : decode b_MO_first 0 = .ok (.aload_n 0, 1) := by decide +kernel
theorem d_MO_first_1 : decode b_MO_first 1 = .ok (.iconst 0, 1) := by decide +kernel
theorem d_MO_first_2 : decode b_MO_first 2 = .ok (.putfield 33, 3) := by decide +kernel
theorem d_MO_first_5 : decode b_MO_first 5 = .ok (.aload_n 0, 1) := by decide +kernel
theorem d_MO_first_6 : decode b_MO_first 6 = .ok (.iconst 0, 1) := by decide +kernel
theorem d_MO_first_7 : decode b_MO_first 7 = .ok (.aload_n 0, 1) := by decide +kernel
theorem d_MO_first_8 : decode b_MO_first 8 = .ok (.getfield 43, 3) := by decide +kernel
theorem d_MO_first_11 : decode b_MO_first 11 = .ok (.ifCond .le 7, 3) := by decide +kernel
theorem d_MO_first_14 : decode b_MO_first 14 = .ok (.iconst 1, 1) := by decide +kernel
theorem d_MO_first_15 : decode b_MO_first 15 = .ok (.goto 4, 3) := by decide +kernel
theorem d_MO_first_18 : decode b_MO_first 18 = .ok (.iconst 0, 1) := by decide +kernel
theorem d_MO_first_19 : decode b_MO_first 19 = .ok (.iconst 1, 1) := by decide +kernel
theorem d_MO_first_20 : decode b_MO_first 20 = .ok (.invokevirtual 58, 3) := by decide +kernel
theorem d_MO_first_23 : decode b_MO_first 23 = .ok (.ireturn, 1) := by decide +kernel
theorem d_MO_current_0 : decode b_MO_current 0 = .ok (.aload_n 0, 1) := by decide +kernel
theorem d_MO_current_1 : decode b_MO_current 1 = .ok (.iconst 0, 1) := by decide +kernel
theorem d_MO_current_2 : decode b_MO_current 2 = .ok (.putfield 33, 3) := by decide +kernel
theorem d_MO_current_5 : decode b_MO_current 5 = .ok (.iload_n 1, 1) := by decide +kernel
theorem d_MO_current_6 : decode b_MO_current 6 = .ok (.ifCond .lt 8, 3) := by decide +kernel
theorem d_MO_current_9 : decode b_MO_current 9 = .ok (.iload_n 1, 1) := by decide +kernel
theorem d_MO_current_10 : decode b_MO_current 10 = .ok (.iconst 3, 1) := by decide +kernel
theorem d_MO_current_11 : decode b_MO_current 11 = .ok (.if_icmp .le 9, 3) := by decide +kernel
theorem d_MO_current_14 : decode b_MO_current 14 = .ok (.aload_n 0, 1) := by decide +kernel
theorem d_MO_current_15 : decode b_MO_current 15 = .ok (.iconst 1, 1) := by decide +kernel
theorem d_MO_current_16 : decode b_MO_current 16 = .ok (.invokevirtual 39, 3) := by decide +kernel
theorem d_MO_current_19 : decode b_MO_current 19 = .ok (.ireturn, 1) := by decide +kernel
theorem d_MO_current_20 : decode b_MO_current 20 = .ok (.aload_n 0, 1) := by decide +kernel
theorem d_MO_current_21 : decode b_MO_current 21 = .ok (.getfield 29, 3) := by decide +kernel
theorem d_MO_current_24 : decode b_MO_current 24 = .ok (.ifCond .ge 9, 3) := by decide +kernel
theorem d_MO_current_27 : decode b_MO_current 27 = .ok (.aload_n 0, 1) := by decide +kernel
theorem d_MO_current_28 : decode b_MO_current 28 = .ok (.iconst 2, 1) := by decide +kernel
theorem d_MO_current_29 : decode b_MO_current 29 = .ok (.invokevirtual 39, 3) := by decide +kernel
theorem d_MO_current_32 : decode b_MO_current 32 = .ok (.ireturn, 1) := by decide +kernel
theorem d_MO_current_33 : decode b_MO_current 33 = .ok (.iload_n 1, 1) := by decide +kernel
theorem d_MO_current_34 : decode b_MO_current 34 = .ok (.ifCond .ne 15, 3) := by decide +kernel
theorem d_MO_current_37 : decode b_MO_current 37 = .ok (.aload_n 0, 1) := by decide +kernel
theorem d_MO_current_38 : decode b_MO_current 38 = .ok (.getfield 20, 3) := by decide +kernel
theorem d_MO_current_41 : decode b_MO_current 41 = .ok (.aload_n 0, 1) := by decide +kernel
theorem d_MO_current_42 : decode b_MO_current 42 = .ok (.getfield 29, 3) := by decide +kernel
theorem d_MO_current_45 : decode b_MO_current 45 = .ok (.iaload, 1) := by decide +kernel
theorem d_MO_current_46 : decode b_MO_current 46 = .ok (.goto 46, 3) := by decide +kernel
theorem d_MO_current_49 : decode b_MO_current 49 = .ok (.iload_n 1, 1) := by decide +kernel
theorem d_MO_current_50 : decode b_MO_current 50 = .ok (.iconst 1, 1) := by decide +kernel
theorem d_MO_current_51 : decode b_MO_current 51 = .ok (.if_icmp .ne 15, 3) := by decide +kernel
theorem d_MO_current_54 : decode b_MO_current 54 = .ok (.aload_n 0, 1) := by decide +kernel
theorem d_MO_current_55 : decode b_MO_current 55 = .ok (.getfield 23, 3) := by decide +kernel
theorem d_MO_current_58 : decode b_MO_current 58 = .ok (.aload_n 0, 1) := by decide +kernel
theorem d_MO_current_59 : decode b_MO_current 59 = .ok (.getfield 29, 3) := by decide +kernel
theorem d_MO_current_62 : decode b_MO_current 62 = .ok (.iaload, 1) := by decide +kernel
theorem d_MO_current_63 : decode b_MO_current 63 = .ok (.goto 29, 3) := by decide +kernel
theorem d_MO_current_66 : decode b_MO_current 66 = .ok (.iload_n 1, 1) := by decide +kernel
theorem d_MO_current_67 : decode b_MO_current 67 = .ok (.iconst 2, 1) := by decide +kernel
theorem d_MO_current_68 : decode b_MO_current 68 = .ok (.if_icmp .ne 15, 3) := by decide +kernel
theorem d_MO_current_71 : decode b_MO_current 71 = .ok (.aload_n 0, 1) := by decide +kernel
theorem d_MO_current_72 : decode b_MO_current 72 = .ok (.getfield 26, 3) := by decide +kernel
theorem d_MO_current_75 : decode b_MO_current 75 = .ok (.aload_n 0, 1) := by decide +kernel
theorem d_MO_current_76 : decode b_MO_current 76 = .ok (.getfield 29, 3) := by decide +kernel
theorem d_MO_current_79 : decode b_MO_current 79 = .ok (.iaload, 1) := by decide +kernel
theorem d_MO_current_80 : decode b_MO_current 80 = .ok (.goto 12, 3) := by decide +kernel
theorem d_MO_current_83 : decode b_MO_current 83 = .ok (.aload_n 0, 1) := by decide +kernel
theorem d_MO_current_84 : decode b_MO_current 84 = .ok (.getfield 16, 3) := by decide +kernel
theorem d_MO_current_87 : decode b_MO_current 87 = .ok (.aload_n 0, 1) := by decide +kernel
theorem d_MO_current_88 : decode b_MO_current 88 = .ok (.getfield 29, 3) := by decide +kernel
theorem d_MO_current_91 : decode b_MO_current 91 = .ok (.iaload, 1) := by decide +kernel
theorem d_MO_current_92 : decode b_MO_current 92 = .ok (.ireturn, 1) := by decide +kernel
theorem d_MO_word_0 : decode b_MO_word 0 = .ok (.aload_n 0, 1) := by decide +kernel
theorem d_MO_word_1 : decode b_MO_word 1 = .ok (.iconst 0, 1) := by decide +kernel
theorem d_MO_word_2 : decode b_MO_word 2 = .ok (.putfield 33, 3) := by decide +kernel
theorem d_MO_word_5 : decode b_MO_word 5 = .ok (.aload_n 0, 1) := by decide +kernel
theorem d_MO_word_6 : decode b_MO_word 6 = .ok (.getfield 29, 3) := by decide +kernel
theorem d_MO_word_9 : decode b_MO_word 9 = .ok (.ifCond .ge 10, 3) := by decide +kernel
theorem d_MO_word_12 : decode b_MO_word 12 = .ok (.aload_n 0, 1) := by decide +kernel
theorem d_MO_word_13 : decode b_MO_word 13 = .ok (.iconst 1, 1) := by decide +kernel
theorem d_MO_word_14 : decode b_MO_word 14 = .ok (.invokevirtual 39, 3) := by decide +kernel
theorem d_MO_word_17 : decode b_MO_word 17 = .ok (.i2l, 1) := by decide +kernel
theorem d_MO_word_18 : decode b_MO_word 18 = .ok (.lreturn, 1) := by decide +kernel
theorem d_MO_word_19 : decode b_MO_word 19 = .ok (.iload_n 1, 1) := by decide +kernel
theorem d_MO_word_20 : decode b_MO_word 20 = .ok (.ifCond .lt 16, 3) := by decide +kernel
theorem d_MO_word_23 : decode b_MO_word 23 = .ok (.iload_n 1, 1) := by decide +kernel
theorem d_MO_word_24 : decode b_MO_word 24 = .ok (.aload_n 0, 1) := by decide +kernel
theorem d_MO_word_25 : decode b_MO_word 25 = .ok (.getfield 16, 3) := by decide +kernel
theorem d_MO_word_28 : decode b_MO_word 28 = .ok (.aload_n 0, 1) := by decide +kernel
theorem d_MO_word_29 : decode b_MO_word 29 = .ok (.getfield 29, 3) := by decide +kernel
theorem d_MO_word_32 : decode b_MO_word 32 = .ok (.iaload, 1) := by decide +kernel
theorem d_MO_word_33 : decode b_MO_word 33 = .ok (.if_icmp .lt 10, 3) := by decide +kernel
theorem d_MO_word_36 : decode b_MO_word 36 = .ok (.aload_n 0, 1) := by decide +kernel
theorem d_MO_word_37 : decode b_MO_word 37 = .ok (.iconst 2, 1) := by decide +kernel
theorem d_MO_word_38 : decode b_MO_word 38 = .ok (.invokevirtual 39, 3) := by decide +kernel
theorem d_MO_word_41 : decode b_MO_word 41 = .ok (.i2l, 1) := by decide +kernel
theorem d_MO_word_42 : decode b_MO_word 42 = .ok (.lreturn, 1) := by decide +kernel
theorem d_MO_word_43 : decode b_MO_word 43 = .ok (.lconst 0, 1) := by decide +kernel
theorem d_MO_word_44 : decode b_MO_word 44 = .ok (.lstore_n 2, 1) := by decide +kernel
theorem d_MO_word_45 : decode b_MO_word 45 = .ok (.iload_n 1, 1) := by decide +kernel
theorem d_MO_word_46 : decode b_MO_word 46 = .ok (.istore 4, 2) := by decide +kernel
theorem d_MO_word_48 : decode b_MO_word 48 = .ok (.iload 4, 2) := by decide +kernel
theorem d_MO_word_50 : decode b_MO_word 50 = .ok (.iload_n 1, 1) := by decide +kernel
theorem d_MO_word_51 : decode b_MO_word 51 = .ok (.bipush 8, 2) := by decide +kernel
theorem d_MO_word_53 : decode b_MO_word 53 = .ok (.iadd, 1) := by decide +kernel
theorem d_MO_word_54 : decode b_MO_word 54 = .ok (.if_icmp .ge 54, 3) := by decide +kernel
theorem d_MO_word_57 : decode b_MO_word 57 = .ok (.lload_n 2, 1) := by decide +kernel
theorem d_MO_word_58 : decode b_MO_word 58 = .ok (.ldc2_w 62, 3) := by decide +kernel
theorem d_MO_word_61 : decode b_MO_word 61 = .ok (.lmul, 1) := by decide +kernel
theorem d_MO_word_62 : decode b_MO_word 62 = .ok (.iload 4, 2) := by decide +kernel
theorem d_MO_word_64 : decode b_MO_word 64 = .ok (.aload_n 0, 1) := by decide +kernel
theorem d_MO_word_65 : decode b_MO_word 65 = .ok (.getfield 16, 3) := by decide +kernel
theorem d_MO_word_68 : decode b_MO_word 68 = .ok (.aload_n 0, 1) := by decide +kernel
theorem d_MO_word_69 : decode b_MO_word 69 = .ok (.getfield 29, 3) := by decide +kernel
theorem d_MO_word_72 : decode b_MO_word 72 = .ok (.iaload, 1) := by decide +kernel
theorem d_MO_word_73 : decode b_MO_word 73 = .ok (.if_icmp .ge 25, 3) := by decide +kernel
theorem d_MO_word_76 : decode b_MO_word 76 = .ok (.aload_n 0, 1) := by decide +kernel
theorem d_MO_word_77 : decode b_MO_word 77 = .ok (.getfield 13, 3) := by decide +kernel
theorem d_MO_word_80 : decode b_MO_word 80 = .ok (.bipush 40, 2) := by decide +kernel
theorem d_MO_word_82 : decode b_MO_word 82 = .ok (.aload_n 0, 1) := by decide +kernel
theorem d_MO_word_83 : decode b_MO_word 83 = .ok (.getfield 29, 3) := by decide +kernel
theorem d_MO_word_86 : decode b_MO_word 86 = .ok (.imul, 1) := by decide +kernel
theorem d_MO_word_87 : decode b_MO_word 87 = .ok (.iload 4, 2) := by decide +kernel
theorem d_MO_word_89 : decode b_MO_word 89 = .ok (.iadd, 1) := by decide +kernel
theorem d_MO_word_90 : decode b_MO_word 90 = .ok (.baload, 1) := by decide +kernel
theorem d_MO_word_91 : decode b_MO_word 91 = .ok (.sipush 255, 3) := by decide +kernel
theorem d_MO_word_94 : decode b_MO_word 94 = .ok (.iand, 1) := by decide +kernel
theorem d_MO_word_95 : decode b_MO_word 95 = .ok (.goto 4, 3) := by decide +kernel
theorem d_MO_word_98 : decode b_MO_word 98 = .ok (.iconst 0, 1) := by decide +kernel
theorem d_MO_word_99 : decode b_MO_word 99 = .ok (.i2l, 1) := by decide +kernel
theorem d_MO_word_100 : decode b_MO_word 100 = .ok (.ladd, 1) := by decide +kernel
theorem d_MO_word_101 : decode b_MO_word 101 = .ok (.lstore_n 2, 1) := by decide +kernel
theorem d_MO_word_102 : decode b_MO_word 102 = .ok (.iinc 4 1, 3) := by decide +kernel
theorem d_MO_word_105 : decode b_MO_word 105 = .ok (.goto (-57), 3) := by decide +kernel
theorem d_MO_word_108 : decode b_MO_word 108 = .ok (.lload_n 2, 1) := by decide +kernel
theorem d_MO_word_109 : decode b_MO_word 109 = .ok (.lreturn, 1) := by decide +kernel
theorem d_MO_clear_0 : decode b_MO_clear 0 = .ok (.aload_n 0, 1) := by decide +kernel
theorem d_MO_clear_1 : decode b_MO_clear 1 = .ok (.iconst 0, 1) := by decide +kernel
theorem d_MO_clear_2 : decode b_MO_clear 2 = .ok (.putfield 33, 3) := by decide +kernel
theorem d_MO_clear_5 : decode b_MO_clear 5 = .ok (.aload_n 0, 1) := by decide +kernel
theorem d_MO_clear_6 : decode b_MO_clear 6 = .ok (.getfield 43, 3) := by decide +kernel
theorem d_MO_clear_9 : decode b_MO_clear 9 = .ok (.istore_n 1, 1) := by decide +kernel
theorem d_MO_clear_10 : decode b_MO_clear 10 = .ok (.aload_n 0, 1) := by decide +kernel
theorem d_MO_clear_11 : decode b_MO_clear 11 = .ok (.iconst 0, 1) := by decide +kernel
theorem d_MO_clear_12 : decode b_MO_clear 12 = .ok (.putfield 43, 3) := by decide +kernel
theorem d_MO_clear_15 : decode b_MO_clear 15 = .ok (.aload_n 0, 1) := by decide +kernel
theorem d_MO_clear_16 : decode b_MO_clear 16 = .ok (.iconst (-1), 1) := by decide +kernel
theorem d_MO_clear_17 : decode b_MO_clear 17 = .ok (.putfield 29, 3) := by decide +kernel
theorem d_MO_clear_20 : decode b_MO_clear 20 = .ok (.iload_n 1, 1) := by decide +kernel
theorem d_MO_clear_21 : decode b_MO_clear 21 = .ok (.ireturn, 1) := by decide +kernel
theorem d_MO_count_0 : decode b_MO_count 0 = .ok (.aload_n 0, 1) := by decide +kernel
theorem d_MO_count_1 : decode b_MO_count 1 = .ok (.iconst 0, 1) := by decide +kernel
theorem d_MO_count_2 : decode b_MO_count 2 = .ok (.putfield 33, 3) := by decide +kernel
theorem d_MO_count_5 : decode b_MO_count 5 = .ok (.aload_n 0, 1) := by decide +kernel
theorem d_MO_count_6 : decode b_MO_count 6 = .ok (.getfield 43, 3) := by decide +kernel
theorem d_MO_count_9 : decode b_MO_count 9 = .ok (.ireturn, 1) := by decide +kernel
theorem d_LA_law_0 : decode b_LA_law 0 = .ok (.new 8, 3) := by decide +kernel
theorem d_LA_law_3 : decode b_LA_law 3 = .ok (.dup, 1) := by decide +kernel
theorem d_LA_law_4 : decode b_LA_law 4 = .ok (.invokespecial 50, 3) := by decide +kernel
theorem d_LA_law_7 : decode b_LA_law 7 = .ok (.astore_n 1, 1) := by decide +kernel
theorem d_LA_law_8 : decode b_LA_law 8 = .ok (.new 51, 3) := by decide +kernel
theorem d_LA_law_11 : decode b_LA_law 11 = .ok (.dup, 1) := by decide +kernel
theorem d_LA_law_12 : decode b_LA_law 12 = .ok (.invokespecial 53, 3) := by decide +kernel
theorem d_LA_law_15 : decode b_LA_law 15 = .ok (.astore_n 2, 1) := by decide +kernel
theorem d_LA_law_16 : decode b_LA_law 16 = .ok (.iconst 1, 1) := by decide +kernel
theorem d_LA_law_17 : decode b_LA_law 17 = .ok (.newarray .long, 2) := by decide +kernel
theorem d_LA_law_19 : decode b_LA_law 19 = .ok (.astore_n 3, 1) := by decide +kernel
theorem d_LA_law_20 : decode b_LA_law 20 = .ok (.iconst 0, 1) := by decide +kernel
theorem d_LA_law_21 : decode b_LA_law 21 = .ok (.istore 4, 2) := by decide +kernel
theorem d_LA_law_23 : decode b_LA_law 23 = .ok (.iload 4, 2) := by decide +kernel
theorem d_LA_law_25 : decode b_LA_law 25 = .ok (.aload_n 0, 1) := by decide +kernel
theorem d_LA_law_26 : decode b_LA_law 26 = .ok (.arraylength, 1) := by decide +kernel
theorem d_LA_law_27 : decode b_LA_law 27 = .ok (.bipush 6, 2) := by decide +kernel
theorem d_LA_law_29 : decode b_LA_law 29 = .ok (.isub, 1) := by decide +kernel
theorem d_LA_law_30 : decode b_LA_law 30 = .ok (.if_icmp .gt 681, 3) := by decide +kernel
theorem d_LA_law_33 : decode b_LA_law 33 = .ok (.aload_n 0, 1) := by decide +kernel
theorem d_LA_law_34 : decode b_LA_law 34 = .ok (.iload 4, 2) := by decide +kernel
theorem d_LA_law_36 : decode b_LA_law 36 = .ok (.iaload, 1) := by decide +kernel
theorem d_LA_law_37 : decode b_LA_law 37 = .ok (.bipush 15, 2) := by decide +kernel
theorem d_LA_law_39 : decode b_LA_law 39 = .ok (.iand, 1) := by decide +kernel
theorem d_LA_law_40 : decode b_LA_law 40 = .ok (.tableswitch 665 0 10 #[60, 164, 220, 300, 356, 440, 484, 528, 584, 639, 652], 60) := by decide +kernel
theorem d_LA_law_100 : decode b_LA_law 100 = .ok (.aload_n 1, 1) := by decide +kernel
theorem d_LA_law_101 : decode b_LA_law 101 = .ok (.aload_n 0, 1) := by decide +kernel
theorem d_LA_law_102 : decode b_LA_law 102 = .ok (.iload 4, 2) := by decide +kernel
theorem d_LA_law_104 : decode b_LA_law 104 = .ok (.iconst 1, 1) := by decide +kernel
theorem d_LA_law_105 : decode b_LA_law 105 = .ok (.iadd, 1) := by decide +kernel
theorem d_LA_law_106 : decode b_LA_law 106 = .ok (.iaload, 1) := by decide +kernel
theorem d_LA_law_107 : decode b_LA_law 107 = .ok (.aload_n 0, 1) := by decide +kernel
theorem d_LA_law_108 : decode b_LA_law 108 = .ok (.iload 4, 2) := by decide +kernel
theorem d_LA_law_110 : decode b_LA_law 110 = .ok (.iconst 2, 1) := by decide +kernel
theorem d_LA_law_111 : decode b_LA_law 111 = .ok (.iadd, 1) := by decide +kernel
theorem d_LA_law_112 : decode b_LA_law 112 = .ok (.iaload, 1) := by decide +kernel
theorem d_LA_law_113 : decode b_LA_law 113 = .ok (.aload_n 0, 1) := by decide +kernel
theorem d_LA_law_114 : decode b_LA_law 114 = .ok (.iload 4, 2) := by decide +kernel
theorem d_LA_law_116 : decode b_LA_law 116 = .ok (.iconst 3, 1) := by decide +kernel
theorem d_LA_law_117 : decode b_LA_law 117 = .ok (.iadd, 1) := by decide +kernel
theorem d_LA_law_118 : decode b_LA_law 118 = .ok (.iaload, 1) := by decide +kernel
theorem d_LA_law_119 : decode b_LA_law 119 = .ok (.aload_n 0, 1) := by decide +kernel
theorem d_LA_law_120 : decode b_LA_law 120 = .ok (.iload 4, 2) := by decide +kernel
theorem d_LA_law_122 : decode b_LA_law 122 = .ok (.iconst 4, 1) := by decide +kernel
theorem d_LA_law_123 : decode b_LA_law 123 = .ok (.iadd, 1) := by decide +kernel
theorem d_LA_law_124 : decode b_LA_law 124 = .ok (.iaload, 1) := by decide +kernel
theorem d_LA_law_125 : decode b_LA_law 125 = .ok (.aload_n 0, 1) := by decide +kernel
theorem d_LA_law_126 : decode b_LA_law 126 = .ok (.iload 4, 2) := by decide +kernel
theorem d_LA_law_128 : decode b_LA_law 128 = .ok (.iconst 5, 1) := by decide +kernel
theorem d_LA_law_129 : decode b_LA_law 129 = .ok (.iadd, 1) := by decide +kernel
theorem d_LA_law_130 : decode b_LA_law 130 = .ok (.iaload, 1) := by decide +kernel
theorem d_LA_law_131 : decode b_LA_law 131 = .ok (.aload_n 3, 1) := by decide +kernel
theorem d_LA_law_132 : decode b_LA_law 132 = .ok (.invokestatic 54, 3) := by decide +kernel
theorem d_LA_law_135 : decode b_LA_law 135 = .ok (.istore 5, 2) := by decide +kernel
theorem d_LA_law_137 : decode b_LA_law 137 = .ok (.aload_n 2, 1) := by decide +kernel
theorem d_LA_law_138 : decode b_LA_law 138 = .ok (.aload_n 0, 1) := by decide +kernel
theorem d_LA_law_139 : decode b_LA_law 139 = .ok (.iload 4, 2) := by decide +kernel
theorem d_LA_law_141 : decode b_LA_law 141 = .ok (.iconst 1, 1) := by decide +kernel
theorem d_LA_law_142 : decode b_LA_law 142 = .ok (.iadd, 1) := by decide +kernel
theorem d_LA_law_143 : decode b_LA_law 143 = .ok (.iaload, 1) := by decide +kernel
theorem d_LA_law_144 : decode b_LA_law 144 = .ok (.aload_n 0, 1) := by decide +kernel
theorem d_LA_law_145 : decode b_LA_law 145 = .ok (.iload 4, 2) := by decide +kernel
theorem d_LA_law_147 : decode b_LA_law 147 = .ok (.iconst 2, 1) := by decide +kernel
theorem d_LA_law_148 : decode b_LA_law 148 = .ok (.iadd, 1) := by decide +kernel
theorem d_LA_law_149 : decode b_LA_law 149 = .ok (.iaload, 1) := by decide +kernel
theorem d_LA_law_150 : decode b_LA_law 150 = .ok (.aload_n 0, 1) := by decide +kernel
theorem d_LA_law_151 : decode b_LA_law 151 = .ok (.iload 4, 2) := by decide +kernel
theorem d_LA_law_153 : decode b_LA_law 153 = .ok (.iconst 3, 1) := by decide +kernel
theorem d_LA_law_154 : decode b_LA_law 154 = .ok (.iadd, 1) := by decide +kernel
theorem d_LA_law_155 : decode b_LA_law 155 = .ok (.iaload, 1) := by decide +kernel
theorem d_LA_law_156 : decode b_LA_law 156 = .ok (.aload_n 0, 1) := by decide +kernel
theorem d_LA_law_157 : decode b_LA_law 157 = .ok (.iload 4, 2) := by decide +kernel
theorem d_LA_law_159 : decode b_LA_law 159 = .ok (.iconst 4, 1) := by decide +kernel
theorem d_LA_law_160 : decode b_LA_law 160 = .ok (.iadd, 1) := by decide +kernel
theorem d_LA_law_161 : decode b_LA_law 161 = .ok (.iaload, 1) := by decide +kernel
theorem d_LA_law_162 : decode b_LA_law 162 = .ok (.aload_n 0, 1) := by decide +kernel
theorem d_LA_law_163 : decode b_LA_law 163 = .ok (.iload 4, 2) := by decide +kernel
theorem d_LA_law_165 : decode b_LA_law 165 = .ok (.iconst 5, 1) := by decide +kernel
theorem d_LA_law_166 : decode b_LA_law 166 = .ok (.iadd, 1) := by decide +kernel
theorem d_LA_law_167 : decode b_LA_law 167 = .ok (.iaload, 1) := by decide +kernel
theorem d_LA_law_168 : decode b_LA_law 168 = .ok (.invokevirtual 59, 3) := by decide +kernel
theorem d_LA_law_171 : decode b_LA_law 171 = .ok (.istore 6, 2) := by decide +kernel
theorem d_LA_law_173 : decode b_LA_law 173 = .ok (.aload_n 2, 1) := by decide +kernel
theorem d_LA_law_174 : decode b_LA_law 174 = .ok (.invokevirtual 60, 3) := by decide +kernel
theorem d_LA_law_177 : decode b_LA_law 177 = .ok (.iload 5, 2) := by decide +kernel
theorem d_LA_law_179 : decode b_LA_law 179 = .ok (.if_icmp .eq 5, 3) := by decide +kernel
theorem d_LA_law_182 : decode b_LA_law 182 = .ok (.iconst 0, 1) := by decide +kernel
theorem d_LA_law_183 : decode b_LA_law 183 = .ok (.ireturn, 1) := by decide +kernel
theorem d_LA_law_184 : decode b_LA_law 184 = .ok (.iload 5, 2) := by decide +kernel
theorem d_LA_law_186 : decode b_LA_law 186 = .ok (.ifCond .ne 15, 3) := by decide +kernel
theorem d_LA_law_189 : decode b_LA_law 189 = .ok (.aload_n 3, 1) := by decide +kernel
theorem d_LA_law_190 : decode b_LA_law 190 = .ok (.iconst 0, 1) := by decide +kernel
theorem d_LA_law_191 : decode b_LA_law 191 = .ok (.laload, 1) := by decide +kernel
theorem d_LA_law_192 : decode b_LA_law 192 = .ok (.iload 6, 2) := by decide +kernel
theorem d_LA_law_194 : decode b_LA_law 194 = .ok (.i2l, 1) := by decide +kernel
theorem d_LA_law_195 : decode b_LA_law 195 = .ok (.lcmp, 1) := by decide +kernel
theorem d_LA_law_196 : decode b_LA_law 196 = .ok (.ifCond .eq 5, 3) := by decide +kernel
theorem d_LA_law_199 : decode b_LA_law 199 = .ok (.iconst 0, 1) := by decide +kernel
theorem d_LA_law_200 : decode b_LA_law 200 = .ok (.ireturn, 1) := by decide +kernel
theorem d_LA_law_201 : decode b_LA_law 201 = .ok (.goto 504, 3) := by decide +kernel
theorem d_LA_law_204 : decode b_LA_law 204 = .ok (.aload_n 1, 1) := by decide +kernel
theorem d_LA_law_205 : decode b_LA_law 205 = .ok (.aload_n 0, 1) := by decide +kernel
theorem d_LA_law_206 : decode b_LA_law 206 = .ok (.iload 4, 2) := by decide +kernel
theorem d_LA_law_208 : decode b_LA_law 208 = .ok (.iconst 1, 1) := by decide +kernel
theorem d_LA_law_209 : decode b_LA_law 209 = .ok (.iadd, 1) := by decide +kernel
theorem d_LA_law_210 : decode b_LA_law 210 = .ok (.iaload, 1) := by decide +kernel
theorem d_LA_law_211 : decode b_LA_law 211 = .ok (.aload_n 3, 1) := by decide +kernel
theorem d_LA_law_212 : decode b_LA_law 212 = .ok (.invokestatic 63, 3) := by decide +kernel
theorem d_LA_law_215 : decode b_LA_law 215 = .ok (.istore 5, 2) := by decide +kernel
theorem d_LA_law_217 : decode b_LA_law 217 = .ok (.aload_n 2, 1) := by decide +kernel
theorem d_LA_law_218 : decode b_LA_law 218 = .ok (.aload_n 0, 1) := by decide +kernel
theorem d_LA_law_219 : decode b_LA_law 219 = .ok (.iload 4, 2) := by decide +kernel
theorem d_LA_law_221 : decode b_LA_law 221 = .ok (.iconst 1, 1) := by decide +kernel
theorem d_LA_law_222 : decode b_LA_law 222 = .ok (.iadd, 1) := by decide +kernel
theorem d_LA_law_223 : decode b_LA_law 223 = .ok (.iaload, 1) := by decide +kernel
theorem d_LA_law_224 : decode b_LA_law 224 = .ok (.invokevirtual 66, 3) := by decide +kernel
theorem d_LA_law_227 : decode b_LA_law 227 = .ok (.istore 6, 2) := by decide +kernel
theorem d_LA_law_229 : decode b_LA_law 229 = .ok (.aload_n 2, 1) := by decide +kernel
theorem d_LA_law_230 : decode b_LA_law 230 = .ok (.invokevirtual 60, 3) := by decide +kernel
theorem d_LA_law_233 : decode b_LA_law 233 = .ok (.iload 5, 2) := by decide +kernel
theorem d_LA_law_235 : decode b_LA_law 235 = .ok (.if_icmp .eq 5, 3) := by decide +kernel
theorem d_LA_law_238 : decode b_LA_law 238 = .ok (.iconst 0, 1) := by decide +kernel
theorem d_LA_law_239 : decode b_LA_law 239 = .ok (.ireturn, 1) := by decide +kernel
theorem d_LA_law_240 : decode b_LA_law 240 = .ok (.iload 5, 2) := by decide +kernel
theorem d_LA_law_242 : decode b_LA_law 242 = .ok (.ifCond .ne 15, 3) := by decide +kernel
theorem d_LA_law_245 : decode b_LA_law 245 = .ok (.aload_n 3, 1) := by decide +kernel
theorem d_LA_law_246 : decode b_LA_law 246 = .ok (.iconst 0, 1) := by decide +kernel
theorem d_LA_law_247 : decode b_LA_law 247 = .ok (.laload, 1) := by decide +kernel
theorem d_LA_law_248 : decode b_LA_law 248 = .ok (.iload 6, 2) := by decide +kernel
theorem d_LA_law_250 : decode b_LA_law 250 = .ok (.i2l, 1) := by decide +kernel
theorem d_LA_law_251 : decode b_LA_law 251 = .ok (.lcmp, 1) := by decide +kernel
theorem d_LA_law_252 : decode b_LA_law 252 = .ok (.ifCond .eq 5, 3) := by decide +kernel
theorem d_LA_law_255 : decode b_LA_law 255 = .ok (.iconst 0, 1) := by decide +kernel
theorem d_LA_law_256 : decode b_LA_law 256 = .ok (.ireturn, 1) := by decide +kernel
theorem d_LA_law_257 : decode b_LA_law 257 = .ok (.goto 448, 3) := by decide +kernel
theorem d_LA_law_260 : decode b_LA_law 260 = .ok (.aload_n 1, 1) := by decide +kernel
theorem d_LA_law_261 : decode b_LA_law 261 = .ok (.aload_n 0, 1) := by decide +kernel
theorem d_LA_law_262 : decode b_LA_law 262 = .ok (.iload 4, 2) := by decide +kernel
theorem d_LA_law_264 : decode b_LA_law 264 = .ok (.iconst 1, 1) := by decide +kernel
theorem d_LA_law_265 : decode b_LA_law 265 = .ok (.iadd, 1) := by decide +kernel
theorem d_LA_law_266 : decode b_LA_law 266 = .ok (.iaload, 1) := by decide +kernel
theorem d_LA_law_267 : decode b_LA_law 267 = .ok (.aload_n 0, 1) := by decide +kernel
theorem d_LA_law_268 : decode b_LA_law 268 = .ok (.iload 4, 2) := by decide +kernel
theorem d_LA_law_270 : decode b_LA_law 270 = .ok (.iconst 2, 1) := by decide +kernel
theorem d_LA_law_271 : decode b_LA_law 271 = .ok (.iadd, 1) := by decide +kernel
theorem d_LA_law_272 : decode b_LA_law 272 = .ok (.iaload, 1) := by decide +kernel
theorem d_LA_law_273 : decode b_LA_law 273 = .ok (.aload_n 0, 1) := by decide +kernel
theorem d_LA_law_274 : decode b_LA_law 274 = .ok (.iload 4, 2) := by decide +kernel
theorem d_LA_law_276 : decode b_LA_law 276 = .ok (.iconst 3, 1) := by decide +kernel
theorem d_LA_law_277 : decode b_LA_law 277 = .ok (.iadd, 1) := by decide +kernel
theorem d_LA_law_278 : decode b_LA_law 278 = .ok (.iaload, 1) := by decide +kernel
theorem d_LA_law_279 : decode b_LA_law 279 = .ok (.aload_n 3, 1) := by decide +kernel
theorem d_LA_law_280 : decode b_LA_law 280 = .ok (.invokestatic 67, 3) := by decide +kernel
theorem d_LA_law_283 : decode b_LA_law 283 = .ok (.istore 5, 2) := by decide +kernel
theorem d_LA_law_285 : decode b_LA_law 285 = .ok (.aload_n 2, 1) := by decide +kernel
theorem d_LA_law_286 : decode b_LA_law 286 = .ok (.aload_n 0, 1) := by decide +kernel
theorem d_LA_law_287 : decode b_LA_law 287 = .ok (.iload 4, 2) := by decide +kernel
theorem d_LA_law_289 : decode b_LA_law 289 = .ok (.iconst 1, 1) := by decide +kernel
theorem d_LA_law_290 : decode b_LA_law 290 = .ok (.iadd, 1) := by decide +kernel
theorem d_LA_law_291 : decode b_LA_law 291 = .ok (.iaload, 1) := by decide +kernel
theorem d_LA_law_292 : decode b_LA_law 292 = .ok (.aload_n 0, 1) := by decide +kernel
theorem d_LA_law_293 : decode b_LA_law 293 = .ok (.iload 4, 2) := by decide +kernel
theorem d_LA_law_295 : decode b_LA_law 295 = .ok (.iconst 2, 1) := by decide +kernel
theorem d_LA_law_296 : decode b_LA_law 296 = .ok (.iadd, 1) := by decide +kernel
theorem d_LA_law_297 : decode b_LA_law 297 = .ok (.iaload, 1) := by decide +kernel
theorem d_LA_law_298 : decode b_LA_law 298 = .ok (.aload_n 0, 1) := by decide +kernel
theorem d_LA_law_299 : decode b_LA_law 299 = .ok (.iload 4, 2) := by decide +kernel
theorem d_LA_law_301 : decode b_LA_law 301 = .ok (.iconst 3, 1) := by decide +kernel
theorem d_LA_law_302 : decode b_LA_law 302 = .ok (.iadd, 1) := by decide +kernel
theorem d_LA_law_303 : decode b_LA_law 303 = .ok (.iaload, 1) := by decide +kernel
theorem d_LA_law_304 : decode b_LA_law 304 = .ok (.invokevirtual 70, 3) := by decide +kernel
theorem d_LA_law_307 : decode b_LA_law 307 = .ok (.istore 6, 2) := by decide +kernel
theorem d_LA_law_309 : decode b_LA_law 309 = .ok (.aload_n 2, 1) := by decide +kernel
theorem d_LA_law_310 : decode b_LA_law 310 = .ok (.invokevirtual 60, 3) := by decide +kernel
theorem d_LA_law_313 : decode b_LA_law 313 = .ok (.iload 5, 2) := by decide +kernel
theorem d_LA_law_315 : decode b_LA_law 315 = .ok (.if_icmp .eq 5, 3) := by decide +kernel
theorem d_LA_law_318 : decode b_LA_law 318 = .ok (.iconst 0, 1) := by decide +kernel
theorem d_LA_law_319 : decode b_LA_law 319 = .ok (.ireturn, 1) := by decide +kernel
theorem d_LA_law_320 : decode b_LA_law 320 = .ok (.iload 5, 2) := by decide +kernel
theorem d_LA_law_322 : decode b_LA_law 322 = .ok (.ifCond .ne 15, 3) := by decide +kernel
theorem d_LA_law_325 : decode b_LA_law 325 = .ok (.aload_n 3, 1) := by decide +kernel
theorem d_LA_law_326 : decode b_LA_law 326 = .ok (.iconst 0, 1) := by decide +kernel
theorem d_LA_law_327 : decode b_LA_law 327 = .ok (.laload, 1) := by decide +kernel
theorem d_LA_law_328 : decode b_LA_law 328 = .ok (.iload 6, 2) := by decide +kernel
theorem d_LA_law_330 : decode b_LA_law 330 = .ok (.i2l, 1) := by decide +kernel
theorem d_LA_law_331 : decode b_LA_law 331 = .ok (.lcmp, 1) := by decide +kernel
theorem d_LA_law_332 : decode b_LA_law 332 = .ok (.ifCond .eq 5, 3) := by decide +kernel
theorem d_LA_law_335 : decode b_LA_law 335 = .ok (.iconst 0, 1) := by decide +kernel
theorem d_LA_law_336 : decode b_LA_law 336 = .ok (.ireturn, 1) := by decide +kernel
theorem d_LA_law_337 : decode b_LA_law 337 = .ok (.goto 368, 3) := by decide +kernel
theorem d_LA_law_340 : decode b_LA_law 340 = .ok (.aload_n 1, 1) := by decide +kernel
theorem d_LA_law_341 : decode b_LA_law 341 = .ok (.aload_n 0, 1) := by decide +kernel
theorem d_LA_law_342 : decode b_LA_law 342 = .ok (.iload 4, 2) := by decide +kernel
theorem d_LA_law_344 : decode b_LA_law 344 = .ok (.iconst 1, 1) := by decide +kernel
theorem d_LA_law_345 : decode b_LA_law 345 = .ok (.iadd, 1) := by decide +kernel
theorem d_LA_law_346 : decode b_LA_law 346 = .ok (.iaload, 1) := by decide +kernel
theorem d_LA_law_347 : decode b_LA_law 347 = .ok (.aload_n 3, 1) := by decide +kernel
theorem d_LA_law_348 : decode b_LA_law 348 = .ok (.invokestatic 71, 3) := by decide +kernel
theorem d_LA_law_351 : decode b_LA_law 351 = .ok (.istore 5, 2) := by decide +kernel
theorem d_LA_law_353 : decode b_LA_law 353 = .ok (.aload_n 2, 1) := by decide +kernel
theorem d_LA_law_354 : decode b_LA_law 354 = .ok (.aload_n 0, 1) := by decide +kernel
theorem d_LA_law_355 : decode b_LA_law 355 = .ok (.iload 4, 2) := by decide +kernel
theorem d_LA_law_357 : decode b_LA_law 357 = .ok (.iconst 1, 1) := by decide +kernel
theorem d_LA_law_358 : decode b_LA_law 358 = .ok (.iadd, 1) := by decide +kernel
theorem d_LA_law_359 : decode b_LA_law 359 = .ok (.iaload, 1) := by decide +kernel
theorem d_LA_law_360 : decode b_LA_law 360 = .ok (.invokevirtual 73, 3) := by decide +kernel
theorem d_LA_law_363 : decode b_LA_law 363 = .ok (.istore 6, 2) := by decide +kernel
theorem d_LA_law_365 : decode b_LA_law 365 = .ok (.aload_n 2, 1) := by decide +kernel
theorem d_LA_law_366 : decode b_LA_law 366 = .ok (.invokevirtual 60, 3) := by decide +kernel
theorem d_LA_law_369 : decode b_LA_law 369 = .ok (.iload 5, 2) := by decide +kernel
theorem d_LA_law_371 : decode b_LA_law 371 = .ok (.if_icmp .eq 5, 3) := by decide +kernel
theorem d_LA_law_374 : decode b_LA_law 374 = .ok (.iconst 0, 1) := by decide +kernel
theorem d_LA_law_375 : decode b_LA_law 375 = .ok (.ireturn, 1) := by decide +kernel
theorem d_LA_law_376 : decode b_LA_law 376 = .ok (.iload 5, 2) := by decide +kernel
theorem d_LA_law_378 : decode b_LA_law 378 = .ok (.ifCond .ne 15, 3) := by decide +kernel
theorem d_LA_law_381 : decode b_LA_law 381 = .ok (.aload_n 3, 1) := by decide +kernel
theorem d_LA_law_382 : decode b_LA_law 382 = .ok (.iconst 0, 1) := by decide +kernel
theorem d_LA_law_383 : decode b_LA_law 383 = .ok (.laload, 1) := by decide +kernel
theorem d_LA_law_384 : decode b_LA_law 384 = .ok (.iload 6, 2) := by decide +kernel
theorem d_LA_law_386 : decode b_LA_law 386 = .ok (.i2l, 1) := by decide +kernel
theorem d_LA_law_387 : decode b_LA_law 387 = .ok (.lcmp, 1) := by decide +kernel
theorem d_LA_law_388 : decode b_LA_law 388 = .ok (.ifCond .eq 5, 3) := by decide +kernel
theorem d_LA_law_391 : decode b_LA_law 391 = .ok (.iconst 0, 1) := by decide +kernel
theorem d_LA_law_392 : decode b_LA_law 392 = .ok (.ireturn, 1) := by decide +kernel
theorem d_LA_law_393 : decode b_LA_law 393 = .ok (.goto 312, 3) := by decide +kernel
theorem d_LA_law_396 : decode b_LA_law 396 = .ok (.aload_n 1, 1) := by decide +kernel
theorem d_LA_law_397 : decode b_LA_law 397 = .ok (.aload_n 0, 1) := by decide +kernel
theorem d_LA_law_398 : decode b_LA_law 398 = .ok (.iload 4, 2) := by decide +kernel
theorem d_LA_law_400 : decode b_LA_law 400 = .ok (.iconst 1, 1) := by decide +kernel
theorem d_LA_law_401 : decode b_LA_law 401 = .ok (.iadd, 1) := by decide +kernel
theorem d_LA_law_402 : decode b_LA_law 402 = .ok (.iaload, 1) := by decide +kernel
theorem d_LA_law_403 : decode b_LA_law 403 = .ok (.aload_n 0, 1) := by decide +kernel
theorem d_LA_law_404 : decode b_LA_law 404 = .ok (.iload 4, 2) := by decide +kernel
theorem d_LA_law_406 : decode b_LA_law 406 = .ok (.iconst 2, 1) := by decide +kernel
theorem d_LA_law_407 : decode b_LA_law 407 = .ok (.iadd, 1) := by decide +kernel
theorem d_LA_law_408 : decode b_LA_law 408 = .ok (.iaload, 1) := by decide +kernel
theorem d_LA_law_409 : decode b_LA_law 409 = .ok (.ifCond .eq 7, 3) := by decide +kernel
theorem d_LA_law_412 : decode b_LA_law 412 = .ok (.iconst 1, 1) := by decide +kernel
theorem d_LA_law_413 : decode b_LA_law 413 = .ok (.goto 4, 3) := by decide +kernel
theorem d_LA_law_416 : decode b_LA_law 416 = .ok (.iconst 0, 1) := by decide +kernel
theorem d_LA_law_417 : decode b_LA_law 417 = .ok (.aload_n 3, 1) := by decide +kernel
theorem d_LA_law_418 : decode b_LA_law 418 = .ok (.invokestatic 74, 3) := by decide +kernel
theorem d_LA_law_421 : decode b_LA_law 421 = .ok (.istore 5, 2) := by decide +kernel
theorem d_LA_law_423 : decode b_LA_law 423 = .ok (.aload_n 2, 1) := by decide +kernel
theorem d_LA_law_424 : decode b_LA_law 424 = .ok (.aload_n 0, 1) := by decide +kernel
theorem d_LA_law_425 : decode b_LA_law 425 = .ok (.iload 4, 2) := by decide +kernel
theorem d_LA_law_427 : decode b_LA_law 427 = .ok (.iconst 1, 1) := by decide +kernel
theorem d_LA_law_428 : decode b_LA_law 428 = .ok (.iadd, 1) := by decide +kernel
theorem d_LA_law_429 : decode b_LA_law 429 = .ok (.iaload, 1) := by decide +kernel
theorem d_LA_law_430 : decode b_LA_law 430 = .ok (.aload_n 0, 1) := by decide +kernel
theorem d_LA_law_431 : decode b_LA_law 431 = .ok (.iload 4, 2) := by decide +kernel
theorem d_LA_law_433 : decode b_LA_law 433 = .ok (.iconst 2, 1) := by decide +kernel
theorem d_LA_law_434 : decode b_LA_law 434 = .ok (.iadd, 1) := by decide +kernel
theorem d_LA_law_435 : decode b_LA_law 435 = .ok (.iaload, 1) := by decide +kernel
theorem d_LA_law_436 : decode b_LA_law 436 = .ok (.ifCond .eq 7, 3) := by decide +kernel
theorem d_LA_law_439 : decode b_LA_law 439 = .ok (.iconst 1, 1) := by decide +kernel
theorem d_LA_law_440 : decode b_LA_law 440 = .ok (.goto 4, 3) := by decide +kernel
theorem d_LA_law_443 : decode b_LA_law 443 = .ok (.iconst 0, 1) := by decide +kernel
theorem d_LA_law_444 : decode b_LA_law 444 = .ok (.invokevirtual 77, 3) := by decide +kernel
theorem d_LA_law_447 : decode b_LA_law 447 = .ok (.istore 6, 2) := by decide +kernel
theorem d_LA_law_449 : decode b_LA_law 449 = .ok (.aload_n 2, 1) := by decide +kernel
theorem d_LA_law_450 : decode b_LA_law 450 = .ok (.invokevirtual 60, 3) := by decide +kernel
theorem d_LA_law_453 : decode b_LA_law 453 = .ok (.iload 5, 2) := by decide +kernel
theorem d_LA_law_455 : decode b_LA_law 455 = .ok (.if_icmp .eq 5, 3) := by decide +kernel
theorem d_LA_law_458 : decode b_LA_law 458 = .ok (.iconst 0, 1) := by decide +kernel
theorem d_LA_law_459 : decode b_LA_law 459 = .ok (.ireturn, 1) := by decide +kernel
theorem d_LA_law_460 : decode b_LA_law 460 = .ok (.iload 5, 2) := by decide +kernel
theorem d_LA_law_462 : decode b_LA_law 462 = .ok (.ifCond .ne 15, 3) := by decide +kernel
theorem d_LA_law_465 : decode b_LA_law 465 = .ok (.aload_n 3, 1) := by decide +kernel
theorem d_LA_law_466 : decode b_LA_law 466 = .ok (.iconst 0, 1) := by decide +kernel
theorem d_LA_law_467 : decode b_LA_law 467 = .ok (.laload, 1) := by decide +kernel
theorem d_LA_law_468 : decode b_LA_law 468 = .ok (.iload 6, 2) := by decide +kernel
theorem d_LA_law_470 : decode b_LA_law 470 = .ok (.i2l, 1) := by decide +kernel
theorem d_LA_law_471 : decode b_LA_law 471 = .ok (.lcmp, 1) := by decide +kernel
theorem d_LA_law_472 : decode b_LA_law 472 = .ok (.ifCond .eq 5, 3) := by decide +kernel
theorem d_LA_law_475 : decode b_LA_law 475 = .ok (.iconst 0, 1) := by decide +kernel
theorem d_LA_law_476 : decode b_LA_law 476 = .ok (.ireturn, 1) := by decide +kernel
theorem d_LA_law_477 : decode b_LA_law 477 = .ok (.goto 228, 3) := by decide +kernel
theorem d_LA_law_480 : decode b_LA_law 480 = .ok (.aload_n 1, 1) := by decide +kernel
theorem d_LA_law_481 : decode b_LA_law 481 = .ok (.aload_n 3, 1) := by decide +kernel
theorem d_LA_law_482 : decode b_LA_law 482 = .ok (.invokestatic 78, 3) := by decide +kernel
theorem d_LA_law_485 : decode b_LA_law 485 = .ok (.istore 5, 2) := by decide +kernel
theorem d_LA_law_487 : decode b_LA_law 487 = .ok (.aload_n 2, 1) := by decide +kernel
theorem d_LA_law_488 : decode b_LA_law 488 = .ok (.invokevirtual 81, 3) := by decide +kernel
theorem d_LA_law_491 : decode b_LA_law 491 = .ok (.istore 6, 2) := by decide +kernel
theorem d_LA_law_493 : decode b_LA_law 493 = .ok (.aload_n 2, 1) := by decide +kernel
theorem d_LA_law_494 : decode b_LA_law 494 = .ok (.invokevirtual 60, 3) := by decide +kernel
theorem d_LA_law_497 : decode b_LA_law 497 = .ok (.iload 5, 2) := by decide +kernel
theorem d_LA_law_499 : decode b_LA_law 499 = .ok (.if_icmp .eq 5, 3) := by decide +kernel
theorem d_LA_law_502 : decode b_LA_law 502 = .ok (.iconst 0, 1) := by decide +kernel
theorem d_LA_law_503 : decode b_LA_law 503 = .ok (.ireturn, 1) := by decide +kernel
theorem d_LA_law_504 : decode b_LA_law 504 = .ok (.iload 5, 2) := by decide +kernel
theorem d_LA_law_506 : decode b_LA_law 506 = .ok (.ifCond .ne 15, 3) := by decide +kernel
theorem d_LA_law_509 : decode b_LA_law 509 = .ok (.aload_n 3, 1) := by decide +kernel
theorem d_LA_law_510 : decode b_LA_law 510 = .ok (.iconst 0, 1) := by decide +kernel
theorem d_LA_law_511 : decode b_LA_law 511 = .ok (.laload, 1) := by decide +kernel
theorem d_LA_law_512 : decode b_LA_law 512 = .ok (.iload 6, 2) := by decide +kernel
theorem d_LA_law_514 : decode b_LA_law 514 = .ok (.i2l, 1) := by decide +kernel
theorem d_LA_law_515 : decode b_LA_law 515 = .ok (.lcmp, 1) := by decide +kernel
theorem d_LA_law_516 : decode b_LA_law 516 = .ok (.ifCond .eq 5, 3) := by decide +kernel
theorem d_LA_law_519 : decode b_LA_law 519 = .ok (.iconst 0, 1) := by decide +kernel
theorem d_LA_law_520 : decode b_LA_law 520 = .ok (.ireturn, 1) := by decide +kernel
theorem d_LA_law_521 : decode b_LA_law 521 = .ok (.goto 184, 3) := by decide +kernel
theorem d_LA_law_524 : decode b_LA_law 524 = .ok (.aload_n 1, 1) := by decide +kernel
theorem d_LA_law_525 : decode b_LA_law 525 = .ok (.aload_n 3, 1) := by decide +kernel
theorem d_LA_law_526 : decode b_LA_law 526 = .ok (.invokestatic 82, 3) := by decide +kernel
theorem d_LA_law_529 : decode b_LA_law 529 = .ok (.istore 5, 2) := by decide +kernel
theorem d_LA_law_531 : decode b_LA_law 531 = .ok (.aload_n 2, 1) := by decide +kernel
theorem d_LA_law_532 : decode b_LA_law 532 = .ok (.invokevirtual 84, 3) := by decide +kernel
theorem d_LA_law_535 : decode b_LA_law 535 = .ok (.istore 6, 2) := by decide +kernel
theorem d_LA_law_537 : decode b_LA_law 537 = .ok (.aload_n 2, 1) := by decide +kernel
theorem d_LA_law_538 : decode b_LA_law 538 = .ok (.invokevirtual 60, 3) := by decide +kernel
theorem d_LA_law_541 : decode b_LA_law 541 = .ok (.iload 5, 2) := by decide +kernel
theorem d_LA_law_543 : decode b_LA_law 543 = .ok (.if_icmp .eq 5, 3) := by decide +kernel
theorem d_LA_law_546 : decode b_LA_law 546 = .ok (.iconst 0, 1) := by decide +kernel
theorem d_LA_law_547 : decode b_LA_law 547 = .ok (.ireturn, 1) := by decide +kernel
theorem d_LA_law_548 : decode b_LA_law 548 = .ok (.iload 5, 2) := by decide +kernel
theorem d_LA_law_550 : decode b_LA_law 550 = .ok (.ifCond .ne 15, 3) := by decide +kernel
theorem d_LA_law_553 : decode b_LA_law 553 = .ok (.aload_n 3, 1) := by decide +kernel
theorem d_LA_law_554 : decode b_LA_law 554 = .ok (.iconst 0, 1) := by decide +kernel
theorem d_LA_law_555 : decode b_LA_law 555 = .ok (.laload, 1) := by decide +kernel
theorem d_LA_law_556 : decode b_LA_law 556 = .ok (.iload 6, 2) := by decide +kernel
theorem d_LA_law_558 : decode b_LA_law 558 = .ok (.i2l, 1) := by decide +kernel
theorem d_LA_law_559 : decode b_LA_law 559 = .ok (.lcmp, 1) := by decide +kernel
theorem d_LA_law_560 : decode b_LA_law 560 = .ok (.ifCond .eq 5, 3) := by decide +kernel
theorem d_LA_law_563 : decode b_LA_law 563 = .ok (.iconst 0, 1) := by decide +kernel
theorem d_LA_law_564 : decode b_LA_law 564 = .ok (.ireturn, 1) := by decide +kernel
theorem d_LA_law_565 : decode b_LA_law 565 = .ok (.goto 140, 3) := by decide +kernel
theorem d_LA_law_568 : decode b_LA_law 568 = .ok (.aload_n 1, 1) := by decide +kernel
theorem d_LA_law_569 : decode b_LA_law 569 = .ok (.aload_n 0, 1) := by decide +kernel
theorem d_LA_law_570 : decode b_LA_law 570 = .ok (.iload 4, 2) := by decide +kernel
theorem d_LA_law_572 : decode b_LA_law 572 = .ok (.iconst 1, 1) := by decide +kernel
theorem d_LA_law_573 : decode b_LA_law 573 = .ok (.iadd, 1) := by decide +kernel
theorem d_LA_law_574 : decode b_LA_law 574 = .ok (.iaload, 1) := by decide +kernel
theorem d_LA_law_575 : decode b_LA_law 575 = .ok (.aload_n 3, 1) := by decide +kernel
theorem d_LA_law_576 : decode b_LA_law 576 = .ok (.invokestatic 85, 3) := by decide +kernel
theorem d_LA_law_579 : decode b_LA_law 579 = .ok (.istore 5, 2) := by decide +kernel
theorem d_LA_law_581 : decode b_LA_law 581 = .ok (.aload_n 2, 1) := by decide +kernel
theorem d_LA_law_582 : decode b_LA_law 582 = .ok (.aload_n 0, 1) := by decide +kernel
theorem d_LA_law_583 : decode b_LA_law 583 = .ok (.iload 4, 2) := by decide +kernel
theorem d_LA_law_585 : decode b_LA_law 585 = .ok (.iconst 1, 1) := by decide +kernel
theorem d_LA_law_586 : decode b_LA_law 586 = .ok (.iadd, 1) := by decide +kernel
theorem d_LA_law_587 : decode b_LA_law 587 = .ok (.iaload, 1) := by decide +kernel
theorem d_LA_law_588 : decode b_LA_law 588 = .ok (.invokevirtual 87, 3) := by decide +kernel
theorem d_LA_law_591 : decode b_LA_law 591 = .ok (.istore 6, 2) := by decide +kernel
theorem d_LA_law_593 : decode b_LA_law 593 = .ok (.aload_n 2, 1) := by decide +kernel
theorem d_LA_law_594 : decode b_LA_law 594 = .ok (.invokevirtual 60, 3) := by decide +kernel
theorem d_LA_law_597 : decode b_LA_law 597 = .ok (.iload 5, 2) := by decide +kernel
theorem d_LA_law_599 : decode b_LA_law 599 = .ok (.if_icmp .eq 5, 3) := by decide +kernel
theorem d_LA_law_602 : decode b_LA_law 602 = .ok (.iconst 0, 1) := by decide +kernel
theorem d_LA_law_603 : decode b_LA_law 603 = .ok (.ireturn, 1) := by decide +kernel
theorem d_LA_law_604 : decode b_LA_law 604 = .ok (.iload 5, 2) := by decide +kernel
theorem d_LA_law_606 : decode b_LA_law 606 = .ok (.ifCond .ne 15, 3) := by decide +kernel
theorem d_LA_law_609 : decode b_LA_law 609 = .ok (.aload_n 3, 1) := by decide +kernel
theorem d_LA_law_610 : decode b_LA_law 610 = .ok (.iconst 0, 1) := by decide +kernel
theorem d_LA_law_611 : decode b_LA_law 611 = .ok (.laload, 1) := by decide +kernel
theorem d_LA_law_612 : decode b_LA_law 612 = .ok (.iload 6, 2) := by decide +kernel
theorem d_LA_law_614 : decode b_LA_law 614 = .ok (.i2l, 1) := by decide +kernel
theorem d_LA_law_615 : decode b_LA_law 615 = .ok (.lcmp, 1) := by decide +kernel
theorem d_LA_law_616 : decode b_LA_law 616 = .ok (.ifCond .eq 5, 3) := by decide +kernel
theorem d_LA_law_619 : decode b_LA_law 619 = .ok (.iconst 0, 1) := by decide +kernel
theorem d_LA_law_620 : decode b_LA_law 620 = .ok (.ireturn, 1) := by decide +kernel
theorem d_LA_law_621 : decode b_LA_law 621 = .ok (.goto 84, 3) := by decide +kernel
theorem d_LA_law_624 : decode b_LA_law 624 = .ok (.aload_n 1, 1) := by decide +kernel
theorem d_LA_law_625 : decode b_LA_law 625 = .ok (.aload_n 0, 1) := by decide +kernel
theorem d_LA_law_626 : decode b_LA_law 626 = .ok (.iload 4, 2) := by decide +kernel
theorem d_LA_law_628 : decode b_LA_law 628 = .ok (.iconst 1, 1) := by decide +kernel
theorem d_LA_law_629 : decode b_LA_law 629 = .ok (.iadd, 1) := by decide +kernel
theorem d_LA_law_630 : decode b_LA_law 630 = .ok (.iaload, 1) := by decide +kernel
theorem d_LA_law_631 : decode b_LA_law 631 = .ok (.aload_n 3, 1) := by decide +kernel
theorem d_LA_law_632 : decode b_LA_law 632 = .ok (.invokestatic 88, 3) := by decide +kernel
theorem d_LA_law_635 : decode b_LA_law 635 = .ok (.istore 5, 2) := by decide +kernel
theorem d_LA_law_637 : decode b_LA_law 637 = .ok (.aload_n 2, 1) := by decide +kernel
theorem d_LA_law_638 : decode b_LA_law 638 = .ok (.aload_n 0, 1) := by decide +kernel
theorem d_LA_law_639 : decode b_LA_law 639 = .ok (.iload 4, 2) := by decide +kernel
theorem d_LA_law_641 : decode b_LA_law 641 = .ok (.iconst 1, 1) := by decide +kernel
theorem d_LA_law_642 : decode b_LA_law 642 = .ok (.iadd, 1) := by decide +kernel
theorem d_LA_law_643 : decode b_LA_law 643 = .ok (.iaload, 1) := by decide +kernel
theorem d_LA_law_644 : decode b_LA_law 644 = .ok (.invokevirtual 90, 3) := by decide +kernel
theorem d_LA_law_647 : decode b_LA_law 647 = .ok (.lstore 6, 2) := by decide +kernel
theorem d_LA_law_649 : decode b_LA_law 649 = .ok (.aload_n 2, 1) := by decide +kernel
theorem d_LA_law_650 : decode b_LA_law 650 = .ok (.invokevirtual 60, 3) := by decide +kernel
theorem d_LA_law_653 : decode b_LA_law 653 = .ok (.iload 5, 2) := by decide +kernel
theorem d_LA_law_655 : decode b_LA_law 655 = .ok (.if_icmp .eq 5, 3) := by decide +kernel
theorem d_LA_law_658 : decode b_LA_law 658 = .ok (.iconst 0, 1) := by decide +kernel
theorem d_LA_law_659 : decode b_LA_law 659 = .ok (.ireturn, 1) := by decide +kernel
theorem d_LA_law_660 : decode b_LA_law 660 = .ok (.iload 5, 2) := by decide +kernel
theorem d_LA_law_662 : decode b_LA_law 662 = .ok (.ifCond .ne 14, 3) := by decide +kernel
theorem d_LA_law_665 : decode b_LA_law 665 = .ok (.aload_n 3, 1) := by decide +kernel
theorem d_LA_law_666 : decode b_LA_law 666 = .ok (.iconst 0, 1) := by decide +kernel
theorem d_LA_law_667 : decode b_LA_law 667 = .ok (.laload, 1) := by decide +kernel
theorem d_LA_law_668 : decode b_LA_law 668 = .ok (.lload 6, 2) := by decide +kernel
theorem d_LA_law_670 : decode b_LA_law 670 = .ok (.lcmp, 1) := by decide +kernel
theorem d_LA_law_671 : decode b_LA_law 671 = .ok (.ifCond .eq 5, 3) := by decide +kernel
theorem d_LA_law_674 : decode b_LA_law 674 = .ok (.iconst 0, 1) := by decide +kernel
theorem d_LA_law_675 : decode b_LA_law 675 = .ok (.ireturn, 1) := by decide +kernel
theorem d_LA_law_676 : decode b_LA_law 676 = .ok (.goto 29, 3) := by decide +kernel
theorem d_LA_law_679 : decode b_LA_law 679 = .ok (.aload_n 1, 1) := by decide +kernel
theorem d_LA_law_680 : decode b_LA_law 680 = .ok (.invokevirtual 91, 3) := by decide +kernel
theorem d_LA_law_683 : decode b_LA_law 683 = .ok (.aload_n 2, 1) := by decide +kernel
theorem d_LA_law_684 : decode b_LA_law 684 = .ok (.invokevirtual 94, 3) := by decide +kernel
theorem d_LA_law_687 : decode b_LA_law 687 = .ok (.if_icmp .eq 18, 3) := by decide +kernel
theorem d_LA_law_690 : decode b_LA_law 690 = .ok (.iconst 0, 1) := by decide +kernel
theorem d_LA_law_691 : decode b_LA_law 691 = .ok (.ireturn, 1) := by decide +kernel
theorem d_LA_law_692 : decode b_LA_law 692 = .ok (.aload_n 1, 1) := by decide +kernel
theorem d_LA_law_693 : decode b_LA_law 693 = .ok (.invokevirtual 95, 3) := by decide +kernel
theorem d_LA_law_696 : decode b_LA_law 696 = .ok (.aload_n 2, 1) := by decide +kernel
theorem d_LA_law_697 : decode b_LA_law 697 = .ok (.invokevirtual 98, 3) := by decide +kernel
theorem d_LA_law_700 : decode b_LA_law 700 = .ok (.if_icmp .eq 5, 3) := by decide +kernel
theorem d_LA_law_703 : decode b_LA_law 703 = .ok (.iconst 0, 1) := by decide +kernel
theorem d_LA_law_704 : decode b_LA_law 704 = .ok (.ireturn, 1) := by decide +kernel
theorem d_LA_law_705 : decode b_LA_law 705 = .ok (.iinc 4 6, 3) := by decide +kernel
theorem d_LA_law_708 : decode b_LA_law 708 = .ok (.goto (-685), 3) := by decide +kernel
theorem d_LA_law_711 : decode b_LA_law 711 = .ok (.iconst 1, 1) := by decide +kernel
theorem d_LA_law_712 : decode b_LA_law 712 = .ok (.ireturn, 1) := by decide +kernel
