abbrev cX7_init : ByteArray := prog_9_method_1_code
def yX7_init : MethodName := ⟨RX7, "<init>", "()V"⟩
abbrev wsX7_init : List Cond := .code yX7_init cX7_init 1 (none) :: wG
set_option maxRecDepth 20000 in
theorem kX7_init : Cond.code yX7_init cX7_init 1 (none) ∈ wG := wG_in (wT2 (List.mem_of_getElem? (i := 212) rfl)) rfl
abbrev cX7_put : ByteArray := prog_9_method_2_code
def yX7_put : MethodName := ⟨RX7, "put", "(JI)Z"⟩
abbrev wsX7_put : List Cond := .code yX7_put cX7_put 5 (some .boolean) :: wG
set_option maxRecDepth 20000 in
theorem kX7_put : Cond.code yX7_put cX7_put 5 (some .boolean) ∈ wG := wG_in (wT3 (List.mem_of_getElem? (i := 62) rfl)) rfl
abbrev cX7_drop : ByteArray := prog_9_method_3_code
def yX7_drop : MethodName := ⟨RX7, "drop", "()V"⟩
abbrev wsX7_drop : List Cond := .code yX7_drop cX7_drop 1 (none) :: wG
set_option maxRecDepth 20000 in
theorem kX7_drop : Cond.code yX7_drop cX7_drop 1 (none) ∈ wG := wG_in (wT3 (List.mem_of_getElem? (i := 66) rfl)) rfl
abbrev cX7_length : ByteArray := prog_9_method_4_code
def yX7_length : MethodName := ⟨RX7, "length", "()I"⟩
abbrev wsX7_length : List Cond := .code yX7_length cX7_length 1 (some .int) :: wG
set_option maxRecDepth 20000 in
theorem kX7_length : Cond.code yX7_length cX7_length 1 (some .int) ∈ wG := wG_in (wT3 (List.mem_of_getElem? (i := 70) rfl)) rfl
abbrev cX7_fail : ByteArray := prog_9_method_5_code
def yX7_fail : MethodName := ⟨RX7, "fail", "(II)V"⟩
abbrev wsX7_fail : List Cond := .code yX7_fail cX7_fail 3 (none) :: wG
set_option maxRecDepth 20000 in
theorem kX7_fail : Cond.code yX7_fail cX7_fail 3 (none) ∈ wG := wG_in (wT3 (List.mem_of_getElem? (i := 86) rfl)) rfl
abbrev cX7_take : ByteArray := prog_9_method_6_code
def yX7_take : MethodName := ⟨RX7, "take", "()I"⟩
abbrev wsX7_take : List Cond := .code yX7_take cX7_take 2 (some .int) :: wG
set_option maxRecDepth 20000 in
theorem kX7_take : Cond.code yX7_take cX7_take 2 (some .int) ∈ wG := wG_in (wT3 (List.mem_of_getElem? (i := 82) rfl)) rfl
abbrev cX7_many : ByteArray := prog_9_method_7_code
def yX7_many : MethodName := ⟨RX7, "many", "(I)I"⟩
abbrev wsX7_many : List Cond := .code yX7_many cX7_many 4 (some .int) :: wG
set_option maxRecDepth 20000 in
theorem kX7_many : Cond.code yX7_many cX7_many 4 (some .int) ∈ wG := wG_in (wT3 (List.mem_of_getElem? (i := 94) rfl)) rfl
abbrev cX7_constant : ByteArray := prog_9_method_8_code
def yX7_constant : MethodName := ⟨RX7, "constant", "(I)I"⟩
abbrev wsX7_constant : List Cond := .code yX7_constant cX7_constant 4 (some .int) :: wG
set_option maxRecDepth 20000 in
theorem kX7_constant : Cond.code yX7_constant cX7_constant 4 (some .int) ∈ wG := wG_in (wT3 (List.mem_of_getElem? (i := 102) rfl)) rfl
abbrev cX7_classOrNone : ByteArray := prog_9_method_9_code
def yX7_classOrNone : MethodName := ⟨RX7, "classOrNone", "()I"⟩
abbrev wsX7_classOrNone : List Cond := .code yX7_classOrNone cX7_classOrNone 3 (some .int) :: wG
set_option maxRecDepth 20000 in
theorem kX7_classOrNone : Cond.code yX7_classOrNone cX7_classOrNone 3 (some .int) ∈ wG := wG_in (wT3 (List.mem_of_getElem? (i := 118) rfl)) rfl
abbrev cX7_oneConstant : ByteArray := prog_9_method_10_code
def yX7_oneConstant : MethodName := ⟨RX7, "oneConstant", "(I)V"⟩
abbrev wsX7_oneConstant : List Cond := .code yX7_oneConstant cX7_oneConstant 8 (none) :: wG
set_option maxRecDepth 20000 in
theorem kX7_oneConstant : Cond.code yX7_oneConstant cX7_oneConstant 8 (none) ∈ wG := wG_in (wT3 (List.mem_of_getElem? (i := 98) rfl)) rfl
abbrev cX7_allConstants : ByteArray := prog_9_method_11_code
def yX7_allConstants : MethodName := ⟨RX7, "allConstants", "()V"⟩
abbrev wsX7_allConstants : List Cond := .code yX7_allConstants cX7_allConstants 5 (none) :: wG
set_option maxRecDepth 20000 in
theorem kX7_allConstants : Cond.code yX7_allConstants cX7_allConstants 5 (none) ∈ wG := wG_in (wT3 (List.mem_of_getElem? (i := 90) rfl)) rfl
abbrev cX7_values : ByteArray := prog_9_method_12_code
def yX7_values : MethodName := ⟨RX7, "values", "(I)V"⟩
abbrev wsX7_values : List Cond := .code yX7_values cX7_values 3 (none) :: wG
set_option maxRecDepth 20000 in
theorem kX7_values : Cond.code yX7_values cX7_values 3 (none) ∈ wG := wG_in (wT3 (List.mem_of_getElem? (i := 122) rfl)) rfl
abbrev cX7_oneValue : ByteArray := prog_9_method_13_code
def yX7_oneValue : MethodName := ⟨RX7, "oneValue", "(I)Z"⟩
abbrev wsX7_oneValue : List Cond := .code yX7_oneValue cX7_oneValue 4 (some .boolean) :: wG
set_option maxRecDepth 20000 in
theorem kX7_oneValue : Cond.code yX7_oneValue cX7_oneValue 4 (some .boolean) ∈ wG := wG_in (wT3 (List.mem_of_getElem? (i := 126) rfl)) rfl
abbrev cX7_sameText : ByteArray := prog_9_method_14_code
def yX7_sameText : MethodName := ⟨RX7, "sameText", "(II)Z"⟩
abbrev wsX7_sameText : List Cond := .code yX7_sameText cX7_sameText 5 (some .boolean) :: wG
set_option maxRecDepth 20000 in
theorem kX7_sameText : Cond.code yX7_sameText cX7_sameText 5 (some .boolean) ∈ wG := wG_in (wT3 (List.mem_of_getElem? (i := 114) rfl)) rfl
abbrev cX7_textPlace : ByteArray := prog_9_method_15_code
def yX7_textPlace : MethodName := ⟨RX7, "textPlace", "(I)I"⟩
abbrev wsX7_textPlace : List Cond := .code yX7_textPlace cX7_textPlace 3 (some .int) :: wG
set_option maxRecDepth 20000 in
theorem kX7_textPlace : Cond.code yX7_textPlace cX7_textPlace 3 (some .int) ∈ wG := wG_in (wT3 (List.mem_of_getElem? (i := 110) rfl)) rfl
abbrev cX7_taken : ByteArray := prog_9_method_16_code
def yX7_taken : MethodName := ⟨RX7, "taken", "(I)Z"⟩
abbrev wsX7_taken : List Cond := .code yX7_taken cX7_taken 4 (some .boolean) :: wG
set_option maxRecDepth 20000 in
theorem kX7_taken : Cond.code yX7_taken cX7_taken 4 (some .boolean) ∈ wG := wG_in (wT3 (List.mem_of_getElem? (i := 106) rfl)) rfl
abbrev cX7_wholeFile : ByteArray := prog_9_method_17_code
def yX7_wholeFile : MethodName := ⟨RX7, "wholeFile", "()V"⟩
abbrev wsX7_wholeFile : List Cond := .code yX7_wholeFile cX7_wholeFile 6 (none) :: wG
set_option maxRecDepth 20000 in
theorem kX7_wholeFile : Cond.code yX7_wholeFile cX7_wholeFile 6 (none) ∈ wG := wG_in (wT3 (List.mem_of_getElem? (i := 78) rfl)) rfl
abbrev cX7_number : ByteArray := prog_9_method_18_code
def yX7_number : MethodName := ⟨RX7, "number", "(I)I"⟩
abbrev wsX7_number : List Cond := .code yX7_number cX7_number 3 (some .int) :: wG
set_option maxRecDepth 20000 in
theorem kX7_number : Cond.code yX7_number cX7_number 3 (some .int) ∈ wG := wG_in (wT3 (List.mem_of_getElem? (i := 130) rfl)) rfl
abbrev cX7_read : ByteArray := prog_9_method_19_code
def yX7_read : MethodName := ⟨RX7, "read", "()I"⟩
abbrev wsX7_read : List Cond := .code yX7_read cX7_read 2 (some .int) :: wG
set_option maxRecDepth 20000 in
theorem kX7_read : Cond.code yX7_read cX7_read 2 (some .int) ∈ wG := wG_in (wT3 (List.mem_of_getElem? (i := 74) rfl)) rfl
abbrev cX7_isClass : ByteArray := prog_9_method_20_code
def yX7_isClass : MethodName := ⟨RX7, "isClass", "(I)Z"⟩
abbrev wsX7_isClass : List Cond := .code yX7_isClass cX7_isClass 2 (some .boolean) :: wG
set_option maxRecDepth 20000 in
theorem kX7_isClass : Cond.code yX7_isClass cX7_isClass 2 (some .boolean) ∈ wG := wG_in (wT3 (List.mem_of_getElem? (i := 158) rfl)) rfl
abbrev cX7_isText : ByteArray := prog_9_method_21_code
def yX7_isText : MethodName := ⟨RX7, "isText", "(I)Z"⟩
abbrev wsX7_isText : List Cond := .code yX7_isText cX7_isText 2 (some .boolean) :: wG
set_option maxRecDepth 20000 in
theorem kX7_isText : Cond.code yX7_isText cX7_isText 2 (some .boolean) ∈ wG := wG_in (wT3 (List.mem_of_getElem? (i := 146) rfl)) rfl
abbrev cX7_classes : ByteArray := prog_9_method_22_code
def yX7_classes : MethodName := ⟨RX7, "classes", "()I"⟩
abbrev wsX7_classes : List Cond := .code yX7_classes cX7_classes 1 (some .int) :: wG
set_option maxRecDepth 20000 in
theorem kX7_classes : Cond.code yX7_classes cX7_classes 1 (some .int) ∈ wG := wG_in (wT3 (List.mem_of_getElem? (i := 134) rfl)) rfl
abbrev cX7_texts : ByteArray := prog_9_method_23_code
def yX7_texts : MethodName := ⟨RX7, "texts", "()I"⟩
abbrev wsX7_texts : List Cond := .code yX7_texts cX7_texts 1 (some .int) :: wG
set_option maxRecDepth 20000 in
theorem kX7_texts : Cond.code yX7_texts cX7_texts 1 (some .int) ∈ wG := wG_in (wT3 (List.mem_of_getElem? (i := 138) rfl)) rfl
abbrev cX7_letter : ByteArray := prog_9_method_24_code
def yX7_letter : MethodName := ⟨RX7, "letter", "(II)I"⟩
abbrev wsX7_letter : List Cond := .code yX7_letter cX7_letter 3 (some .int) :: wG
set_option maxRecDepth 20000 in
theorem kX7_letter : Cond.code yX7_letter cX7_letter 3 (some .int) ∈ wG := wG_in (wT3 (List.mem_of_getElem? (i := 142) rfl)) rfl
abbrev cX7_find : ByteArray := prog_9_method_25_code
def yX7_find : MethodName := ⟨RX7, "find", "(I)I"⟩
abbrev wsX7_find : List Cond := .code yX7_find cX7_find 3 (some .int) :: wG
set_option maxRecDepth 20000 in
theorem kX7_find : Cond.code yX7_find cX7_find 3 (some .int) ∈ wG := wG_in (wT3 (List.mem_of_getElem? (i := 150) rfl)) rfl
abbrev cX7_name : ByteArray := prog_9_method_26_code
def yX7_name : MethodName := ⟨RX7, "name", "(I)I"⟩
abbrev wsX7_name : List Cond := .code yX7_name cX7_name 2 (some .int) :: wG
set_option maxRecDepth 20000 in
theorem kX7_name : Cond.code yX7_name cX7_name 2 (some .int) ∈ wG := wG_in (wT3 (List.mem_of_getElem? (i := 154) rfl)) rfl
abbrev cX7_flags : ByteArray := prog_9_method_27_code
def yX7_flags : MethodName := ⟨RX7, "flags", "(I)I"⟩
abbrev wsX7_flags : List Cond := .code yX7_flags cX7_flags 2 (some .int) :: wG
set_option maxRecDepth 20000 in
theorem kX7_flags : Cond.code yX7_flags cX7_flags 2 (some .int) ∈ wG := wG_in (wT3 (List.mem_of_getElem? (i := 162) rfl)) rfl
abbrev cX7_superName : ByteArray := prog_9_method_28_code
def yX7_superName : MethodName := ⟨RX7, "superName", "(I)I"⟩
abbrev wsX7_superName : List Cond := .code yX7_superName cX7_superName 2 (some .int) :: wG
set_option maxRecDepth 20000 in
theorem kX7_superName : Cond.code yX7_superName cX7_superName 2 (some .int) ∈ wG := wG_in (wT3 (List.mem_of_getElem? (i := 166) rfl)) rfl
abbrev cX7_typeOf : ByteArray := prog_9_method_29_code
def yX7_typeOf : MethodName := ⟨RX7, "typeOf", "(II)I"⟩
abbrev wsX7_typeOf : List Cond := .code yX7_typeOf cX7_typeOf 3 (some .int) :: wG
set_option maxRecDepth 20000 in
theorem kX7_typeOf : Cond.code yX7_typeOf cX7_typeOf 3 (some .int) ∈ wG := wG_in (wT3 (List.mem_of_getElem? (i := 182) rfl)) rfl
abbrev cX7_markAbove : ByteArray := prog_9_method_30_code
def yX7_markAbove : MethodName := ⟨RX7, "markAbove", "(IZ)Z"⟩
abbrev wsX7_markAbove : List Cond := .code yX7_markAbove cX7_markAbove 7 (some .boolean) :: wG
set_option maxRecDepth 20000 in
theorem kX7_markAbove : Cond.code yX7_markAbove cX7_markAbove 7 (some .boolean) ∈ wG := wG_in (wT3 (List.mem_of_getElem? (i := 178) rfl)) rfl
abbrev cX7_reaches : ByteArray := prog_9_method_31_code
def yX7_reaches : MethodName := ⟨RX7, "reaches", "(IIZ)Z"⟩
abbrev wsX7_reaches : List Cond := .code yX7_reaches cX7_reaches 8 (some .boolean) :: wG
set_option maxRecDepth 20000 in
theorem kX7_reaches : Cond.code yX7_reaches cX7_reaches 8 (some .boolean) ∈ wG := wG_in (wT3 (List.mem_of_getElem? (i := 174) rfl)) rfl
abbrev cX7_subtype : ByteArray := prog_9_method_32_code
def yX7_subtype : MethodName := ⟨RX7, "subtype", "(II)Z"⟩
abbrev wsX7_subtype : List Cond := .code yX7_subtype cX7_subtype 3 (some .boolean) :: wG
set_option maxRecDepth 20000 in
theorem kX7_subtype : Cond.code yX7_subtype cX7_subtype 3 (some .boolean) ∈ wG := wG_in (wT3 (List.mem_of_getElem? (i := 170) rfl)) rfl
abbrev cX7_subtypeAt : ByteArray := prog_9_method_33_code
def yX7_subtypeAt : MethodName := ⟨RX7, "subtypeAt", "(II)I"⟩
abbrev wsX7_subtypeAt : List Cond := .code yX7_subtypeAt cX7_subtypeAt 5 (some .int) :: wG
set_option maxRecDepth 20000 in
theorem kX7_subtypeAt : Cond.code yX7_subtypeAt cX7_subtypeAt 5 (some .int) ∈ wG := wG_in (wT3 (List.mem_of_getElem? (i := 186) rfl)) rfl
abbrev cX7_meta : ByteArray := prog_9_method_34_code
def yX7_meta : MethodName := ⟨RX7, "meta", "(II)Z"⟩
abbrev wsX7_meta : List Cond := .code yX7_meta cX7_meta 3 (some .boolean) :: wG
set_option maxRecDepth 20000 in
theorem kX7_meta : Cond.code yX7_meta cX7_meta 3 (some .boolean) ∈ wG := wG_in (wT3 (List.mem_of_getElem? (i := 190) rfl)) rfl
abbrev cX7_inherited : ByteArray := prog_9_method_35_code
def yX7_inherited : MethodName := ⟨RX7, "inherited", "(I)Z"⟩
abbrev wsX7_inherited : List Cond := .code yX7_inherited cX7_inherited 3 (some .boolean) :: wG
set_option maxRecDepth 20000 in
theorem kX7_inherited : Cond.code yX7_inherited cX7_inherited 3 (some .boolean) ∈ wG := wG_in (wT3 (List.mem_of_getElem? (i := 198) rfl)) rfl
abbrev cX7_firstNote : ByteArray := prog_9_method_36_code
def yX7_firstNote : MethodName := ⟨RX7, "firstNote", "(II)I"⟩
abbrev wsX7_firstNote : List Cond := .code yX7_firstNote cX7_firstNote 4 (some .int) :: wG
set_option maxRecDepth 20000 in
theorem kX7_firstNote : Cond.code yX7_firstNote cX7_firstNote 4 (some .int) ∈ wG := wG_in (wT3 (List.mem_of_getElem? (i := 203) rfl)) rfl
abbrev cX7_holder : ByteArray := prog_9_method_37_code
def yX7_holder : MethodName := ⟨RX7, "holder", "(II)I"⟩
abbrev wsX7_holder : List Cond := .code yX7_holder cX7_holder 6 (some .int) :: wG
set_option maxRecDepth 20000 in
theorem kX7_holder : Cond.code yX7_holder cX7_holder 6 (some .int) ∈ wG := wG_in (wT3 (List.mem_of_getElem? (i := 194) rfl)) rfl
abbrev cX7_behind : ByteArray := prog_9_method_38_code
def yX7_behind : MethodName := ⟨RX7, "behind", "(I)I"⟩
abbrev wsX7_behind : List Cond := .code yX7_behind cX7_behind 5 (some .int) :: wG
set_option maxRecDepth 20000 in
theorem kX7_behind : Cond.code yX7_behind cX7_behind 5 (some .int) ∈ wG := wG_in (wT3 (List.mem_of_getElem? (i := 219) rfl)) rfl
abbrev cX7_inRow : ByteArray := prog_9_method_39_code
def yX7_inRow : MethodName := ⟨RX7, "inRow", "(III)I"⟩
abbrev wsX7_inRow : List Cond := .code yX7_inRow cX7_inRow 8 (some .int) :: wG
set_option maxRecDepth 20000 in
theorem kX7_inRow : Cond.code yX7_inRow cX7_inRow 8 (some .int) ∈ wG := wG_in (wT3 (List.mem_of_getElem? (i := 215) rfl)) rfl
abbrev cX7_countAt : ByteArray := prog_9_method_40_code
def yX7_countAt : MethodName := ⟨RX7, "countAt", "(II)I"⟩
abbrev wsX7_countAt : List Cond := .code yX7_countAt cX7_countAt 7 (some .int) :: wG
set_option maxRecDepth 20000 in
theorem kX7_countAt : Cond.code yX7_countAt cX7_countAt 7 (some .int) ∈ wG := wG_in (wT3 (List.mem_of_getElem? (i := 211) rfl)) rfl
abbrev cX7_count : ByteArray := prog_9_method_41_code
def yX7_count : MethodName := ⟨RX7, "count", "(II)I"⟩
abbrev wsX7_count : List Cond := .code yX7_count cX7_count 7 (some .int) :: wG
set_option maxRecDepth 20000 in
theorem kX7_count : Cond.code yX7_count cX7_count 7 (some .int) ∈ wG := wG_in (wT3 (List.mem_of_getElem? (i := 207) rfl)) rfl
abbrev cX7_lookUp : ByteArray := prog_9_method_42_code
def yX7_lookUp : MethodName := ⟨RX7, "lookUp", "(III)I"⟩
abbrev wsX7_lookUp : List Cond := .code yX7_lookUp cX7_lookUp 6 (some .int) :: wG
set_option maxRecDepth 20000 in
theorem kX7_lookUp : Cond.code yX7_lookUp cX7_lookUp 6 (some .int) ∈ wG := wG_in (wT3 (List.mem_of_getElem? (i := 229) rfl)) rfl
abbrev cX7_inside : ByteArray := prog_9_method_43_code
def yX7_inside : MethodName := ⟨RX7, "inside", "(II)I"⟩
abbrev wsX7_inside : List Cond := .code yX7_inside cX7_inside 6 (some .int) :: wG
set_option maxRecDepth 20000 in
theorem kX7_inside : Cond.code yX7_inside cX7_inside 6 (some .int) ∈ wG := wG_in (wT3 (List.mem_of_getElem? (i := 233) rfl)) rfl
abbrev cX7_shown : ByteArray := prog_9_method_44_code
def yX7_shown : MethodName := ⟨RX7, "shown", "(II)J"⟩
abbrev wsX7_shown : List Cond := .code yX7_shown cX7_shown 8 (some .long) :: wG
set_option maxRecDepth 20000 in
theorem kX7_shown : Cond.code yX7_shown cX7_shown 8 (some .long) ∈ wG := wG_in (wT3 (List.mem_of_getElem? (i := 237) rfl)) rfl
abbrev cX7_value : ByteArray := prog_9_method_45_code
def yX7_value : MethodName := ⟨RX7, "value", "(IIII)J"⟩
abbrev wsX7_value : List Cond := .code yX7_value cX7_value 10 (some .long) :: wG
set_option maxRecDepth 20000 in
theorem kX7_value : Cond.code yX7_value cX7_value 10 (some .long) ∈ wG := wG_in (wT3 (List.mem_of_getElem? (i := 223) rfl)) rfl
set_option maxRecDepth 20000 in
theorem fX7_buffer : Cond.fieldLink RX7 7 "ClassFileIndexModel" "buffer" "[I" ∈ wG := wG_in (wT2 (List.mem_of_getElem? (i := 214) (by decide +kernel))) rfl
set_option maxRecDepth 20000 in
theorem fX7_held : Cond.fieldLink RX7 65 "ClassFileIndexModel" "held" "I" ∈ wG := wG_in (wT2 (List.mem_of_getElem? (i := 215) (by decide +kernel))) rfl
set_option maxRecDepth 20000 in
theorem fX7_bytes : Cond.fieldLink RX7 13 "ClassFileIndexModel" "bytes" "[I" ∈ wG := wG_in (wT2 (List.mem_of_getElem? (i := 216) (by decide +kernel))) rfl
set_option maxRecDepth 20000 in
theorem fX7_classes : Cond.fieldLink RX7 116 "ClassFileIndexModel" "classes" "I" ∈ wG := wG_in (wT2 (List.mem_of_getElem? (i := 217) (by decide +kernel))) rfl
set_option maxRecDepth 20000 in
theorem fX7_textAt : Cond.fieldLink RX7 16 "ClassFileIndexModel" "textAt" "[I" ∈ wG := wG_in (wT2 (List.mem_of_getElem? (i := 218) (by decide +kernel))) rfl
set_option maxRecDepth 20000 in
theorem fX7_texts : Cond.fieldLink RX7 135 "ClassFileIndexModel" "texts" "I" ∈ wG := wG_in (wT2 (List.mem_of_getElem? (i := 219) (by decide +kernel))) rfl
set_option maxRecDepth 20000 in
theorem fX7_sort : Cond.fieldLink RX7 19 "ClassFileIndexModel" "sort" "[I" ∈ wG := wG_in (wT2 (List.mem_of_getElem? (i := 220) (by decide +kernel))) rfl
set_option maxRecDepth 20000 in
theorem fX7_place : Cond.fieldLink RX7 22 "ClassFileIndexModel" "place" "[I" ∈ wG := wG_in (wT2 (List.mem_of_getElem? (i := 221) (by decide +kernel))) rfl
set_option maxRecDepth 20000 in
theorem fX7_text : Cond.fieldLink RX7 25 "ClassFileIndexModel" "text" "[I" ∈ wG := wG_in (wT2 (List.mem_of_getElem? (i := 222) (by decide +kernel))) rfl
set_option maxRecDepth 20000 in
theorem fX7_flag : Cond.fieldLink RX7 28 "ClassFileIndexModel" "flag" "[I" ∈ wG := wG_in (wT2 (List.mem_of_getElem? (i := 223) (by decide +kernel))) rfl
set_option maxRecDepth 20000 in
theorem fX7_self : Cond.fieldLink RX7 31 "ClassFileIndexModel" "self" "[I" ∈ wG := wG_in (wT2 (List.mem_of_getElem? (i := 224) (by decide +kernel))) rfl
set_option maxRecDepth 20000 in
theorem fX7_above : Cond.fieldLink RX7 34 "ClassFileIndexModel" "above" "[I" ∈ wG := wG_in (wT2 (List.mem_of_getElem? (i := 225) (by decide +kernel))) rfl
set_option maxRecDepth 20000 in
theorem fX7_box : Cond.fieldLink RX7 37 "ClassFileIndexModel" "box" "[I" ∈ wG := wG_in (wT2 (List.mem_of_getElem? (i := 226) (by decide +kernel))) rfl
set_option maxRecDepth 20000 in
theorem fX7_faceCount : Cond.fieldLink RX7 40 "ClassFileIndexModel" "faceCount" "[I" ∈ wG := wG_in (wT2 (List.mem_of_getElem? (i := 227) (by decide +kernel))) rfl
set_option maxRecDepth 20000 in
theorem fX7_face : Cond.fieldLink RX7 43 "ClassFileIndexModel" "face" "[I" ∈ wG := wG_in (wT2 (List.mem_of_getElem? (i := 228) (by decide +kernel))) rfl
set_option maxRecDepth 20000 in
theorem fX7_noteCount : Cond.fieldLink RX7 46 "ClassFileIndexModel" "noteCount" "[I" ∈ wG := wG_in (wT2 (List.mem_of_getElem? (i := 229) (by decide +kernel))) rfl
set_option maxRecDepth 20000 in
theorem fX7_note : Cond.fieldLink RX7 49 "ClassFileIndexModel" "note" "[I" ∈ wG := wG_in (wT2 (List.mem_of_getElem? (i := 230) (by decide +kernel))) rfl
set_option maxRecDepth 20000 in
theorem fX7_rest : Cond.fieldLink RX7 52 "ClassFileIndexModel" "rest" "[I" ∈ wG := wG_in (wT2 (List.mem_of_getElem? (i := 231) (by decide +kernel))) rfl
set_option maxRecDepth 20000 in
theorem fX7_now : Cond.fieldLink RX7 95 "ClassFileIndexModel" "now" "I" ∈ wG := wG_in (wT2 (List.mem_of_getElem? (i := 232) (by decide +kernel))) rfl
set_option maxRecDepth 20000 in
theorem fX7_base : Cond.fieldLink RX7 85 "ClassFileIndexModel" "base" "I" ∈ wG := wG_in (wT2 (List.mem_of_getElem? (i := 233) (by decide +kernel))) rfl
set_option maxRecDepth 20000 in
theorem fX7_end : Cond.fieldLink RX7 78 "ClassFileIndexModel" "end" "I" ∈ wG := wG_in (wT2 (List.mem_of_getElem? (i := 234) (by decide +kernel))) rfl
set_option maxRecDepth 20000 in
theorem fX7_at : Cond.fieldLink RX7 75 "ClassFileIndexModel" "at" "I" ∈ wG := wG_in (wT2 (List.mem_of_getElem? (i := 235) (by decide +kernel))) rfl
set_option maxRecDepth 20000 in
theorem fX7_constants : Cond.fieldLink RX7 92 "ClassFileIndexModel" "constants" "I" ∈ wG := wG_in (wT2 (List.mem_of_getElem? (i := 236) (by decide +kernel))) rfl
set_option maxRecDepth 20000 in
theorem fX7_reason : Cond.fieldLink RX7 69 "ClassFileIndexModel" "reason" "I" ∈ wG := wG_in (wT2 (List.mem_of_getElem? (i := 237) (by decide +kernel))) rfl
set_option maxRecDepth 20000 in
theorem fX7_spot : Cond.fieldLink RX7 72 "ClassFileIndexModel" "spot" "I" ∈ wG := wG_in (wT2 (List.mem_of_getElem? (i := 238) (by decide +kernel))) rfl
set_option maxRecDepth 20000 in
theorem fX7_left : Cond.fieldLink RX7 55 "ClassFileIndexModel" "left" "[I" ∈ wG := wG_in (wT2 (List.mem_of_getElem? (i := 239) (by decide +kernel))) rfl
set_option maxRecDepth 20000 in
theorem fX7_named : Cond.fieldLink RX7 58 "ClassFileIndexModel" "named" "[Z" ∈ wG := wG_in (wT3 (List.mem_of_getElem? (i := 0) (by decide +kernel))) rfl
set_option maxRecDepth 20000 in
theorem fX7_marked : Cond.fieldLink RX7 62 "ClassFileIndexModel" "marked" "[Z" ∈ wG := wG_in (wT3 (List.mem_of_getElem? (i := 1) (by decide +kernel))) rfl
set_option maxRecDepth 20000 in
theorem qX7_196 : Cond.constantLong RX7 196 (-1) ∈ wG := wG_in (wT3 (List.mem_of_getElem? (i := 225) (by decide +kernel))) rfl
set_option maxRecDepth 20000 in
theorem qX7_181 : Cond.constantLong RX7 181 (17179869184) ∈ wG := wG_in (wT3 (List.mem_of_getElem? (i := 238) (by decide +kernel))) rfl
set_option maxRecDepth 20000 in
theorem qX7_183 : Cond.constantLong RX7 183 (256) ∈ wG := wG_in (wT3 (List.mem_of_getElem? (i := 239) (by decide +kernel))) rfl
set_option maxRecDepth 20000 in
theorem qX7_185 : Cond.constantLong RX7 185 (4294967296) ∈ wG := wG_in (wT4 (List.mem_of_getElem? (i := 0) (by decide +kernel))) rfl
set_option maxRecDepth 20000 in
theorem qX7_187 : Cond.constantLong RX7 187 (2) ∈ wG := wG_in (wT4 (List.mem_of_getElem? (i := 1) (by decide +kernel))) rfl
set_option maxRecDepth 20000 in
theorem qX7_189 : Cond.constantLong RX7 189 (3) ∈ wG := wG_in (wT4 (List.mem_of_getElem? (i := 2) (by decide +kernel))) rfl
set_option maxRecDepth 20000 in
theorem qX7_191 : Cond.constantLong RX7 191 (5) ∈ wG := wG_in (wT4 (List.mem_of_getElem? (i := 3) (by decide +kernel))) rfl
set_option maxRecDepth 20000 in
theorem gX7_fail {x : Cond} : GoodIn (x :: wG) (wsV RX7 81 RX7 yX7_fail wsX7_fail) := gW (List.forall_mem_cons.mpr ⟨wG_in (wT3 (List.mem_of_getElem? (i := 83) (by decide +kernel))) rfl, List.forall_mem_cons.mpr ⟨wG_in (wT3 (List.mem_of_getElem? (i := 85) (by decide +kernel))) rfl, List.forall_mem_cons.mpr ⟨wG_sel (List.mem_of_getElem? (i := 23) (by decide +kernel)) rfl, List.forall_mem_cons.mpr ⟨wG_in (wT1 (List.mem_of_getElem? (i := 7) (by decide +kernel))) rfl, List.forall_mem_cons.mpr ⟨kX7_fail, fun _ h => h⟩⟩⟩⟩⟩)
theorem hdX7_fail : yX7_fail.cls = RX7 ∧ yX7_fail.cls ≠ "java/lang/invoke/MethodHandle" ∧ yX7_fail.cls ≠ "java/lang/invoke/VarHandle" ∧ (parseMethodDescriptor yX7_fail.desc).map (fun d => d.parameters.length) = some 2 := by decide +kernel
set_option maxRecDepth 20000 in
theorem gX7_take {x : Cond} : GoodIn (x :: wG) (wsV RX7 88 RX7 yX7_take wsX7_take) := gW (List.forall_mem_cons.mpr ⟨wG_in (wT3 (List.mem_of_getElem? (i := 79) (by decide +kernel))) rfl, List.forall_mem_cons.mpr ⟨wG_in (wT3 (List.mem_of_getElem? (i := 81) (by decide +kernel))) rfl, List.forall_mem_cons.mpr ⟨wG_sel (List.mem_of_getElem? (i := 22) (by decide +kernel)) rfl, List.forall_mem_cons.mpr ⟨wG_in (wT1 (List.mem_of_getElem? (i := 7) (by decide +kernel))) rfl, List.forall_mem_cons.mpr ⟨kX7_take, fun _ h => h⟩⟩⟩⟩⟩)
theorem hdX7_take : yX7_take.cls = RX7 ∧ yX7_take.cls ≠ "java/lang/invoke/MethodHandle" ∧ yX7_take.cls ≠ "java/lang/invoke/VarHandle" ∧ (parseMethodDescriptor yX7_take.desc).map (fun d => d.parameters.length) = some 0 := by decide +kernel
set_option maxRecDepth 20000 in
theorem gX7_many {x : Cond} : GoodIn (x :: wG) (wsV RX7 98 RX7 yX7_many wsX7_many) := gW (List.forall_mem_cons.mpr ⟨wG_in (wT3 (List.mem_of_getElem? (i := 91) (by decide +kernel))) rfl, List.forall_mem_cons.mpr ⟨wG_in (wT3 (List.mem_of_getElem? (i := 93) (by decide +kernel))) rfl, List.forall_mem_cons.mpr ⟨wG_sel (List.mem_of_getElem? (i := 25) (by decide +kernel)) rfl, List.forall_mem_cons.mpr ⟨wG_in (wT1 (List.mem_of_getElem? (i := 7) (by decide +kernel))) rfl, List.forall_mem_cons.mpr ⟨kX7_many, fun _ h => h⟩⟩⟩⟩⟩)
theorem hdX7_many : yX7_many.cls = RX7 ∧ yX7_many.cls ≠ "java/lang/invoke/MethodHandle" ∧ yX7_many.cls ≠ "java/lang/invoke/VarHandle" ∧ (parseMethodDescriptor yX7_many.desc).map (fun d => d.parameters.length) = some 1 := by decide +kernel
set_option maxRecDepth 20000 in
theorem gX7_oneConstant {x : Cond} : GoodIn (x :: wG) (wsV RX7 102 RX7 yX7_oneConstant wsX7_oneConstant) := gW (List.forall_mem_cons.mpr ⟨wG_in (wT3 (List.mem_of_getElem? (i := 95) (by decide +kernel))) rfl, List.forall_mem_cons.mpr ⟨wG_in (wT3 (List.mem_of_getElem? (i := 97) (by decide +kernel))) rfl, List.forall_mem_cons.mpr ⟨wG_sel (List.mem_of_getElem? (i := 26) (by decide +kernel)) rfl, List.forall_mem_cons.mpr ⟨wG_in (wT1 (List.mem_of_getElem? (i := 7) (by decide +kernel))) rfl, List.forall_mem_cons.mpr ⟨kX7_oneConstant, fun _ h => h⟩⟩⟩⟩⟩)
theorem hdX7_oneConstant : yX7_oneConstant.cls = RX7 ∧ yX7_oneConstant.cls ≠ "java/lang/invoke/MethodHandle" ∧ yX7_oneConstant.cls ≠ "java/lang/invoke/VarHandle" ∧ (parseMethodDescriptor yX7_oneConstant.desc).map (fun d => d.parameters.length) = some 1 := by decide +kernel
set_option maxRecDepth 20000 in
theorem gX7_constant {x : Cond} : GoodIn (x :: wG) (wsV RX7 106 RX7 yX7_constant wsX7_constant) := gW (List.forall_mem_cons.mpr ⟨wG_in (wT3 (List.mem_of_getElem? (i := 99) (by decide +kernel))) rfl, List.forall_mem_cons.mpr ⟨wG_in (wT3 (List.mem_of_getElem? (i := 101) (by decide +kernel))) rfl, List.forall_mem_cons.mpr ⟨wG_sel (List.mem_of_getElem? (i := 27) (by decide +kernel)) rfl, List.forall_mem_cons.mpr ⟨wG_in (wT1 (List.mem_of_getElem? (i := 7) (by decide +kernel))) rfl, List.forall_mem_cons.mpr ⟨kX7_constant, fun _ h => h⟩⟩⟩⟩⟩)
theorem hdX7_constant : yX7_constant.cls = RX7 ∧ yX7_constant.cls ≠ "java/lang/invoke/MethodHandle" ∧ yX7_constant.cls ≠ "java/lang/invoke/VarHandle" ∧ (parseMethodDescriptor yX7_constant.desc).map (fun d => d.parameters.length) = some 1 := by decide +kernel
set_option maxRecDepth 20000 in
theorem gX7_oneValue {x : Cond} : GoodIn (x :: wG) (wsV RX7 109 RX7 yX7_oneValue wsX7_oneValue) := gW (List.forall_mem_cons.mpr ⟨wG_in (wT3 (List.mem_of_getElem? (i := 123) (by decide +kernel))) rfl, List.forall_mem_cons.mpr ⟨wG_in (wT3 (List.mem_of_getElem? (i := 125) (by decide +kernel))) rfl, List.forall_mem_cons.mpr ⟨wG_sel (List.mem_of_getElem? (i := 33) (by decide +kernel)) rfl, List.forall_mem_cons.mpr ⟨wG_in (wT1 (List.mem_of_getElem? (i := 7) (by decide +kernel))) rfl, List.forall_mem_cons.mpr ⟨kX7_oneValue, fun _ h => h⟩⟩⟩⟩⟩)
theorem hdX7_oneValue : yX7_oneValue.cls = RX7 ∧ yX7_oneValue.cls ≠ "java/lang/invoke/MethodHandle" ∧ yX7_oneValue.cls ≠ "java/lang/invoke/VarHandle" ∧ (parseMethodDescriptor yX7_oneValue.desc).map (fun d => d.parameters.length) = some 1 := by decide +kernel
set_option maxRecDepth 20000 in
theorem gX7_textPlace {x : Cond} : GoodIn (x :: wG) (wsV RX7 113 RX7 yX7_textPlace wsX7_textPlace) := gW (List.forall_mem_cons.mpr ⟨wG_in (wT3 (List.mem_of_getElem? (i := 107) (by decide +kernel))) rfl, List.forall_mem_cons.mpr ⟨wG_in (wT3 (List.mem_of_getElem? (i := 109) (by decide +kernel))) rfl, List.forall_mem_cons.mpr ⟨wG_sel (List.mem_of_getElem? (i := 29) (by decide +kernel)) rfl, List.forall_mem_cons.mpr ⟨wG_in (wT1 (List.mem_of_getElem? (i := 7) (by decide +kernel))) rfl, List.forall_mem_cons.mpr ⟨kX7_textPlace, fun _ h => h⟩⟩⟩⟩⟩)
theorem hdX7_textPlace : yX7_textPlace.cls = RX7 ∧ yX7_textPlace.cls ≠ "java/lang/invoke/MethodHandle" ∧ yX7_textPlace.cls ≠ "java/lang/invoke/VarHandle" ∧ (parseMethodDescriptor yX7_textPlace.desc).map (fun d => d.parameters.length) = some 1 := by decide +kernel
set_option maxRecDepth 20000 in
theorem gX7_sameText {x : Cond} : GoodIn (x :: wG) (wsV RX7 119 RX7 yX7_sameText wsX7_sameText) := gW (List.forall_mem_cons.mpr ⟨wG_in (wT3 (List.mem_of_getElem? (i := 111) (by decide +kernel))) rfl, List.forall_mem_cons.mpr ⟨wG_in (wT3 (List.mem_of_getElem? (i := 113) (by decide +kernel))) rfl, List.forall_mem_cons.mpr ⟨wG_sel (List.mem_of_getElem? (i := 30) (by decide +kernel)) rfl, List.forall_mem_cons.mpr ⟨wG_in (wT1 (List.mem_of_getElem? (i := 7) (by decide +kernel))) rfl, List.forall_mem_cons.mpr ⟨kX7_sameText, fun _ h => h⟩⟩⟩⟩⟩)
theorem hdX7_sameText : yX7_sameText.cls = RX7 ∧ yX7_sameText.cls ≠ "java/lang/invoke/MethodHandle" ∧ yX7_sameText.cls ≠ "java/lang/invoke/VarHandle" ∧ (parseMethodDescriptor yX7_sameText.desc).map (fun d => d.parameters.length) = some 2 := by decide +kernel
set_option maxRecDepth 20000 in
theorem gX7_allConstants {x : Cond} : GoodIn (x :: wG) (wsV RX7 123 RX7 yX7_allConstants wsX7_allConstants) := gW (List.forall_mem_cons.mpr ⟨wG_in (wT3 (List.mem_of_getElem? (i := 87) (by decide +kernel))) rfl, List.forall_mem_cons.mpr ⟨wG_in (wT3 (List.mem_of_getElem? (i := 89) (by decide +kernel))) rfl, List.forall_mem_cons.mpr ⟨wG_sel (List.mem_of_getElem? (i := 24) (by decide +kernel)) rfl, List.forall_mem_cons.mpr ⟨wG_in (wT1 (List.mem_of_getElem? (i := 7) (by decide +kernel))) rfl, List.forall_mem_cons.mpr ⟨kX7_allConstants, fun _ h => h⟩⟩⟩⟩⟩)
theorem hdX7_allConstants : yX7_allConstants.cls = RX7 ∧ yX7_allConstants.cls ≠ "java/lang/invoke/MethodHandle" ∧ yX7_allConstants.cls ≠ "java/lang/invoke/VarHandle" ∧ (parseMethodDescriptor yX7_allConstants.desc).map (fun d => d.parameters.length) = some 0 := by decide +kernel
set_option maxRecDepth 20000 in
theorem gX7_taken {x : Cond} : GoodIn (x :: wG) (wsV RX7 126 RX7 yX7_taken wsX7_taken) := gW (List.forall_mem_cons.mpr ⟨wG_in (wT3 (List.mem_of_getElem? (i := 103) (by decide +kernel))) rfl, List.forall_mem_cons.mpr ⟨wG_in (wT3 (List.mem_of_getElem? (i := 105) (by decide +kernel))) rfl, List.forall_mem_cons.mpr ⟨wG_sel (List.mem_of_getElem? (i := 28) (by decide +kernel)) rfl, List.forall_mem_cons.mpr ⟨wG_in (wT1 (List.mem_of_getElem? (i := 7) (by decide +kernel))) rfl, List.forall_mem_cons.mpr ⟨kX7_taken, fun _ h => h⟩⟩⟩⟩⟩)
theorem hdX7_taken : yX7_taken.cls = RX7 ∧ yX7_taken.cls ≠ "java/lang/invoke/MethodHandle" ∧ yX7_taken.cls ≠ "java/lang/invoke/VarHandle" ∧ (parseMethodDescriptor yX7_taken.desc).map (fun d => d.parameters.length) = some 1 := by decide +kernel
set_option maxRecDepth 20000 in
theorem gX7_classOrNone {x : Cond} : GoodIn (x :: wG) (wsV RX7 129 RX7 yX7_classOrNone wsX7_classOrNone) := gW (List.forall_mem_cons.mpr ⟨wG_in (wT3 (List.mem_of_getElem? (i := 115) (by decide +kernel))) rfl, List.forall_mem_cons.mpr ⟨wG_in (wT3 (List.mem_of_getElem? (i := 117) (by decide +kernel))) rfl, List.forall_mem_cons.mpr ⟨wG_sel (List.mem_of_getElem? (i := 31) (by decide +kernel)) rfl, List.forall_mem_cons.mpr ⟨wG_in (wT1 (List.mem_of_getElem? (i := 7) (by decide +kernel))) rfl, List.forall_mem_cons.mpr ⟨kX7_classOrNone, fun _ h => h⟩⟩⟩⟩⟩)
theorem hdX7_classOrNone : yX7_classOrNone.cls = RX7 ∧ yX7_classOrNone.cls ≠ "java/lang/invoke/MethodHandle" ∧ yX7_classOrNone.cls ≠ "java/lang/invoke/VarHandle" ∧ (parseMethodDescriptor yX7_classOrNone.desc).map (fun d => d.parameters.length) = some 0 := by decide +kernel
set_option maxRecDepth 20000 in
theorem gX7_values {x : Cond} : GoodIn (x :: wG) (wsV RX7 132 RX7 yX7_values wsX7_values) := gW (List.forall_mem_cons.mpr ⟨wG_in (wT3 (List.mem_of_getElem? (i := 119) (by decide +kernel))) rfl, List.forall_mem_cons.mpr ⟨wG_in (wT3 (List.mem_of_getElem? (i := 121) (by decide +kernel))) rfl, List.forall_mem_cons.mpr ⟨wG_sel (List.mem_of_getElem? (i := 32) (by decide +kernel)) rfl, List.forall_mem_cons.mpr ⟨wG_in (wT1 (List.mem_of_getElem? (i := 7) (by decide +kernel))) rfl, List.forall_mem_cons.mpr ⟨kX7_values, fun _ h => h⟩⟩⟩⟩⟩)
theorem hdX7_values : yX7_values.cls = RX7 ∧ yX7_values.cls ≠ "java/lang/invoke/MethodHandle" ∧ yX7_values.cls ≠ "java/lang/invoke/VarHandle" ∧ (parseMethodDescriptor yX7_values.desc).map (fun d => d.parameters.length) = some 1 := by decide +kernel
set_option maxRecDepth 20000 in
theorem gX7_wholeFile {x : Cond} : GoodIn (x :: wG) (wsV RX7 138 RX7 yX7_wholeFile wsX7_wholeFile) := gW (List.forall_mem_cons.mpr ⟨wG_in (wT3 (List.mem_of_getElem? (i := 75) (by decide +kernel))) rfl, List.forall_mem_cons.mpr ⟨wG_in (wT3 (List.mem_of_getElem? (i := 77) (by decide +kernel))) rfl, List.forall_mem_cons.mpr ⟨wG_sel (List.mem_of_getElem? (i := 21) (by decide +kernel)) rfl, List.forall_mem_cons.mpr ⟨wG_in (wT1 (List.mem_of_getElem? (i := 7) (by decide +kernel))) rfl, List.forall_mem_cons.mpr ⟨kX7_wholeFile, fun _ h => h⟩⟩⟩⟩⟩)
theorem hdX7_wholeFile : yX7_wholeFile.cls = RX7 ∧ yX7_wholeFile.cls ≠ "java/lang/invoke/MethodHandle" ∧ yX7_wholeFile.cls ≠ "java/lang/invoke/VarHandle" ∧ (parseMethodDescriptor yX7_wholeFile.desc).map (fun d => d.parameters.length) = some 0 := by decide +kernel
set_option maxRecDepth 20000 in
theorem gX7_number {x : Cond} : GoodIn (x :: wG) (wsV RX7 141 RX7 yX7_number wsX7_number) := gW (List.forall_mem_cons.mpr ⟨wG_in (wT3 (List.mem_of_getElem? (i := 127) (by decide +kernel))) rfl, List.forall_mem_cons.mpr ⟨wG_in (wT3 (List.mem_of_getElem? (i := 129) (by decide +kernel))) rfl, List.forall_mem_cons.mpr ⟨wG_sel (List.mem_of_getElem? (i := 34) (by decide +kernel)) rfl, List.forall_mem_cons.mpr ⟨wG_in (wT1 (List.mem_of_getElem? (i := 7) (by decide +kernel))) rfl, List.forall_mem_cons.mpr ⟨kX7_number, fun _ h => h⟩⟩⟩⟩⟩)
theorem hdX7_number : yX7_number.cls = RX7 ∧ yX7_number.cls ≠ "java/lang/invoke/MethodHandle" ∧ yX7_number.cls ≠ "java/lang/invoke/VarHandle" ∧ (parseMethodDescriptor yX7_number.desc).map (fun d => d.parameters.length) = some 1 := by decide +kernel
set_option maxRecDepth 20000 in
theorem gX7_isText {x : Cond} : GoodIn (x :: wG) (wsV RX7 144 RX7 yX7_isText wsX7_isText) := gW (List.forall_mem_cons.mpr ⟨wG_in (wT3 (List.mem_of_getElem? (i := 143) (by decide +kernel))) rfl, List.forall_mem_cons.mpr ⟨wG_in (wT3 (List.mem_of_getElem? (i := 145) (by decide +kernel))) rfl, List.forall_mem_cons.mpr ⟨wG_sel (List.mem_of_getElem? (i := 35) (by decide +kernel)) rfl, List.forall_mem_cons.mpr ⟨wG_in (wT1 (List.mem_of_getElem? (i := 7) (by decide +kernel))) rfl, List.forall_mem_cons.mpr ⟨kX7_isText, fun _ h => h⟩⟩⟩⟩⟩)
theorem hdX7_isText : yX7_isText.cls = RX7 ∧ yX7_isText.cls ≠ "java/lang/invoke/MethodHandle" ∧ yX7_isText.cls ≠ "java/lang/invoke/VarHandle" ∧ (parseMethodDescriptor yX7_isText.desc).map (fun d => d.parameters.length) = some 1 := by decide +kernel
set_option maxRecDepth 20000 in
theorem gX7_isClass {x : Cond} : GoodIn (x :: wG) (wsV RX7 147 RX7 yX7_isClass wsX7_isClass) := gW (List.forall_mem_cons.mpr ⟨wG_in (wT3 (List.mem_of_getElem? (i := 155) (by decide +kernel))) rfl, List.forall_mem_cons.mpr ⟨wG_in (wT3 (List.mem_of_getElem? (i := 157) (by decide +kernel))) rfl, List.forall_mem_cons.mpr ⟨wG_sel (List.mem_of_getElem? (i := 36) (by decide +kernel)) rfl, List.forall_mem_cons.mpr ⟨wG_in (wT1 (List.mem_of_getElem? (i := 7) (by decide +kernel))) rfl, List.forall_mem_cons.mpr ⟨kX7_isClass, fun _ h => h⟩⟩⟩⟩⟩)
theorem hdX7_isClass : yX7_isClass.cls = RX7 ∧ yX7_isClass.cls ≠ "java/lang/invoke/MethodHandle" ∧ yX7_isClass.cls ≠ "java/lang/invoke/VarHandle" ∧ (parseMethodDescriptor yX7_isClass.desc).map (fun d => d.parameters.length) = some 1 := by decide +kernel
set_option maxRecDepth 20000 in
theorem gX7_typeOf {x : Cond} : GoodIn (x :: wG) (wsV RX7 150 RX7 yX7_typeOf wsX7_typeOf) := gW (List.forall_mem_cons.mpr ⟨wG_in (wT3 (List.mem_of_getElem? (i := 179) (by decide +kernel))) rfl, List.forall_mem_cons.mpr ⟨wG_in (wT3 (List.mem_of_getElem? (i := 181) (by decide +kernel))) rfl, List.forall_mem_cons.mpr ⟨wG_sel (List.mem_of_getElem? (i := 39) (by decide +kernel)) rfl, List.forall_mem_cons.mpr ⟨wG_in (wT1 (List.mem_of_getElem? (i := 7) (by decide +kernel))) rfl, List.forall_mem_cons.mpr ⟨kX7_typeOf, fun _ h => h⟩⟩⟩⟩⟩)
theorem hdX7_typeOf : yX7_typeOf.cls = RX7 ∧ yX7_typeOf.cls ≠ "java/lang/invoke/MethodHandle" ∧ yX7_typeOf.cls ≠ "java/lang/invoke/VarHandle" ∧ (parseMethodDescriptor yX7_typeOf.desc).map (fun d => d.parameters.length) = some 2 := by decide +kernel
set_option maxRecDepth 20000 in
theorem gX7_markAbove {x : Cond} : GoodIn (x :: wG) (wsV RX7 154 RX7 yX7_markAbove wsX7_markAbove) := gW (List.forall_mem_cons.mpr ⟨wG_in (wT3 (List.mem_of_getElem? (i := 175) (by decide +kernel))) rfl, List.forall_mem_cons.mpr ⟨wG_in (wT3 (List.mem_of_getElem? (i := 177) (by decide +kernel))) rfl, List.forall_mem_cons.mpr ⟨wG_sel (List.mem_of_getElem? (i := 38) (by decide +kernel)) rfl, List.forall_mem_cons.mpr ⟨wG_in (wT1 (List.mem_of_getElem? (i := 7) (by decide +kernel))) rfl, List.forall_mem_cons.mpr ⟨kX7_markAbove, fun _ h => h⟩⟩⟩⟩⟩)
theorem hdX7_markAbove : yX7_markAbove.cls = RX7 ∧ yX7_markAbove.cls ≠ "java/lang/invoke/MethodHandle" ∧ yX7_markAbove.cls ≠ "java/lang/invoke/VarHandle" ∧ (parseMethodDescriptor yX7_markAbove.desc).map (fun d => d.parameters.length) = some 2 := by decide +kernel
set_option maxRecDepth 20000 in
theorem gX7_reaches {x : Cond} : GoodIn (x :: wG) (wsV RX7 158 RX7 yX7_reaches wsX7_reaches) := gW (List.forall_mem_cons.mpr ⟨wG_in (wT3 (List.mem_of_getElem? (i := 171) (by decide +kernel))) rfl, List.forall_mem_cons.mpr ⟨wG_in (wT3 (List.mem_of_getElem? (i := 173) (by decide +kernel))) rfl, List.forall_mem_cons.mpr ⟨wG_sel (List.mem_of_getElem? (i := 37) (by decide +kernel)) rfl, List.forall_mem_cons.mpr ⟨wG_in (wT1 (List.mem_of_getElem? (i := 7) (by decide +kernel))) rfl, List.forall_mem_cons.mpr ⟨kX7_reaches, fun _ h => h⟩⟩⟩⟩⟩)
theorem hdX7_reaches : yX7_reaches.cls = RX7 ∧ yX7_reaches.cls ≠ "java/lang/invoke/MethodHandle" ∧ yX7_reaches.cls ≠ "java/lang/invoke/VarHandle" ∧ (parseMethodDescriptor yX7_reaches.desc).map (fun d => d.parameters.length) = some 3 := by decide +kernel
set_option maxRecDepth 20000 in
theorem gX7_find {x : Cond} : GoodIn (x :: wG) (wsV RX7 162 RX7 yX7_find wsX7_find) := gW (List.forall_mem_cons.mpr ⟨wG_in (wT3 (List.mem_of_getElem? (i := 199) (by decide +kernel))) rfl, List.forall_mem_cons.mpr ⟨wG_in (wT3 (List.mem_of_getElem? (i := 148) (by decide +kernel))) rfl, List.forall_mem_cons.mpr ⟨wG_in (wT3 (List.mem_of_getElem? (i := 149) (by decide +kernel))) rfl, List.forall_mem_cons.mpr ⟨wG_in (wT1 (List.mem_of_getElem? (i := 7) (by decide +kernel))) rfl, List.forall_mem_cons.mpr ⟨kX7_find, fun _ h => h⟩⟩⟩⟩⟩)
theorem hdX7_find : yX7_find.cls = RX7 ∧ yX7_find.cls ≠ "java/lang/invoke/MethodHandle" ∧ yX7_find.cls ≠ "java/lang/invoke/VarHandle" ∧ (parseMethodDescriptor yX7_find.desc).map (fun d => d.parameters.length) = some 1 := by decide +kernel
set_option maxRecDepth 20000 in
theorem gX7_inherited {x : Cond} : GoodIn (x :: wG) (wsV RX7 165 RX7 yX7_inherited wsX7_inherited) := gW (List.forall_mem_cons.mpr ⟨wG_in (wT3 (List.mem_of_getElem? (i := 195) (by decide +kernel))) rfl, List.forall_mem_cons.mpr ⟨wG_in (wT3 (List.mem_of_getElem? (i := 197) (by decide +kernel))) rfl, List.forall_mem_cons.mpr ⟨wG_sel (List.mem_of_getElem? (i := 40) (by decide +kernel)) rfl, List.forall_mem_cons.mpr ⟨wG_in (wT1 (List.mem_of_getElem? (i := 7) (by decide +kernel))) rfl, List.forall_mem_cons.mpr ⟨kX7_inherited, fun _ h => h⟩⟩⟩⟩⟩)
theorem hdX7_inherited : yX7_inherited.cls = RX7 ∧ yX7_inherited.cls ≠ "java/lang/invoke/MethodHandle" ∧ yX7_inherited.cls ≠ "java/lang/invoke/VarHandle" ∧ (parseMethodDescriptor yX7_inherited.desc).map (fun d => d.parameters.length) = some 1 := by decide +kernel
set_option maxRecDepth 20000 in
theorem gX7_firstNote {x : Cond} : GoodIn (x :: wG) (wsV RX7 168 RX7 yX7_firstNote wsX7_firstNote) := gW (List.forall_mem_cons.mpr ⟨wG_in (wT3 (List.mem_of_getElem? (i := 200) (by decide +kernel))) rfl, List.forall_mem_cons.mpr ⟨wG_in (wT3 (List.mem_of_getElem? (i := 202) (by decide +kernel))) rfl, List.forall_mem_cons.mpr ⟨wG_sel (List.mem_of_getElem? (i := 41) (by decide +kernel)) rfl, List.forall_mem_cons.mpr ⟨wG_in (wT1 (List.mem_of_getElem? (i := 7) (by decide +kernel))) rfl, List.forall_mem_cons.mpr ⟨kX7_firstNote, fun _ h => h⟩⟩⟩⟩⟩)
theorem hdX7_firstNote : yX7_firstNote.cls = RX7 ∧ yX7_firstNote.cls ≠ "java/lang/invoke/MethodHandle" ∧ yX7_firstNote.cls ≠ "java/lang/invoke/VarHandle" ∧ (parseMethodDescriptor yX7_firstNote.desc).map (fun d => d.parameters.length) = some 2 := by decide +kernel
set_option maxRecDepth 20000 in
theorem gX7_behind {x : Cond} : GoodIn (x :: wG) (wsV RX7 171 RX7 yX7_behind wsX7_behind) := gW (List.forall_mem_cons.mpr ⟨wG_in (wT3 (List.mem_of_getElem? (i := 216) (by decide +kernel))) rfl, List.forall_mem_cons.mpr ⟨wG_in (wT3 (List.mem_of_getElem? (i := 218) (by decide +kernel))) rfl, List.forall_mem_cons.mpr ⟨wG_sel (List.mem_of_getElem? (i := 44) (by decide +kernel)) rfl, List.forall_mem_cons.mpr ⟨wG_in (wT1 (List.mem_of_getElem? (i := 7) (by decide +kernel))) rfl, List.forall_mem_cons.mpr ⟨kX7_behind, fun _ h => h⟩⟩⟩⟩⟩)
theorem hdX7_behind : yX7_behind.cls = RX7 ∧ yX7_behind.cls ≠ "java/lang/invoke/MethodHandle" ∧ yX7_behind.cls ≠ "java/lang/invoke/VarHandle" ∧ (parseMethodDescriptor yX7_behind.desc).map (fun d => d.parameters.length) = some 1 := by decide +kernel
set_option maxRecDepth 20000 in
theorem gX7_inRow {x : Cond} : GoodIn (x :: wG) (wsV RX7 174 RX7 yX7_inRow wsX7_inRow) := gW (List.forall_mem_cons.mpr ⟨wG_in (wT3 (List.mem_of_getElem? (i := 212) (by decide +kernel))) rfl, List.forall_mem_cons.mpr ⟨wG_in (wT3 (List.mem_of_getElem? (i := 214) (by decide +kernel))) rfl, List.forall_mem_cons.mpr ⟨wG_sel (List.mem_of_getElem? (i := 43) (by decide +kernel)) rfl, List.forall_mem_cons.mpr ⟨wG_in (wT1 (List.mem_of_getElem? (i := 7) (by decide +kernel))) rfl, List.forall_mem_cons.mpr ⟨kX7_inRow, fun _ h => h⟩⟩⟩⟩⟩)
theorem hdX7_inRow : yX7_inRow.cls = RX7 ∧ yX7_inRow.cls ≠ "java/lang/invoke/MethodHandle" ∧ yX7_inRow.cls ≠ "java/lang/invoke/VarHandle" ∧ (parseMethodDescriptor yX7_inRow.desc).map (fun d => d.parameters.length) = some 3 := by decide +kernel
set_option maxRecDepth 20000 in
theorem gX7_countAt {x : Cond} : GoodIn (x :: wG) (wsV RX7 178 RX7 yX7_countAt wsX7_countAt) := gW (List.forall_mem_cons.mpr ⟨wG_in (wT3 (List.mem_of_getElem? (i := 208) (by decide +kernel))) rfl, List.forall_mem_cons.mpr ⟨wG_in (wT3 (List.mem_of_getElem? (i := 210) (by decide +kernel))) rfl, List.forall_mem_cons.mpr ⟨wG_sel (List.mem_of_getElem? (i := 42) (by decide +kernel)) rfl, List.forall_mem_cons.mpr ⟨wG_in (wT1 (List.mem_of_getElem? (i := 7) (by decide +kernel))) rfl, List.forall_mem_cons.mpr ⟨kX7_countAt, fun _ h => h⟩⟩⟩⟩⟩)
theorem hdX7_countAt : yX7_countAt.cls = RX7 ∧ yX7_countAt.cls ≠ "java/lang/invoke/MethodHandle" ∧ yX7_countAt.cls ≠ "java/lang/invoke/VarHandle" ∧ (parseMethodDescriptor yX7_countAt.desc).map (fun d => d.parameters.length) = some 2 := by decide +kernel
set_option maxRecDepth 20000 in
theorem gX7_holder {x : Cond} : GoodIn (x :: wG) (wsV RX7 193 RX7 yX7_holder wsX7_holder) := gW (List.forall_mem_cons.mpr ⟨wG_in (wT3 (List.mem_of_getElem? (i := 224) (by decide +kernel))) rfl, List.forall_mem_cons.mpr ⟨wG_in (wT3 (List.mem_of_getElem? (i := 192) (by decide +kernel))) rfl, List.forall_mem_cons.mpr ⟨wG_in (wT3 (List.mem_of_getElem? (i := 193) (by decide +kernel))) rfl, List.forall_mem_cons.mpr ⟨wG_in (wT1 (List.mem_of_getElem? (i := 7) (by decide +kernel))) rfl, List.forall_mem_cons.mpr ⟨kX7_holder, fun _ h => h⟩⟩⟩⟩⟩)
theorem hdX7_holder : yX7_holder.cls = RX7 ∧ yX7_holder.cls ≠ "java/lang/invoke/MethodHandle" ∧ yX7_holder.cls ≠ "java/lang/invoke/VarHandle" ∧ (parseMethodDescriptor yX7_holder.desc).map (fun d => d.parameters.length) = some 2 := by decide +kernel
set_option maxRecDepth 20000 in
theorem gX7_lookUp {x : Cond} : GoodIn (x :: wG) (wsV RX7 198 RX7 yX7_lookUp wsX7_lookUp) := gW (List.forall_mem_cons.mpr ⟨wG_in (wT3 (List.mem_of_getElem? (i := 226) (by decide +kernel))) rfl, List.forall_mem_cons.mpr ⟨wG_in (wT3 (List.mem_of_getElem? (i := 228) (by decide +kernel))) rfl, List.forall_mem_cons.mpr ⟨wG_sel (List.mem_of_getElem? (i := 45) (by decide +kernel)) rfl, List.forall_mem_cons.mpr ⟨wG_in (wT1 (List.mem_of_getElem? (i := 7) (by decide +kernel))) rfl, List.forall_mem_cons.mpr ⟨kX7_lookUp, fun _ h => h⟩⟩⟩⟩⟩)
theorem hdX7_lookUp : yX7_lookUp.cls = RX7 ∧ yX7_lookUp.cls ≠ "java/lang/invoke/MethodHandle" ∧ yX7_lookUp.cls ≠ "java/lang/invoke/VarHandle" ∧ (parseMethodDescriptor yX7_lookUp.desc).map (fun d => d.parameters.length) = some 3 := by decide +kernel
set_option maxRecDepth 20000 in
theorem gX7_inside {x : Cond} : GoodIn (x :: wG) (wsV RX7 201 RX7 yX7_inside wsX7_inside) := gW (List.forall_mem_cons.mpr ⟨wG_in (wT3 (List.mem_of_getElem? (i := 230) (by decide +kernel))) rfl, List.forall_mem_cons.mpr ⟨wG_in (wT3 (List.mem_of_getElem? (i := 232) (by decide +kernel))) rfl, List.forall_mem_cons.mpr ⟨wG_sel (List.mem_of_getElem? (i := 46) (by decide +kernel)) rfl, List.forall_mem_cons.mpr ⟨wG_in (wT1 (List.mem_of_getElem? (i := 7) (by decide +kernel))) rfl, List.forall_mem_cons.mpr ⟨kX7_inside, fun _ h => h⟩⟩⟩⟩⟩)
theorem hdX7_inside : yX7_inside.cls = RX7 ∧ yX7_inside.cls ≠ "java/lang/invoke/MethodHandle" ∧ yX7_inside.cls ≠ "java/lang/invoke/VarHandle" ∧ (parseMethodDescriptor yX7_inside.desc).map (fun d => d.parameters.length) = some 2 := by decide +kernel
set_option maxRecDepth 20000 in
theorem gX7_shown {x : Cond} : GoodIn (x :: wG) (wsV RX7 204 RX7 yX7_shown wsX7_shown) := gW (List.forall_mem_cons.mpr ⟨wG_in (wT3 (List.mem_of_getElem? (i := 234) (by decide +kernel))) rfl, List.forall_mem_cons.mpr ⟨wG_in (wT3 (List.mem_of_getElem? (i := 236) (by decide +kernel))) rfl, List.forall_mem_cons.mpr ⟨wG_sel (List.mem_of_getElem? (i := 47) (by decide +kernel)) rfl, List.forall_mem_cons.mpr ⟨wG_in (wT1 (List.mem_of_getElem? (i := 7) (by decide +kernel))) rfl, List.forall_mem_cons.mpr ⟨kX7_shown, fun _ h => h⟩⟩⟩⟩⟩)
theorem hdX7_shown : yX7_shown.cls = RX7 ∧ yX7_shown.cls ≠ "java/lang/invoke/MethodHandle" ∧ yX7_shown.cls ≠ "java/lang/invoke/VarHandle" ∧ (parseMethodDescriptor yX7_shown.desc).map (fun d => d.parameters.length) = some 2 := by decide +kernel
