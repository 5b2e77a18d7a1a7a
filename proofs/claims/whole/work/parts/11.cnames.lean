abbrev cX0_init : ByteArray := prog_2_method_1_code
def yX0_init : MethodName := ⟨RX0, "<init>", "(IIII[I[LClassFileIndex$Value;LClassFileIndex$Parts;)V"⟩
abbrev wsX0_init : List Cond := .code yX0_init cX0_init 10 (none) :: wG
set_option maxRecDepth 20000 in
theorem kX0_init : Cond.code yX0_init cX0_init 10 (none) ∈ wG := wG_in (wT2 (List.mem_of_getElem? (i := 37) rfl)) rfl
abbrev cX0_directTypes : ByteArray := prog_2_method_2_code
def yX0_directTypes : MethodName := ⟨RX0, "directTypes", "(Z)[I"⟩
abbrev wsX0_directTypes : List Cond := .code yX0_directTypes cX0_directTypes 2 (some (.array .int)) :: wG
set_option maxRecDepth 20000 in
theorem kX0_directTypes : Cond.code yX0_directTypes cX0_directTypes 2 (some (.array .int)) ∈ wG := wG_in (wT2 (List.mem_of_getElem? (i := 137) rfl)) rfl
abbrev cX0_firstAnnotation : ByteArray := prog_2_method_3_code
def yX0_firstAnnotation : MethodName := ⟨RX0, "firstAnnotation", "(I)LClassFileIndex$Value;"⟩
abbrev wsX0_firstAnnotation : List Cond := .code yX0_firstAnnotation cX0_firstAnnotation 3 (some (.object "ClassFileIndex$Value")) :: wG
set_option maxRecDepth 20000 in
theorem kX0_firstAnnotation : Cond.code yX0_firstAnnotation cX0_firstAnnotation 3 (some (.object "ClassFileIndex$Value")) ∈ wG := wG_in (wT2 (List.mem_of_getElem? (i := 154) rfl)) rfl
abbrev cX0_annotationsOf : ByteArray := prog_2_method_4_code
def yX0_annotationsOf : MethodName := ⟨RX0, "annotationsOf", "(II)I"⟩
abbrev wsX0_annotationsOf : List Cond := .code yX0_annotationsOf cX0_annotationsOf 5 (some .int) :: wG
set_option maxRecDepth 20000 in
theorem kX0_annotationsOf : Cond.code yX0_annotationsOf cX0_annotationsOf 5 (some .int) ∈ wG := wG_in (wT2 (List.mem_of_getElem? (i := 174) rfl)) rfl
abbrev cX1_init : ByteArray := prog_3_method_1_code
def yX1_init : MethodName := ⟨RX1, "<init>", "()V"⟩
abbrev wsX1_init : List Cond := .code yX1_init cX1_init 1 (none) :: wG
set_option maxRecDepth 20000 in
theorem kX1_init : Cond.code yX1_init cX1_init 1 (none) ∈ wG := wG_in (wT1 (List.mem_of_getElem? (i := 42) rfl)) rfl
abbrev cX1_has : ByteArray := prog_3_method_2_code
def yX1_has : MethodName := ⟨RX1, "has", "(I)Z"⟩
abbrev wsX1_has : List Cond := .code yX1_has cX1_has 2 (some .boolean) :: wG
set_option maxRecDepth 20000 in
theorem kX1_has : Cond.code yX1_has cX1_has 2 (some .boolean) ∈ wG := wG_in (wT2 (List.mem_of_getElem? (i := 113) rfl)) rfl
abbrev cX1_add : ByteArray := prog_3_method_3_code
def yX1_add : MethodName := ⟨RX1, "add", "(LClassFileIndex$ClassFile;)I"⟩
abbrev wsX1_add : List Cond := .code yX1_add cX1_add 2 (some .int) :: wG
set_option maxRecDepth 20000 in
theorem kX1_add : Cond.code yX1_add cX1_add 2 (some .int) ∈ wG := wG_in (wT2 (List.mem_of_getElem? (i := 82) rfl)) rfl
abbrev cX1_named : ByteArray := prog_3_method_4_code
def yX1_named : MethodName := ⟨RX1, "named", "(I)I"⟩
abbrev wsX1_named : List Cond := .code yX1_named cX1_named 2 (some .int) :: wG
set_option maxRecDepth 20000 in
theorem kX1_named : Cond.code yX1_named cX1_named 2 (some .int) ∈ wG := wG_in (wT1 (List.mem_of_getElem? (i := 226) rfl)) rfl
abbrev cX1_superclass : ByteArray := prog_3_method_5_code
def yX1_superclass : MethodName := ⟨RX1, "superclass", "(I)I"⟩
abbrev wsX1_superclass : List Cond := .code yX1_superclass cX1_superclass 2 (some .int) :: wG
set_option maxRecDepth 20000 in
theorem kX1_superclass : Cond.code yX1_superclass cX1_superclass 2 (some .int) ∈ wG := wG_in (wT2 (List.mem_of_getElem? (i := 162) rfl)) rfl
abbrev cX1_containerOf : ByteArray := prog_3_method_6_code
def yX1_containerOf : MethodName := ⟨RX1, "containerOf", "(I)I"⟩
abbrev wsX1_containerOf : List Cond := .code yX1_containerOf cX1_containerOf 3 (some .int) :: wG
set_option maxRecDepth 20000 in
theorem kX1_containerOf : Cond.code yX1_containerOf cX1_containerOf 3 (some .int) ∈ wG := wG_in (wT2 (List.mem_of_getElem? (i := 170) rfl)) rfl
abbrev cX1_chainSteps : ByteArray := prog_3_method_7_code
def yX1_chainSteps : MethodName := ⟨RX1, "chainSteps", "(I)I"⟩
abbrev wsX1_chainSteps : List Cond := .code yX1_chainSteps cX1_chainSteps 4 (some .int) :: wG
set_option maxRecDepth 20000 in
theorem kX1_chainSteps : Cond.code yX1_chainSteps cX1_chainSteps 4 (some .int) ∈ wG := wG_in (wT2 (List.mem_of_getElem? (i := 150) rfl)) rfl
abbrev cX1_leadsTo : ByteArray := prog_3_method_8_code
def yX1_leadsTo : MethodName := ⟨RX1, "leadsTo", "(IIZ)Z"⟩
abbrev wsX1_leadsTo : List Cond := .code yX1_leadsTo cX1_leadsTo 9 (some .boolean) :: wG
set_option maxRecDepth 20000 in
theorem kX1_leadsTo : Cond.code yX1_leadsTo cX1_leadsTo 9 (some .boolean) ∈ wG := wG_in (wT2 (List.mem_of_getElem? (i := 133) rfl)) rfl
abbrev cX2_init : ByteArray := prog_4_method_1_code
def yX2_init : MethodName := ⟨RX2, "<init>", "(I)V"⟩
abbrev wsX2_init : List Cond := .code yX2_init cX2_init 2 (none) :: wG
set_option maxRecDepth 20000 in
theorem kX2_init : Cond.code yX2_init cX2_init 2 (none) ∈ wG := wG_in (wT1 (List.mem_of_getElem? (i := 78) rfl)) rfl
abbrev cX2_firstNamed : ByteArray := prog_4_method_2_code
def yX2_firstNamed : MethodName := ⟨RX2, "firstNamed", "(I)LClassFileIndex$Value;"⟩
abbrev wsX2_firstNamed : List Cond := .code yX2_firstNamed cX2_firstNamed 3 (some (.object "ClassFileIndex$Value")) :: wG
set_option maxRecDepth 20000 in
theorem kX2_firstNamed : Cond.code yX2_firstNamed cX2_firstNamed 3 (some (.object "ClassFileIndex$Value")) ∈ wG := wG_in (wT2 (List.mem_of_getElem? (i := 201) rfl)) rfl
abbrev cX2_nth : ByteArray := prog_4_method_3_code
def yX2_nth : MethodName := ⟨RX2, "nth", "(I)LClassFileIndex$Value;"⟩
abbrev wsX2_nth : List Cond := .code yX2_nth cX2_nth 2 (some (.object "ClassFileIndex$Value")) :: wG
set_option maxRecDepth 20000 in
theorem kX2_nth : Cond.code yX2_nth cX2_nth 2 (some (.object "ClassFileIndex$Value")) ∈ wG := wG_in (wT2 (List.mem_of_getElem? (i := 182) rfl)) rfl
abbrev cX3_init : ByteArray := prog_5_method_1_code
def yX3_init : MethodName := ⟨RX3, "<init>", "()V"⟩
abbrev wsX3_init : List Cond := .code yX3_init cX3_init 1 (none) :: wG
set_option maxRecDepth 20000 in
theorem kX3_init : Cond.code yX3_init cX3_init 1 (none) ∈ wG := wG_in (wT1 (List.mem_of_getElem? (i := 72) rfl)) rfl
abbrev cX3_readFile : ByteArray := prog_5_method_2_code
def yX3_readFile : MethodName := ⟨RX3, "readFile", "([IILClassFileIndex$Texts;LClassFileIndex$Classes;)LClassFileIndex$ClassFile;"⟩
abbrev wsX3_readFile : List Cond := .code yX3_readFile cX3_readFile 12 (some (.object "ClassFileIndex$ClassFile")) :: wG
set_option maxRecDepth 20000 in
theorem kX3_readFile : Cond.code yX3_readFile cX3_readFile 12 (some (.object "ClassFileIndex$ClassFile")) ∈ wG := wG_in (wT1 (List.mem_of_getElem? (i := 162) rfl)) rfl
abbrev cX3_refuse : ByteArray := prog_5_method_3_code
def yX3_refuse : MethodName := ⟨RX3, "refuse", "(II)V"⟩
abbrev wsX3_refuse : List Cond := .code yX3_refuse cX3_refuse 3 (none) :: wG
set_option maxRecDepth 20000 in
theorem kX3_refuse : Cond.code yX3_refuse cX3_refuse 3 (none) ∈ wG := wG_in (wT1 (List.mem_of_getElem? (i := 174) rfl)) rfl
abbrev cX3_next : ByteArray := prog_5_method_4_code
def yX3_next : MethodName := ⟨RX3, "next", "()I"⟩
abbrev wsX3_next : List Cond := .code yX3_next cX3_next 1 (some .int) :: wG
set_option maxRecDepth 20000 in
theorem kX3_next : Cond.code yX3_next cX3_next 1 (some .int) ∈ wG := wG_in (wT1 (List.mem_of_getElem? (i := 170) rfl)) rfl
abbrev cX3_readAtMost : ByteArray := prog_5_method_5_code
def yX3_readAtMost : MethodName := ⟨RX3, "readAtMost", "(I)I"⟩
abbrev wsX3_readAtMost : List Cond := .code yX3_readAtMost cX3_readAtMost 4 (some .int) :: wG
set_option maxRecDepth 20000 in
theorem kX3_readAtMost : Cond.code yX3_readAtMost cX3_readAtMost 4 (some .int) ∈ wG := wG_in (wT1 (List.mem_of_getElem? (i := 182) rfl)) rfl
abbrev cX3_readStart : ByteArray := prog_5_method_6_code
def yX3_readStart : MethodName := ⟨RX3, "readStart", "(I)V"⟩
abbrev wsX3_readStart : List Cond := .code yX3_readStart cX3_readStart 3 (none) :: wG
set_option maxRecDepth 20000 in
theorem kX3_readStart : Cond.code yX3_readStart cX3_readStart 3 (none) ∈ wG := wG_in (wT1 (List.mem_of_getElem? (i := 166) rfl)) rfl
abbrev cX3_readConstants : ByteArray := prog_5_method_7_code
def yX3_readConstants : MethodName := ⟨RX3, "readConstants", "()V"⟩
abbrev wsX3_readConstants : List Cond := .code yX3_readConstants cX3_readConstants 4 (none) :: wG
set_option maxRecDepth 20000 in
theorem kX3_readConstants : Cond.code yX3_readConstants cX3_readConstants 4 (none) ∈ wG := wG_in (wT1 (List.mem_of_getElem? (i := 178) rfl)) rfl
abbrev cX3_readText : ByteArray := prog_5_method_8_code
def yX3_readText : MethodName := ⟨RX3, "readText", "()I"⟩
abbrev wsX3_readText : List Cond := .code yX3_readText cX3_readText 6 (some .int) :: wG
set_option maxRecDepth 20000 in
theorem kX3_readText : Cond.code yX3_readText cX3_readText 6 (some .int) ∈ wG := wG_in (wT1 (List.mem_of_getElem? (i := 186) rfl)) rfl
abbrev cX3_readInt : ByteArray := prog_5_method_9_code
def yX3_readInt : MethodName := ⟨RX3, "readInt", "()I"⟩
abbrev wsX3_readInt : List Cond := .code yX3_readInt cX3_readInt 3 (some .int) :: wG
set_option maxRecDepth 20000 in
theorem kX3_readInt : Cond.code yX3_readInt cX3_readInt 3 (some .int) ∈ wG := wG_in (wT1 (List.mem_of_getElem? (i := 198) rfl)) rfl
abbrev cX3_nameClassConstants : ByteArray := prog_5_method_10_code
def yX3_nameClassConstants : MethodName := ⟨RX3, "nameClassConstants", "()V"⟩
abbrev wsX3_nameClassConstants : List Cond := .code yX3_nameClassConstants cX3_nameClassConstants 3 (none) :: wG
set_option maxRecDepth 20000 in
theorem kX3_nameClassConstants : Cond.code yX3_nameClassConstants cX3_nameClassConstants 3 (none) ∈ wG := wG_in (wT1 (List.mem_of_getElem? (i := 202) rfl)) rfl
abbrev cX3_isConstant : ByteArray := prog_5_method_11_code
def yX3_isConstant : MethodName := ⟨RX3, "isConstant", "(II)Z"⟩
abbrev wsX3_isConstant : List Cond := .code yX3_isConstant cX3_isConstant 3 (some .boolean) :: wG
set_option maxRecDepth 20000 in
theorem kX3_isConstant : Cond.code yX3_isConstant cX3_isConstant 3 (some .boolean) ∈ wG := wG_in (wT1 (List.mem_of_getElem? (i := 206) rfl)) rfl
abbrev cX3_readConstant : ByteArray := prog_5_method_12_code
def yX3_readConstant : MethodName := ⟨RX3, "readConstant", "(I)I"⟩
abbrev wsX3_readConstant : List Cond := .code yX3_readConstant cX3_readConstant 4 (some .int) :: wG
set_option maxRecDepth 20000 in
theorem kX3_readConstant : Cond.code yX3_readConstant cX3_readConstant 4 (some .int) ∈ wG := wG_in (wT1 (List.mem_of_getElem? (i := 222) rfl)) rfl
abbrev cX3_readName : ByteArray := prog_5_method_13_code
def yX3_readName : MethodName := ⟨RX3, "readName", "()I"⟩
abbrev wsX3_readName : List Cond := .code yX3_readName cX3_readName 3 (some .int) :: wG
set_option maxRecDepth 20000 in
theorem kX3_readName : Cond.code yX3_readName cX3_readName 3 (some .int) ∈ wG := wG_in (wT1 (List.mem_of_getElem? (i := 218) rfl)) rfl
abbrev cX3_readClassOrNone : ByteArray := prog_5_method_14_code
def yX3_readClassOrNone : MethodName := ⟨RX3, "readClassOrNone", "()I"⟩
abbrev wsX3_readClassOrNone : List Cond := .code yX3_readClassOrNone cX3_readClassOrNone 1 (some .int) :: wG
set_option maxRecDepth 20000 in
theorem kX3_readClassOrNone : Cond.code yX3_readClassOrNone cX3_readClassOrNone 1 (some .int) ∈ wG := wG_in (wT1 (List.mem_of_getElem? (i := 230) rfl)) rfl
abbrev cX3_readInterfaces : ByteArray := prog_5_method_15_code
def yX3_readInterfaces : MethodName := ⟨RX3, "readInterfaces", "()[I"⟩
abbrev wsX3_readInterfaces : List Cond := .code yX3_readInterfaces cX3_readInterfaces 3 (some (.array .int)) :: wG
set_option maxRecDepth 20000 in
theorem kX3_readInterfaces : Cond.code yX3_readInterfaces cX3_readInterfaces 3 (some (.array .int)) ∈ wG := wG_in (wT1 (List.mem_of_getElem? (i := 234) rfl)) rfl
abbrev cX3_readAnnotations : ByteArray := prog_5_method_16_code
def yX3_readAnnotations : MethodName := ⟨RX3, "readAnnotations", "()[LClassFileIndex$Value;"⟩
abbrev wsX3_readAnnotations : List Cond := .code yX3_readAnnotations cX3_readAnnotations 3 (some (.array (.object "ClassFileIndex$Value"))) :: wG
set_option maxRecDepth 20000 in
theorem kX3_readAnnotations : Cond.code yX3_readAnnotations cX3_readAnnotations 3 (some (.array (.object "ClassFileIndex$Value"))) ∈ wG := wG_in (wT1 (List.mem_of_getElem? (i := 238) rfl)) rfl
abbrev cX3_readAnnotation : ByteArray := prog_5_method_17_code
def yX3_readAnnotation : MethodName := ⟨RX3, "readAnnotation", "(I)LClassFileIndex$Value;"⟩
abbrev wsX3_readAnnotation : List Cond := .code yX3_readAnnotation cX3_readAnnotation 3 (some (.object "ClassFileIndex$Value")) :: wG
set_option maxRecDepth 20000 in
theorem kX3_readAnnotation : Cond.code yX3_readAnnotation cX3_readAnnotation 3 (some (.object "ClassFileIndex$Value")) ∈ wG := wG_in (wT2 (List.mem_of_getElem? (i := 3) rfl)) rfl
abbrev cX3_readRow : ByteArray := prog_5_method_18_code
def yX3_readRow : MethodName := ⟨RX3, "readRow", "(I)LClassFileIndex$Value;"⟩
abbrev wsX3_readRow : List Cond := .code yX3_readRow cX3_readRow 3 (some (.object "ClassFileIndex$Value")) :: wG
set_option maxRecDepth 20000 in
theorem kX3_readRow : Cond.code yX3_readRow cX3_readRow 3 (some (.object "ClassFileIndex$Value")) ∈ wG := wG_in (wT2 (List.mem_of_getElem? (i := 32) rfl)) rfl
abbrev cX3_readParts : ByteArray := prog_5_method_19_code
def yX3_readParts : MethodName := ⟨RX3, "readParts", "(ZI)LClassFileIndex$Parts;"⟩
abbrev wsX3_readParts : List Cond := .code yX3_readParts cX3_readParts 5 (some (.object "ClassFileIndex$Parts")) :: wG
set_option maxRecDepth 20000 in
theorem kX3_readParts : Cond.code yX3_readParts cX3_readParts 5 (some (.object "ClassFileIndex$Parts")) ∈ wG := wG_in (wT2 (List.mem_of_getElem? (i := 8) rfl)) rfl
abbrev cX3_readValue : ByteArray := prog_5_method_20_code
def yX3_readValue : MethodName := ⟨RX3, "readValue", "(I)LClassFileIndex$Value;"⟩
abbrev wsX3_readValue : List Cond := .code yX3_readValue cX3_readValue 4 (some (.object "ClassFileIndex$Value")) :: wG
set_option maxRecDepth 20000 in
theorem kX3_readValue : Cond.code yX3_readValue cX3_readValue 4 (some (.object "ClassFileIndex$Value")) ∈ wG := wG_in (wT2 (List.mem_of_getElem? (i := 12) rfl)) rfl
abbrev cX4_init : ByteArray := prog_6_method_1_code
def yX4_init : MethodName := ⟨RX4, "<init>", "()V"⟩
abbrev wsX4_init : List Cond := .code yX4_init cX4_init 1 (none) :: wG
set_option maxRecDepth 20000 in
theorem kX4_init : Cond.code yX4_init cX4_init 1 (none) ∈ wG := wG_in (wT1 (List.mem_of_getElem? (i := 23) rfl)) rfl
abbrev cX4_has : ByteArray := prog_6_method_2_code
def yX4_has : MethodName := ⟨RX4, "has", "(I)Z"⟩
abbrev wsX4_has : List Cond := .code yX4_has cX4_has 2 (some .boolean) :: wG
set_option maxRecDepth 20000 in
theorem kX4_has : Cond.code yX4_has cX4_has 2 (some .boolean) ∈ wG := wG_in (wT1 (List.mem_of_getElem? (i := 214) rfl)) rfl
abbrev cX4_lengthOf : ByteArray := prog_6_method_3_code
def yX4_lengthOf : MethodName := ⟨RX4, "lengthOf", "(I)I"⟩
abbrev wsX4_lengthOf : List Cond := .code yX4_lengthOf cX4_lengthOf 2 (some .int) :: wG
set_option maxRecDepth 20000 in
theorem kX4_lengthOf : Cond.code yX4_lengthOf cX4_lengthOf 2 (some .int) ∈ wG := wG_in (wT1 (List.mem_of_getElem? (i := 210) rfl)) rfl
abbrev cX4_letterOf : ByteArray := prog_6_method_4_code
def yX4_letterOf : MethodName := ⟨RX4, "letterOf", "(II)I"⟩
abbrev wsX4_letterOf : List Cond := .code yX4_letterOf cX4_letterOf 3 (some .int) :: wG
set_option maxRecDepth 20000 in
theorem kX4_letterOf : Cond.code yX4_letterOf cX4_letterOf 3 (some .int) ∈ wG := wG_in (wT2 (List.mem_of_getElem? (i := 99) rfl)) rfl
abbrev cX4_shrink : ByteArray := prog_6_method_5_code
def yX4_shrink : MethodName := ⟨RX4, "shrink", "(I)V"⟩
abbrev wsX4_shrink : List Cond := .code yX4_shrink cX4_shrink 2 (none) :: wG
set_option maxRecDepth 20000 in
theorem kX4_shrink : Cond.code yX4_shrink cX4_shrink 2 (none) ∈ wG := wG_in (wT2 (List.mem_of_getElem? (i := 78) rfl)) rfl
abbrev cX4_numberOf : ByteArray := prog_6_method_6_code
def yX4_numberOf : MethodName := ⟨RX4, "numberOf", "([III)I"⟩
abbrev wsX4_numberOf : List Cond := .code yX4_numberOf cX4_numberOf 5 (some .int) :: wG
set_option maxRecDepth 20000 in
theorem kX4_numberOf : Cond.code yX4_numberOf cX4_numberOf 5 (some .int) ∈ wG := wG_in (wT1 (List.mem_of_getElem? (i := 190) rfl)) rfl
abbrev cX4_isText : ByteArray := prog_6_method_7_code
def yX4_isText : MethodName := ⟨RX4, "isText", "(I[III)Z"⟩
abbrev wsX4_isText : List Cond := .code yX4_isText cX4_isText 6 (some .boolean) :: wG
set_option maxRecDepth 20000 in
theorem kX4_isText : Cond.code yX4_isText cX4_isText 6 (some .boolean) ∈ wG := wG_in (wT1 (List.mem_of_getElem? (i := 194) rfl)) rfl
abbrev cX5_init : ByteArray := prog_7_method_1_code
def yX5_init : MethodName := ⟨RX5, "<init>", "(IILClassFileIndex$Parts;)V"⟩
abbrev wsX5_init : List Cond := .code yX5_init cX5_init 4 (none) :: wG
set_option maxRecDepth 20000 in
theorem kX5_init : Cond.code yX5_init cX5_init 4 (none) ∈ wG := wG_in (wT2 (List.mem_of_getElem? (i := 15) rfl)) rfl
abbrev cX5_answer : ByteArray := prog_7_method_2_code
def yX5_answer : MethodName := ⟨RX5, "answer", "()J"⟩
abbrev wsX5_answer : List Cond := .code yX5_answer cX5_answer 1 (some .long) :: wG
set_option maxRecDepth 20000 in
theorem kX5_answer : Cond.code yX5_answer cX5_answer 1 (some .long) ∈ wG := wG_in (wT2 (List.mem_of_getElem? (i := 206) rfl)) rfl
abbrev cX5_isAnnotationOf : ByteArray := prog_7_method_3_code
def yX5_isAnnotationOf : MethodName := ⟨RX5, "isAnnotationOf", "(I)Z"⟩
abbrev wsX5_isAnnotationOf : List Cond := .code yX5_isAnnotationOf cX5_isAnnotationOf 2 (some .boolean) :: wG
set_option maxRecDepth 20000 in
theorem kX5_isAnnotationOf : Cond.code yX5_isAnnotationOf cX5_isAnnotationOf 2 (some .boolean) ∈ wG := wG_in (wT2 (List.mem_of_getElem? (i := 158) rfl)) rfl
abbrev cX5_contained : ByteArray := prog_7_method_4_code
def yX5_contained : MethodName := ⟨RX5, "contained", "(I)I"⟩
abbrev wsX5_contained : List Cond := .code yX5_contained cX5_contained 6 (some .int) :: wG
set_option maxRecDepth 20000 in
theorem kX5_contained : Cond.code yX5_contained cX5_contained 6 (some .int) ∈ wG := wG_in (wT2 (List.mem_of_getElem? (i := 178) rfl)) rfl
abbrev cX6_init : ByteArray := prog_1_method_1_code
def yX6_init : MethodName := ⟨RX6, "<init>", "()V"⟩
abbrev wsX6_init : List Cond := .code yX6_init cX6_init 1 (none) :: wG
set_option maxRecDepth 20000 in
theorem kX6_init : Cond.code yX6_init cX6_init 1 (none) ∈ wG := wG_in (wT1 (List.mem_of_getElem? (i := 15) rfl)) rfl
abbrev cX6_put : ByteArray := prog_1_method_2_code
def yX6_put : MethodName := ⟨RX6, "put", "(JI)Z"⟩
abbrev wsX6_put : List Cond := .code yX6_put cX6_put 5 (some .boolean) :: wG
set_option maxRecDepth 20000 in
theorem kX6_put : Cond.code yX6_put cX6_put 5 (some .boolean) ∈ wG := wG_in (wT1 (List.mem_of_getElem? (i := 146) rfl)) rfl
abbrev cX6_drop : ByteArray := prog_1_method_3_code
def yX6_drop : MethodName := ⟨RX6, "drop", "()V"⟩
abbrev wsX6_drop : List Cond := .code yX6_drop cX6_drop 1 (none) :: wG
set_option maxRecDepth 20000 in
theorem kX6_drop : Cond.code yX6_drop cX6_drop 1 (none) ∈ wG := wG_in (wT1 (List.mem_of_getElem? (i := 150) rfl)) rfl
abbrev cX6_length : ByteArray := prog_1_method_4_code
def yX6_length : MethodName := ⟨RX6, "length", "()I"⟩
abbrev wsX6_length : List Cond := .code yX6_length cX6_length 1 (some .int) :: wG
set_option maxRecDepth 20000 in
theorem kX6_length : Cond.code yX6_length cX6_length 1 (some .int) ∈ wG := wG_in (wT1 (List.mem_of_getElem? (i := 154) rfl)) rfl
abbrev cX6_read : ByteArray := prog_1_method_5_code
def yX6_read : MethodName := ⟨RX6, "read", "()I"⟩
abbrev wsX6_read : List Cond := .code yX6_read cX6_read 3 (some .int) :: wG
set_option maxRecDepth 20000 in
theorem kX6_read : Cond.code yX6_read cX6_read 3 (some .int) ∈ wG := wG_in (wT1 (List.mem_of_getElem? (i := 158) rfl)) rfl
abbrev cX6_classes : ByteArray := prog_1_method_6_code
def yX6_classes : MethodName := ⟨RX6, "classes", "()I"⟩
abbrev wsX6_classes : List Cond := .code yX6_classes cX6_classes 1 (some .int) :: wG
set_option maxRecDepth 20000 in
theorem kX6_classes : Cond.code yX6_classes cX6_classes 1 (some .int) ∈ wG := wG_in (wT2 (List.mem_of_getElem? (i := 86) rfl)) rfl
abbrev cX6_texts : ByteArray := prog_1_method_7_code
def yX6_texts : MethodName := ⟨RX6, "texts", "()I"⟩
abbrev wsX6_texts : List Cond := .code yX6_texts cX6_texts 1 (some .int) :: wG
set_option maxRecDepth 20000 in
theorem kX6_texts : Cond.code yX6_texts cX6_texts 1 (some .int) ∈ wG := wG_in (wT2 (List.mem_of_getElem? (i := 90) rfl)) rfl
abbrev cX6_letter : ByteArray := prog_1_method_8_code
def yX6_letter : MethodName := ⟨RX6, "letter", "(II)I"⟩
abbrev wsX6_letter : List Cond := .code yX6_letter cX6_letter 3 (some .int) :: wG
set_option maxRecDepth 20000 in
theorem kX6_letter : Cond.code yX6_letter cX6_letter 3 (some .int) ∈ wG := wG_in (wT2 (List.mem_of_getElem? (i := 94) rfl)) rfl
abbrev cX6_find : ByteArray := prog_1_method_9_code
def yX6_find : MethodName := ⟨RX6, "find", "(I)I"⟩
abbrev wsX6_find : List Cond := .code yX6_find cX6_find 2 (some .int) :: wG
set_option maxRecDepth 20000 in
theorem kX6_find : Cond.code yX6_find cX6_find 2 (some .int) ∈ wG := wG_in (wT2 (List.mem_of_getElem? (i := 104) rfl)) rfl
abbrev cX6_name : ByteArray := prog_1_method_10_code
def yX6_name : MethodName := ⟨RX6, "name", "(I)I"⟩
abbrev wsX6_name : List Cond := .code yX6_name cX6_name 2 (some .int) :: wG
set_option maxRecDepth 20000 in
theorem kX6_name : Cond.code yX6_name cX6_name 2 (some .int) ∈ wG := wG_in (wT2 (List.mem_of_getElem? (i := 109) rfl)) rfl
abbrev cX6_flags : ByteArray := prog_1_method_11_code
def yX6_flags : MethodName := ⟨RX6, "flags", "(I)I"⟩
abbrev wsX6_flags : List Cond := .code yX6_flags cX6_flags 2 (some .int) :: wG
set_option maxRecDepth 20000 in
theorem kX6_flags : Cond.code yX6_flags cX6_flags 2 (some .int) ∈ wG := wG_in (wT2 (List.mem_of_getElem? (i := 117) rfl)) rfl
abbrev cX6_superName : ByteArray := prog_1_method_12_code
def yX6_superName : MethodName := ⟨RX6, "superName", "(I)I"⟩
abbrev wsX6_superName : List Cond := .code yX6_superName cX6_superName 2 (some .int) :: wG
set_option maxRecDepth 20000 in
theorem kX6_superName : Cond.code yX6_superName cX6_superName 2 (some .int) ∈ wG := wG_in (wT2 (List.mem_of_getElem? (i := 121) rfl)) rfl
abbrev cX6_subtype : ByteArray := prog_1_method_13_code
def yX6_subtype : MethodName := ⟨RX6, "subtype", "(II)Z"⟩
abbrev wsX6_subtype : List Cond := .code yX6_subtype cX6_subtype 3 (some .boolean) :: wG
set_option maxRecDepth 20000 in
theorem kX6_subtype : Cond.code yX6_subtype cX6_subtype 3 (some .boolean) ∈ wG := wG_in (wT2 (List.mem_of_getElem? (i := 125) rfl)) rfl
abbrev cX6_subtypeAt : ByteArray := prog_1_method_14_code
def yX6_subtypeAt : MethodName := ⟨RX6, "subtypeAt", "(II)I"⟩
abbrev wsX6_subtypeAt : List Cond := .code yX6_subtypeAt cX6_subtypeAt 5 (some .int) :: wG
set_option maxRecDepth 20000 in
theorem kX6_subtypeAt : Cond.code yX6_subtypeAt cX6_subtypeAt 5 (some .int) ∈ wG := wG_in (wT2 (List.mem_of_getElem? (i := 142) rfl)) rfl
abbrev cX6_holder : ByteArray := prog_1_method_15_code
def yX6_holder : MethodName := ⟨RX6, "holder", "(II)I"⟩
abbrev wsX6_holder : List Cond := .code yX6_holder cX6_holder 6 (some .int) :: wG
set_option maxRecDepth 20000 in
theorem kX6_holder : Cond.code yX6_holder cX6_holder 6 (some .int) ∈ wG := wG_in (wT2 (List.mem_of_getElem? (i := 146) rfl)) rfl
abbrev cX6_count : ByteArray := prog_1_method_16_code
def yX6_count : MethodName := ⟨RX6, "count", "(II)I"⟩
abbrev wsX6_count : List Cond := .code yX6_count cX6_count 8 (some .int) :: wG
set_option maxRecDepth 20000 in
theorem kX6_count : Cond.code yX6_count cX6_count 8 (some .int) ∈ wG := wG_in (wT2 (List.mem_of_getElem? (i := 166) rfl)) rfl
abbrev cX6_meta : ByteArray := prog_1_method_17_code
def yX6_meta : MethodName := ⟨RX6, "meta", "(II)Z"⟩
abbrev wsX6_meta : List Cond := .code yX6_meta cX6_meta 3 (some .boolean) :: wG
set_option maxRecDepth 20000 in
theorem kX6_meta : Cond.code yX6_meta cX6_meta 3 (some .boolean) ∈ wG := wG_in (wT2 (List.mem_of_getElem? (i := 187) rfl)) rfl
abbrev cX6_value : ByteArray := prog_1_method_18_code
def yX6_value : MethodName := ⟨RX6, "value", "(IIII)J"⟩
abbrev wsX6_value : List Cond := .code yX6_value cX6_value 9 (some .long) :: wG
set_option maxRecDepth 20000 in
theorem kX6_value : Cond.code yX6_value cX6_value 9 (some .long) ∈ wG := wG_in (wT2 (List.mem_of_getElem? (i := 191) rfl)) rfl
abbrev cX6_areThere : ByteArray := prog_1_method_19_code
def yX6_areThere : MethodName := ⟨RX6, "areThere", "(II)Z"⟩
abbrev wsX6_areThere : List Cond := .code yX6_areThere cX6_areThere 3 (some .boolean) :: wG
set_option maxRecDepth 20000 in
theorem kX6_areThere : Cond.code yX6_areThere cX6_areThere 3 (some .boolean) ∈ wG := wG_in (wT2 (List.mem_of_getElem? (i := 129) rfl)) rfl
abbrev cX6_elementOrDefault : ByteArray := prog_1_method_20_code
def yX6_elementOrDefault : MethodName := ⟨RX6, "elementOrDefault", "(III)LClassFileIndex$Value;"⟩
abbrev wsX6_elementOrDefault : List Cond := .code yX6_elementOrDefault cX6_elementOrDefault 7 (some (.object "ClassFileIndex$Value")) :: wG
set_option maxRecDepth 20000 in
theorem kX6_elementOrDefault : Cond.code yX6_elementOrDefault cX6_elementOrDefault 7 (some (.object "ClassFileIndex$Value")) ∈ wG := wG_in (wT2 (List.mem_of_getElem? (i := 197) rfl)) rfl
set_option maxRecDepth 20000 in
theorem iX6 : Cond.initialized RX6 ∈ wG := wG_in (wT1 (List.mem_of_getElem? (i := 1) (by decide +kernel))) rfl
set_option maxRecDepth 20000 in
theorem iX4 : Cond.initialized RX4 ∈ wG := wG_in (wT1 (List.mem_of_getElem? (i := 2) (by decide +kernel))) rfl
set_option maxRecDepth 20000 in
theorem iX1 : Cond.initialized RX1 ∈ wG := wG_in (wT1 (List.mem_of_getElem? (i := 3) (by decide +kernel))) rfl
set_option maxRecDepth 20000 in
theorem iX3 : Cond.initialized RX3 ∈ wG := wG_in (wT1 (List.mem_of_getElem? (i := 5) (by decide +kernel))) rfl
set_option maxRecDepth 20000 in
theorem iX2 : Cond.initialized RX2 ∈ wG := wG_in (wT1 (List.mem_of_getElem? (i := 6) (by decide +kernel))) rfl
set_option maxRecDepth 20000 in
theorem iX5 : Cond.initialized RX5 ∈ wG := wG_in (wT1 (List.mem_of_getElem? (i := 8) (by decide +kernel))) rfl
set_option maxRecDepth 20000 in
theorem iX0 : Cond.initialized RX0 ∈ wG := wG_in (wT1 (List.mem_of_getElem? (i := 9) (by decide +kernel))) rfl
set_option maxRecDepth 20000 in
theorem sX6 : Cond.instantiable RX6 5 ∈ wG := wG_in (wT1 (List.mem_of_getElem? (i := 12) (by decide +kernel))) rfl
set_option maxRecDepth 20000 in
theorem oX6_link : Cond.methodLink RX6 3 objectInit ∈ wG := wG_in (wT1 (List.mem_of_getElem? (i := 16) (by decide +kernel))) rfl
set_option maxRecDepth 20000 in
theorem nX6_X4 : Cond.classLink RX6 17 RX4 ∈ wG := wG_in (wT1 (List.mem_of_getElem? (i := 19) (by decide +kernel))) rfl
set_option maxRecDepth 20000 in
theorem sX4 : Cond.instantiable RX4 3 ∈ wG := wG_in (wT1 (List.mem_of_getElem? (i := 20) (by decide +kernel))) rfl
set_option maxRecDepth 20000 in
theorem oX4_link : Cond.methodLink RX4 3 objectInit ∈ wG := wG_in (wT1 (List.mem_of_getElem? (i := 24) (by decide +kernel))) rfl
set_option maxRecDepth 20000 in
theorem fX4_X4_letters : Cond.fieldLink RX4 9 "ClassFileIndex$Texts" "letters" "[B" ∈ wG := wG_in (wT1 (List.mem_of_getElem? (i := 25) (by decide +kernel))) rfl
set_option maxRecDepth 20000 in
theorem fX4_X4_lengths : Cond.fieldLink RX4 15 "ClassFileIndex$Texts" "lengths" "[I" ∈ wG := wG_in (wT1 (List.mem_of_getElem? (i := 26) (by decide +kernel))) rfl
set_option maxRecDepth 20000 in
theorem fX4_X4_size : Cond.fieldLink RX4 19 "ClassFileIndex$Texts" "size" "I" ∈ wG := wG_in (wT1 (List.mem_of_getElem? (i := 27) (by decide +kernel))) rfl
set_option maxRecDepth 20000 in
theorem fX6_X4_size : Cond.fieldLink RX6 41 "ClassFileIndex$Texts" "size" "I" ∈ wG := wG_in (wT1 (List.mem_of_getElem? (i := 28) (by decide +kernel))) rfl
set_option maxRecDepth 20000 in
theorem nX6_X1 : Cond.classLink RX6 24 RX1 ∈ wG := wG_in (wT1 (List.mem_of_getElem? (i := 38) (by decide +kernel))) rfl
set_option maxRecDepth 20000 in
theorem sX1 : Cond.instantiable RX1 5 ∈ wG := wG_in (wT1 (List.mem_of_getElem? (i := 39) (by decide +kernel))) rfl
set_option maxRecDepth 20000 in
theorem oX1_link : Cond.methodLink RX1 3 objectInit ∈ wG := wG_in (wT1 (List.mem_of_getElem? (i := 43) (by decide +kernel))) rfl
set_option maxRecDepth 20000 in
theorem nX1_X0 : Cond.classLink RX1 9 RX0 ∈ wG := wG_in (wT1 (List.mem_of_getElem? (i := 44) (by decide +kernel))) rfl
set_option maxRecDepth 20000 in
theorem fX1_X1_files : Cond.fieldLink RX1 11 "ClassFileIndex$Classes" "files" "[LClassFileIndex$ClassFile;" ∈ wG := wG_in (wT1 (List.mem_of_getElem? (i := 49) (by decide +kernel))) rfl
set_option maxRecDepth 20000 in
theorem fX6_X1_files : Cond.fieldLink RX6 70 "ClassFileIndex$Classes" "files" "[LClassFileIndex$ClassFile;" ∈ wG := wG_in (wT1 (List.mem_of_getElem? (i := 50) (by decide +kernel))) rfl
set_option maxRecDepth 20000 in
theorem fX1_X1_size : Cond.fieldLink RX1 17 "ClassFileIndex$Classes" "size" "I" ∈ wG := wG_in (wT1 (List.mem_of_getElem? (i := 51) (by decide +kernel))) rfl
set_option maxRecDepth 20000 in
theorem fX6_X1_size : Cond.fieldLink RX6 38 "ClassFileIndex$Classes" "size" "I" ∈ wG := wG_in (wT1 (List.mem_of_getElem? (i := 52) (by decide +kernel))) rfl
set_option maxRecDepth 20000 in
theorem fX1_X1_classOfText : Cond.fieldLink RX1 21 "ClassFileIndex$Classes" "classOfText" "[I" ∈ wG := wG_in (wT1 (List.mem_of_getElem? (i := 53) (by decide +kernel))) rfl
set_option maxRecDepth 20000 in
theorem fX1_X1_queue : Cond.fieldLink RX1 31 "ClassFileIndex$Classes" "queue" "[I" ∈ wG := wG_in (wT1 (List.mem_of_getElem? (i := 54) (by decide +kernel))) rfl
set_option maxRecDepth 20000 in
theorem fX1_X1_queued : Cond.fieldLink RX1 34 "ClassFileIndex$Classes" "queued" "[Z" ∈ wG := wG_in (wT1 (List.mem_of_getElem? (i := 55) (by decide +kernel))) rfl
set_option maxRecDepth 20000 in
theorem nX6_X3 : Cond.classLink RX6 31 RX3 ∈ wG := wG_in (wT1 (List.mem_of_getElem? (i := 68) (by decide +kernel))) rfl
set_option maxRecDepth 20000 in
theorem sX3 : Cond.instantiable RX3 11 ∈ wG := wG_in (wT1 (List.mem_of_getElem? (i := 69) (by decide +kernel))) rfl
set_option maxRecDepth 20000 in
theorem oX3_link : Cond.methodLink RX3 3 objectInit ∈ wG := wG_in (wT1 (List.mem_of_getElem? (i := 73) (by decide +kernel))) rfl
set_option maxRecDepth 20000 in
theorem nX3_X2 : Cond.classLink RX3 21 RX2 ∈ wG := wG_in (wT1 (List.mem_of_getElem? (i := 74) (by decide +kernel))) rfl
set_option maxRecDepth 20000 in
theorem sX2 : Cond.instantiable RX2 2 ∈ wG := wG_in (wT1 (List.mem_of_getElem? (i := 75) (by decide +kernel))) rfl
set_option maxRecDepth 20000 in
theorem oX2_link : Cond.methodLink RX2 1 objectInit ∈ wG := wG_in (wT1 (List.mem_of_getElem? (i := 79) (by decide +kernel))) rfl
set_option maxRecDepth 20000 in
theorem nX2_X5 : Cond.classLink RX2 13 RX5 ∈ wG := wG_in (wT1 (List.mem_of_getElem? (i := 80) (by decide +kernel))) rfl
set_option maxRecDepth 20000 in
theorem fX2_X2_names : Cond.fieldLink RX2 7 "ClassFileIndex$Parts" "names" "[I" ∈ wG := wG_in (wT1 (List.mem_of_getElem? (i := 82) (by decide +kernel))) rfl
set_option maxRecDepth 20000 in
theorem fX3_X2_names : Cond.fieldLink RX3 138 "ClassFileIndex$Parts" "names" "[I" ∈ wG := wG_in (wT1 (List.mem_of_getElem? (i := 83) (by decide +kernel))) rfl
set_option maxRecDepth 20000 in
theorem fX2_X2_values : Cond.fieldLink RX2 15 "ClassFileIndex$Parts" "values" "[LClassFileIndex$Value;" ∈ wG := wG_in (wT1 (List.mem_of_getElem? (i := 84) (by decide +kernel))) rfl
set_option maxRecDepth 20000 in
theorem fX5_X2_values : Cond.fieldLink RX5 30 "ClassFileIndex$Parts" "values" "[LClassFileIndex$Value;" ∈ wG := wG_in (wT1 (List.mem_of_getElem? (i := 85) (by decide +kernel))) rfl
set_option maxRecDepth 20000 in
theorem fX3_X2_values : Cond.fieldLink RX3 134 "ClassFileIndex$Parts" "values" "[LClassFileIndex$Value;" ∈ wG := wG_in (wT1 (List.mem_of_getElem? (i := 86) (by decide +kernel))) rfl
set_option maxRecDepth 20000 in
theorem fX3_X3_fault : Cond.fieldLink RX3 48 "ClassFileIndex$Reader" "fault" "I" ∈ wG := wG_in (wT1 (List.mem_of_getElem? (i := 92) (by decide +kernel))) rfl
set_option maxRecDepth 20000 in
theorem fX6_X3_fault : Cond.fieldLink RX6 50 "ClassFileIndex$Reader" "fault" "I" ∈ wG := wG_in (wT1 (List.mem_of_getElem? (i := 93) (by decide +kernel))) rfl
set_option maxRecDepth 20000 in
theorem fX3_X3_bytes : Cond.fieldLink RX3 30 "ClassFileIndex$Reader" "bytes" "[I" ∈ wG := wG_in (wT1 (List.mem_of_getElem? (i := 94) (by decide +kernel))) rfl
set_option maxRecDepth 20000 in
theorem fX3_X3_end : Cond.fieldLink RX3 33 "ClassFileIndex$Reader" "end" "I" ∈ wG := wG_in (wT1 (List.mem_of_getElem? (i := 95) (by decide +kernel))) rfl
set_option maxRecDepth 20000 in
theorem fX3_X3_place : Cond.fieldLink RX3 45 "ClassFileIndex$Reader" "place" "I" ∈ wG := wG_in (wT1 (List.mem_of_getElem? (i := 96) (by decide +kernel))) rfl
set_option maxRecDepth 20000 in
theorem fX3_X3_texts : Cond.fieldLink RX3 37 "ClassFileIndex$Reader" "texts" "LClassFileIndex$Texts;" ∈ wG := wG_in (wT1 (List.mem_of_getElem? (i := 97) (by decide +kernel))) rfl
set_option maxRecDepth 20000 in
theorem fX3_X3_classes : Cond.fieldLink RX3 41 "ClassFileIndex$Reader" "classes" "LClassFileIndex$Classes;" ∈ wG := wG_in (wT1 (List.mem_of_getElem? (i := 98) (by decide +kernel))) rfl
set_option maxRecDepth 20000 in
theorem fX3_X3_constants : Cond.fieldLink RX3 95 "ClassFileIndex$Reader" "constants" "I" ∈ wG := wG_in (wT1 (List.mem_of_getElem? (i := 99) (by decide +kernel))) rfl
set_option maxRecDepth 20000 in
theorem fX3_X3_kinds : Cond.fieldLink RX3 9 "ClassFileIndex$Reader" "kinds" "[I" ∈ wG := wG_in (wT1 (List.mem_of_getElem? (i := 100) (by decide +kernel))) rfl
set_option maxRecDepth 20000 in
theorem fX3_X3_numbers : Cond.fieldLink RX3 15 "ClassFileIndex$Reader" "numbers" "[I" ∈ wG := wG_in (wT1 (List.mem_of_getElem? (i := 101) (by decide +kernel))) rfl
set_option maxRecDepth 20000 in
theorem fX3_X3_places : Cond.fieldLink RX3 18 "ClassFileIndex$Reader" "places" "[I" ∈ wG := wG_in (wT1 (List.mem_of_getElem? (i := 102) (by decide +kernel))) rfl
set_option maxRecDepth 20000 in
theorem fX3_X3_noParts : Cond.fieldLink RX3 26 "ClassFileIndex$Reader" "noParts" "LClassFileIndex$Parts;" ∈ wG := wG_in (wT1 (List.mem_of_getElem? (i := 103) (by decide +kernel))) rfl
set_option maxRecDepth 20000 in
theorem fX6_X6_buffer : Cond.fieldLink RX6 9 "ClassFileIndex" "buffer" "[I" ∈ wG := wG_in (wT1 (List.mem_of_getElem? (i := 127) (by decide +kernel))) rfl
set_option maxRecDepth 20000 in
theorem fX6_X6_held : Cond.fieldLink RX6 13 "ClassFileIndex" "held" "I" ∈ wG := wG_in (wT1 (List.mem_of_getElem? (i := 128) (by decide +kernel))) rfl
set_option maxRecDepth 20000 in
theorem fX6_X6_knownTexts : Cond.fieldLink RX6 20 "ClassFileIndex" "knownTexts" "LClassFileIndex$Texts;" ∈ wG := wG_in (wT1 (List.mem_of_getElem? (i := 129) (by decide +kernel))) rfl
set_option maxRecDepth 20000 in
theorem fX6_X6_knownClasses : Cond.fieldLink RX6 27 "ClassFileIndex" "knownClasses" "LClassFileIndex$Classes;" ∈ wG := wG_in (wT1 (List.mem_of_getElem? (i := 130) (by decide +kernel))) rfl
set_option maxRecDepth 20000 in
theorem fX6_X6_reader : Cond.fieldLink RX6 34 "ClassFileIndex" "reader" "LClassFileIndex$Reader;" ∈ wG := wG_in (wT1 (List.mem_of_getElem? (i := 131) (by decide +kernel))) rfl
set_option maxRecDepth 20000 in
theorem nX3_X5 : Cond.classLink RX3 125 RX5 ∈ wG := wG_in (wT1 (List.mem_of_getElem? (i := 239) (by decide +kernel))) rfl
set_option maxRecDepth 20000 in
theorem sX5 : Cond.instantiable RX5 3 ∈ wG := wG_in (wT2 (List.mem_of_getElem? (i := 4) (by decide +kernel))) rfl
set_option maxRecDepth 20000 in
theorem oX5_link : Cond.methodLink RX5 3 objectInit ∈ wG := wG_in (wT2 (List.mem_of_getElem? (i := 16) (by decide +kernel))) rfl
set_option maxRecDepth 20000 in
theorem fX5_X5_kind : Cond.fieldLink RX5 9 "ClassFileIndex$Value" "kind" "I" ∈ wG := wG_in (wT2 (List.mem_of_getElem? (i := 17) (by decide +kernel))) rfl
set_option maxRecDepth 20000 in
theorem fX5_X5_number : Cond.fieldLink RX5 15 "ClassFileIndex$Value" "number" "I" ∈ wG := wG_in (wT2 (List.mem_of_getElem? (i := 18) (by decide +kernel))) rfl
set_option maxRecDepth 20000 in
theorem fX0_X5_number : Cond.fieldLink RX0 45 "ClassFileIndex$Value" "number" "I" ∈ wG := wG_in (wT2 (List.mem_of_getElem? (i := 19) (by decide +kernel))) rfl
set_option maxRecDepth 20000 in
theorem fX5_X5_parts : Cond.fieldLink RX5 18 "ClassFileIndex$Value" "parts" "LClassFileIndex$Parts;" ∈ wG := wG_in (wT2 (List.mem_of_getElem? (i := 20) (by decide +kernel))) rfl
set_option maxRecDepth 20000 in
theorem fX6_X5_parts : Cond.fieldLink RX6 118 "ClassFileIndex$Value" "parts" "LClassFileIndex$Parts;" ∈ wG := wG_in (wT2 (List.mem_of_getElem? (i := 21) (by decide +kernel))) rfl
set_option maxRecDepth 20000 in
theorem nX3_X0 : Cond.classLink RX3 87 RX0 ∈ wG := wG_in (wT2 (List.mem_of_getElem? (i := 33) (by decide +kernel))) rfl
set_option maxRecDepth 20000 in
theorem sX0 : Cond.instantiable RX0 8 ∈ wG := wG_in (wT2 (List.mem_of_getElem? (i := 34) (by decide +kernel))) rfl
set_option maxRecDepth 20000 in
theorem oX0_link : Cond.methodLink RX0 3 objectInit ∈ wG := wG_in (wT2 (List.mem_of_getElem? (i := 38) (by decide +kernel))) rfl
set_option maxRecDepth 20000 in
theorem fX0_X0_name : Cond.fieldLink RX0 9 "ClassFileIndex$ClassFile" "name" "I" ∈ wG := wG_in (wT2 (List.mem_of_getElem? (i := 42) (by decide +kernel))) rfl
set_option maxRecDepth 20000 in
theorem fX1_X0_name : Cond.fieldLink RX1 38 "ClassFileIndex$ClassFile" "name" "I" ∈ wG := wG_in (wT2 (List.mem_of_getElem? (i := 43) (by decide +kernel))) rfl
set_option maxRecDepth 20000 in
theorem fX6_X0_name : Cond.fieldLink RX6 74 "ClassFileIndex$ClassFile" "name" "I" ∈ wG := wG_in (wT2 (List.mem_of_getElem? (i := 44) (by decide +kernel))) rfl
set_option maxRecDepth 20000 in
theorem fX0_X0_flags : Cond.fieldLink RX0 15 "ClassFileIndex$ClassFile" "flags" "I" ∈ wG := wG_in (wT2 (List.mem_of_getElem? (i := 45) (by decide +kernel))) rfl
set_option maxRecDepth 20000 in
theorem fX1_X0_flags : Cond.fieldLink RX1 51 "ClassFileIndex$ClassFile" "flags" "I" ∈ wG := wG_in (wT2 (List.mem_of_getElem? (i := 46) (by decide +kernel))) rfl
set_option maxRecDepth 20000 in
theorem fX6_X0_flags : Cond.fieldLink RX6 79 "ClassFileIndex$ClassFile" "flags" "I" ∈ wG := wG_in (wT2 (List.mem_of_getElem? (i := 47) (by decide +kernel))) rfl
set_option maxRecDepth 20000 in
theorem fX0_X0_superName : Cond.fieldLink RX0 18 "ClassFileIndex$ClassFile" "superName" "I" ∈ wG := wG_in (wT2 (List.mem_of_getElem? (i := 48) (by decide +kernel))) rfl
set_option maxRecDepth 20000 in
theorem fX1_X0_superName : Cond.fieldLink RX1 41 "ClassFileIndex$ClassFile" "superName" "I" ∈ wG := wG_in (wT2 (List.mem_of_getElem? (i := 49) (by decide +kernel))) rfl
set_option maxRecDepth 20000 in
theorem fX6_X0_superName : Cond.fieldLink RX6 82 "ClassFileIndex$ClassFile" "superName" "I" ∈ wG := wG_in (wT2 (List.mem_of_getElem? (i := 50) (by decide +kernel))) rfl
set_option maxRecDepth 20000 in
theorem fX0_X0_container : Cond.fieldLink RX0 21 "ClassFileIndex$ClassFile" "container" "I" ∈ wG := wG_in (wT2 (List.mem_of_getElem? (i := 51) (by decide +kernel))) rfl
set_option maxRecDepth 20000 in
theorem fX1_X0_container : Cond.fieldLink RX1 48 "ClassFileIndex$ClassFile" "container" "I" ∈ wG := wG_in (wT2 (List.mem_of_getElem? (i := 52) (by decide +kernel))) rfl
set_option maxRecDepth 20000 in
theorem fX0_X0_annotations : Cond.fieldLink RX0 24 "ClassFileIndex$ClassFile" "annotations" "[LClassFileIndex$Value;" ∈ wG := wG_in (wT2 (List.mem_of_getElem? (i := 53) (by decide +kernel))) rfl
set_option maxRecDepth 20000 in
theorem fX0_X0_defaults : Cond.fieldLink RX0 28 "ClassFileIndex$ClassFile" "defaults" "LClassFileIndex$Parts;" ∈ wG := wG_in (wT2 (List.mem_of_getElem? (i := 54) (by decide +kernel))) rfl
set_option maxRecDepth 20000 in
theorem fX6_X0_defaults : Cond.fieldLink RX6 136 "ClassFileIndex$ClassFile" "defaults" "LClassFileIndex$Parts;" ∈ wG := wG_in (wT2 (List.mem_of_getElem? (i := 55) (by decide +kernel))) rfl
set_option maxRecDepth 20000 in
theorem fX0_X0_supertypes : Cond.fieldLink RX0 32 "ClassFileIndex$ClassFile" "supertypes" "[I" ∈ wG := wG_in (wT2 (List.mem_of_getElem? (i := 56) (by decide +kernel))) rfl
set_option maxRecDepth 20000 in
theorem fX0_X0_annotationTypes : Cond.fieldLink RX0 42 "ClassFileIndex$ClassFile" "annotationTypes" "[I" ∈ wG := wG_in (wT2 (List.mem_of_getElem? (i := 57) (by decide +kernel))) rfl
set_option maxRecDepth 20000 in
theorem qX6_112 : Cond.constantLong RX6 112 (-1) ∈ wG := wG_in (wT2 (List.mem_of_getElem? (i := 193) (by decide +kernel))) rfl
set_option maxRecDepth 20000 in
theorem qX5_22 : Cond.constantLong RX5 22 (4294967295) ∈ wG := wG_in (wT2 (List.mem_of_getElem? (i := 207) (by decide +kernel))) rfl
set_option maxRecDepth 20000 in
theorem oInst : Cond.instanceMethod objectInit ∈ wG := wG_in (wT1 (List.mem_of_getElem? (i := 17) (by decide +kernel))) rfl
set_option maxRecDepth 20000 in
theorem oCode : Cond.code objectInit ⟨#[0xb1]⟩ 1 none ∈ wG := wG_in (wT1 (List.mem_of_getElem? (i := 18) rfl)) rfl
set_option maxRecDepth 20000 in
theorem cpX0 : Cond.methodLink RX0 36 arraycopyName ∈ wG := wG_in (wT2 (List.mem_of_getElem? (i := 39) (by decide +kernel))) rfl
set_option maxRecDepth 20000 in
theorem cpNat : Cond.native arraycopyName ∈ wG := wG_in (wT2 (List.mem_of_getElem? (i := 41) (by decide +kernel))) rfl
set_option maxRecDepth 20000 in
theorem cpStat : Cond.static arraycopyName ∈ wG := wG_in (wT2 (List.mem_of_getElem? (i := 40) (by decide +kernel))) rfl
set_option maxRecDepth 20000 in
theorem cpIni : Cond.initialized "java/lang/System" ∈ wG := wG_in (wT1 (List.mem_of_getElem? (i := 10) (by decide +kernel))) rfl
set_option maxRecDepth 20000 in
theorem aInt : Cond.arrayClass .int ∈ wG := wG_in (wT1 (List.mem_of_getElem? (i := 36) (by decide +kernel))) rfl
set_option maxRecDepth 20000 in
theorem gX0_X5_isAnnotationOf {x : Cond} : GoodIn (x :: wG) (wsV RX0 50 RX5 yX5_isAnnotationOf wsX5_isAnnotationOf) := gW (List.forall_mem_cons.mpr ⟨wG_in (wT2 (List.mem_of_getElem? (i := 155) (by decide +kernel))) rfl, List.forall_mem_cons.mpr ⟨wG_in (wT2 (List.mem_of_getElem? (i := 156) (by decide +kernel))) rfl, List.forall_mem_cons.mpr ⟨wG_in (wT2 (List.mem_of_getElem? (i := 157) (by decide +kernel))) rfl, List.forall_mem_cons.mpr ⟨iX5, List.forall_mem_cons.mpr ⟨kX5_isAnnotationOf, fun _ h => h⟩⟩⟩⟩⟩)
theorem hdX5_isAnnotationOf : yX5_isAnnotationOf.cls = RX5 ∧ yX5_isAnnotationOf.cls ≠ "java/lang/invoke/MethodHandle" ∧ yX5_isAnnotationOf.cls ≠ "java/lang/invoke/VarHandle" ∧ (parseMethodDescriptor yX5_isAnnotationOf.desc).map (fun d => d.parameters.length) = some 1 := by decide +kernel
set_option maxRecDepth 20000 in
theorem gX0_X5_contained {x : Cond} : GoodIn (x :: wG) (wsV RX0 54 RX5 yX5_contained wsX5_contained) := gW (List.forall_mem_cons.mpr ⟨wG_in (wT2 (List.mem_of_getElem? (i := 175) (by decide +kernel))) rfl, List.forall_mem_cons.mpr ⟨wG_in (wT2 (List.mem_of_getElem? (i := 176) (by decide +kernel))) rfl, List.forall_mem_cons.mpr ⟨wG_in (wT2 (List.mem_of_getElem? (i := 177) (by decide +kernel))) rfl, List.forall_mem_cons.mpr ⟨iX5, List.forall_mem_cons.mpr ⟨kX5_contained, fun _ h => h⟩⟩⟩⟩⟩)
theorem hdX5_contained : yX5_contained.cls = RX5 ∧ yX5_contained.cls ≠ "java/lang/invoke/MethodHandle" ∧ yX5_contained.cls ≠ "java/lang/invoke/VarHandle" ∧ (parseMethodDescriptor yX5_contained.desc).map (fun d => d.parameters.length) = some 1 := by decide +kernel
set_option maxRecDepth 20000 in
theorem gX1_X1_named {x : Cond} : GoodIn (x :: wG) (wsV RX1 44 RX1 yX1_named wsX1_named) := gW (List.forall_mem_cons.mpr ⟨wG_in (wT2 (List.mem_of_getElem? (i := 138) (by decide +kernel))) rfl, List.forall_mem_cons.mpr ⟨wG_in (wT1 (List.mem_of_getElem? (i := 224) (by decide +kernel))) rfl, List.forall_mem_cons.mpr ⟨wG_in (wT1 (List.mem_of_getElem? (i := 225) (by decide +kernel))) rfl, List.forall_mem_cons.mpr ⟨iX1, List.forall_mem_cons.mpr ⟨kX1_named, fun _ h => h⟩⟩⟩⟩⟩)
theorem hdX1_named : yX1_named.cls = RX1 ∧ yX1_named.cls ≠ "java/lang/invoke/MethodHandle" ∧ yX1_named.cls ≠ "java/lang/invoke/VarHandle" ∧ (parseMethodDescriptor yX1_named.desc).map (fun d => d.parameters.length) = some 1 := by decide +kernel
set_option maxRecDepth 20000 in
theorem gX1_X0_directTypes {x : Cond} : GoodIn (x :: wG) (wsV RX1 54 RX0 yX0_directTypes wsX0_directTypes) := gW (List.forall_mem_cons.mpr ⟨wG_in (wT2 (List.mem_of_getElem? (i := 134) (by decide +kernel))) rfl, List.forall_mem_cons.mpr ⟨wG_in (wT2 (List.mem_of_getElem? (i := 135) (by decide +kernel))) rfl, List.forall_mem_cons.mpr ⟨wG_in (wT2 (List.mem_of_getElem? (i := 136) (by decide +kernel))) rfl, List.forall_mem_cons.mpr ⟨iX0, List.forall_mem_cons.mpr ⟨kX0_directTypes, fun _ h => h⟩⟩⟩⟩⟩)
theorem hdX0_directTypes : yX0_directTypes.cls = RX0 ∧ yX0_directTypes.cls ≠ "java/lang/invoke/MethodHandle" ∧ yX0_directTypes.cls ≠ "java/lang/invoke/VarHandle" ∧ (parseMethodDescriptor yX0_directTypes.desc).map (fun d => d.parameters.length) = some 1 := by decide +kernel
set_option maxRecDepth 20000 in
theorem gX3_X2_init : Cond.methodLink RX3 23 yX2_init ∈ wG := wG_in (wT1 (List.mem_of_getElem? (i := 76) (by decide +kernel))) rfl
set_option maxRecDepth 20000 in
theorem uX2_init : Cond.instanceMethod yX2_init ∈ wG := wG_in (wT1 (List.mem_of_getElem? (i := 77) (by decide +kernel))) rfl
theorem hdX2_init : yX2_init.cls ≠ "java/lang/invoke/MethodHandle" ∧ yX2_init.cls ≠ "java/lang/invoke/VarHandle" ∧ (parseMethodDescriptor yX2_init.desc).map (fun d => d.parameters.length) = some 1 := by decide +kernel
set_option maxRecDepth 20000 in
theorem gX3_X3_readStart {x : Cond} : GoodIn (x :: wG) (wsV RX3 51 RX3 yX3_readStart wsX3_readStart) := gW (List.forall_mem_cons.mpr ⟨wG_in (wT1 (List.mem_of_getElem? (i := 163) (by decide +kernel))) rfl, List.forall_mem_cons.mpr ⟨wG_in (wT1 (List.mem_of_getElem? (i := 165) (by decide +kernel))) rfl, List.forall_mem_cons.mpr ⟨wG_sel (List.mem_of_getElem? (i := 0) (by decide +kernel)) rfl, List.forall_mem_cons.mpr ⟨iX3, List.forall_mem_cons.mpr ⟨kX3_readStart, fun _ h => h⟩⟩⟩⟩⟩)
theorem hdX3_readStart : yX3_readStart.cls = RX3 ∧ yX3_readStart.cls ≠ "java/lang/invoke/MethodHandle" ∧ yX3_readStart.cls ≠ "java/lang/invoke/VarHandle" ∧ (parseMethodDescriptor yX3_readStart.desc).map (fun d => d.parameters.length) = some 1 := by decide +kernel
set_option maxRecDepth 20000 in
theorem gX3_X3_readConstants {x : Cond} : GoodIn (x :: wG) (wsV RX3 54 RX3 yX3_readConstants wsX3_readConstants) := gW (List.forall_mem_cons.mpr ⟨wG_in (wT1 (List.mem_of_getElem? (i := 175) (by decide +kernel))) rfl, List.forall_mem_cons.mpr ⟨wG_in (wT1 (List.mem_of_getElem? (i := 177) (by decide +kernel))) rfl, List.forall_mem_cons.mpr ⟨wG_sel (List.mem_of_getElem? (i := 3) (by decide +kernel)) rfl, List.forall_mem_cons.mpr ⟨iX3, List.forall_mem_cons.mpr ⟨kX3_readConstants, fun _ h => h⟩⟩⟩⟩⟩)
theorem hdX3_readConstants : yX3_readConstants.cls = RX3 ∧ yX3_readConstants.cls ≠ "java/lang/invoke/MethodHandle" ∧ yX3_readConstants.cls ≠ "java/lang/invoke/VarHandle" ∧ (parseMethodDescriptor yX3_readConstants.desc).map (fun d => d.parameters.length) = some 0 := by decide +kernel
set_option maxRecDepth 20000 in
theorem gX3_X3_nameClassConstants {x : Cond} : GoodIn (x :: wG) (wsV RX3 57 RX3 yX3_nameClassConstants wsX3_nameClassConstants) := gW (List.forall_mem_cons.mpr ⟨wG_in (wT1 (List.mem_of_getElem? (i := 199) (by decide +kernel))) rfl, List.forall_mem_cons.mpr ⟨wG_in (wT1 (List.mem_of_getElem? (i := 201) (by decide +kernel))) rfl, List.forall_mem_cons.mpr ⟨wG_sel (List.mem_of_getElem? (i := 8) (by decide +kernel)) rfl, List.forall_mem_cons.mpr ⟨iX3, List.forall_mem_cons.mpr ⟨kX3_nameClassConstants, fun _ h => h⟩⟩⟩⟩⟩)
theorem hdX3_nameClassConstants : yX3_nameClassConstants.cls = RX3 ∧ yX3_nameClassConstants.cls ≠ "java/lang/invoke/MethodHandle" ∧ yX3_nameClassConstants.cls ≠ "java/lang/invoke/VarHandle" ∧ (parseMethodDescriptor yX3_nameClassConstants.desc).map (fun d => d.parameters.length) = some 0 := by decide +kernel
set_option maxRecDepth 20000 in
theorem gX3_X3_readAtMost {x : Cond} : GoodIn (x :: wG) (wsV RX3 60 RX3 yX3_readAtMost wsX3_readAtMost) := gW (List.forall_mem_cons.mpr ⟨wG_in (wT1 (List.mem_of_getElem? (i := 179) (by decide +kernel))) rfl, List.forall_mem_cons.mpr ⟨wG_in (wT1 (List.mem_of_getElem? (i := 181) (by decide +kernel))) rfl, List.forall_mem_cons.mpr ⟨wG_sel (List.mem_of_getElem? (i := 4) (by decide +kernel)) rfl, List.forall_mem_cons.mpr ⟨iX3, List.forall_mem_cons.mpr ⟨kX3_readAtMost, fun _ h => h⟩⟩⟩⟩⟩)
theorem hdX3_readAtMost : yX3_readAtMost.cls = RX3 ∧ yX3_readAtMost.cls ≠ "java/lang/invoke/MethodHandle" ∧ yX3_readAtMost.cls ≠ "java/lang/invoke/VarHandle" ∧ (parseMethodDescriptor yX3_readAtMost.desc).map (fun d => d.parameters.length) = some 1 := by decide +kernel
set_option maxRecDepth 20000 in
theorem gX3_X3_readName {x : Cond} : GoodIn (x :: wG) (wsV RX3 64 RX3 yX3_readName wsX3_readName) := gW (List.forall_mem_cons.mpr ⟨wG_in (wT1 (List.mem_of_getElem? (i := 215) (by decide +kernel))) rfl, List.forall_mem_cons.mpr ⟨wG_in (wT1 (List.mem_of_getElem? (i := 217) (by decide +kernel))) rfl, List.forall_mem_cons.mpr ⟨wG_sel (List.mem_of_getElem? (i := 10) (by decide +kernel)) rfl, List.forall_mem_cons.mpr ⟨iX3, List.forall_mem_cons.mpr ⟨kX3_readName, fun _ h => h⟩⟩⟩⟩⟩)
theorem hdX3_readName : yX3_readName.cls = RX3 ∧ yX3_readName.cls ≠ "java/lang/invoke/MethodHandle" ∧ yX3_readName.cls ≠ "java/lang/invoke/VarHandle" ∧ (parseMethodDescriptor yX3_readName.desc).map (fun d => d.parameters.length) = some 0 := by decide +kernel
set_option maxRecDepth 20000 in
theorem gX3_X3_readClassOrNone {x : Cond} : GoodIn (x :: wG) (wsV RX3 68 RX3 yX3_readClassOrNone wsX3_readClassOrNone) := gW (List.forall_mem_cons.mpr ⟨wG_in (wT1 (List.mem_of_getElem? (i := 227) (by decide +kernel))) rfl, List.forall_mem_cons.mpr ⟨wG_in (wT1 (List.mem_of_getElem? (i := 229) (by decide +kernel))) rfl, List.forall_mem_cons.mpr ⟨wG_sel (List.mem_of_getElem? (i := 12) (by decide +kernel)) rfl, List.forall_mem_cons.mpr ⟨iX3, List.forall_mem_cons.mpr ⟨kX3_readClassOrNone, fun _ h => h⟩⟩⟩⟩⟩)
theorem hdX3_readClassOrNone : yX3_readClassOrNone.cls = RX3 ∧ yX3_readClassOrNone.cls ≠ "java/lang/invoke/MethodHandle" ∧ yX3_readClassOrNone.cls ≠ "java/lang/invoke/VarHandle" ∧ (parseMethodDescriptor yX3_readClassOrNone.desc).map (fun d => d.parameters.length) = some 0 := by decide +kernel
set_option maxRecDepth 20000 in
theorem gX3_X3_readInterfaces {x : Cond} : GoodIn (x :: wG) (wsV RX3 71 RX3 yX3_readInterfaces wsX3_readInterfaces) := gW (List.forall_mem_cons.mpr ⟨wG_in (wT1 (List.mem_of_getElem? (i := 231) (by decide +kernel))) rfl, List.forall_mem_cons.mpr ⟨wG_in (wT1 (List.mem_of_getElem? (i := 233) (by decide +kernel))) rfl, List.forall_mem_cons.mpr ⟨wG_sel (List.mem_of_getElem? (i := 13) (by decide +kernel)) rfl, List.forall_mem_cons.mpr ⟨iX3, List.forall_mem_cons.mpr ⟨kX3_readInterfaces, fun _ h => h⟩⟩⟩⟩⟩)
theorem hdX3_readInterfaces : yX3_readInterfaces.cls = RX3 ∧ yX3_readInterfaces.cls ≠ "java/lang/invoke/MethodHandle" ∧ yX3_readInterfaces.cls ≠ "java/lang/invoke/VarHandle" ∧ (parseMethodDescriptor yX3_readInterfaces.desc).map (fun d => d.parameters.length) = some 0 := by decide +kernel
set_option maxRecDepth 20000 in
theorem gX3_X3_readAnnotations {x : Cond} : GoodIn (x :: wG) (wsV RX3 75 RX3 yX3_readAnnotations wsX3_readAnnotations) := gW (List.forall_mem_cons.mpr ⟨wG_in (wT1 (List.mem_of_getElem? (i := 235) (by decide +kernel))) rfl, List.forall_mem_cons.mpr ⟨wG_in (wT1 (List.mem_of_getElem? (i := 237) (by decide +kernel))) rfl, List.forall_mem_cons.mpr ⟨wG_sel (List.mem_of_getElem? (i := 14) (by decide +kernel)) rfl, List.forall_mem_cons.mpr ⟨iX3, List.forall_mem_cons.mpr ⟨kX3_readAnnotations, fun _ h => h⟩⟩⟩⟩⟩)
theorem hdX3_readAnnotations : yX3_readAnnotations.cls = RX3 ∧ yX3_readAnnotations.cls ≠ "java/lang/invoke/MethodHandle" ∧ yX3_readAnnotations.cls ≠ "java/lang/invoke/VarHandle" ∧ (parseMethodDescriptor yX3_readAnnotations.desc).map (fun d => d.parameters.length) = some 0 := by decide +kernel
set_option maxRecDepth 20000 in
theorem gX3_X3_readParts {x : Cond} : GoodIn (x :: wG) (wsV RX3 79 RX3 yX3_readParts wsX3_readParts) := gW (List.forall_mem_cons.mpr ⟨wG_in (wT2 (List.mem_of_getElem? (i := 5) (by decide +kernel))) rfl, List.forall_mem_cons.mpr ⟨wG_in (wT2 (List.mem_of_getElem? (i := 7) (by decide +kernel))) rfl, List.forall_mem_cons.mpr ⟨wG_sel (List.mem_of_getElem? (i := 16) (by decide +kernel)) rfl, List.forall_mem_cons.mpr ⟨iX3, List.forall_mem_cons.mpr ⟨kX3_readParts, fun _ h => h⟩⟩⟩⟩⟩)
theorem hdX3_readParts : yX3_readParts.cls = RX3 ∧ yX3_readParts.cls ≠ "java/lang/invoke/MethodHandle" ∧ yX3_readParts.cls ≠ "java/lang/invoke/VarHandle" ∧ (parseMethodDescriptor yX3_readParts.desc).map (fun d => d.parameters.length) = some 2 := by decide +kernel
set_option maxRecDepth 20000 in
theorem gX3_X3_refuse {x : Cond} : GoodIn (x :: wG) (wsV RX3 83 RX3 yX3_refuse wsX3_refuse) := gW (List.forall_mem_cons.mpr ⟨wG_in (wT1 (List.mem_of_getElem? (i := 171) (by decide +kernel))) rfl, List.forall_mem_cons.mpr ⟨wG_in (wT1 (List.mem_of_getElem? (i := 173) (by decide +kernel))) rfl, List.forall_mem_cons.mpr ⟨wG_sel (List.mem_of_getElem? (i := 2) (by decide +kernel)) rfl, List.forall_mem_cons.mpr ⟨iX3, List.forall_mem_cons.mpr ⟨kX3_refuse, fun _ h => h⟩⟩⟩⟩⟩)
theorem hdX3_refuse : yX3_refuse.cls = RX3 ∧ yX3_refuse.cls ≠ "java/lang/invoke/MethodHandle" ∧ yX3_refuse.cls ≠ "java/lang/invoke/VarHandle" ∧ (parseMethodDescriptor yX3_refuse.desc).map (fun d => d.parameters.length) = some 2 := by decide +kernel
set_option maxRecDepth 20000 in
theorem gX3_X0_init : Cond.methodLink RX3 89 yX0_init ∈ wG := wG_in (wT2 (List.mem_of_getElem? (i := 35) (by decide +kernel))) rfl
set_option maxRecDepth 20000 in
theorem uX0_init : Cond.instanceMethod yX0_init ∈ wG := wG_in (wT2 (List.mem_of_getElem? (i := 36) (by decide +kernel))) rfl
theorem hdX0_init : yX0_init.cls ≠ "java/lang/invoke/MethodHandle" ∧ yX0_init.cls ≠ "java/lang/invoke/VarHandle" ∧ (parseMethodDescriptor yX0_init.desc).map (fun d => d.parameters.length) = some 7 := by decide +kernel
set_option maxRecDepth 20000 in
theorem gX3_X3_next {x : Cond} : GoodIn (x :: wG) (wsV RX3 92 RX3 yX3_next wsX3_next) := gW (List.forall_mem_cons.mpr ⟨wG_in (wT1 (List.mem_of_getElem? (i := 167) (by decide +kernel))) rfl, List.forall_mem_cons.mpr ⟨wG_in (wT1 (List.mem_of_getElem? (i := 169) (by decide +kernel))) rfl, List.forall_mem_cons.mpr ⟨wG_sel (List.mem_of_getElem? (i := 1) (by decide +kernel)) rfl, List.forall_mem_cons.mpr ⟨iX3, List.forall_mem_cons.mpr ⟨kX3_next, fun _ h => h⟩⟩⟩⟩⟩)
theorem hdX3_next : yX3_next.cls = RX3 ∧ yX3_next.cls ≠ "java/lang/invoke/MethodHandle" ∧ yX3_next.cls ≠ "java/lang/invoke/VarHandle" ∧ (parseMethodDescriptor yX3_next.desc).map (fun d => d.parameters.length) = some 0 := by decide +kernel
set_option maxRecDepth 20000 in
theorem gX3_X3_readText {x : Cond} : GoodIn (x :: wG) (wsV RX3 98 RX3 yX3_readText wsX3_readText) := gW (List.forall_mem_cons.mpr ⟨wG_in (wT1 (List.mem_of_getElem? (i := 183) (by decide +kernel))) rfl, List.forall_mem_cons.mpr ⟨wG_in (wT1 (List.mem_of_getElem? (i := 185) (by decide +kernel))) rfl, List.forall_mem_cons.mpr ⟨wG_sel (List.mem_of_getElem? (i := 5) (by decide +kernel)) rfl, List.forall_mem_cons.mpr ⟨iX3, List.forall_mem_cons.mpr ⟨kX3_readText, fun _ h => h⟩⟩⟩⟩⟩)
theorem hdX3_readText : yX3_readText.cls = RX3 ∧ yX3_readText.cls ≠ "java/lang/invoke/MethodHandle" ∧ yX3_readText.cls ≠ "java/lang/invoke/VarHandle" ∧ (parseMethodDescriptor yX3_readText.desc).map (fun d => d.parameters.length) = some 0 := by decide +kernel
set_option maxRecDepth 20000 in
theorem gX3_X3_readInt {x : Cond} : GoodIn (x :: wG) (wsV RX3 101 RX3 yX3_readInt wsX3_readInt) := gW (List.forall_mem_cons.mpr ⟨wG_in (wT1 (List.mem_of_getElem? (i := 195) (by decide +kernel))) rfl, List.forall_mem_cons.mpr ⟨wG_in (wT1 (List.mem_of_getElem? (i := 197) (by decide +kernel))) rfl, List.forall_mem_cons.mpr ⟨wG_sel (List.mem_of_getElem? (i := 7) (by decide +kernel)) rfl, List.forall_mem_cons.mpr ⟨iX3, List.forall_mem_cons.mpr ⟨kX3_readInt, fun _ h => h⟩⟩⟩⟩⟩)
theorem hdX3_readInt : yX3_readInt.cls = RX3 ∧ yX3_readInt.cls ≠ "java/lang/invoke/MethodHandle" ∧ yX3_readInt.cls ≠ "java/lang/invoke/VarHandle" ∧ (parseMethodDescriptor yX3_readInt.desc).map (fun d => d.parameters.length) = some 0 := by decide +kernel
set_option maxRecDepth 20000 in
theorem gX3_X4_numberOf {x : Cond} : GoodIn (x :: wG) (wsV RX3 104 RX4 yX4_numberOf wsX4_numberOf) := gW (List.forall_mem_cons.mpr ⟨wG_in (wT1 (List.mem_of_getElem? (i := 187) (by decide +kernel))) rfl, List.forall_mem_cons.mpr ⟨wG_in (wT1 (List.mem_of_getElem? (i := 188) (by decide +kernel))) rfl, List.forall_mem_cons.mpr ⟨wG_in (wT1 (List.mem_of_getElem? (i := 189) (by decide +kernel))) rfl, List.forall_mem_cons.mpr ⟨iX4, List.forall_mem_cons.mpr ⟨kX4_numberOf, fun _ h => h⟩⟩⟩⟩⟩)
theorem hdX4_numberOf : yX4_numberOf.cls = RX4 ∧ yX4_numberOf.cls ≠ "java/lang/invoke/MethodHandle" ∧ yX4_numberOf.cls ≠ "java/lang/invoke/VarHandle" ∧ (parseMethodDescriptor yX4_numberOf.desc).map (fun d => d.parameters.length) = some 3 := by decide +kernel
set_option maxRecDepth 20000 in
theorem gX3_X3_isConstant {x : Cond} : GoodIn (x :: wG) (wsV RX3 110 RX3 yX3_isConstant wsX3_isConstant) := gW (List.forall_mem_cons.mpr ⟨wG_in (wT1 (List.mem_of_getElem? (i := 203) (by decide +kernel))) rfl, List.forall_mem_cons.mpr ⟨wG_in (wT1 (List.mem_of_getElem? (i := 205) (by decide +kernel))) rfl, List.forall_mem_cons.mpr ⟨wG_sel (List.mem_of_getElem? (i := 9) (by decide +kernel)) rfl, List.forall_mem_cons.mpr ⟨iX3, List.forall_mem_cons.mpr ⟨kX3_isConstant, fun _ h => h⟩⟩⟩⟩⟩)
theorem hdX3_isConstant : yX3_isConstant.cls = RX3 ∧ yX3_isConstant.cls ≠ "java/lang/invoke/MethodHandle" ∧ yX3_isConstant.cls ≠ "java/lang/invoke/VarHandle" ∧ (parseMethodDescriptor yX3_isConstant.desc).map (fun d => d.parameters.length) = some 2 := by decide +kernel
set_option maxRecDepth 20000 in
theorem gX3_X4_lengthOf {x : Cond} : GoodIn (x :: wG) (wsV RX3 114 RX4 yX4_lengthOf wsX4_lengthOf) := gW (List.forall_mem_cons.mpr ⟨wG_in (wT1 (List.mem_of_getElem? (i := 207) (by decide +kernel))) rfl, List.forall_mem_cons.mpr ⟨wG_in (wT1 (List.mem_of_getElem? (i := 208) (by decide +kernel))) rfl, List.forall_mem_cons.mpr ⟨wG_in (wT1 (List.mem_of_getElem? (i := 209) (by decide +kernel))) rfl, List.forall_mem_cons.mpr ⟨iX4, List.forall_mem_cons.mpr ⟨kX4_lengthOf, fun _ h => h⟩⟩⟩⟩⟩)
theorem hdX4_lengthOf : yX4_lengthOf.cls = RX4 ∧ yX4_lengthOf.cls ≠ "java/lang/invoke/MethodHandle" ∧ yX4_lengthOf.cls ≠ "java/lang/invoke/VarHandle" ∧ (parseMethodDescriptor yX4_lengthOf.desc).map (fun d => d.parameters.length) = some 1 := by decide +kernel
set_option maxRecDepth 20000 in
theorem gX3_X3_readConstant {x : Cond} : GoodIn (x :: wG) (wsV RX3 117 RX3 yX3_readConstant wsX3_readConstant) := gW (List.forall_mem_cons.mpr ⟨wG_in (wT1 (List.mem_of_getElem? (i := 219) (by decide +kernel))) rfl, List.forall_mem_cons.mpr ⟨wG_in (wT1 (List.mem_of_getElem? (i := 221) (by decide +kernel))) rfl, List.forall_mem_cons.mpr ⟨wG_sel (List.mem_of_getElem? (i := 11) (by decide +kernel)) rfl, List.forall_mem_cons.mpr ⟨iX3, List.forall_mem_cons.mpr ⟨kX3_readConstant, fun _ h => h⟩⟩⟩⟩⟩)
theorem hdX3_readConstant : yX3_readConstant.cls = RX3 ∧ yX3_readConstant.cls ≠ "java/lang/invoke/MethodHandle" ∧ yX3_readConstant.cls ≠ "java/lang/invoke/VarHandle" ∧ (parseMethodDescriptor yX3_readConstant.desc).map (fun d => d.parameters.length) = some 1 := by decide +kernel
set_option maxRecDepth 20000 in
theorem gX3_X1_named {x : Cond} : GoodIn (x :: wG) (wsV RX3 120 RX1 yX1_named wsX1_named) := gW (List.forall_mem_cons.mpr ⟨wG_in (wT1 (List.mem_of_getElem? (i := 223) (by decide +kernel))) rfl, List.forall_mem_cons.mpr ⟨wG_in (wT1 (List.mem_of_getElem? (i := 224) (by decide +kernel))) rfl, List.forall_mem_cons.mpr ⟨wG_in (wT1 (List.mem_of_getElem? (i := 225) (by decide +kernel))) rfl, List.forall_mem_cons.mpr ⟨iX1, List.forall_mem_cons.mpr ⟨kX1_named, fun _ h => h⟩⟩⟩⟩⟩)
set_option maxRecDepth 20000 in
theorem gX3_X3_readAnnotation {x : Cond} : GoodIn (x :: wG) (wsV RX3 127 RX3 yX3_readAnnotation wsX3_readAnnotation) := gW (List.forall_mem_cons.mpr ⟨wG_in (wT2 (List.mem_of_getElem? (i := 0) (by decide +kernel))) rfl, List.forall_mem_cons.mpr ⟨wG_in (wT2 (List.mem_of_getElem? (i := 2) (by decide +kernel))) rfl, List.forall_mem_cons.mpr ⟨wG_sel (List.mem_of_getElem? (i := 15) (by decide +kernel)) rfl, List.forall_mem_cons.mpr ⟨iX3, List.forall_mem_cons.mpr ⟨kX3_readAnnotation, fun _ h => h⟩⟩⟩⟩⟩)
theorem hdX3_readAnnotation : yX3_readAnnotation.cls = RX3 ∧ yX3_readAnnotation.cls ≠ "java/lang/invoke/MethodHandle" ∧ yX3_readAnnotation.cls ≠ "java/lang/invoke/VarHandle" ∧ (parseMethodDescriptor yX3_readAnnotation.desc).map (fun d => d.parameters.length) = some 1 := by decide +kernel
set_option maxRecDepth 20000 in
theorem gX3_X5_init : Cond.methodLink RX3 131 yX5_init ∈ wG := wG_in (wT2 (List.mem_of_getElem? (i := 13) (by decide +kernel))) rfl
set_option maxRecDepth 20000 in
theorem uX5_init : Cond.instanceMethod yX5_init ∈ wG := wG_in (wT2 (List.mem_of_getElem? (i := 14) (by decide +kernel))) rfl
theorem hdX5_init : yX5_init.cls ≠ "java/lang/invoke/MethodHandle" ∧ yX5_init.cls ≠ "java/lang/invoke/VarHandle" ∧ (parseMethodDescriptor yX5_init.desc).map (fun d => d.parameters.length) = some 3 := by decide +kernel
set_option maxRecDepth 20000 in
theorem gX3_X3_readValue {x : Cond} : GoodIn (x :: wG) (wsV RX3 141 RX3 yX3_readValue wsX3_readValue) := gW (List.forall_mem_cons.mpr ⟨wG_in (wT2 (List.mem_of_getElem? (i := 9) (by decide +kernel))) rfl, List.forall_mem_cons.mpr ⟨wG_in (wT2 (List.mem_of_getElem? (i := 11) (by decide +kernel))) rfl, List.forall_mem_cons.mpr ⟨wG_sel (List.mem_of_getElem? (i := 17) (by decide +kernel)) rfl, List.forall_mem_cons.mpr ⟨iX3, List.forall_mem_cons.mpr ⟨kX3_readValue, fun _ h => h⟩⟩⟩⟩⟩)
theorem hdX3_readValue : yX3_readValue.cls = RX3 ∧ yX3_readValue.cls ≠ "java/lang/invoke/MethodHandle" ∧ yX3_readValue.cls ≠ "java/lang/invoke/VarHandle" ∧ (parseMethodDescriptor yX3_readValue.desc).map (fun d => d.parameters.length) = some 1 := by decide +kernel
set_option maxRecDepth 20000 in
theorem gX3_X3_readRow {x : Cond} : GoodIn (x :: wG) (wsV RX3 144 RX3 yX3_readRow wsX3_readRow) := gW (List.forall_mem_cons.mpr ⟨wG_in (wT2 (List.mem_of_getElem? (i := 29) (by decide +kernel))) rfl, List.forall_mem_cons.mpr ⟨wG_in (wT2 (List.mem_of_getElem? (i := 31) (by decide +kernel))) rfl, List.forall_mem_cons.mpr ⟨wG_sel (List.mem_of_getElem? (i := 18) (by decide +kernel)) rfl, List.forall_mem_cons.mpr ⟨iX3, List.forall_mem_cons.mpr ⟨kX3_readRow, fun _ h => h⟩⟩⟩⟩⟩)
theorem hdX3_readRow : yX3_readRow.cls = RX3 ∧ yX3_readRow.cls ≠ "java/lang/invoke/MethodHandle" ∧ yX3_readRow.cls ≠ "java/lang/invoke/VarHandle" ∧ (parseMethodDescriptor yX3_readRow.desc).map (fun d => d.parameters.length) = some 1 := by decide +kernel
set_option maxRecDepth 20000 in
theorem gX4_X4_has {x : Cond} : GoodIn (x :: wG) (wsV RX4 23 RX4 yX4_has wsX4_has) := gW (List.forall_mem_cons.mpr ⟨wG_in (wT1 (List.mem_of_getElem? (i := 211) (by decide +kernel))) rfl, List.forall_mem_cons.mpr ⟨wG_in (wT1 (List.mem_of_getElem? (i := 212) (by decide +kernel))) rfl, List.forall_mem_cons.mpr ⟨wG_in (wT1 (List.mem_of_getElem? (i := 213) (by decide +kernel))) rfl, List.forall_mem_cons.mpr ⟨iX4, List.forall_mem_cons.mpr ⟨kX4_has, fun _ h => h⟩⟩⟩⟩⟩)
theorem hdX4_has : yX4_has.cls = RX4 ∧ yX4_has.cls ≠ "java/lang/invoke/MethodHandle" ∧ yX4_has.cls ≠ "java/lang/invoke/VarHandle" ∧ (parseMethodDescriptor yX4_has.desc).map (fun d => d.parameters.length) = some 1 := by decide +kernel
set_option maxRecDepth 20000 in
theorem gX4_X4_lengthOf {x : Cond} : GoodIn (x :: wG) (wsV RX4 27 RX4 yX4_lengthOf wsX4_lengthOf) := gW (List.forall_mem_cons.mpr ⟨wG_in (wT2 (List.mem_of_getElem? (i := 100) (by decide +kernel))) rfl, List.forall_mem_cons.mpr ⟨wG_in (wT1 (List.mem_of_getElem? (i := 208) (by decide +kernel))) rfl, List.forall_mem_cons.mpr ⟨wG_in (wT1 (List.mem_of_getElem? (i := 209) (by decide +kernel))) rfl, List.forall_mem_cons.mpr ⟨iX4, List.forall_mem_cons.mpr ⟨kX4_lengthOf, fun _ h => h⟩⟩⟩⟩⟩)
set_option maxRecDepth 20000 in
theorem gX4_X4_isText {x : Cond} : GoodIn (x :: wG) (wsV RX4 31 RX4 yX4_isText wsX4_isText) := gW (List.forall_mem_cons.mpr ⟨wG_in (wT1 (List.mem_of_getElem? (i := 191) (by decide +kernel))) rfl, List.forall_mem_cons.mpr ⟨wG_in (wT1 (List.mem_of_getElem? (i := 193) (by decide +kernel))) rfl, List.forall_mem_cons.mpr ⟨wG_sel (List.mem_of_getElem? (i := 6) (by decide +kernel)) rfl, List.forall_mem_cons.mpr ⟨iX4, List.forall_mem_cons.mpr ⟨kX4_isText, fun _ h => h⟩⟩⟩⟩⟩)
theorem hdX4_isText : yX4_isText.cls = RX4 ∧ yX4_isText.cls ≠ "java/lang/invoke/MethodHandle" ∧ yX4_isText.cls ≠ "java/lang/invoke/VarHandle" ∧ (parseMethodDescriptor yX4_isText.desc).map (fun d => d.parameters.length) = some 4 := by decide +kernel
set_option maxRecDepth 20000 in
theorem gX5_X2_nth {x : Cond} : GoodIn (x :: wG) (wsV RX5 24 RX2 yX2_nth wsX2_nth) := gW (List.forall_mem_cons.mpr ⟨wG_in (wT2 (List.mem_of_getElem? (i := 179) (by decide +kernel))) rfl, List.forall_mem_cons.mpr ⟨wG_in (wT2 (List.mem_of_getElem? (i := 180) (by decide +kernel))) rfl, List.forall_mem_cons.mpr ⟨wG_in (wT2 (List.mem_of_getElem? (i := 181) (by decide +kernel))) rfl, List.forall_mem_cons.mpr ⟨iX2, List.forall_mem_cons.mpr ⟨kX2_nth, fun _ h => h⟩⟩⟩⟩⟩)
theorem hdX2_nth : yX2_nth.cls = RX2 ∧ yX2_nth.cls ≠ "java/lang/invoke/MethodHandle" ∧ yX2_nth.cls ≠ "java/lang/invoke/VarHandle" ∧ (parseMethodDescriptor yX2_nth.desc).map (fun d => d.parameters.length) = some 1 := by decide +kernel
set_option maxRecDepth 20000 in
theorem gX5_X5_isAnnotationOf {x : Cond} : GoodIn (x :: wG) (wsV RX5 34 RX5 yX5_isAnnotationOf wsX5_isAnnotationOf) := gW (List.forall_mem_cons.mpr ⟨wG_in (wT2 (List.mem_of_getElem? (i := 183) (by decide +kernel))) rfl, List.forall_mem_cons.mpr ⟨wG_in (wT2 (List.mem_of_getElem? (i := 156) (by decide +kernel))) rfl, List.forall_mem_cons.mpr ⟨wG_in (wT2 (List.mem_of_getElem? (i := 157) (by decide +kernel))) rfl, List.forall_mem_cons.mpr ⟨iX5, List.forall_mem_cons.mpr ⟨kX5_isAnnotationOf, fun _ h => h⟩⟩⟩⟩⟩)
set_option maxRecDepth 20000 in
theorem gX6_X4_init : Cond.methodLink RX6 19 yX4_init ∈ wG := wG_in (wT1 (List.mem_of_getElem? (i := 21) (by decide +kernel))) rfl
set_option maxRecDepth 20000 in
theorem uX4_init : Cond.instanceMethod yX4_init ∈ wG := wG_in (wT1 (List.mem_of_getElem? (i := 22) (by decide +kernel))) rfl
theorem hdX4_init : yX4_init.cls ≠ "java/lang/invoke/MethodHandle" ∧ yX4_init.cls ≠ "java/lang/invoke/VarHandle" ∧ (parseMethodDescriptor yX4_init.desc).map (fun d => d.parameters.length) = some 0 := by decide +kernel
set_option maxRecDepth 20000 in
theorem gX6_X1_init : Cond.methodLink RX6 26 yX1_init ∈ wG := wG_in (wT1 (List.mem_of_getElem? (i := 40) (by decide +kernel))) rfl
set_option maxRecDepth 20000 in
theorem uX1_init : Cond.instanceMethod yX1_init ∈ wG := wG_in (wT1 (List.mem_of_getElem? (i := 41) (by decide +kernel))) rfl
theorem hdX1_init : yX1_init.cls ≠ "java/lang/invoke/MethodHandle" ∧ yX1_init.cls ≠ "java/lang/invoke/VarHandle" ∧ (parseMethodDescriptor yX1_init.desc).map (fun d => d.parameters.length) = some 0 := by decide +kernel
set_option maxRecDepth 20000 in
theorem gX6_X3_init : Cond.methodLink RX6 33 yX3_init ∈ wG := wG_in (wT1 (List.mem_of_getElem? (i := 70) (by decide +kernel))) rfl
set_option maxRecDepth 20000 in
theorem uX3_init : Cond.instanceMethod yX3_init ∈ wG := wG_in (wT1 (List.mem_of_getElem? (i := 71) (by decide +kernel))) rfl
theorem hdX3_init : yX3_init.cls ≠ "java/lang/invoke/MethodHandle" ∧ yX3_init.cls ≠ "java/lang/invoke/VarHandle" ∧ (parseMethodDescriptor yX3_init.desc).map (fun d => d.parameters.length) = some 0 := by decide +kernel
set_option maxRecDepth 20000 in
theorem gX6_X3_readFile {x : Cond} : GoodIn (x :: wG) (wsV RX6 42 RX3 yX3_readFile wsX3_readFile) := gW (List.forall_mem_cons.mpr ⟨wG_in (wT1 (List.mem_of_getElem? (i := 159) (by decide +kernel))) rfl, List.forall_mem_cons.mpr ⟨wG_in (wT1 (List.mem_of_getElem? (i := 160) (by decide +kernel))) rfl, List.forall_mem_cons.mpr ⟨wG_in (wT1 (List.mem_of_getElem? (i := 161) (by decide +kernel))) rfl, List.forall_mem_cons.mpr ⟨iX3, List.forall_mem_cons.mpr ⟨kX3_readFile, fun _ h => h⟩⟩⟩⟩⟩)
theorem hdX3_readFile : yX3_readFile.cls = RX3 ∧ yX3_readFile.cls ≠ "java/lang/invoke/MethodHandle" ∧ yX3_readFile.cls ≠ "java/lang/invoke/VarHandle" ∧ (parseMethodDescriptor yX3_readFile.desc).map (fun d => d.parameters.length) = some 4 := by decide +kernel
set_option maxRecDepth 20000 in
theorem gX6_X4_shrink {x : Cond} : GoodIn (x :: wG) (wsV RX6 46 RX4 yX4_shrink wsX4_shrink) := gW (List.forall_mem_cons.mpr ⟨wG_in (wT2 (List.mem_of_getElem? (i := 75) (by decide +kernel))) rfl, List.forall_mem_cons.mpr ⟨wG_in (wT2 (List.mem_of_getElem? (i := 76) (by decide +kernel))) rfl, List.forall_mem_cons.mpr ⟨wG_in (wT2 (List.mem_of_getElem? (i := 77) (by decide +kernel))) rfl, List.forall_mem_cons.mpr ⟨iX4, List.forall_mem_cons.mpr ⟨kX4_shrink, fun _ h => h⟩⟩⟩⟩⟩)
theorem hdX4_shrink : yX4_shrink.cls = RX4 ∧ yX4_shrink.cls ≠ "java/lang/invoke/MethodHandle" ∧ yX4_shrink.cls ≠ "java/lang/invoke/VarHandle" ∧ (parseMethodDescriptor yX4_shrink.desc).map (fun d => d.parameters.length) = some 1 := by decide +kernel
set_option maxRecDepth 20000 in
theorem gX6_X1_add {x : Cond} : GoodIn (x :: wG) (wsV RX6 53 RX1 yX1_add wsX1_add) := gW (List.forall_mem_cons.mpr ⟨wG_in (wT2 (List.mem_of_getElem? (i := 79) (by decide +kernel))) rfl, List.forall_mem_cons.mpr ⟨wG_in (wT2 (List.mem_of_getElem? (i := 80) (by decide +kernel))) rfl, List.forall_mem_cons.mpr ⟨wG_in (wT2 (List.mem_of_getElem? (i := 81) (by decide +kernel))) rfl, List.forall_mem_cons.mpr ⟨iX1, List.forall_mem_cons.mpr ⟨kX1_add, fun _ h => h⟩⟩⟩⟩⟩)
theorem hdX1_add : yX1_add.cls = RX1 ∧ yX1_add.cls ≠ "java/lang/invoke/MethodHandle" ∧ yX1_add.cls ≠ "java/lang/invoke/VarHandle" ∧ (parseMethodDescriptor yX1_add.desc).map (fun d => d.parameters.length) = some 1 := by decide +kernel
set_option maxRecDepth 20000 in
theorem gX6_X4_has {x : Cond} : GoodIn (x :: wG) (wsV RX6 57 RX4 yX4_has wsX4_has) := gW (List.forall_mem_cons.mpr ⟨wG_in (wT2 (List.mem_of_getElem? (i := 95) (by decide +kernel))) rfl, List.forall_mem_cons.mpr ⟨wG_in (wT1 (List.mem_of_getElem? (i := 212) (by decide +kernel))) rfl, List.forall_mem_cons.mpr ⟨wG_in (wT1 (List.mem_of_getElem? (i := 213) (by decide +kernel))) rfl, List.forall_mem_cons.mpr ⟨iX4, List.forall_mem_cons.mpr ⟨kX4_has, fun _ h => h⟩⟩⟩⟩⟩)
set_option maxRecDepth 20000 in
theorem gX6_X4_letterOf {x : Cond} : GoodIn (x :: wG) (wsV RX6 61 RX4 yX4_letterOf wsX4_letterOf) := gW (List.forall_mem_cons.mpr ⟨wG_in (wT2 (List.mem_of_getElem? (i := 96) (by decide +kernel))) rfl, List.forall_mem_cons.mpr ⟨wG_in (wT2 (List.mem_of_getElem? (i := 97) (by decide +kernel))) rfl, List.forall_mem_cons.mpr ⟨wG_in (wT2 (List.mem_of_getElem? (i := 98) (by decide +kernel))) rfl, List.forall_mem_cons.mpr ⟨iX4, List.forall_mem_cons.mpr ⟨kX4_letterOf, fun _ h => h⟩⟩⟩⟩⟩)
theorem hdX4_letterOf : yX4_letterOf.cls = RX4 ∧ yX4_letterOf.cls ≠ "java/lang/invoke/MethodHandle" ∧ yX4_letterOf.cls ≠ "java/lang/invoke/VarHandle" ∧ (parseMethodDescriptor yX4_letterOf.desc).map (fun d => d.parameters.length) = some 2 := by decide +kernel
set_option maxRecDepth 20000 in
theorem gX6_X1_named {x : Cond} : GoodIn (x :: wG) (wsV RX6 65 RX1 yX1_named wsX1_named) := gW (List.forall_mem_cons.mpr ⟨wG_in (wT2 (List.mem_of_getElem? (i := 105) (by decide +kernel))) rfl, List.forall_mem_cons.mpr ⟨wG_in (wT1 (List.mem_of_getElem? (i := 224) (by decide +kernel))) rfl, List.forall_mem_cons.mpr ⟨wG_in (wT1 (List.mem_of_getElem? (i := 225) (by decide +kernel))) rfl, List.forall_mem_cons.mpr ⟨iX1, List.forall_mem_cons.mpr ⟨kX1_named, fun _ h => h⟩⟩⟩⟩⟩)
set_option maxRecDepth 20000 in
theorem gX6_X1_has {x : Cond} : GoodIn (x :: wG) (wsV RX6 69 RX1 yX1_has wsX1_has) := gW (List.forall_mem_cons.mpr ⟨wG_in (wT2 (List.mem_of_getElem? (i := 110) (by decide +kernel))) rfl, List.forall_mem_cons.mpr ⟨wG_in (wT2 (List.mem_of_getElem? (i := 111) (by decide +kernel))) rfl, List.forall_mem_cons.mpr ⟨wG_in (wT2 (List.mem_of_getElem? (i := 112) (by decide +kernel))) rfl, List.forall_mem_cons.mpr ⟨iX1, List.forall_mem_cons.mpr ⟨kX1_has, fun _ h => h⟩⟩⟩⟩⟩)
theorem hdX1_has : yX1_has.cls = RX1 ∧ yX1_has.cls ≠ "java/lang/invoke/MethodHandle" ∧ yX1_has.cls ≠ "java/lang/invoke/VarHandle" ∧ (parseMethodDescriptor yX1_has.desc).map (fun d => d.parameters.length) = some 1 := by decide +kernel
set_option maxRecDepth 20000 in
theorem gX6_X6_areThere {x : Cond} : GoodIn (x :: wG) (wsV RX6 85 RX6 yX6_areThere wsX6_areThere) := gW (List.forall_mem_cons.mpr ⟨wG_in (wT2 (List.mem_of_getElem? (i := 126) (by decide +kernel))) rfl, List.forall_mem_cons.mpr ⟨wG_in (wT2 (List.mem_of_getElem? (i := 128) (by decide +kernel))) rfl, List.forall_mem_cons.mpr ⟨wG_sel (List.mem_of_getElem? (i := 19) (by decide +kernel)) rfl, List.forall_mem_cons.mpr ⟨iX6, List.forall_mem_cons.mpr ⟨kX6_areThere, fun _ h => h⟩⟩⟩⟩⟩)
theorem hdX6_areThere : yX6_areThere.cls = RX6 ∧ yX6_areThere.cls ≠ "java/lang/invoke/MethodHandle" ∧ yX6_areThere.cls ≠ "java/lang/invoke/VarHandle" ∧ (parseMethodDescriptor yX6_areThere.desc).map (fun d => d.parameters.length) = some 2 := by decide +kernel
set_option maxRecDepth 20000 in
theorem gX6_X1_leadsTo {x : Cond} : GoodIn (x :: wG) (wsV RX6 89 RX1 yX1_leadsTo wsX1_leadsTo) := gW (List.forall_mem_cons.mpr ⟨wG_in (wT2 (List.mem_of_getElem? (i := 130) (by decide +kernel))) rfl, List.forall_mem_cons.mpr ⟨wG_in (wT2 (List.mem_of_getElem? (i := 131) (by decide +kernel))) rfl, List.forall_mem_cons.mpr ⟨wG_in (wT2 (List.mem_of_getElem? (i := 132) (by decide +kernel))) rfl, List.forall_mem_cons.mpr ⟨iX1, List.forall_mem_cons.mpr ⟨kX1_leadsTo, fun _ h => h⟩⟩⟩⟩⟩)
theorem hdX1_leadsTo : yX1_leadsTo.cls = RX1 ∧ yX1_leadsTo.cls ≠ "java/lang/invoke/MethodHandle" ∧ yX1_leadsTo.cls ≠ "java/lang/invoke/VarHandle" ∧ (parseMethodDescriptor yX1_leadsTo.desc).map (fun d => d.parameters.length) = some 3 := by decide +kernel
set_option maxRecDepth 20000 in
theorem gX6_X1_chainSteps {x : Cond} : GoodIn (x :: wG) (wsV RX6 93 RX1 yX1_chainSteps wsX1_chainSteps) := gW (List.forall_mem_cons.mpr ⟨wG_in (wT2 (List.mem_of_getElem? (i := 147) (by decide +kernel))) rfl, List.forall_mem_cons.mpr ⟨wG_in (wT2 (List.mem_of_getElem? (i := 148) (by decide +kernel))) rfl, List.forall_mem_cons.mpr ⟨wG_in (wT2 (List.mem_of_getElem? (i := 149) (by decide +kernel))) rfl, List.forall_mem_cons.mpr ⟨iX1, List.forall_mem_cons.mpr ⟨kX1_chainSteps, fun _ h => h⟩⟩⟩⟩⟩)
theorem hdX1_chainSteps : yX1_chainSteps.cls = RX1 ∧ yX1_chainSteps.cls ≠ "java/lang/invoke/MethodHandle" ∧ yX1_chainSteps.cls ≠ "java/lang/invoke/VarHandle" ∧ (parseMethodDescriptor yX1_chainSteps.desc).map (fun d => d.parameters.length) = some 1 := by decide +kernel
set_option maxRecDepth 20000 in
theorem gX6_X0_firstAnnotation {x : Cond} : GoodIn (x :: wG) (wsV RX6 96 RX0 yX0_firstAnnotation wsX0_firstAnnotation) := gW (List.forall_mem_cons.mpr ⟨wG_in (wT2 (List.mem_of_getElem? (i := 151) (by decide +kernel))) rfl, List.forall_mem_cons.mpr ⟨wG_in (wT2 (List.mem_of_getElem? (i := 152) (by decide +kernel))) rfl, List.forall_mem_cons.mpr ⟨wG_in (wT2 (List.mem_of_getElem? (i := 153) (by decide +kernel))) rfl, List.forall_mem_cons.mpr ⟨iX0, List.forall_mem_cons.mpr ⟨kX0_firstAnnotation, fun _ h => h⟩⟩⟩⟩⟩)
theorem hdX0_firstAnnotation : yX0_firstAnnotation.cls = RX0 ∧ yX0_firstAnnotation.cls ≠ "java/lang/invoke/MethodHandle" ∧ yX0_firstAnnotation.cls ≠ "java/lang/invoke/VarHandle" ∧ (parseMethodDescriptor yX0_firstAnnotation.desc).map (fun d => d.parameters.length) = some 1 := by decide +kernel
set_option maxRecDepth 20000 in
theorem gX6_X1_superclass {x : Cond} : GoodIn (x :: wG) (wsV RX6 100 RX1 yX1_superclass wsX1_superclass) := gW (List.forall_mem_cons.mpr ⟨wG_in (wT2 (List.mem_of_getElem? (i := 159) (by decide +kernel))) rfl, List.forall_mem_cons.mpr ⟨wG_in (wT2 (List.mem_of_getElem? (i := 160) (by decide +kernel))) rfl, List.forall_mem_cons.mpr ⟨wG_in (wT2 (List.mem_of_getElem? (i := 161) (by decide +kernel))) rfl, List.forall_mem_cons.mpr ⟨iX1, List.forall_mem_cons.mpr ⟨kX1_superclass, fun _ h => h⟩⟩⟩⟩⟩)
theorem hdX1_superclass : yX1_superclass.cls = RX1 ∧ yX1_superclass.cls ≠ "java/lang/invoke/MethodHandle" ∧ yX1_superclass.cls ≠ "java/lang/invoke/VarHandle" ∧ (parseMethodDescriptor yX1_superclass.desc).map (fun d => d.parameters.length) = some 1 := by decide +kernel
set_option maxRecDepth 20000 in
theorem gX6_X1_containerOf {x : Cond} : GoodIn (x :: wG) (wsV RX6 103 RX1 yX1_containerOf wsX1_containerOf) := gW (List.forall_mem_cons.mpr ⟨wG_in (wT2 (List.mem_of_getElem? (i := 167) (by decide +kernel))) rfl, List.forall_mem_cons.mpr ⟨wG_in (wT2 (List.mem_of_getElem? (i := 168) (by decide +kernel))) rfl, List.forall_mem_cons.mpr ⟨wG_in (wT2 (List.mem_of_getElem? (i := 169) (by decide +kernel))) rfl, List.forall_mem_cons.mpr ⟨iX1, List.forall_mem_cons.mpr ⟨kX1_containerOf, fun _ h => h⟩⟩⟩⟩⟩)
theorem hdX1_containerOf : yX1_containerOf.cls = RX1 ∧ yX1_containerOf.cls ≠ "java/lang/invoke/MethodHandle" ∧ yX1_containerOf.cls ≠ "java/lang/invoke/VarHandle" ∧ (parseMethodDescriptor yX1_containerOf.desc).map (fun d => d.parameters.length) = some 1 := by decide +kernel
set_option maxRecDepth 20000 in
theorem gX6_X0_annotationsOf {x : Cond} : GoodIn (x :: wG) (wsV RX6 106 RX0 yX0_annotationsOf wsX0_annotationsOf) := gW (List.forall_mem_cons.mpr ⟨wG_in (wT2 (List.mem_of_getElem? (i := 171) (by decide +kernel))) rfl, List.forall_mem_cons.mpr ⟨wG_in (wT2 (List.mem_of_getElem? (i := 172) (by decide +kernel))) rfl, List.forall_mem_cons.mpr ⟨wG_in (wT2 (List.mem_of_getElem? (i := 173) (by decide +kernel))) rfl, List.forall_mem_cons.mpr ⟨iX0, List.forall_mem_cons.mpr ⟨kX0_annotationsOf, fun _ h => h⟩⟩⟩⟩⟩)
theorem hdX0_annotationsOf : yX0_annotationsOf.cls = RX0 ∧ yX0_annotationsOf.cls ≠ "java/lang/invoke/MethodHandle" ∧ yX0_annotationsOf.cls ≠ "java/lang/invoke/VarHandle" ∧ (parseMethodDescriptor yX0_annotationsOf.desc).map (fun d => d.parameters.length) = some 2 := by decide +kernel
set_option maxRecDepth 20000 in
theorem gX6_X6_holder {x : Cond} : GoodIn (x :: wG) (wsV RX6 109 RX6 yX6_holder wsX6_holder) := gW (List.forall_mem_cons.mpr ⟨wG_in (wT2 (List.mem_of_getElem? (i := 192) (by decide +kernel))) rfl, List.forall_mem_cons.mpr ⟨wG_in (wT2 (List.mem_of_getElem? (i := 144) (by decide +kernel))) rfl, List.forall_mem_cons.mpr ⟨wG_in (wT2 (List.mem_of_getElem? (i := 145) (by decide +kernel))) rfl, List.forall_mem_cons.mpr ⟨iX6, List.forall_mem_cons.mpr ⟨kX6_holder, fun _ h => h⟩⟩⟩⟩⟩)
theorem hdX6_holder : yX6_holder.cls = RX6 ∧ yX6_holder.cls ≠ "java/lang/invoke/MethodHandle" ∧ yX6_holder.cls ≠ "java/lang/invoke/VarHandle" ∧ (parseMethodDescriptor yX6_holder.desc).map (fun d => d.parameters.length) = some 2 := by decide +kernel
set_option maxRecDepth 20000 in
theorem gX6_X6_elementOrDefault {x : Cond} : GoodIn (x :: wG) (wsV RX6 114 RX6 yX6_elementOrDefault wsX6_elementOrDefault) := gW (List.forall_mem_cons.mpr ⟨wG_in (wT2 (List.mem_of_getElem? (i := 194) (by decide +kernel))) rfl, List.forall_mem_cons.mpr ⟨wG_in (wT2 (List.mem_of_getElem? (i := 196) (by decide +kernel))) rfl, List.forall_mem_cons.mpr ⟨wG_sel (List.mem_of_getElem? (i := 20) (by decide +kernel)) rfl, List.forall_mem_cons.mpr ⟨iX6, List.forall_mem_cons.mpr ⟨kX6_elementOrDefault, fun _ h => h⟩⟩⟩⟩⟩)
theorem hdX6_elementOrDefault : yX6_elementOrDefault.cls = RX6 ∧ yX6_elementOrDefault.cls ≠ "java/lang/invoke/MethodHandle" ∧ yX6_elementOrDefault.cls ≠ "java/lang/invoke/VarHandle" ∧ (parseMethodDescriptor yX6_elementOrDefault.desc).map (fun d => d.parameters.length) = some 3 := by decide +kernel
set_option maxRecDepth 20000 in
theorem gX6_X2_nth {x : Cond} : GoodIn (x :: wG) (wsV RX6 124 RX2 yX2_nth wsX2_nth) := gW (List.forall_mem_cons.mpr ⟨wG_in (wT2 (List.mem_of_getElem? (i := 202) (by decide +kernel))) rfl, List.forall_mem_cons.mpr ⟨wG_in (wT2 (List.mem_of_getElem? (i := 180) (by decide +kernel))) rfl, List.forall_mem_cons.mpr ⟨wG_in (wT2 (List.mem_of_getElem? (i := 181) (by decide +kernel))) rfl, List.forall_mem_cons.mpr ⟨iX2, List.forall_mem_cons.mpr ⟨kX2_nth, fun _ h => h⟩⟩⟩⟩⟩)
set_option maxRecDepth 20000 in
theorem gX6_X5_answer {x : Cond} : GoodIn (x :: wG) (wsV RX6 129 RX5 yX5_answer wsX5_answer) := gW (List.forall_mem_cons.mpr ⟨wG_in (wT2 (List.mem_of_getElem? (i := 203) (by decide +kernel))) rfl, List.forall_mem_cons.mpr ⟨wG_in (wT2 (List.mem_of_getElem? (i := 204) (by decide +kernel))) rfl, List.forall_mem_cons.mpr ⟨wG_in (wT2 (List.mem_of_getElem? (i := 205) (by decide +kernel))) rfl, List.forall_mem_cons.mpr ⟨iX5, List.forall_mem_cons.mpr ⟨kX5_answer, fun _ h => h⟩⟩⟩⟩⟩)
theorem hdX5_answer : yX5_answer.cls = RX5 ∧ yX5_answer.cls ≠ "java/lang/invoke/MethodHandle" ∧ yX5_answer.cls ≠ "java/lang/invoke/VarHandle" ∧ (parseMethodDescriptor yX5_answer.desc).map (fun d => d.parameters.length) = some 0 := by decide +kernel
set_option maxRecDepth 20000 in
theorem gX6_X2_firstNamed {x : Cond} : GoodIn (x :: wG) (wsV RX6 133 RX2 yX2_firstNamed wsX2_firstNamed) := gW (List.forall_mem_cons.mpr ⟨wG_in (wT2 (List.mem_of_getElem? (i := 198) (by decide +kernel))) rfl, List.forall_mem_cons.mpr ⟨wG_in (wT2 (List.mem_of_getElem? (i := 199) (by decide +kernel))) rfl, List.forall_mem_cons.mpr ⟨wG_in (wT2 (List.mem_of_getElem? (i := 200) (by decide +kernel))) rfl, List.forall_mem_cons.mpr ⟨iX2, List.forall_mem_cons.mpr ⟨kX2_firstNamed, fun _ h => h⟩⟩⟩⟩⟩)
theorem hdX2_firstNamed : yX2_firstNamed.cls = RX2 ∧ yX2_firstNamed.cls ≠ "java/lang/invoke/MethodHandle" ∧ yX2_firstNamed.cls ≠ "java/lang/invoke/VarHandle" ∧ (parseMethodDescriptor yX2_firstNamed.desc).map (fun d => d.parameters.length) = some 1 := by decide +kernel
