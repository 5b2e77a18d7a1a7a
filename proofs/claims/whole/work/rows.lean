section
-- ===== PART A: goes FIRST, ahead of the names: the tables' words, and 'selects' of the private methods out of them =====
/-- a private method of a class that the tables say can be made, by its rows of tables_1 -/
def lw_okq (q : MethodName × Nat) : Prop := (q.1.cls ≠ "java/lang/invoke/MethodHandle" ∧ q.1.cls ≠ "java/lang/invoke/VarHandle") ∧ Cond.instantiable q.1.cls q.2 ∈ tables_1 ∧ Cond.privateMethod q.1 ∈ tables_1 ∧ Cond.instanceMethod q.1 ∈ tables_1
theorem lw_p0 : lw_okq (⟨"ClassFileIndex$Reader", "readStart", "(I)V"⟩, 11) := ⟨⟨by decide +kernel, by decide +kernel⟩, List.mem_of_getElem? (i := 69) (by decide +kernel), List.mem_of_getElem? (i := 164) (by decide +kernel), List.mem_of_getElem? (i := 165) (by decide +kernel)⟩
theorem lw_p1 : lw_okq (⟨"ClassFileIndex$Reader", "next", "()I"⟩, 11) := ⟨⟨by decide +kernel, by decide +kernel⟩, List.mem_of_getElem? (i := 69) (by decide +kernel), List.mem_of_getElem? (i := 168) (by decide +kernel), List.mem_of_getElem? (i := 169) (by decide +kernel)⟩
theorem lw_p2 : lw_okq (⟨"ClassFileIndex$Reader", "refuse", "(II)V"⟩, 11) := ⟨⟨by decide +kernel, by decide +kernel⟩, List.mem_of_getElem? (i := 69) (by decide +kernel), List.mem_of_getElem? (i := 172) (by decide +kernel), List.mem_of_getElem? (i := 173) (by decide +kernel)⟩
theorem lw_p3 : lw_okq (⟨"ClassFileIndex$Reader", "readConstants", "()V"⟩, 11) := ⟨⟨by decide +kernel, by decide +kernel⟩, List.mem_of_getElem? (i := 69) (by decide +kernel), List.mem_of_getElem? (i := 176) (by decide +kernel), List.mem_of_getElem? (i := 177) (by decide +kernel)⟩
theorem lw_p4 : lw_okq (⟨"ClassFileIndex$Reader", "readAtMost", "(I)I"⟩, 11) := ⟨⟨by decide +kernel, by decide +kernel⟩, List.mem_of_getElem? (i := 69) (by decide +kernel), List.mem_of_getElem? (i := 180) (by decide +kernel), List.mem_of_getElem? (i := 181) (by decide +kernel)⟩
theorem lw_p5 : lw_okq (⟨"ClassFileIndex$Reader", "readText", "()I"⟩, 11) := ⟨⟨by decide +kernel, by decide +kernel⟩, List.mem_of_getElem? (i := 69) (by decide +kernel), List.mem_of_getElem? (i := 184) (by decide +kernel), List.mem_of_getElem? (i := 185) (by decide +kernel)⟩
theorem lw_p6 : lw_okq (⟨"ClassFileIndex$Texts", "isText", "(I[III)Z"⟩, 3) := ⟨⟨by decide +kernel, by decide +kernel⟩, List.mem_of_getElem? (i := 20) (by decide +kernel), List.mem_of_getElem? (i := 192) (by decide +kernel), List.mem_of_getElem? (i := 193) (by decide +kernel)⟩
theorem lw_p7 : lw_okq (⟨"ClassFileIndex$Reader", "readInt", "()I"⟩, 11) := ⟨⟨by decide +kernel, by decide +kernel⟩, List.mem_of_getElem? (i := 69) (by decide +kernel), List.mem_of_getElem? (i := 196) (by decide +kernel), List.mem_of_getElem? (i := 197) (by decide +kernel)⟩
theorem lw_p8 : lw_okq (⟨"ClassFileIndex$Reader", "nameClassConstants", "()V"⟩, 11) := ⟨⟨by decide +kernel, by decide +kernel⟩, List.mem_of_getElem? (i := 69) (by decide +kernel), List.mem_of_getElem? (i := 200) (by decide +kernel), List.mem_of_getElem? (i := 201) (by decide +kernel)⟩
theorem lw_p9 : lw_okq (⟨"ClassFileIndex$Reader", "isConstant", "(II)Z"⟩, 11) := ⟨⟨by decide +kernel, by decide +kernel⟩, List.mem_of_getElem? (i := 69) (by decide +kernel), List.mem_of_getElem? (i := 204) (by decide +kernel), List.mem_of_getElem? (i := 205) (by decide +kernel)⟩
theorem lw_p10 : lw_okq (⟨"ClassFileIndex$Reader", "readName", "()I"⟩, 11) := ⟨⟨by decide +kernel, by decide +kernel⟩, List.mem_of_getElem? (i := 69) (by decide +kernel), List.mem_of_getElem? (i := 216) (by decide +kernel), List.mem_of_getElem? (i := 217) (by decide +kernel)⟩
theorem lw_p11 : lw_okq (⟨"ClassFileIndex$Reader", "readConstant", "(I)I"⟩, 11) := ⟨⟨by decide +kernel, by decide +kernel⟩, List.mem_of_getElem? (i := 69) (by decide +kernel), List.mem_of_getElem? (i := 220) (by decide +kernel), List.mem_of_getElem? (i := 221) (by decide +kernel)⟩
theorem lw_p12 : lw_okq (⟨"ClassFileIndex$Reader", "readClassOrNone", "()I"⟩, 11) := ⟨⟨by decide +kernel, by decide +kernel⟩, List.mem_of_getElem? (i := 69) (by decide +kernel), List.mem_of_getElem? (i := 228) (by decide +kernel), List.mem_of_getElem? (i := 229) (by decide +kernel)⟩
theorem lw_p13 : lw_okq (⟨"ClassFileIndex$Reader", "readInterfaces", "()[I"⟩, 11) := ⟨⟨by decide +kernel, by decide +kernel⟩, List.mem_of_getElem? (i := 69) (by decide +kernel), List.mem_of_getElem? (i := 232) (by decide +kernel), List.mem_of_getElem? (i := 233) (by decide +kernel)⟩
theorem lw_p14 : lw_okq (⟨"ClassFileIndex$Reader", "readAnnotations", "()[LClassFileIndex$Value;"⟩, 11) := ⟨⟨by decide +kernel, by decide +kernel⟩, List.mem_of_getElem? (i := 69) (by decide +kernel), List.mem_of_getElem? (i := 236) (by decide +kernel), List.mem_of_getElem? (i := 237) (by decide +kernel)⟩
theorem lw_p15 : lw_okq (⟨"ClassFileIndex$Reader", "readAnnotation", "(I)LClassFileIndex$Value;"⟩, 11) := ⟨⟨by decide +kernel, by decide +kernel⟩, List.mem_of_getElem? (i := 69) (by decide +kernel), List.mem_of_getElem? (i := 241) (by decide +kernel), List.mem_of_getElem? (i := 242) (by decide +kernel)⟩
def lw_privs_1 : List (MethodName × Nat) := [(⟨"ClassFileIndex$Reader", "readStart", "(I)V"⟩, 11), (⟨"ClassFileIndex$Reader", "next", "()I"⟩, 11), (⟨"ClassFileIndex$Reader", "refuse", "(II)V"⟩, 11), (⟨"ClassFileIndex$Reader", "readConstants", "()V"⟩, 11), (⟨"ClassFileIndex$Reader", "readAtMost", "(I)I"⟩, 11), (⟨"ClassFileIndex$Reader", "readText", "()I"⟩, 11), (⟨"ClassFileIndex$Texts", "isText", "(I[III)Z"⟩, 3), (⟨"ClassFileIndex$Reader", "readInt", "()I"⟩, 11), (⟨"ClassFileIndex$Reader", "nameClassConstants", "()V"⟩, 11), (⟨"ClassFileIndex$Reader", "isConstant", "(II)Z"⟩, 11), (⟨"ClassFileIndex$Reader", "readName", "()I"⟩, 11), (⟨"ClassFileIndex$Reader", "readConstant", "(I)I"⟩, 11), (⟨"ClassFileIndex$Reader", "readClassOrNone", "()I"⟩, 11), (⟨"ClassFileIndex$Reader", "readInterfaces", "()[I"⟩, 11), (⟨"ClassFileIndex$Reader", "readAnnotations", "()[LClassFileIndex$Value;"⟩, 11), (⟨"ClassFileIndex$Reader", "readAnnotation", "(I)LClassFileIndex$Value;"⟩, 11)]
theorem lw_r1 : ∀ q ∈ lw_privs_1, lw_okq q := List.forall_mem_cons.mpr ⟨lw_p0, List.forall_mem_cons.mpr ⟨lw_p1, List.forall_mem_cons.mpr ⟨lw_p2, List.forall_mem_cons.mpr ⟨lw_p3, List.forall_mem_cons.mpr ⟨lw_p4, List.forall_mem_cons.mpr ⟨lw_p5, List.forall_mem_cons.mpr ⟨lw_p6, List.forall_mem_cons.mpr ⟨lw_p7, List.forall_mem_cons.mpr ⟨lw_p8, List.forall_mem_cons.mpr ⟨lw_p9, List.forall_mem_cons.mpr ⟨lw_p10, List.forall_mem_cons.mpr ⟨lw_p11, List.forall_mem_cons.mpr ⟨lw_p12, List.forall_mem_cons.mpr ⟨lw_p13, List.forall_mem_cons.mpr ⟨lw_p14, List.forall_mem_cons.mpr ⟨lw_p15, fun _ h => absurd h List.not_mem_nil⟩⟩⟩⟩⟩⟩⟩⟩⟩⟩⟩⟩⟩⟩⟩⟩
theorem lw_p16 : lw_okq (⟨"ClassFileIndex$Reader", "readParts", "(ZI)LClassFileIndex$Parts;"⟩, 11) := ⟨⟨by decide +kernel, by decide +kernel⟩, List.mem_of_getElem? (i := 69) (by decide +kernel), List.mem_of_getElem? (i := 246) (by decide +kernel), List.mem_of_getElem? (i := 247) (by decide +kernel)⟩
theorem lw_p17 : lw_okq (⟨"ClassFileIndex$Reader", "readValue", "(I)LClassFileIndex$Value;"⟩, 11) := ⟨⟨by decide +kernel, by decide +kernel⟩, List.mem_of_getElem? (i := 69) (by decide +kernel), List.mem_of_getElem? (i := 250) (by decide +kernel), List.mem_of_getElem? (i := 251) (by decide +kernel)⟩
theorem lw_p18 : lw_okq (⟨"ClassFileIndex$Reader", "readRow", "(I)LClassFileIndex$Value;"⟩, 11) := ⟨⟨by decide +kernel, by decide +kernel⟩, List.mem_of_getElem? (i := 69) (by decide +kernel), List.mem_of_getElem? (i := 270) (by decide +kernel), List.mem_of_getElem? (i := 271) (by decide +kernel)⟩
theorem lw_p19 : lw_okq (⟨"ClassFileIndex", "areThere", "(II)Z"⟩, 5) := ⟨⟨by decide +kernel, by decide +kernel⟩, List.mem_of_getElem? (i := 12) (by decide +kernel), List.mem_of_getElem? (i := 367) (by decide +kernel), List.mem_of_getElem? (i := 368) (by decide +kernel)⟩
theorem lw_p20 : lw_okq (⟨"ClassFileIndex", "elementOrDefault", "(III)LClassFileIndex$Value;"⟩, 5) := ⟨⟨by decide +kernel, by decide +kernel⟩, List.mem_of_getElem? (i := 12) (by decide +kernel), List.mem_of_getElem? (i := 435) (by decide +kernel), List.mem_of_getElem? (i := 436) (by decide +kernel)⟩
theorem lw_p21 : lw_okq (⟨"ClassFileIndexModel", "wholeFile", "()V"⟩, 28) := ⟨⟨by decide +kernel, by decide +kernel⟩, List.mem_of_getElem? (i := 449) (by decide +kernel), List.mem_of_getElem? (i := 556) (by decide +kernel), List.mem_of_getElem? (i := 557) (by decide +kernel)⟩
theorem lw_p22 : lw_okq (⟨"ClassFileIndexModel", "take", "()I"⟩, 28) := ⟨⟨by decide +kernel, by decide +kernel⟩, List.mem_of_getElem? (i := 449) (by decide +kernel), List.mem_of_getElem? (i := 560) (by decide +kernel), List.mem_of_getElem? (i := 561) (by decide +kernel)⟩
theorem lw_p23 : lw_okq (⟨"ClassFileIndexModel", "fail", "(II)V"⟩, 28) := ⟨⟨by decide +kernel, by decide +kernel⟩, List.mem_of_getElem? (i := 449) (by decide +kernel), List.mem_of_getElem? (i := 564) (by decide +kernel), List.mem_of_getElem? (i := 565) (by decide +kernel)⟩
theorem lw_p24 : lw_okq (⟨"ClassFileIndexModel", "allConstants", "()V"⟩, 28) := ⟨⟨by decide +kernel, by decide +kernel⟩, List.mem_of_getElem? (i := 449) (by decide +kernel), List.mem_of_getElem? (i := 568) (by decide +kernel), List.mem_of_getElem? (i := 569) (by decide +kernel)⟩
theorem lw_p25 : lw_okq (⟨"ClassFileIndexModel", "many", "(I)I"⟩, 28) := ⟨⟨by decide +kernel, by decide +kernel⟩, List.mem_of_getElem? (i := 449) (by decide +kernel), List.mem_of_getElem? (i := 572) (by decide +kernel), List.mem_of_getElem? (i := 573) (by decide +kernel)⟩
theorem lw_p26 : lw_okq (⟨"ClassFileIndexModel", "oneConstant", "(I)V"⟩, 28) := ⟨⟨by decide +kernel, by decide +kernel⟩, List.mem_of_getElem? (i := 449) (by decide +kernel), List.mem_of_getElem? (i := 576) (by decide +kernel), List.mem_of_getElem? (i := 577) (by decide +kernel)⟩
theorem lw_p27 : lw_okq (⟨"ClassFileIndexModel", "constant", "(I)I"⟩, 28) := ⟨⟨by decide +kernel, by decide +kernel⟩, List.mem_of_getElem? (i := 449) (by decide +kernel), List.mem_of_getElem? (i := 580) (by decide +kernel), List.mem_of_getElem? (i := 581) (by decide +kernel)⟩
theorem lw_p28 : lw_okq (⟨"ClassFileIndexModel", "taken", "(I)Z"⟩, 28) := ⟨⟨by decide +kernel, by decide +kernel⟩, List.mem_of_getElem? (i := 449) (by decide +kernel), List.mem_of_getElem? (i := 584) (by decide +kernel), List.mem_of_getElem? (i := 585) (by decide +kernel)⟩
theorem lw_p29 : lw_okq (⟨"ClassFileIndexModel", "textPlace", "(I)I"⟩, 28) := ⟨⟨by decide +kernel, by decide +kernel⟩, List.mem_of_getElem? (i := 449) (by decide +kernel), List.mem_of_getElem? (i := 588) (by decide +kernel), List.mem_of_getElem? (i := 589) (by decide +kernel)⟩
theorem lw_p30 : lw_okq (⟨"ClassFileIndexModel", "sameText", "(II)Z"⟩, 28) := ⟨⟨by decide +kernel, by decide +kernel⟩, List.mem_of_getElem? (i := 449) (by decide +kernel), List.mem_of_getElem? (i := 592) (by decide +kernel), List.mem_of_getElem? (i := 593) (by decide +kernel)⟩
theorem lw_p31 : lw_okq (⟨"ClassFileIndexModel", "classOrNone", "()I"⟩, 28) := ⟨⟨by decide +kernel, by decide +kernel⟩, List.mem_of_getElem? (i := 449) (by decide +kernel), List.mem_of_getElem? (i := 596) (by decide +kernel), List.mem_of_getElem? (i := 597) (by decide +kernel)⟩
def lw_privs_2 : List (MethodName × Nat) := [(⟨"ClassFileIndex$Reader", "readParts", "(ZI)LClassFileIndex$Parts;"⟩, 11), (⟨"ClassFileIndex$Reader", "readValue", "(I)LClassFileIndex$Value;"⟩, 11), (⟨"ClassFileIndex$Reader", "readRow", "(I)LClassFileIndex$Value;"⟩, 11), (⟨"ClassFileIndex", "areThere", "(II)Z"⟩, 5), (⟨"ClassFileIndex", "elementOrDefault", "(III)LClassFileIndex$Value;"⟩, 5), (⟨"ClassFileIndexModel", "wholeFile", "()V"⟩, 28), (⟨"ClassFileIndexModel", "take", "()I"⟩, 28), (⟨"ClassFileIndexModel", "fail", "(II)V"⟩, 28), (⟨"ClassFileIndexModel", "allConstants", "()V"⟩, 28), (⟨"ClassFileIndexModel", "many", "(I)I"⟩, 28), (⟨"ClassFileIndexModel", "oneConstant", "(I)V"⟩, 28), (⟨"ClassFileIndexModel", "constant", "(I)I"⟩, 28), (⟨"ClassFileIndexModel", "taken", "(I)Z"⟩, 28), (⟨"ClassFileIndexModel", "textPlace", "(I)I"⟩, 28), (⟨"ClassFileIndexModel", "sameText", "(II)Z"⟩, 28), (⟨"ClassFileIndexModel", "classOrNone", "()I"⟩, 28)]
theorem lw_r2 : ∀ q ∈ lw_privs_2, lw_okq q := List.forall_mem_cons.mpr ⟨lw_p16, List.forall_mem_cons.mpr ⟨lw_p17, List.forall_mem_cons.mpr ⟨lw_p18, List.forall_mem_cons.mpr ⟨lw_p19, List.forall_mem_cons.mpr ⟨lw_p20, List.forall_mem_cons.mpr ⟨lw_p21, List.forall_mem_cons.mpr ⟨lw_p22, List.forall_mem_cons.mpr ⟨lw_p23, List.forall_mem_cons.mpr ⟨lw_p24, List.forall_mem_cons.mpr ⟨lw_p25, List.forall_mem_cons.mpr ⟨lw_p26, List.forall_mem_cons.mpr ⟨lw_p27, List.forall_mem_cons.mpr ⟨lw_p28, List.forall_mem_cons.mpr ⟨lw_p29, List.forall_mem_cons.mpr ⟨lw_p30, List.forall_mem_cons.mpr ⟨lw_p31, fun _ h => absurd h List.not_mem_nil⟩⟩⟩⟩⟩⟩⟩⟩⟩⟩⟩⟩⟩⟩⟩⟩
theorem lw_p32 : lw_okq (⟨"ClassFileIndexModel", "values", "(I)V"⟩, 28) := ⟨⟨by decide +kernel, by decide +kernel⟩, List.mem_of_getElem? (i := 449) (by decide +kernel), List.mem_of_getElem? (i := 600) (by decide +kernel), List.mem_of_getElem? (i := 601) (by decide +kernel)⟩
theorem lw_p33 : lw_okq (⟨"ClassFileIndexModel", "oneValue", "(I)Z"⟩, 28) := ⟨⟨by decide +kernel, by decide +kernel⟩, List.mem_of_getElem? (i := 449) (by decide +kernel), List.mem_of_getElem? (i := 604) (by decide +kernel), List.mem_of_getElem? (i := 605) (by decide +kernel)⟩
theorem lw_p34 : lw_okq (⟨"ClassFileIndexModel", "number", "(I)I"⟩, 28) := ⟨⟨by decide +kernel, by decide +kernel⟩, List.mem_of_getElem? (i := 449) (by decide +kernel), List.mem_of_getElem? (i := 608) (by decide +kernel), List.mem_of_getElem? (i := 609) (by decide +kernel)⟩
theorem lw_p35 : lw_okq (⟨"ClassFileIndexModel", "isText", "(I)Z"⟩, 28) := ⟨⟨by decide +kernel, by decide +kernel⟩, List.mem_of_getElem? (i := 449) (by decide +kernel), List.mem_of_getElem? (i := 624) (by decide +kernel), List.mem_of_getElem? (i := 625) (by decide +kernel)⟩
theorem lw_p36 : lw_okq (⟨"ClassFileIndexModel", "isClass", "(I)Z"⟩, 28) := ⟨⟨by decide +kernel, by decide +kernel⟩, List.mem_of_getElem? (i := 449) (by decide +kernel), List.mem_of_getElem? (i := 636) (by decide +kernel), List.mem_of_getElem? (i := 637) (by decide +kernel)⟩
theorem lw_p37 : lw_okq (⟨"ClassFileIndexModel", "reaches", "(IIZ)Z"⟩, 28) := ⟨⟨by decide +kernel, by decide +kernel⟩, List.mem_of_getElem? (i := 449) (by decide +kernel), List.mem_of_getElem? (i := 652) (by decide +kernel), List.mem_of_getElem? (i := 653) (by decide +kernel)⟩
theorem lw_p38 : lw_okq (⟨"ClassFileIndexModel", "markAbove", "(IZ)Z"⟩, 28) := ⟨⟨by decide +kernel, by decide +kernel⟩, List.mem_of_getElem? (i := 449) (by decide +kernel), List.mem_of_getElem? (i := 656) (by decide +kernel), List.mem_of_getElem? (i := 657) (by decide +kernel)⟩
theorem lw_p39 : lw_okq (⟨"ClassFileIndexModel", "typeOf", "(II)I"⟩, 28) := ⟨⟨by decide +kernel, by decide +kernel⟩, List.mem_of_getElem? (i := 449) (by decide +kernel), List.mem_of_getElem? (i := 660) (by decide +kernel), List.mem_of_getElem? (i := 661) (by decide +kernel)⟩
theorem lw_p40 : lw_okq (⟨"ClassFileIndexModel", "inherited", "(I)Z"⟩, 28) := ⟨⟨by decide +kernel, by decide +kernel⟩, List.mem_of_getElem? (i := 449) (by decide +kernel), List.mem_of_getElem? (i := 676) (by decide +kernel), List.mem_of_getElem? (i := 677) (by decide +kernel)⟩
theorem lw_p41 : lw_okq (⟨"ClassFileIndexModel", "firstNote", "(II)I"⟩, 28) := ⟨⟨by decide +kernel, by decide +kernel⟩, List.mem_of_getElem? (i := 449) (by decide +kernel), List.mem_of_getElem? (i := 681) (by decide +kernel), List.mem_of_getElem? (i := 682) (by decide +kernel)⟩
theorem lw_p42 : lw_okq (⟨"ClassFileIndexModel", "countAt", "(II)I"⟩, 28) := ⟨⟨by decide +kernel, by decide +kernel⟩, List.mem_of_getElem? (i := 449) (by decide +kernel), List.mem_of_getElem? (i := 689) (by decide +kernel), List.mem_of_getElem? (i := 690) (by decide +kernel)⟩
theorem lw_p43 : lw_okq (⟨"ClassFileIndexModel", "inRow", "(III)I"⟩, 28) := ⟨⟨by decide +kernel, by decide +kernel⟩, List.mem_of_getElem? (i := 449) (by decide +kernel), List.mem_of_getElem? (i := 693) (by decide +kernel), List.mem_of_getElem? (i := 694) (by decide +kernel)⟩
theorem lw_p44 : lw_okq (⟨"ClassFileIndexModel", "behind", "(I)I"⟩, 28) := ⟨⟨by decide +kernel, by decide +kernel⟩, List.mem_of_getElem? (i := 449) (by decide +kernel), List.mem_of_getElem? (i := 697) (by decide +kernel), List.mem_of_getElem? (i := 698) (by decide +kernel)⟩
theorem lw_p45 : lw_okq (⟨"ClassFileIndexModel", "lookUp", "(III)I"⟩, 28) := ⟨⟨by decide +kernel, by decide +kernel⟩, List.mem_of_getElem? (i := 449) (by decide +kernel), List.mem_of_getElem? (i := 707) (by decide +kernel), List.mem_of_getElem? (i := 708) (by decide +kernel)⟩
theorem lw_p46 : lw_okq (⟨"ClassFileIndexModel", "inside", "(II)I"⟩, 28) := ⟨⟨by decide +kernel, by decide +kernel⟩, List.mem_of_getElem? (i := 449) (by decide +kernel), List.mem_of_getElem? (i := 711) (by decide +kernel), List.mem_of_getElem? (i := 712) (by decide +kernel)⟩
theorem lw_p47 : lw_okq (⟨"ClassFileIndexModel", "shown", "(II)J"⟩, 28) := ⟨⟨by decide +kernel, by decide +kernel⟩, List.mem_of_getElem? (i := 449) (by decide +kernel), List.mem_of_getElem? (i := 715) (by decide +kernel), List.mem_of_getElem? (i := 716) (by decide +kernel)⟩
def lw_privs_3 : List (MethodName × Nat) := [(⟨"ClassFileIndexModel", "values", "(I)V"⟩, 28), (⟨"ClassFileIndexModel", "oneValue", "(I)Z"⟩, 28), (⟨"ClassFileIndexModel", "number", "(I)I"⟩, 28), (⟨"ClassFileIndexModel", "isText", "(I)Z"⟩, 28), (⟨"ClassFileIndexModel", "isClass", "(I)Z"⟩, 28), (⟨"ClassFileIndexModel", "reaches", "(IIZ)Z"⟩, 28), (⟨"ClassFileIndexModel", "markAbove", "(IZ)Z"⟩, 28), (⟨"ClassFileIndexModel", "typeOf", "(II)I"⟩, 28), (⟨"ClassFileIndexModel", "inherited", "(I)Z"⟩, 28), (⟨"ClassFileIndexModel", "firstNote", "(II)I"⟩, 28), (⟨"ClassFileIndexModel", "countAt", "(II)I"⟩, 28), (⟨"ClassFileIndexModel", "inRow", "(III)I"⟩, 28), (⟨"ClassFileIndexModel", "behind", "(I)I"⟩, 28), (⟨"ClassFileIndexModel", "lookUp", "(III)I"⟩, 28), (⟨"ClassFileIndexModel", "inside", "(II)I"⟩, 28), (⟨"ClassFileIndexModel", "shown", "(II)J"⟩, 28)]
theorem lw_r3 : ∀ q ∈ lw_privs_3, lw_okq q := List.forall_mem_cons.mpr ⟨lw_p32, List.forall_mem_cons.mpr ⟨lw_p33, List.forall_mem_cons.mpr ⟨lw_p34, List.forall_mem_cons.mpr ⟨lw_p35, List.forall_mem_cons.mpr ⟨lw_p36, List.forall_mem_cons.mpr ⟨lw_p37, List.forall_mem_cons.mpr ⟨lw_p38, List.forall_mem_cons.mpr ⟨lw_p39, List.forall_mem_cons.mpr ⟨lw_p40, List.forall_mem_cons.mpr ⟨lw_p41, List.forall_mem_cons.mpr ⟨lw_p42, List.forall_mem_cons.mpr ⟨lw_p43, List.forall_mem_cons.mpr ⟨lw_p44, List.forall_mem_cons.mpr ⟨lw_p45, List.forall_mem_cons.mpr ⟨lw_p46, List.forall_mem_cons.mpr ⟨lw_p47, fun _ h => absurd h List.not_mem_nil⟩⟩⟩⟩⟩⟩⟩⟩⟩⟩⟩⟩⟩⟩⟩⟩
def lw_privs : List (MethodName × Nat) := lw_privs_1 ++ (lw_privs_2 ++ (lw_privs_3))
def lw_tbl : List Cond := k2_sels lw_privs ++ tables_1
theorem lw_privs_ok : ∀ q ∈ lw_privs, lw_okq q := by
  show ∀ q ∈ lw_privs_1 ++ (lw_privs_2 ++ (lw_privs_3)), lw_okq q
  exact List.forall_mem_append.mpr ⟨lw_r1, List.forall_mem_append.mpr ⟨lw_r2, lw_r3⟩⟩
end
section
/-- the tables' words that a call may take along -/
def wG : List Cond := lw_tbl.filter goodWord
theorem wG_in {w : Cond} (h : w ∈ tables_1) (hg : goodWord w = true) : w ∈ wG := List.mem_filter.mpr ⟨List.mem_append_right _ h, hg⟩
theorem wG_sel {w : Cond} (h : w ∈ k2_sels lw_privs) (hg : goodWord w = true) : w ∈ wG := List.mem_filter.mpr ⟨List.mem_append_left _ h, hg⟩
theorem wG_all {ws : List Cond} (h : ws.all (fun w => decide (w ∈ tables_1) && goodWord w) = true) : ∀ w ∈ ws, w ∈ wG := by
  intro w hw
  have h1 := List.all_eq_true.mp h w hw
  rw [Bool.and_eq_true] at h1
  exact wG_in (of_decide_eq_true h1.1) h1.2
theorem wT1 {w : Cond} (h : w ∈ tables_1_1) : w ∈ tables_1 := (List.mem_append_left _ h)
theorem wT2 {w : Cond} (h : w ∈ tables_1_2) : w ∈ tables_1 := (List.mem_append_right _ (List.mem_append_left _ h))
theorem wT3 {w : Cond} (h : w ∈ tables_1_3) : w ∈ tables_1 := (List.mem_append_right _ (List.mem_append_right _ (List.mem_append_left _ h)))
theorem wT4 {w : Cond} (h : w ∈ tables_1_4) : w ∈ tables_1 := (List.mem_append_right _ (List.mem_append_right _ (List.mem_append_right _ h)))
theorem gG {x w : Cond} (h : w ∈ wG) (hg : goodWord w = true) : GoodIn (x :: wG) (w :: wG) := fun v hv => (List.mem_cons.mp hv).elim (fun e => by rw [e]; exact ⟨List.mem_cons_of_mem _ h, good_of_word hg⟩) (fun hv => ⟨List.mem_cons_of_mem _ hv, good_of_word (List.mem_filter.mp hv).2⟩)
def RX0 : String := "ClassFileIndex$ClassFile"
def TX0 : u_T := fun k => match k with
  | 0 => ("ClassFileIndex$ClassFile", "name", "I", true)
  | 1 => ("ClassFileIndex$ClassFile", "flags", "I", true)
  | 2 => ("ClassFileIndex$ClassFile", "superName", "I", true)
  | 3 => ("ClassFileIndex$ClassFile", "container", "I", true)
  | 4 => ("ClassFileIndex$ClassFile", "annotations", "[LClassFileIndex$Value;", true)
  | 5 => ("ClassFileIndex$ClassFile", "defaults", "LClassFileIndex$Parts;", true)
  | 6 => ("ClassFileIndex$ClassFile", "supertypes", "[I", true)
  | _ => ("ClassFileIndex$ClassFile", "annotationTypes", "[I", true)
def tyX0 : Nat → FieldType := fun k => match k with
  | 0 => .int
  | 1 => .int
  | 2 => .int
  | 3 => .int
  | 4 => .array (.object "ClassFileIndex$Value")
  | 5 => .object "ClassFileIndex$Parts"
  | 6 => .array .int
  | _ => .array .int
theorem nmX0 : ∀ a, a < 8 → ∀ b, b < 8 → a ≠ b → (TX0 a).2.1 ≠ (TX0 b).2.1 := by decide +kernel
theorem tyX0_ok : ∀ k, k < 8 → parseFieldDescriptor (TX0 k).2.2.1 = some (tyX0 k) := by decide +kernel
set_option maxRecDepth 20000 in
theorem wlX0 : ∀ w ∈ u_ws RX0 TX0 8, w ∈ wG := wG_all (by decide +kernel)
def RX1 : String := "ClassFileIndex$Classes"
def TX1 : u_T := fun k => match k with
  | 0 => ("ClassFileIndex$Classes", "files", "[LClassFileIndex$ClassFile;", true)
  | 1 => ("ClassFileIndex$Classes", "size", "I", false)
  | 2 => ("ClassFileIndex$Classes", "classOfText", "[I", true)
  | 3 => ("ClassFileIndex$Classes", "queue", "[I", true)
  | _ => ("ClassFileIndex$Classes", "queued", "[Z", true)
def tyX1 : Nat → FieldType := fun k => match k with
  | 0 => .array (.object "ClassFileIndex$ClassFile")
  | 1 => .int
  | 2 => .array .int
  | 3 => .array .int
  | _ => .array .boolean
theorem nmX1 : ∀ a, a < 5 → ∀ b, b < 5 → a ≠ b → (TX1 a).2.1 ≠ (TX1 b).2.1 := by decide +kernel
theorem tyX1_ok : ∀ k, k < 5 → parseFieldDescriptor (TX1 k).2.2.1 = some (tyX1 k) := by decide +kernel
set_option maxRecDepth 20000 in
theorem wlX1 : ∀ w ∈ u_ws RX1 TX1 5, w ∈ wG := wG_all (by decide +kernel)
def RX2 : String := "ClassFileIndex$Parts"
def TX2 : u_T := fun k => match k with
  | 0 => ("ClassFileIndex$Parts", "names", "[I", true)
  | _ => ("ClassFileIndex$Parts", "values", "[LClassFileIndex$Value;", true)
def tyX2 : Nat → FieldType := fun k => match k with
  | 0 => .array .int
  | _ => .array (.object "ClassFileIndex$Value")
theorem nmX2 : ∀ a, a < 2 → ∀ b, b < 2 → a ≠ b → (TX2 a).2.1 ≠ (TX2 b).2.1 := by decide +kernel
theorem tyX2_ok : ∀ k, k < 2 → parseFieldDescriptor (TX2 k).2.2.1 = some (tyX2 k) := by decide +kernel
set_option maxRecDepth 20000 in
theorem wlX2 : ∀ w ∈ u_ws RX2 TX2 2, w ∈ wG := wG_all (by decide +kernel)
def RX3 : String := "ClassFileIndex$Reader"
def TX3 : u_T := fun k => match k with
  | 0 => ("ClassFileIndex$Reader", "fault", "I", false)
  | 1 => ("ClassFileIndex$Reader", "bytes", "[I", false)
  | 2 => ("ClassFileIndex$Reader", "end", "I", false)
  | 3 => ("ClassFileIndex$Reader", "place", "I", false)
  | 4 => ("ClassFileIndex$Reader", "texts", "LClassFileIndex$Texts;", false)
  | 5 => ("ClassFileIndex$Reader", "classes", "LClassFileIndex$Classes;", false)
  | 6 => ("ClassFileIndex$Reader", "constants", "I", false)
  | 7 => ("ClassFileIndex$Reader", "kinds", "[I", true)
  | 8 => ("ClassFileIndex$Reader", "numbers", "[I", true)
  | 9 => ("ClassFileIndex$Reader", "places", "[I", true)
  | _ => ("ClassFileIndex$Reader", "noParts", "LClassFileIndex$Parts;", true)
def tyX3 : Nat → FieldType := fun k => match k with
  | 0 => .int
  | 1 => .array .int
  | 2 => .int
  | 3 => .int
  | 4 => .object "ClassFileIndex$Texts"
  | 5 => .object "ClassFileIndex$Classes"
  | 6 => .int
  | 7 => .array .int
  | 8 => .array .int
  | 9 => .array .int
  | _ => .object "ClassFileIndex$Parts"
theorem nmX3 : ∀ a, a < 11 → ∀ b, b < 11 → a ≠ b → (TX3 a).2.1 ≠ (TX3 b).2.1 := by decide +kernel
theorem tyX3_ok : ∀ k, k < 11 → parseFieldDescriptor (TX3 k).2.2.1 = some (tyX3 k) := by decide +kernel
set_option maxRecDepth 20000 in
theorem wlX3 : ∀ w ∈ u_ws RX3 TX3 11, w ∈ wG := wG_all (by decide +kernel)
def RX4 : String := "ClassFileIndex$Texts"
def TX4 : u_T := fun k => match k with
  | 0 => ("ClassFileIndex$Texts", "letters", "[B", true)
  | 1 => ("ClassFileIndex$Texts", "lengths", "[I", true)
  | _ => ("ClassFileIndex$Texts", "size", "I", false)
def tyX4 : Nat → FieldType := fun k => match k with
  | 0 => .array .byte
  | 1 => .array .int
  | _ => .int
theorem nmX4 : ∀ a, a < 3 → ∀ b, b < 3 → a ≠ b → (TX4 a).2.1 ≠ (TX4 b).2.1 := by decide +kernel
theorem tyX4_ok : ∀ k, k < 3 → parseFieldDescriptor (TX4 k).2.2.1 = some (tyX4 k) := by decide +kernel
set_option maxRecDepth 20000 in
theorem wlX4 : ∀ w ∈ u_ws RX4 TX4 3, w ∈ wG := wG_all (by decide +kernel)
def RX5 : String := "ClassFileIndex$Value"
def TX5 : u_T := fun k => match k with
  | 0 => ("ClassFileIndex$Value", "kind", "I", true)
  | 1 => ("ClassFileIndex$Value", "number", "I", true)
  | _ => ("ClassFileIndex$Value", "parts", "LClassFileIndex$Parts;", true)
def tyX5 : Nat → FieldType := fun k => match k with
  | 0 => .int
  | 1 => .int
  | _ => .object "ClassFileIndex$Parts"
theorem nmX5 : ∀ a, a < 3 → ∀ b, b < 3 → a ≠ b → (TX5 a).2.1 ≠ (TX5 b).2.1 := by decide +kernel
theorem tyX5_ok : ∀ k, k < 3 → parseFieldDescriptor (TX5 k).2.2.1 = some (tyX5 k) := by decide +kernel
set_option maxRecDepth 20000 in
theorem wlX5 : ∀ w ∈ u_ws RX5 TX5 3, w ∈ wG := wG_all (by decide +kernel)
def RX6 : String := "ClassFileIndex"
def TX6 : u_T := fun k => match k with
  | 0 => ("ClassFileIndex", "buffer", "[I", true)
  | 1 => ("ClassFileIndex", "held", "I", false)
  | 2 => ("ClassFileIndex", "knownTexts", "LClassFileIndex$Texts;", true)
  | 3 => ("ClassFileIndex", "knownClasses", "LClassFileIndex$Classes;", true)
  | _ => ("ClassFileIndex", "reader", "LClassFileIndex$Reader;", true)
def tyX6 : Nat → FieldType := fun k => match k with
  | 0 => .array .int
  | 1 => .int
  | 2 => .object "ClassFileIndex$Texts"
  | 3 => .object "ClassFileIndex$Classes"
  | _ => .object "ClassFileIndex$Reader"
theorem nmX6 : ∀ a, a < 5 → ∀ b, b < 5 → a ≠ b → (TX6 a).2.1 ≠ (TX6 b).2.1 := by decide +kernel
theorem tyX6_ok : ∀ k, k < 5 → parseFieldDescriptor (TX6 k).2.2.1 = some (tyX6 k) := by decide +kernel
set_option maxRecDepth 20000 in
theorem wlX6 : ∀ w ∈ u_ws RX6 TX6 5, w ∈ wG := wG_all (by decide +kernel)
def RX7 : String := "ClassFileIndexModel"
def TX7 : u_T := fun k => match k with
  | 0 => ("ClassFileIndexModel", "buffer", "[I", true)
  | 1 => ("ClassFileIndexModel", "held", "I", false)
  | 2 => ("ClassFileIndexModel", "bytes", "[I", true)
  | 3 => ("ClassFileIndexModel", "classes", "I", false)
  | 4 => ("ClassFileIndexModel", "textAt", "[I", true)
  | 5 => ("ClassFileIndexModel", "texts", "I", false)
  | 6 => ("ClassFileIndexModel", "sort", "[I", true)
  | 7 => ("ClassFileIndexModel", "place", "[I", true)
  | 8 => ("ClassFileIndexModel", "text", "[I", true)
  | 9 => ("ClassFileIndexModel", "flag", "[I", true)
  | 10 => ("ClassFileIndexModel", "self", "[I", true)
  | 11 => ("ClassFileIndexModel", "above", "[I", true)
  | 12 => ("ClassFileIndexModel", "box", "[I", true)
  | 13 => ("ClassFileIndexModel", "faceCount", "[I", true)
  | 14 => ("ClassFileIndexModel", "face", "[I", true)
  | 15 => ("ClassFileIndexModel", "noteCount", "[I", true)
  | 16 => ("ClassFileIndexModel", "note", "[I", true)
  | 17 => ("ClassFileIndexModel", "rest", "[I", true)
  | 18 => ("ClassFileIndexModel", "now", "I", false)
  | 19 => ("ClassFileIndexModel", "base", "I", false)
  | 20 => ("ClassFileIndexModel", "end", "I", false)
  | 21 => ("ClassFileIndexModel", "at", "I", false)
  | 22 => ("ClassFileIndexModel", "constants", "I", false)
  | 23 => ("ClassFileIndexModel", "reason", "I", false)
  | 24 => ("ClassFileIndexModel", "spot", "I", false)
  | 25 => ("ClassFileIndexModel", "left", "[I", true)
  | 26 => ("ClassFileIndexModel", "named", "[Z", true)
  | _ => ("ClassFileIndexModel", "marked", "[Z", true)
def tyX7 : Nat → FieldType := fun k => match k with
  | 0 => .array .int
  | 1 => .int
  | 2 => .array .int
  | 3 => .int
  | 4 => .array .int
  | 5 => .int
  | 6 => .array .int
  | 7 => .array .int
  | 8 => .array .int
  | 9 => .array .int
  | 10 => .array .int
  | 11 => .array .int
  | 12 => .array .int
  | 13 => .array .int
  | 14 => .array .int
  | 15 => .array .int
  | 16 => .array .int
  | 17 => .array .int
  | 18 => .int
  | 19 => .int
  | 20 => .int
  | 21 => .int
  | 22 => .int
  | 23 => .int
  | 24 => .int
  | 25 => .array .int
  | 26 => .array .boolean
  | _ => .array .boolean
theorem nmX7 : ∀ a, a < 28 → ∀ b, b < 28 → a ≠ b → (TX7 a).2.1 ≠ (TX7 b).2.1 := by decide +kernel
theorem tyX7_ok : ∀ k, k < 28 → parseFieldDescriptor (TX7 k).2.2.1 = some (tyX7 k) := by decide +kernel
set_option maxRecDepth 20000 in
theorem wlX7 : ∀ w ∈ u_ws RX7 TX7 28, w ∈ wG := wG_all (by decide +kernel)
abbrev vwCl : List vw_C := [(RX0, TX0, 8), (RX1, TX1, 5), (RX2, TX2, 2), (RX3, TX3, 11), (RX4, TX4, 3), (RX5, TX5, 3), (RX6, TX6, 5), (RX7, TX7, 28)]
theorem gW {x : Cond} {ws : List Cond} (h : ∀ w ∈ ws, w ∈ wG) : GoodIn (x :: wG) ws := fun w hw => ⟨List.mem_cons_of_mem _ (h w hw), good_of_word (List.mem_filter.mp (h w hw)).2⟩
end
section
abbrev cX7_init : ByteArray := prog_9_method_1_code
def yX7_init : MethodName := ⟨RX7, "<init>", "()V"⟩
abbrev wsX7_init : List Cond := .code yX7_init cX7_init 1 (none) :: wG
set_option maxRecDepth 20000 in
theorem kX7_init : Cond.code yX7_init cX7_init 1 (none) ∈ wG := wG_in (wT2 (List.mem_of_getElem? (i := 212) rfl)) rfl
abbrev cX7_put : ByteArray := prog_9_method_2_code
def yX7_put : MethodName := ⟨RX7, "put", "(JI)Z"⟩
abbrev wsX7_put : List Cond := .code yX7_put cX7_put 5 (some .boolean) :: wG
set_option maxRecDepth 20000 in
theorem kX7_put : Cond.code yX7_put cX7_put 5 (some .boolean) ∈ wG := wG_in (wT3 (List.mem_of_getElem? (i := 62) rfl)) rfl
abbrev cX7_drop : ByteArray := prog_9_method_3_code
def yX7_drop : MethodName := ⟨RX7, "drop", "()V"⟩
abbrev wsX7_drop : List Cond := .code yX7_drop cX7_drop 1 (none) :: wG
set_option maxRecDepth 20000 in
theorem kX7_drop : Cond.code yX7_drop cX7_drop 1 (none) ∈ wG := wG_in (wT3 (List.mem_of_getElem? (i := 66) rfl)) rfl
abbrev cX7_length : ByteArray := prog_9_method_4_code
def yX7_length : MethodName := ⟨RX7, "length", "()I"⟩
abbrev wsX7_length : List Cond := .code yX7_length cX7_length 1 (some .int) :: wG
set_option maxRecDepth 20000 in
theorem kX7_length : Cond.code yX7_length cX7_length 1 (some .int) ∈ wG := wG_in (wT3 (List.mem_of_getElem? (i := 70) rfl)) rfl
abbrev cX7_fail : ByteArray := prog_9_method_5_code
def yX7_fail : MethodName := ⟨RX7, "fail", "(II)V"⟩
abbrev wsX7_fail : List Cond := .code yX7_fail cX7_fail 3 (none) :: wG
set_option maxRecDepth 20000 in
theorem kX7_fail : Cond.code yX7_fail cX7_fail 3 (none) ∈ wG := wG_in (wT3 (List.mem_of_getElem? (i := 86) rfl)) rfl
abbrev cX7_take : ByteArray := prog_9_method_6_code
def yX7_take : MethodName := ⟨RX7, "take", "()I"⟩
abbrev wsX7_take : List Cond := .code yX7_take cX7_take 2 (some .int) :: wG
set_option maxRecDepth 20000 in
theorem kX7_take : Cond.code yX7_take cX7_take 2 (some .int) ∈ wG := wG_in (wT3 (List.mem_of_getElem? (i := 82) rfl)) rfl
abbrev cX7_many : ByteArray := prog_9_method_7_code
def yX7_many : MethodName := ⟨RX7, "many", "(I)I"⟩
abbrev wsX7_many : List Cond := .code yX7_many cX7_many 4 (some .int) :: wG
set_option maxRecDepth 20000 in
theorem kX7_many : Cond.code yX7_many cX7_many 4 (some .int) ∈ wG := wG_in (wT3 (List.mem_of_getElem? (i := 94) rfl)) rfl
abbrev cX7_constant : ByteArray := prog_9_method_8_code
def yX7_constant : MethodName := ⟨RX7, "constant", "(I)I"⟩
abbrev wsX7_constant : List Cond := .code yX7_constant cX7_constant 4 (some .int) :: wG
set_option maxRecDepth 20000 in
theorem kX7_constant : Cond.code yX7_constant cX7_constant 4 (some .int) ∈ wG := wG_in (wT3 (List.mem_of_getElem? (i := 102) rfl)) rfl
abbrev cX7_classOrNone : ByteArray := prog_9_method_9_code
def yX7_classOrNone : MethodName := ⟨RX7, "classOrNone", "()I"⟩
abbrev wsX7_classOrNone : List Cond := .code yX7_classOrNone cX7_classOrNone 3 (some .int) :: wG
set_option maxRecDepth 20000 in
theorem kX7_classOrNone : Cond.code yX7_classOrNone cX7_classOrNone 3 (some .int) ∈ wG := wG_in (wT3 (List.mem_of_getElem? (i := 118) rfl)) rfl
abbrev cX7_oneConstant : ByteArray := prog_9_method_10_code
def yX7_oneConstant : MethodName := ⟨RX7, "oneConstant", "(I)V"⟩
abbrev wsX7_oneConstant : List Cond := .code yX7_oneConstant cX7_oneConstant 8 (none) :: wG
set_option maxRecDepth 20000 in
theorem kX7_oneConstant : Cond.code yX7_oneConstant cX7_oneConstant 8 (none) ∈ wG := wG_in (wT3 (List.mem_of_getElem? (i := 98) rfl)) rfl
abbrev cX7_allConstants : ByteArray := prog_9_method_11_code
def yX7_allConstants : MethodName := ⟨RX7, "allConstants", "()V"⟩
abbrev wsX7_allConstants : List Cond := .code yX7_allConstants cX7_allConstants 5 (none) :: wG
set_option maxRecDepth 20000 in
theorem kX7_allConstants : Cond.code yX7_allConstants cX7_allConstants 5 (none) ∈ wG := wG_in (wT3 (List.mem_of_getElem? (i := 90) rfl)) rfl
abbrev cX7_values : ByteArray := prog_9_method_12_code
def yX7_values : MethodName := ⟨RX7, "values", "(I)V"⟩
abbrev wsX7_values : List Cond := .code yX7_values cX7_values 3 (none) :: wG
set_option maxRecDepth 20000 in
theorem kX7_values : Cond.code yX7_values cX7_values 3 (none) ∈ wG := wG_in (wT3 (List.mem_of_getElem? (i := 122) rfl)) rfl
abbrev cX7_oneValue : ByteArray := prog_9_method_13_code
def yX7_oneValue : MethodName := ⟨RX7, "oneValue", "(I)Z"⟩
abbrev wsX7_oneValue : List Cond := .code yX7_oneValue cX7_oneValue 4 (some .boolean) :: wG
set_option maxRecDepth 20000 in
theorem kX7_oneValue : Cond.code yX7_oneValue cX7_oneValue 4 (some .boolean) ∈ wG := wG_in (wT3 (List.mem_of_getElem? (i := 126) rfl)) rfl
abbrev cX7_sameText : ByteArray := prog_9_method_14_code
def yX7_sameText : MethodName := ⟨RX7, "sameText", "(II)Z"⟩
abbrev wsX7_sameText : List Cond := .code yX7_sameText cX7_sameText 5 (some .boolean) :: wG
set_option maxRecDepth 20000 in
theorem kX7_sameText : Cond.code yX7_sameText cX7_sameText 5 (some .boolean) ∈ wG := wG_in (wT3 (List.mem_of_getElem? (i := 114) rfl)) rfl
abbrev cX7_textPlace : ByteArray := prog_9_method_15_code
def yX7_textPlace : MethodName := ⟨RX7, "textPlace", "(I)I"⟩
abbrev wsX7_textPlace : List Cond := .code yX7_textPlace cX7_textPlace 3 (some .int) :: wG
set_option maxRecDepth 20000 in
theorem kX7_textPlace : Cond.code yX7_textPlace cX7_textPlace 3 (some .int) ∈ wG := wG_in (wT3 (List.mem_of_getElem? (i := 110) rfl)) rfl
abbrev cX7_taken : ByteArray := prog_9_method_16_code
def yX7_taken : MethodName := ⟨RX7, "taken", "(I)Z"⟩
abbrev wsX7_taken : List Cond := .code yX7_taken cX7_taken 4 (some .boolean) :: wG
set_option maxRecDepth 20000 in
theorem kX7_taken : Cond.code yX7_taken cX7_taken 4 (some .boolean) ∈ wG := wG_in (wT3 (List.mem_of_getElem? (i := 106) rfl)) rfl
abbrev cX7_wholeFile : ByteArray := prog_9_method_17_code
def yX7_wholeFile : MethodName := ⟨RX7, "wholeFile", "()V"⟩
abbrev wsX7_wholeFile : List Cond := .code yX7_wholeFile cX7_wholeFile 6 (none) :: wG
set_option maxRecDepth 20000 in
theorem kX7_wholeFile : Cond.code yX7_wholeFile cX7_wholeFile 6 (none) ∈ wG := wG_in (wT3 (List.mem_of_getElem? (i := 78) rfl)) rfl
abbrev cX7_number : ByteArray := prog_9_method_18_code
def yX7_number : MethodName := ⟨RX7, "number", "(I)I"⟩
abbrev wsX7_number : List Cond := .code yX7_number cX7_number 3 (some .int) :: wG
set_option maxRecDepth 20000 in
theorem kX7_number : Cond.code yX7_number cX7_number 3 (some .int) ∈ wG := wG_in (wT3 (List.mem_of_getElem? (i := 130) rfl)) rfl
abbrev cX7_read : ByteArray := prog_9_method_19_code
def yX7_read : MethodName := ⟨RX7, "read", "()I"⟩
abbrev wsX7_read : List Cond := .code yX7_read cX7_read 2 (some .int) :: wG
set_option maxRecDepth 20000 in
theorem kX7_read : Cond.code yX7_read cX7_read 2 (some .int) ∈ wG := wG_in (wT3 (List.mem_of_getElem? (i := 74) rfl)) rfl
abbrev cX7_isClass : ByteArray := prog_9_method_20_code
def yX7_isClass : MethodName := ⟨RX7, "isClass", "(I)Z"⟩
abbrev wsX7_isClass : List Cond := .code yX7_isClass cX7_isClass 2 (some .boolean) :: wG
set_option maxRecDepth 20000 in
theorem kX7_isClass : Cond.code yX7_isClass cX7_isClass 2 (some .boolean) ∈ wG := wG_in (wT3 (List.mem_of_getElem? (i := 158) rfl)) rfl
abbrev cX7_isText : ByteArray := prog_9_method_21_code
def yX7_isText : MethodName := ⟨RX7, "isText", "(I)Z"⟩
abbrev wsX7_isText : List Cond := .code yX7_isText cX7_isText 2 (some .boolean) :: wG
set_option maxRecDepth 20000 in
theorem kX7_isText : Cond.code yX7_isText cX7_isText 2 (some .boolean) ∈ wG := wG_in (wT3 (List.mem_of_getElem? (i := 146) rfl)) rfl
abbrev cX7_classes : ByteArray := prog_9_method_22_code
def yX7_classes : MethodName := ⟨RX7, "classes", "()I"⟩
abbrev wsX7_classes : List Cond := .code yX7_classes cX7_classes 1 (some .int) :: wG
set_option maxRecDepth 20000 in
theorem kX7_classes : Cond.code yX7_classes cX7_classes 1 (some .int) ∈ wG := wG_in (wT3 (List.mem_of_getElem? (i := 134) rfl)) rfl
abbrev cX7_texts : ByteArray := prog_9_method_23_code
def yX7_texts : MethodName := ⟨RX7, "texts", "()I"⟩
abbrev wsX7_texts : List Cond := .code yX7_texts cX7_texts 1 (some .int) :: wG
set_option maxRecDepth 20000 in
theorem kX7_texts : Cond.code yX7_texts cX7_texts 1 (some .int) ∈ wG := wG_in (wT3 (List.mem_of_getElem? (i := 138) rfl)) rfl
abbrev cX7_letter : ByteArray := prog_9_method_24_code
def yX7_letter : MethodName := ⟨RX7, "letter", "(II)I"⟩
abbrev wsX7_letter : List Cond := .code yX7_letter cX7_letter 3 (some .int) :: wG
set_option maxRecDepth 20000 in
theorem kX7_letter : Cond.code yX7_letter cX7_letter 3 (some .int) ∈ wG := wG_in (wT3 (List.mem_of_getElem? (i := 142) rfl)) rfl
abbrev cX7_find : ByteArray := prog_9_method_25_code
def yX7_find : MethodName := ⟨RX7, "find", "(I)I"⟩
abbrev wsX7_find : List Cond := .code yX7_find cX7_find 3 (some .int) :: wG
set_option maxRecDepth 20000 in
theorem kX7_find : Cond.code yX7_find cX7_find 3 (some .int) ∈ wG := wG_in (wT3 (List.mem_of_getElem? (i := 150) rfl)) rfl
abbrev cX7_name : ByteArray := prog_9_method_26_code
def yX7_name : MethodName := ⟨RX7, "name", "(I)I"⟩
abbrev wsX7_name : List Cond := .code yX7_name cX7_name 2 (some .int) :: wG
set_option maxRecDepth 20000 in
theorem kX7_name : Cond.code yX7_name cX7_name 2 (some .int) ∈ wG := wG_in (wT3 (List.mem_of_getElem? (i := 154) rfl)) rfl
abbrev cX7_flags : ByteArray := prog_9_method_27_code
def yX7_flags : MethodName := ⟨RX7, "flags", "(I)I"⟩
abbrev wsX7_flags : List Cond := .code yX7_flags cX7_flags 2 (some .int) :: wG
set_option maxRecDepth 20000 in
theorem kX7_flags : Cond.code yX7_flags cX7_flags 2 (some .int) ∈ wG := wG_in (wT3 (List.mem_of_getElem? (i := 162) rfl)) rfl
abbrev cX7_superName : ByteArray := prog_9_method_28_code
def yX7_superName : MethodName := ⟨RX7, "superName", "(I)I"⟩
abbrev wsX7_superName : List Cond := .code yX7_superName cX7_superName 2 (some .int) :: wG
set_option maxRecDepth 20000 in
theorem kX7_superName : Cond.code yX7_superName cX7_superName 2 (some .int) ∈ wG := wG_in (wT3 (List.mem_of_getElem? (i := 166) rfl)) rfl
abbrev cX7_typeOf : ByteArray := prog_9_method_29_code
def yX7_typeOf : MethodName := ⟨RX7, "typeOf", "(II)I"⟩
abbrev wsX7_typeOf : List Cond := .code yX7_typeOf cX7_typeOf 3 (some .int) :: wG
set_option maxRecDepth 20000 in
theorem kX7_typeOf : Cond.code yX7_typeOf cX7_typeOf 3 (some .int) ∈ wG := wG_in (wT3 (List.mem_of_getElem? (i := 182) rfl)) rfl
abbrev cX7_markAbove : ByteArray := prog_9_method_30_code
def yX7_markAbove : MethodName := ⟨RX7, "markAbove", "(IZ)Z"⟩
abbrev wsX7_markAbove : List Cond := .code yX7_markAbove cX7_markAbove 7 (some .boolean) :: wG
set_option maxRecDepth 20000 in
theorem kX7_markAbove : Cond.code yX7_markAbove cX7_markAbove 7 (some .boolean) ∈ wG := wG_in (wT3 (List.mem_of_getElem? (i := 178) rfl)) rfl
abbrev cX7_reaches : ByteArray := prog_9_method_31_code
def yX7_reaches : MethodName := ⟨RX7, "reaches", "(IIZ)Z"⟩
abbrev wsX7_reaches : List Cond := .code yX7_reaches cX7_reaches 8 (some .boolean) :: wG
set_option maxRecDepth 20000 in
theorem kX7_reaches : Cond.code yX7_reaches cX7_reaches 8 (some .boolean) ∈ wG := wG_in (wT3 (List.mem_of_getElem? (i := 174) rfl)) rfl
abbrev cX7_subtype : ByteArray := prog_9_method_32_code
def yX7_subtype : MethodName := ⟨RX7, "subtype", "(II)Z"⟩
abbrev wsX7_subtype : List Cond := .code yX7_subtype cX7_subtype 3 (some .boolean) :: wG
set_option maxRecDepth 20000 in
theorem kX7_subtype : Cond.code yX7_subtype cX7_subtype 3 (some .boolean) ∈ wG := wG_in (wT3 (List.mem_of_getElem? (i := 170) rfl)) rfl
abbrev cX7_subtypeAt : ByteArray := prog_9_method_33_code
def yX7_subtypeAt : MethodName := ⟨RX7, "subtypeAt", "(II)I"⟩
abbrev wsX7_subtypeAt : List Cond := .code yX7_subtypeAt cX7_subtypeAt 5 (some .int) :: wG
set_option maxRecDepth 20000 in
theorem kX7_subtypeAt : Cond.code yX7_subtypeAt cX7_subtypeAt 5 (some .int) ∈ wG := wG_in (wT3 (List.mem_of_getElem? (i := 186) rfl)) rfl
abbrev cX7_meta : ByteArray := prog_9_method_34_code
def yX7_meta : MethodName := ⟨RX7, "meta", "(II)Z"⟩
abbrev wsX7_meta : List Cond := .code yX7_meta cX7_meta 3 (some .boolean) :: wG
set_option maxRecDepth 20000 in
theorem kX7_meta : Cond.code yX7_meta cX7_meta 3 (some .boolean) ∈ wG := wG_in (wT3 (List.mem_of_getElem? (i := 190) rfl)) rfl
abbrev cX7_inherited : ByteArray := prog_9_method_35_code
def yX7_inherited : MethodName := ⟨RX7, "inherited", "(I)Z"⟩
abbrev wsX7_inherited : List Cond := .code yX7_inherited cX7_inherited 3 (some .boolean) :: wG
set_option maxRecDepth 20000 in
theorem kX7_inherited : Cond.code yX7_inherited cX7_inherited 3 (some .boolean) ∈ wG := wG_in (wT3 (List.mem_of_getElem? (i := 198) rfl)) rfl
abbrev cX7_firstNote : ByteArray := prog_9_method_36_code
def yX7_firstNote : MethodName := ⟨RX7, "firstNote", "(II)I"⟩
abbrev wsX7_firstNote : List Cond := .code yX7_firstNote cX7_firstNote 4 (some .int) :: wG
set_option maxRecDepth 20000 in
theorem kX7_firstNote : Cond.code yX7_firstNote cX7_firstNote 4 (some .int) ∈ wG := wG_in (wT3 (List.mem_of_getElem? (i := 203) rfl)) rfl
abbrev cX7_holder : ByteArray := prog_9_method_37_code
def yX7_holder : MethodName := ⟨RX7, "holder", "(II)I"⟩
abbrev wsX7_holder : List Cond := .code yX7_holder cX7_holder 6 (some .int) :: wG
set_option maxRecDepth 20000 in
theorem kX7_holder : Cond.code yX7_holder cX7_holder 6 (some .int) ∈ wG := wG_in (wT3 (List.mem_of_getElem? (i := 194) rfl)) rfl
abbrev cX7_behind : ByteArray := prog_9_method_38_code
def yX7_behind : MethodName := ⟨RX7, "behind", "(I)I"⟩
abbrev wsX7_behind : List Cond := .code yX7_behind cX7_behind 5 (some .int) :: wG
set_option maxRecDepth 20000 in
theorem kX7_behind : Cond.code yX7_behind cX7_behind 5 (some .int) ∈ wG := wG_in (wT3 (List.mem_of_getElem? (i := 219) rfl)) rfl
abbrev cX7_inRow : ByteArray := prog_9_method_39_code
def yX7_inRow : MethodName := ⟨RX7, "inRow", "(III)I"⟩
abbrev wsX7_inRow : List Cond := .code yX7_inRow cX7_inRow 8 (some .int) :: wG
set_option maxRecDepth 20000 in
theorem kX7_inRow : Cond.code yX7_inRow cX7_inRow 8 (some .int) ∈ wG := wG_in (wT3 (List.mem_of_getElem? (i := 215) rfl)) rfl
abbrev cX7_countAt : ByteArray := prog_9_method_40_code
def yX7_countAt : MethodName := ⟨RX7, "countAt", "(II)I"⟩
abbrev wsX7_countAt : List Cond := .code yX7_countAt cX7_countAt 7 (some .int) :: wG
set_option maxRecDepth 20000 in
theorem kX7_countAt : Cond.code yX7_countAt cX7_countAt 7 (some .int) ∈ wG := wG_in (wT3 (List.mem_of_getElem? (i := 211) rfl)) rfl
abbrev cX7_count : ByteArray := prog_9_method_41_code
def yX7_count : MethodName := ⟨RX7, "count", "(II)I"⟩
abbrev wsX7_count : List Cond := .code yX7_count cX7_count 7 (some .int) :: wG
set_option maxRecDepth 20000 in
theorem kX7_count : Cond.code yX7_count cX7_count 7 (some .int) ∈ wG := wG_in (wT3 (List.mem_of_getElem? (i := 207) rfl)) rfl
abbrev cX7_lookUp : ByteArray := prog_9_method_42_code
def yX7_lookUp : MethodName := ⟨RX7, "lookUp", "(III)I"⟩
abbrev wsX7_lookUp : List Cond := .code yX7_lookUp cX7_lookUp 6 (some .int) :: wG
set_option maxRecDepth 20000 in
theorem kX7_lookUp : Cond.code yX7_lookUp cX7_lookUp 6 (some .int) ∈ wG := wG_in (wT3 (List.mem_of_getElem? (i := 229) rfl)) rfl
abbrev cX7_inside : ByteArray := prog_9_method_43_code
def yX7_inside : MethodName := ⟨RX7, "inside", "(II)I"⟩
abbrev wsX7_inside : List Cond := .code yX7_inside cX7_inside 6 (some .int) :: wG
set_option maxRecDepth 20000 in
theorem kX7_inside : Cond.code yX7_inside cX7_inside 6 (some .int) ∈ wG := wG_in (wT3 (List.mem_of_getElem? (i := 233) rfl)) rfl
abbrev cX7_shown : ByteArray := prog_9_method_44_code
def yX7_shown : MethodName := ⟨RX7, "shown", "(II)J"⟩
abbrev wsX7_shown : List Cond := .code yX7_shown cX7_shown 8 (some .long) :: wG
set_option maxRecDepth 20000 in
theorem kX7_shown : Cond.code yX7_shown cX7_shown 8 (some .long) ∈ wG := wG_in (wT3 (List.mem_of_getElem? (i := 237) rfl)) rfl
abbrev cX7_value : ByteArray := prog_9_method_45_code
def yX7_value : MethodName := ⟨RX7, "value", "(IIII)J"⟩
abbrev wsX7_value : List Cond := .code yX7_value cX7_value 10 (some .long) :: wG
set_option maxRecDepth 20000 in
theorem kX7_value : Cond.code yX7_value cX7_value 10 (some .long) ∈ wG := wG_in (wT3 (List.mem_of_getElem? (i := 223) rfl)) rfl
set_option maxRecDepth 20000 in
theorem fX7_buffer : Cond.fieldLink RX7 7 "ClassFileIndexModel" "buffer" "[I" ∈ wG := wG_in (wT2 (List.mem_of_getElem? (i := 214) (by decide +kernel))) rfl
set_option maxRecDepth 20000 in
theorem fX7_held : Cond.fieldLink RX7 65 "ClassFileIndexModel" "held" "I" ∈ wG := wG_in (wT2 (List.mem_of_getElem? (i := 215) (by decide +kernel))) rfl
set_option maxRecDepth 20000 in
theorem fX7_bytes : Cond.fieldLink RX7 13 "ClassFileIndexModel" "bytes" "[I" ∈ wG := wG_in (wT2 (List.mem_of_getElem? (i := 216) (by decide +kernel))) rfl
set_option maxRecDepth 20000 in
theorem fX7_classes : Cond.fieldLink RX7 116 "ClassFileIndexModel" "classes" "I" ∈ wG := wG_in (wT2 (List.mem_of_getElem? (i := 217) (by decide +kernel))) rfl
set_option maxRecDepth 20000 in
theorem fX7_textAt : Cond.fieldLink RX7 16 "ClassFileIndexModel" "textAt" "[I" ∈ wG := wG_in (wT2 (List.mem_of_getElem? (i := 218) (by decide +kernel))) rfl
set_option maxRecDepth 20000 in
theorem fX7_texts : Cond.fieldLink RX7 135 "ClassFileIndexModel" "texts" "I" ∈ wG := wG_in (wT2 (List.mem_of_getElem? (i := 219) (by decide +kernel))) rfl
set_option maxRecDepth 20000 in
theorem fX7_sort : Cond.fieldLink RX7 19 "ClassFileIndexModel" "sort" "[I" ∈ wG := wG_in (wT2 (List.mem_of_getElem? (i := 220) (by decide +kernel))) rfl
set_option maxRecDepth 20000 in
theorem fX7_place : Cond.fieldLink RX7 22 "ClassFileIndexModel" "place" "[I" ∈ wG := wG_in (wT2 (List.mem_of_getElem? (i := 221) (by decide +kernel))) rfl
set_option maxRecDepth 20000 in
theorem fX7_text : Cond.fieldLink RX7 25 "ClassFileIndexModel" "text" "[I" ∈ wG := wG_in (wT2 (List.mem_of_getElem? (i := 222) (by decide +kernel))) rfl
set_option maxRecDepth 20000 in
theorem fX7_flag : Cond.fieldLink RX7 28 "ClassFileIndexModel" "flag" "[I" ∈ wG := wG_in (wT2 (List.mem_of_getElem? (i := 223) (by decide +kernel))) rfl
set_option maxRecDepth 20000 in
theorem fX7_self : Cond.fieldLink RX7 31 "ClassFileIndexModel" "self" "[I" ∈ wG := wG_in (wT2 (List.mem_of_getElem? (i := 224) (by decide +kernel))) rfl
set_option maxRecDepth 20000 in
theorem fX7_above : Cond.fieldLink RX7 34 "ClassFileIndexModel" "above" "[I" ∈ wG := wG_in (wT2 (List.mem_of_getElem? (i := 225) (by decide +kernel))) rfl
set_option maxRecDepth 20000 in
theorem fX7_box : Cond.fieldLink RX7 37 "ClassFileIndexModel" "box" "[I" ∈ wG := wG_in (wT2 (List.mem_of_getElem? (i := 226) (by decide +kernel))) rfl
set_option maxRecDepth 20000 in
theorem fX7_faceCount : Cond.fieldLink RX7 40 "ClassFileIndexModel" "faceCount" "[I" ∈ wG := wG_in (wT2 (List.mem_of_getElem? (i := 227) (by decide +kernel))) rfl
set_option maxRecDepth 20000 in
theorem fX7_face : Cond.fieldLink RX7 43 "ClassFileIndexModel" "face" "[I" ∈ wG := wG_in (wT2 (List.mem_of_getElem? (i := 228) (by decide +kernel))) rfl
set_option maxRecDepth 20000 in
theorem fX7_noteCount : Cond.fieldLink RX7 46 "ClassFileIndexModel" "noteCount" "[I" ∈ wG := wG_in (wT2 (List.mem_of_getElem? (i := 229) (by decide +kernel))) rfl
set_option maxRecDepth 20000 in
theorem fX7_note : Cond.fieldLink RX7 49 "ClassFileIndexModel" "note" "[I" ∈ wG := wG_in (wT2 (List.mem_of_getElem? (i := 230) (by decide +kernel))) rfl
set_option maxRecDepth 20000 in
theorem fX7_rest : Cond.fieldLink RX7 52 "ClassFileIndexModel" "rest" "[I" ∈ wG := wG_in (wT2 (List.mem_of_getElem? (i := 231) (by decide +kernel))) rfl
set_option maxRecDepth 20000 in
theorem fX7_now : Cond.fieldLink RX7 95 "ClassFileIndexModel" "now" "I" ∈ wG := wG_in (wT2 (List.mem_of_getElem? (i := 232) (by decide +kernel))) rfl
set_option maxRecDepth 20000 in
theorem fX7_base : Cond.fieldLink RX7 85 "ClassFileIndexModel" "base" "I" ∈ wG := wG_in (wT2 (List.mem_of_getElem? (i := 233) (by decide +kernel))) rfl
set_option maxRecDepth 20000 in
theorem fX7_end : Cond.fieldLink RX7 78 "ClassFileIndexModel" "end" "I" ∈ wG := wG_in (wT2 (List.mem_of_getElem? (i := 234) (by decide +kernel))) rfl
set_option maxRecDepth 20000 in
theorem fX7_at : Cond.fieldLink RX7 75 "ClassFileIndexModel" "at" "I" ∈ wG := wG_in (wT2 (List.mem_of_getElem? (i := 235) (by decide +kernel))) rfl
set_option maxRecDepth 20000 in
theorem fX7_constants : Cond.fieldLink RX7 92 "ClassFileIndexModel" "constants" "I" ∈ wG := wG_in (wT2 (List.mem_of_getElem? (i := 236) (by decide +kernel))) rfl
set_option maxRecDepth 20000 in
theorem fX7_reason : Cond.fieldLink RX7 69 "ClassFileIndexModel" "reason" "I" ∈ wG := wG_in (wT2 (List.mem_of_getElem? (i := 237) (by decide +kernel))) rfl
set_option maxRecDepth 20000 in
theorem fX7_spot : Cond.fieldLink RX7 72 "ClassFileIndexModel" "spot" "I" ∈ wG := wG_in (wT2 (List.mem_of_getElem? (i := 238) (by decide +kernel))) rfl
set_option maxRecDepth 20000 in
theorem fX7_left : Cond.fieldLink RX7 55 "ClassFileIndexModel" "left" "[I" ∈ wG := wG_in (wT2 (List.mem_of_getElem? (i := 239) (by decide +kernel))) rfl
set_option maxRecDepth 20000 in
theorem fX7_named : Cond.fieldLink RX7 58 "ClassFileIndexModel" "named" "[Z" ∈ wG := wG_in (wT3 (List.mem_of_getElem? (i := 0) (by decide +kernel))) rfl
set_option maxRecDepth 20000 in
theorem fX7_marked : Cond.fieldLink RX7 62 "ClassFileIndexModel" "marked" "[Z" ∈ wG := wG_in (wT3 (List.mem_of_getElem? (i := 1) (by decide +kernel))) rfl
set_option maxRecDepth 20000 in
theorem qX7_196 : Cond.constantLong RX7 196 (-1) ∈ wG := wG_in (wT3 (List.mem_of_getElem? (i := 225) (by decide +kernel))) rfl
set_option maxRecDepth 20000 in
theorem qX7_181 : Cond.constantLong RX7 181 (17179869184) ∈ wG := wG_in (wT3 (List.mem_of_getElem? (i := 238) (by decide +kernel))) rfl
set_option maxRecDepth 20000 in
theorem qX7_183 : Cond.constantLong RX7 183 (256) ∈ wG := wG_in (wT3 (List.mem_of_getElem? (i := 239) (by decide +kernel))) rfl
set_option maxRecDepth 20000 in
theorem qX7_185 : Cond.constantLong RX7 185 (4294967296) ∈ wG := wG_in (wT4 (List.mem_of_getElem? (i := 0) (by decide +kernel))) rfl
set_option maxRecDepth 20000 in
theorem qX7_187 : Cond.constantLong RX7 187 (2) ∈ wG := wG_in (wT4 (List.mem_of_getElem? (i := 1) (by decide +kernel))) rfl
set_option maxRecDepth 20000 in
theorem qX7_189 : Cond.constantLong RX7 189 (3) ∈ wG := wG_in (wT4 (List.mem_of_getElem? (i := 2) (by decide +kernel))) rfl
set_option maxRecDepth 20000 in
theorem qX7_191 : Cond.constantLong RX7 191 (5) ∈ wG := wG_in (wT4 (List.mem_of_getElem? (i := 3) (by decide +kernel))) rfl
set_option maxRecDepth 20000 in
theorem gX7_fail {x : Cond} : GoodIn (x :: wG) (wsV RX7 81 RX7 yX7_fail wsX7_fail) := gW (List.forall_mem_cons.mpr ⟨wG_in (wT3 (List.mem_of_getElem? (i := 83) (by decide +kernel))) rfl, List.forall_mem_cons.mpr ⟨wG_in (wT3 (List.mem_of_getElem? (i := 85) (by decide +kernel))) rfl, List.forall_mem_cons.mpr ⟨wG_sel (List.mem_of_getElem? (i := 23) (by decide +kernel)) rfl, List.forall_mem_cons.mpr ⟨wG_in (wT1 (List.mem_of_getElem? (i := 7) (by decide +kernel))) rfl, List.forall_mem_cons.mpr ⟨kX7_fail, fun _ h => h⟩⟩⟩⟩⟩)
theorem hdX7_fail : yX7_fail.cls = RX7 ∧ yX7_fail.cls ≠ "java/lang/invoke/MethodHandle" ∧ yX7_fail.cls ≠ "java/lang/invoke/VarHandle" ∧ (parseMethodDescriptor yX7_fail.desc).map (fun d => d.parameters.length) = some 2 := by decide +kernel
set_option maxRecDepth 20000 in
theorem gX7_take {x : Cond} : GoodIn (x :: wG) (wsV RX7 88 RX7 yX7_take wsX7_take) := gW (List.forall_mem_cons.mpr ⟨wG_in (wT3 (List.mem_of_getElem? (i := 79) (by decide +kernel))) rfl, List.forall_mem_cons.mpr ⟨wG_in (wT3 (List.mem_of_getElem? (i := 81) (by decide +kernel))) rfl, List.forall_mem_cons.mpr ⟨wG_sel (List.mem_of_getElem? (i := 22) (by decide +kernel)) rfl, List.forall_mem_cons.mpr ⟨wG_in (wT1 (List.mem_of_getElem? (i := 7) (by decide +kernel))) rfl, List.forall_mem_cons.mpr ⟨kX7_take, fun _ h => h⟩⟩⟩⟩⟩)
theorem hdX7_take : yX7_take.cls = RX7 ∧ yX7_take.cls ≠ "java/lang/invoke/MethodHandle" ∧ yX7_take.cls ≠ "java/lang/invoke/VarHandle" ∧ (parseMethodDescriptor yX7_take.desc).map (fun d => d.parameters.length) = some 0 := by decide +kernel
set_option maxRecDepth 20000 in
theorem gX7_many {x : Cond} : GoodIn (x :: wG) (wsV RX7 98 RX7 yX7_many wsX7_many) := gW (List.forall_mem_cons.mpr ⟨wG_in (wT3 (List.mem_of_getElem? (i := 91) (by decide +kernel))) rfl, List.forall_mem_cons.mpr ⟨wG_in (wT3 (List.mem_of_getElem? (i := 93) (by decide +kernel))) rfl, List.forall_mem_cons.mpr ⟨wG_sel (List.mem_of_getElem? (i := 25) (by decide +kernel)) rfl, List.forall_mem_cons.mpr ⟨wG_in (wT1 (List.mem_of_getElem? (i := 7) (by decide +kernel))) rfl, List.forall_mem_cons.mpr ⟨kX7_many, fun _ h => h⟩⟩⟩⟩⟩)
theorem hdX7_many : yX7_many.cls = RX7 ∧ yX7_many.cls ≠ "java/lang/invoke/MethodHandle" ∧ yX7_many.cls ≠ "java/lang/invoke/VarHandle" ∧ (parseMethodDescriptor yX7_many.desc).map (fun d => d.parameters.length) = some 1 := by decide +kernel
set_option maxRecDepth 20000 in
theorem gX7_oneConstant {x : Cond} : GoodIn (x :: wG) (wsV RX7 102 RX7 yX7_oneConstant wsX7_oneConstant) := gW (List.forall_mem_cons.mpr ⟨wG_in (wT3 (List.mem_of_getElem? (i := 95) (by decide +kernel))) rfl, List.forall_mem_cons.mpr ⟨wG_in (wT3 (List.mem_of_getElem? (i := 97) (by decide +kernel))) rfl, List.forall_mem_cons.mpr ⟨wG_sel (List.mem_of_getElem? (i := 26) (by decide +kernel)) rfl, List.forall_mem_cons.mpr ⟨wG_in (wT1 (List.mem_of_getElem? (i := 7) (by decide +kernel))) rfl, List.forall_mem_cons.mpr ⟨kX7_oneConstant, fun _ h => h⟩⟩⟩⟩⟩)
theorem hdX7_oneConstant : yX7_oneConstant.cls = RX7 ∧ yX7_oneConstant.cls ≠ "java/lang/invoke/MethodHandle" ∧ yX7_oneConstant.cls ≠ "java/lang/invoke/VarHandle" ∧ (parseMethodDescriptor yX7_oneConstant.desc).map (fun d => d.parameters.length) = some 1 := by decide +kernel
set_option maxRecDepth 20000 in
theorem gX7_constant {x : Cond} : GoodIn (x :: wG) (wsV RX7 106 RX7 yX7_constant wsX7_constant) := gW (List.forall_mem_cons.mpr ⟨wG_in (wT3 (List.mem_of_getElem? (i := 99) (by decide +kernel))) rfl, List.forall_mem_cons.mpr ⟨wG_in (wT3 (List.mem_of_getElem? (i := 101) (by decide +kernel))) rfl, List.forall_mem_cons.mpr ⟨wG_sel (List.mem_of_getElem? (i := 27) (by decide +kernel)) rfl, List.forall_mem_cons.mpr ⟨wG_in (wT1 (List.mem_of_getElem? (i := 7) (by decide +kernel))) rfl, List.forall_mem_cons.mpr ⟨kX7_constant, fun _ h => h⟩⟩⟩⟩⟩)
theorem hdX7_constant : yX7_constant.cls = RX7 ∧ yX7_constant.cls ≠ "java/lang/invoke/MethodHandle" ∧ yX7_constant.cls ≠ "java/lang/invoke/VarHandle" ∧ (parseMethodDescriptor yX7_constant.desc).map (fun d => d.parameters.length) = some 1 := by decide +kernel
set_option maxRecDepth 20000 in
theorem gX7_oneValue {x : Cond} : GoodIn (x :: wG) (wsV RX7 109 RX7 yX7_oneValue wsX7_oneValue) := gW (List.forall_mem_cons.mpr ⟨wG_in (wT3 (List.mem_of_getElem? (i := 123) (by decide +kernel))) rfl, List.forall_mem_cons.mpr ⟨wG_in (wT3 (List.mem_of_getElem? (i := 125) (by decide +kernel))) rfl, List.forall_mem_cons.mpr ⟨wG_sel (List.mem_of_getElem? (i := 33) (by decide +kernel)) rfl, List.forall_mem_cons.mpr ⟨wG_in (wT1 (List.mem_of_getElem? (i := 7) (by decide +kernel))) rfl, List.forall_mem_cons.mpr ⟨kX7_oneValue, fun _ h => h⟩⟩⟩⟩⟩)
theorem hdX7_oneValue : yX7_oneValue.cls = RX7 ∧ yX7_oneValue.cls ≠ "java/lang/invoke/MethodHandle" ∧ yX7_oneValue.cls ≠ "java/lang/invoke/VarHandle" ∧ (parseMethodDescriptor yX7_oneValue.desc).map (fun d => d.parameters.length) = some 1 := by decide +kernel
set_option maxRecDepth 20000 in
theorem gX7_textPlace {x : Cond} : GoodIn (x :: wG) (wsV RX7 113 RX7 yX7_textPlace wsX7_textPlace) := gW (List.forall_mem_cons.mpr ⟨wG_in (wT3 (List.mem_of_getElem? (i := 107) (by decide +kernel))) rfl, List.forall_mem_cons.mpr ⟨wG_in (wT3 (List.mem_of_getElem? (i := 109) (by decide +kernel))) rfl, List.forall_mem_cons.mpr ⟨wG_sel (List.mem_of_getElem? (i := 29) (by decide +kernel)) rfl, List.forall_mem_cons.mpr ⟨wG_in (wT1 (List.mem_of_getElem? (i := 7) (by decide +kernel))) rfl, List.forall_mem_cons.mpr ⟨kX7_textPlace, fun _ h => h⟩⟩⟩⟩⟩)
theorem hdX7_textPlace : yX7_textPlace.cls = RX7 ∧ yX7_textPlace.cls ≠ "java/lang/invoke/MethodHandle" ∧ yX7_textPlace.cls ≠ "java/lang/invoke/VarHandle" ∧ (parseMethodDescriptor yX7_textPlace.desc).map (fun d => d.parameters.length) = some 1 := by decide +kernel
set_option maxRecDepth 20000 in
theorem gX7_sameText {x : Cond} : GoodIn (x :: wG) (wsV RX7 119 RX7 yX7_sameText wsX7_sameText) := gW (List.forall_mem_cons.mpr ⟨wG_in (wT3 (List.mem_of_getElem? (i := 111) (by decide +kernel))) rfl, List.forall_mem_cons.mpr ⟨wG_in (wT3 (List.mem_of_getElem? (i := 113) (by decide +kernel))) rfl, List.forall_mem_cons.mpr ⟨wG_sel (List.mem_of_getElem? (i := 30) (by decide +kernel)) rfl, List.forall_mem_cons.mpr ⟨wG_in (wT1 (List.mem_of_getElem? (i := 7) (by decide +kernel))) rfl, List.forall_mem_cons.mpr ⟨kX7_sameText, fun _ h => h⟩⟩⟩⟩⟩)
theorem hdX7_sameText : yX7_sameText.cls = RX7 ∧ yX7_sameText.cls ≠ "java/lang/invoke/MethodHandle" ∧ yX7_sameText.cls ≠ "java/lang/invoke/VarHandle" ∧ (parseMethodDescriptor yX7_sameText.desc).map (fun d => d.parameters.length) = some 2 := by decide +kernel
set_option maxRecDepth 20000 in
theorem gX7_allConstants {x : Cond} : GoodIn (x :: wG) (wsV RX7 123 RX7 yX7_allConstants wsX7_allConstants) := gW (List.forall_mem_cons.mpr ⟨wG_in (wT3 (List.mem_of_getElem? (i := 87) (by decide +kernel))) rfl, List.forall_mem_cons.mpr ⟨wG_in (wT3 (List.mem_of_getElem? (i := 89) (by decide +kernel))) rfl, List.forall_mem_cons.mpr ⟨wG_sel (List.mem_of_getElem? (i := 24) (by decide +kernel)) rfl, List.forall_mem_cons.mpr ⟨wG_in (wT1 (List.mem_of_getElem? (i := 7) (by decide +kernel))) rfl, List.forall_mem_cons.mpr ⟨kX7_allConstants, fun _ h => h⟩⟩⟩⟩⟩)
theorem hdX7_allConstants : yX7_allConstants.cls = RX7 ∧ yX7_allConstants.cls ≠ "java/lang/invoke/MethodHandle" ∧ yX7_allConstants.cls ≠ "java/lang/invoke/VarHandle" ∧ (parseMethodDescriptor yX7_allConstants.desc).map (fun d => d.parameters.length) = some 0 := by decide +kernel
set_option maxRecDepth 20000 in
theorem gX7_taken {x : Cond} : GoodIn (x :: wG) (wsV RX7 126 RX7 yX7_taken wsX7_taken) := gW (List.forall_mem_cons.mpr ⟨wG_in (wT3 (List.mem_of_getElem? (i := 103) (by decide +kernel))) rfl, List.forall_mem_cons.mpr ⟨wG_in (wT3 (List.mem_of_getElem? (i := 105) (by decide +kernel))) rfl, List.forall_mem_cons.mpr ⟨wG_sel (List.mem_of_getElem? (i := 28) (by decide +kernel)) rfl, List.forall_mem_cons.mpr ⟨wG_in (wT1 (List.mem_of_getElem? (i := 7) (by decide +kernel))) rfl, List.forall_mem_cons.mpr ⟨kX7_taken, fun _ h => h⟩⟩⟩⟩⟩)
theorem hdX7_taken : yX7_taken.cls = RX7 ∧ yX7_taken.cls ≠ "java/lang/invoke/MethodHandle" ∧ yX7_taken.cls ≠ "java/lang/invoke/VarHandle" ∧ (parseMethodDescriptor yX7_taken.desc).map (fun d => d.parameters.length) = some 1 := by decide +kernel
set_option maxRecDepth 20000 in
theorem gX7_classOrNone {x : Cond} : GoodIn (x :: wG) (wsV RX7 129 RX7 yX7_classOrNone wsX7_classOrNone) := gW (List.forall_mem_cons.mpr ⟨wG_in (wT3 (List.mem_of_getElem? (i := 115) (by decide +kernel))) rfl, List.forall_mem_cons.mpr ⟨wG_in (wT3 (List.mem_of_getElem? (i := 117) (by decide +kernel))) rfl, List.forall_mem_cons.mpr ⟨wG_sel (List.mem_of_getElem? (i := 31) (by decide +kernel)) rfl, List.forall_mem_cons.mpr ⟨wG_in (wT1 (List.mem_of_getElem? (i := 7) (by decide +kernel))) rfl, List.forall_mem_cons.mpr ⟨kX7_classOrNone, fun _ h => h⟩⟩⟩⟩⟩)
theorem hdX7_classOrNone : yX7_classOrNone.cls = RX7 ∧ yX7_classOrNone.cls ≠ "java/lang/invoke/MethodHandle" ∧ yX7_classOrNone.cls ≠ "java/lang/invoke/VarHandle" ∧ (parseMethodDescriptor yX7_classOrNone.desc).map (fun d => d.parameters.length) = some 0 := by decide +kernel
set_option maxRecDepth 20000 in
theorem gX7_values {x : Cond} : GoodIn (x :: wG) (wsV RX7 132 RX7 yX7_values wsX7_values) := gW (List.forall_mem_cons.mpr ⟨wG_in (wT3 (List.mem_of_getElem? (i := 119) (by decide +kernel))) rfl, List.forall_mem_cons.mpr ⟨wG_in (wT3 (List.mem_of_getElem? (i := 121) (by decide +kernel))) rfl, List.forall_mem_cons.mpr ⟨wG_sel (List.mem_of_getElem? (i := 32) (by decide +kernel)) rfl, List.forall_mem_cons.mpr ⟨wG_in (wT1 (List.mem_of_getElem? (i := 7) (by decide +kernel))) rfl, List.forall_mem_cons.mpr ⟨kX7_values, fun _ h => h⟩⟩⟩⟩⟩)
theorem hdX7_values : yX7_values.cls = RX7 ∧ yX7_values.cls ≠ "java/lang/invoke/MethodHandle" ∧ yX7_values.cls ≠ "java/lang/invoke/VarHandle" ∧ (parseMethodDescriptor yX7_values.desc).map (fun d => d.parameters.length) = some 1 := by decide +kernel
set_option maxRecDepth 20000 in
theorem gX7_wholeFile {x : Cond} : GoodIn (x :: wG) (wsV RX7 138 RX7 yX7_wholeFile wsX7_wholeFile) := gW (List.forall_mem_cons.mpr ⟨wG_in (wT3 (List.mem_of_getElem? (i := 75) (by decide +kernel))) rfl, List.forall_mem_cons.mpr ⟨wG_in (wT3 (List.mem_of_getElem? (i := 77) (by decide +kernel))) rfl, List.forall_mem_cons.mpr ⟨wG_sel (List.mem_of_getElem? (i := 21) (by decide +kernel)) rfl, List.forall_mem_cons.mpr ⟨wG_in (wT1 (List.mem_of_getElem? (i := 7) (by decide +kernel))) rfl, List.forall_mem_cons.mpr ⟨kX7_wholeFile, fun _ h => h⟩⟩⟩⟩⟩)
theorem hdX7_wholeFile : yX7_wholeFile.cls = RX7 ∧ yX7_wholeFile.cls ≠ "java/lang/invoke/MethodHandle" ∧ yX7_wholeFile.cls ≠ "java/lang/invoke/VarHandle" ∧ (parseMethodDescriptor yX7_wholeFile.desc).map (fun d => d.parameters.length) = some 0 := by decide +kernel
set_option maxRecDepth 20000 in
theorem gX7_number {x : Cond} : GoodIn (x :: wG) (wsV RX7 141 RX7 yX7_number wsX7_number) := gW (List.forall_mem_cons.mpr ⟨wG_in (wT3 (List.mem_of_getElem? (i := 127) (by decide +kernel))) rfl, List.forall_mem_cons.mpr ⟨wG_in (wT3 (List.mem_of_getElem? (i := 129) (by decide +kernel))) rfl, List.forall_mem_cons.mpr ⟨wG_sel (List.mem_of_getElem? (i := 34) (by decide +kernel)) rfl, List.forall_mem_cons.mpr ⟨wG_in (wT1 (List.mem_of_getElem? (i := 7) (by decide +kernel))) rfl, List.forall_mem_cons.mpr ⟨kX7_number, fun _ h => h⟩⟩⟩⟩⟩)
theorem hdX7_number : yX7_number.cls = RX7 ∧ yX7_number.cls ≠ "java/lang/invoke/MethodHandle" ∧ yX7_number.cls ≠ "java/lang/invoke/VarHandle" ∧ (parseMethodDescriptor yX7_number.desc).map (fun d => d.parameters.length) = some 1 := by decide +kernel
set_option maxRecDepth 20000 in
theorem gX7_isText {x : Cond} : GoodIn (x :: wG) (wsV RX7 144 RX7 yX7_isText wsX7_isText) := gW (List.forall_mem_cons.mpr ⟨wG_in (wT3 (List.mem_of_getElem? (i := 143) (by decide +kernel))) rfl, List.forall_mem_cons.mpr ⟨wG_in (wT3 (List.mem_of_getElem? (i := 145) (by decide +kernel))) rfl, List.forall_mem_cons.mpr ⟨wG_sel (List.mem_of_getElem? (i := 35) (by decide +kernel)) rfl, List.forall_mem_cons.mpr ⟨wG_in (wT1 (List.mem_of_getElem? (i := 7) (by decide +kernel))) rfl, List.forall_mem_cons.mpr ⟨kX7_isText, fun _ h => h⟩⟩⟩⟩⟩)
theorem hdX7_isText : yX7_isText.cls = RX7 ∧ yX7_isText.cls ≠ "java/lang/invoke/MethodHandle" ∧ yX7_isText.cls ≠ "java/lang/invoke/VarHandle" ∧ (parseMethodDescriptor yX7_isText.desc).map (fun d => d.parameters.length) = some 1 := by decide +kernel
set_option maxRecDepth 20000 in
theorem gX7_isClass {x : Cond} : GoodIn (x :: wG) (wsV RX7 147 RX7 yX7_isClass wsX7_isClass) := gW (List.forall_mem_cons.mpr ⟨wG_in (wT3 (List.mem_of_getElem? (i := 155) (by decide +kernel))) rfl, List.forall_mem_cons.mpr ⟨wG_in (wT3 (List.mem_of_getElem? (i := 157) (by decide +kernel))) rfl, List.forall_mem_cons.mpr ⟨wG_sel (List.mem_of_getElem? (i := 36) (by decide +kernel)) rfl, List.forall_mem_cons.mpr ⟨wG_in (wT1 (List.mem_of_getElem? (i := 7) (by decide +kernel))) rfl, List.forall_mem_cons.mpr ⟨kX7_isClass, fun _ h => h⟩⟩⟩⟩⟩)
theorem hdX7_isClass : yX7_isClass.cls = RX7 ∧ yX7_isClass.cls ≠ "java/lang/invoke/MethodHandle" ∧ yX7_isClass.cls ≠ "java/lang/invoke/VarHandle" ∧ (parseMethodDescriptor yX7_isClass.desc).map (fun d => d.parameters.length) = some 1 := by decide +kernel
set_option maxRecDepth 20000 in
theorem gX7_typeOf {x : Cond} : GoodIn (x :: wG) (wsV RX7 150 RX7 yX7_typeOf wsX7_typeOf) := gW (List.forall_mem_cons.mpr ⟨wG_in (wT3 (List.mem_of_getElem? (i := 179) (by decide +kernel))) rfl, List.forall_mem_cons.mpr ⟨wG_in (wT3 (List.mem_of_getElem? (i := 181) (by decide +kernel))) rfl, List.forall_mem_cons.mpr ⟨wG_sel (List.mem_of_getElem? (i := 39) (by decide +kernel)) rfl, List.forall_mem_cons.mpr ⟨wG_in (wT1 (List.mem_of_getElem? (i := 7) (by decide +kernel))) rfl, List.forall_mem_cons.mpr ⟨kX7_typeOf, fun _ h => h⟩⟩⟩⟩⟩)
theorem hdX7_typeOf : yX7_typeOf.cls = RX7 ∧ yX7_typeOf.cls ≠ "java/lang/invoke/MethodHandle" ∧ yX7_typeOf.cls ≠ "java/lang/invoke/VarHandle" ∧ (parseMethodDescriptor yX7_typeOf.desc).map (fun d => d.parameters.length) = some 2 := by decide +kernel
set_option maxRecDepth 20000 in
theorem gX7_markAbove {x : Cond} : GoodIn (x :: wG) (wsV RX7 154 RX7 yX7_markAbove wsX7_markAbove) := gW (List.forall_mem_cons.mpr ⟨wG_in (wT3 (List.mem_of_getElem? (i := 175) (by decide +kernel))) rfl, List.forall_mem_cons.mpr ⟨wG_in (wT3 (List.mem_of_getElem? (i := 177) (by decide +kernel))) rfl, List.forall_mem_cons.mpr ⟨wG_sel (List.mem_of_getElem? (i := 38) (by decide +kernel)) rfl, List.forall_mem_cons.mpr ⟨wG_in (wT1 (List.mem_of_getElem? (i := 7) (by decide +kernel))) rfl, List.forall_mem_cons.mpr ⟨kX7_markAbove, fun _ h => h⟩⟩⟩⟩⟩)
theorem hdX7_markAbove : yX7_markAbove.cls = RX7 ∧ yX7_markAbove.cls ≠ "java/lang/invoke/MethodHandle" ∧ yX7_markAbove.cls ≠ "java/lang/invoke/VarHandle" ∧ (parseMethodDescriptor yX7_markAbove.desc).map (fun d => d.parameters.length) = some 2 := by decide +kernel
set_option maxRecDepth 20000 in
theorem gX7_reaches {x : Cond} : GoodIn (x :: wG) (wsV RX7 158 RX7 yX7_reaches wsX7_reaches) := gW (List.forall_mem_cons.mpr ⟨wG_in (wT3 (List.mem_of_getElem? (i := 171) (by decide +kernel))) rfl, List.forall_mem_cons.mpr ⟨wG_in (wT3 (List.mem_of_getElem? (i := 173) (by decide +kernel))) rfl, List.forall_mem_cons.mpr ⟨wG_sel (List.mem_of_getElem? (i := 37) (by decide +kernel)) rfl, List.forall_mem_cons.mpr ⟨wG_in (wT1 (List.mem_of_getElem? (i := 7) (by decide +kernel))) rfl, List.forall_mem_cons.mpr ⟨kX7_reaches, fun _ h => h⟩⟩⟩⟩⟩)
theorem hdX7_reaches : yX7_reaches.cls = RX7 ∧ yX7_reaches.cls ≠ "java/lang/invoke/MethodHandle" ∧ yX7_reaches.cls ≠ "java/lang/invoke/VarHandle" ∧ (parseMethodDescriptor yX7_reaches.desc).map (fun d => d.parameters.length) = some 3 := by decide +kernel
set_option maxRecDepth 20000 in
theorem gX7_find {x : Cond} : GoodIn (x :: wG) (wsV RX7 162 RX7 yX7_find wsX7_find) := gW (List.forall_mem_cons.mpr ⟨wG_in (wT3 (List.mem_of_getElem? (i := 199) (by decide +kernel))) rfl, List.forall_mem_cons.mpr ⟨wG_in (wT3 (List.mem_of_getElem? (i := 148) (by decide +kernel))) rfl, List.forall_mem_cons.mpr ⟨wG_in (wT3 (List.mem_of_getElem? (i := 149) (by decide +kernel))) rfl, List.forall_mem_cons.mpr ⟨wG_in (wT1 (List.mem_of_getElem? (i := 7) (by decide +kernel))) rfl, List.forall_mem_cons.mpr ⟨kX7_find, fun _ h => h⟩⟩⟩⟩⟩)
theorem hdX7_find : yX7_find.cls = RX7 ∧ yX7_find.cls ≠ "java/lang/invoke/MethodHandle" ∧ yX7_find.cls ≠ "java/lang/invoke/VarHandle" ∧ (parseMethodDescriptor yX7_find.desc).map (fun d => d.parameters.length) = some 1 := by decide +kernel
set_option maxRecDepth 20000 in
theorem gX7_inherited {x : Cond} : GoodIn (x :: wG) (wsV RX7 165 RX7 yX7_inherited wsX7_inherited) := gW (List.forall_mem_cons.mpr ⟨wG_in (wT3 (List.mem_of_getElem? (i := 195) (by decide +kernel))) rfl, List.forall_mem_cons.mpr ⟨wG_in (wT3 (List.mem_of_getElem? (i := 197) (by decide +kernel))) rfl, List.forall_mem_cons.mpr ⟨wG_sel (List.mem_of_getElem? (i := 40) (by decide +kernel)) rfl, List.forall_mem_cons.mpr ⟨wG_in (wT1 (List.mem_of_getElem? (i := 7) (by decide +kernel))) rfl, List.forall_mem_cons.mpr ⟨kX7_inherited, fun _ h => h⟩⟩⟩⟩⟩)
theorem hdX7_inherited : yX7_inherited.cls = RX7 ∧ yX7_inherited.cls ≠ "java/lang/invoke/MethodHandle" ∧ yX7_inherited.cls ≠ "java/lang/invoke/VarHandle" ∧ (parseMethodDescriptor yX7_inherited.desc).map (fun d => d.parameters.length) = some 1 := by decide +kernel
set_option maxRecDepth 20000 in
theorem gX7_firstNote {x : Cond} : GoodIn (x :: wG) (wsV RX7 168 RX7 yX7_firstNote wsX7_firstNote) := gW (List.forall_mem_cons.mpr ⟨wG_in (wT3 (List.mem_of_getElem? (i := 200) (by decide +kernel))) rfl, List.forall_mem_cons.mpr ⟨wG_in (wT3 (List.mem_of_getElem? (i := 202) (by decide +kernel))) rfl, List.forall_mem_cons.mpr ⟨wG_sel (List.mem_of_getElem? (i := 41) (by decide +kernel)) rfl, List.forall_mem_cons.mpr ⟨wG_in (wT1 (List.mem_of_getElem? (i := 7) (by decide +kernel))) rfl, List.forall_mem_cons.mpr ⟨kX7_firstNote, fun _ h => h⟩⟩⟩⟩⟩)
theorem hdX7_firstNote : yX7_firstNote.cls = RX7 ∧ yX7_firstNote.cls ≠ "java/lang/invoke/MethodHandle" ∧ yX7_firstNote.cls ≠ "java/lang/invoke/VarHandle" ∧ (parseMethodDescriptor yX7_firstNote.desc).map (fun d => d.parameters.length) = some 2 := by decide +kernel
set_option maxRecDepth 20000 in
theorem gX7_behind {x : Cond} : GoodIn (x :: wG) (wsV RX7 171 RX7 yX7_behind wsX7_behind) := gW (List.forall_mem_cons.mpr ⟨wG_in (wT3 (List.mem_of_getElem? (i := 216) (by decide +kernel))) rfl, List.forall_mem_cons.mpr ⟨wG_in (wT3 (List.mem_of_getElem? (i := 218) (by decide +kernel))) rfl, List.forall_mem_cons.mpr ⟨wG_sel (List.mem_of_getElem? (i := 44) (by decide +kernel)) rfl, List.forall_mem_cons.mpr ⟨wG_in (wT1 (List.mem_of_getElem? (i := 7) (by decide +kernel))) rfl, List.forall_mem_cons.mpr ⟨kX7_behind, fun _ h => h⟩⟩⟩⟩⟩)
theorem hdX7_behind : yX7_behind.cls = RX7 ∧ yX7_behind.cls ≠ "java/lang/invoke/MethodHandle" ∧ yX7_behind.cls ≠ "java/lang/invoke/VarHandle" ∧ (parseMethodDescriptor yX7_behind.desc).map (fun d => d.parameters.length) = some 1 := by decide +kernel
set_option maxRecDepth 20000 in
theorem gX7_inRow {x : Cond} : GoodIn (x :: wG) (wsV RX7 174 RX7 yX7_inRow wsX7_inRow) := gW (List.forall_mem_cons.mpr ⟨wG_in (wT3 (List.mem_of_getElem? (i := 212) (by decide +kernel))) rfl, List.forall_mem_cons.mpr ⟨wG_in (wT3 (List.mem_of_getElem? (i := 214) (by decide +kernel))) rfl, List.forall_mem_cons.mpr ⟨wG_sel (List.mem_of_getElem? (i := 43) (by decide +kernel)) rfl, List.forall_mem_cons.mpr ⟨wG_in (wT1 (List.mem_of_getElem? (i := 7) (by decide +kernel))) rfl, List.forall_mem_cons.mpr ⟨kX7_inRow, fun _ h => h⟩⟩⟩⟩⟩)
theorem hdX7_inRow : yX7_inRow.cls = RX7 ∧ yX7_inRow.cls ≠ "java/lang/invoke/MethodHandle" ∧ yX7_inRow.cls ≠ "java/lang/invoke/VarHandle" ∧ (parseMethodDescriptor yX7_inRow.desc).map (fun d => d.parameters.length) = some 3 := by decide +kernel
set_option maxRecDepth 20000 in
theorem gX7_countAt {x : Cond} : GoodIn (x :: wG) (wsV RX7 178 RX7 yX7_countAt wsX7_countAt) := gW (List.forall_mem_cons.mpr ⟨wG_in (wT3 (List.mem_of_getElem? (i := 208) (by decide +kernel))) rfl, List.forall_mem_cons.mpr ⟨wG_in (wT3 (List.mem_of_getElem? (i := 210) (by decide +kernel))) rfl, List.forall_mem_cons.mpr ⟨wG_sel (List.mem_of_getElem? (i := 42) (by decide +kernel)) rfl, List.forall_mem_cons.mpr ⟨wG_in (wT1 (List.mem_of_getElem? (i := 7) (by decide +kernel))) rfl, List.forall_mem_cons.mpr ⟨kX7_countAt, fun _ h => h⟩⟩⟩⟩⟩)
theorem hdX7_countAt : yX7_countAt.cls = RX7 ∧ yX7_countAt.cls ≠ "java/lang/invoke/MethodHandle" ∧ yX7_countAt.cls ≠ "java/lang/invoke/VarHandle" ∧ (parseMethodDescriptor yX7_countAt.desc).map (fun d => d.parameters.length) = some 2 := by decide +kernel
set_option maxRecDepth 20000 in
theorem gX7_holder {x : Cond} : GoodIn (x :: wG) (wsV RX7 193 RX7 yX7_holder wsX7_holder) := gW (List.forall_mem_cons.mpr ⟨wG_in (wT3 (List.mem_of_getElem? (i := 224) (by decide +kernel))) rfl, List.forall_mem_cons.mpr ⟨wG_in (wT3 (List.mem_of_getElem? (i := 192) (by decide +kernel))) rfl, List.forall_mem_cons.mpr ⟨wG_in (wT3 (List.mem_of_getElem? (i := 193) (by decide +kernel))) rfl, List.forall_mem_cons.mpr ⟨wG_in (wT1 (List.mem_of_getElem? (i := 7) (by decide +kernel))) rfl, List.forall_mem_cons.mpr ⟨kX7_holder, fun _ h => h⟩⟩⟩⟩⟩)
theorem hdX7_holder : yX7_holder.cls = RX7 ∧ yX7_holder.cls ≠ "java/lang/invoke/MethodHandle" ∧ yX7_holder.cls ≠ "java/lang/invoke/VarHandle" ∧ (parseMethodDescriptor yX7_holder.desc).map (fun d => d.parameters.length) = some 2 := by decide +kernel
set_option maxRecDepth 20000 in
theorem gX7_lookUp {x : Cond} : GoodIn (x :: wG) (wsV RX7 198 RX7 yX7_lookUp wsX7_lookUp) := gW (List.forall_mem_cons.mpr ⟨wG_in (wT3 (List.mem_of_getElem? (i := 226) (by decide +kernel))) rfl, List.forall_mem_cons.mpr ⟨wG_in (wT3 (List.mem_of_getElem? (i := 228) (by decide +kernel))) rfl, List.forall_mem_cons.mpr ⟨wG_sel (List.mem_of_getElem? (i := 45) (by decide +kernel)) rfl, List.forall_mem_cons.mpr ⟨wG_in (wT1 (List.mem_of_getElem? (i := 7) (by decide +kernel))) rfl, List.forall_mem_cons.mpr ⟨kX7_lookUp, fun _ h => h⟩⟩⟩⟩⟩)
theorem hdX7_lookUp : yX7_lookUp.cls = RX7 ∧ yX7_lookUp.cls ≠ "java/lang/invoke/MethodHandle" ∧ yX7_lookUp.cls ≠ "java/lang/invoke/VarHandle" ∧ (parseMethodDescriptor yX7_lookUp.desc).map (fun d => d.parameters.length) = some 3 := by decide +kernel
set_option maxRecDepth 20000 in
theorem gX7_inside {x : Cond} : GoodIn (x :: wG) (wsV RX7 201 RX7 yX7_inside wsX7_inside) := gW (List.forall_mem_cons.mpr ⟨wG_in (wT3 (List.mem_of_getElem? (i := 230) (by decide +kernel))) rfl, List.forall_mem_cons.mpr ⟨wG_in (wT3 (List.mem_of_getElem? (i := 232) (by decide +kernel))) rfl, List.forall_mem_cons.mpr ⟨wG_sel (List.mem_of_getElem? (i := 46) (by decide +kernel)) rfl, List.forall_mem_cons.mpr ⟨wG_in (wT1 (List.mem_of_getElem? (i := 7) (by decide +kernel))) rfl, List.forall_mem_cons.mpr ⟨kX7_inside, fun _ h => h⟩⟩⟩⟩⟩)
theorem hdX7_inside : yX7_inside.cls = RX7 ∧ yX7_inside.cls ≠ "java/lang/invoke/MethodHandle" ∧ yX7_inside.cls ≠ "java/lang/invoke/VarHandle" ∧ (parseMethodDescriptor yX7_inside.desc).map (fun d => d.parameters.length) = some 2 := by decide +kernel
set_option maxRecDepth 20000 in
theorem gX7_shown {x : Cond} : GoodIn (x :: wG) (wsV RX7 204 RX7 yX7_shown wsX7_shown) := gW (List.forall_mem_cons.mpr ⟨wG_in (wT3 (List.mem_of_getElem? (i := 234) (by decide +kernel))) rfl, List.forall_mem_cons.mpr ⟨wG_in (wT3 (List.mem_of_getElem? (i := 236) (by decide +kernel))) rfl, List.forall_mem_cons.mpr ⟨wG_sel (List.mem_of_getElem? (i := 47) (by decide +kernel)) rfl, List.forall_mem_cons.mpr ⟨wG_in (wT1 (List.mem_of_getElem? (i := 7) (by decide +kernel))) rfl, List.forall_mem_cons.mpr ⟨kX7_shown, fun _ h => h⟩⟩⟩⟩⟩)
theorem hdX7_shown : yX7_shown.cls = RX7 ∧ yX7_shown.cls ≠ "java/lang/invoke/MethodHandle" ∧ yX7_shown.cls ≠ "java/lang/invoke/VarHandle" ∧ (parseMethodDescriptor yX7_shown.desc).map (fun d => d.parameters.length) = some 2 := by decide +kernel
end
section
theorem dX7_init_0 : decode cX7_init 0 = .ok (.aload_n 0, 1) := by decide +kernel
theorem dX7_init_1 : decode cX7_init 1 = .ok (.invokespecial 1, 3) := by decide +kernel
theorem dX7_init_4 : decode cX7_init 4 = .ok (.aload_n 0, 1) := by decide +kernel
theorem dX7_init_5 : decode cX7_init 5 = .ok (.bipush 120, 2) := by decide +kernel
theorem dX7_init_7 : decode cX7_init 7 = .ok (.newarray .int, 2) := by decide +kernel
theorem dX7_init_9 : decode cX7_init 9 = .ok (.putfield 7, 3) := by decide +kernel
theorem dX7_init_12 : decode cX7_init 12 = .ok (.aload_n 0, 1) := by decide +kernel
theorem dX7_init_13 : decode cX7_init 13 = .ok (.sipush 1920, 3) := by decide +kernel
theorem dX7_init_16 : decode cX7_init 16 = .ok (.newarray .int, 2) := by decide +kernel
theorem dX7_init_18 : decode cX7_init 18 = .ok (.putfield 13, 3) := by decide +kernel
theorem dX7_init_21 : decode cX7_init 21 = .ok (.aload_n 0, 1) := by decide +kernel
theorem dX7_init_22 : decode cX7_init 22 = .ok (.sipush 192, 3) := by decide +kernel
theorem dX7_init_25 : decode cX7_init 25 = .ok (.newarray .int, 2) := by decide +kernel
theorem dX7_init_27 : decode cX7_init 27 = .ok (.putfield 16, 3) := by decide +kernel
theorem dX7_init_30 : decode cX7_init 30 = .ok (.aload_n 0, 1) := by decide +kernel
theorem dX7_init_31 : decode cX7_init 31 = .ok (.sipush 208, 3) := by decide +kernel
theorem dX7_init_34 : decode cX7_init 34 = .ok (.newarray .int, 2) := by decide +kernel
theorem dX7_init_36 : decode cX7_init 36 = .ok (.putfield 19, 3) := by decide +kernel
theorem dX7_init_39 : decode cX7_init 39 = .ok (.aload_n 0, 1) := by decide +kernel
theorem dX7_init_40 : decode cX7_init 40 = .ok (.sipush 208, 3) := by decide +kernel
theorem dX7_init_43 : decode cX7_init 43 = .ok (.newarray .int, 2) := by decide +kernel
theorem dX7_init_45 : decode cX7_init 45 = .ok (.putfield 22, 3) := by decide +kernel
theorem dX7_init_48 : decode cX7_init 48 = .ok (.aload_n 0, 1) := by decide +kernel
theorem dX7_init_49 : decode cX7_init 49 = .ok (.sipush 208, 3) := by decide +kernel
theorem dX7_init_52 : decode cX7_init 52 = .ok (.newarray .int, 2) := by decide +kernel
theorem dX7_init_54 : decode cX7_init 54 = .ok (.putfield 25, 3) := by decide +kernel
theorem dX7_init_57 : decode cX7_init 57 = .ok (.aload_n 0, 1) := by decide +kernel
theorem dX7_init_58 : decode cX7_init 58 = .ok (.bipush 16, 2) := by decide +kernel
theorem dX7_init_60 : decode cX7_init 60 = .ok (.newarray .int, 2) := by decide +kernel
theorem dX7_init_62 : decode cX7_init 62 = .ok (.putfield 28, 3) := by decide +kernel
theorem dX7_init_65 : decode cX7_init 65 = .ok (.aload_n 0, 1) := by decide +kernel
theorem dX7_init_66 : decode cX7_init 66 = .ok (.bipush 16, 2) := by decide +kernel
theorem dX7_init_68 : decode cX7_init 68 = .ok (.newarray .int, 2) := by decide +kernel
theorem dX7_init_70 : decode cX7_init 70 = .ok (.putfield 31, 3) := by decide +kernel
theorem dX7_init_73 : decode cX7_init 73 = .ok (.aload_n 0, 1) := by decide +kernel
theorem dX7_init_74 : decode cX7_init 74 = .ok (.bipush 16, 2) := by decide +kernel
theorem dX7_init_76 : decode cX7_init 76 = .ok (.newarray .int, 2) := by decide +kernel
theorem dX7_init_78 : decode cX7_init 78 = .ok (.putfield 34, 3) := by decide +kernel
theorem dX7_init_81 : decode cX7_init 81 = .ok (.aload_n 0, 1) := by decide +kernel
theorem dX7_init_82 : decode cX7_init 82 = .ok (.bipush 16, 2) := by decide +kernel
theorem dX7_init_84 : decode cX7_init 84 = .ok (.newarray .int, 2) := by decide +kernel
theorem dX7_init_86 : decode cX7_init 86 = .ok (.putfield 37, 3) := by decide +kernel
theorem dX7_init_89 : decode cX7_init 89 = .ok (.aload_n 0, 1) := by decide +kernel
theorem dX7_init_90 : decode cX7_init 90 = .ok (.bipush 16, 2) := by decide +kernel
theorem dX7_init_92 : decode cX7_init 92 = .ok (.newarray .int, 2) := by decide +kernel
theorem dX7_init_94 : decode cX7_init 94 = .ok (.putfield 40, 3) := by decide +kernel
theorem dX7_init_97 : decode cX7_init 97 = .ok (.aload_n 0, 1) := by decide +kernel
theorem dX7_init_98 : decode cX7_init 98 = .ok (.bipush 64, 2) := by decide +kernel
theorem dX7_init_100 : decode cX7_init 100 = .ok (.newarray .int, 2) := by decide +kernel
theorem dX7_init_102 : decode cX7_init 102 = .ok (.putfield 43, 3) := by decide +kernel
theorem dX7_init_105 : decode cX7_init 105 = .ok (.aload_n 0, 1) := by decide +kernel
theorem dX7_init_106 : decode cX7_init 106 = .ok (.bipush 16, 2) := by decide +kernel
theorem dX7_init_108 : decode cX7_init 108 = .ok (.newarray .int, 2) := by decide +kernel
theorem dX7_init_110 : decode cX7_init 110 = .ok (.putfield 46, 3) := by decide +kernel
theorem dX7_init_113 : decode cX7_init 113 = .ok (.aload_n 0, 1) := by decide +kernel
theorem dX7_init_114 : decode cX7_init 114 = .ok (.bipush 64, 2) := by decide +kernel
theorem dX7_init_116 : decode cX7_init 116 = .ok (.newarray .int, 2) := by decide +kernel
theorem dX7_init_118 : decode cX7_init 118 = .ok (.putfield 49, 3) := by decide +kernel
theorem dX7_init_121 : decode cX7_init 121 = .ok (.aload_n 0, 1) := by decide +kernel
theorem dX7_init_122 : decode cX7_init 122 = .ok (.bipush 16, 2) := by decide +kernel
theorem dX7_init_124 : decode cX7_init 124 = .ok (.newarray .int, 2) := by decide +kernel
theorem dX7_init_126 : decode cX7_init 126 = .ok (.putfield 52, 3) := by decide +kernel
theorem dX7_init_129 : decode cX7_init 129 = .ok (.aload_n 0, 1) := by decide +kernel
theorem dX7_init_130 : decode cX7_init 130 = .ok (.bipush 7, 2) := by decide +kernel
theorem dX7_init_132 : decode cX7_init 132 = .ok (.newarray .int, 2) := by decide +kernel
theorem dX7_init_134 : decode cX7_init 134 = .ok (.putfield 55, 3) := by decide +kernel
theorem dX7_init_137 : decode cX7_init 137 = .ok (.aload_n 0, 1) := by decide +kernel
theorem dX7_init_138 : decode cX7_init 138 = .ok (.bipush 7, 2) := by decide +kernel
theorem dX7_init_140 : decode cX7_init 140 = .ok (.newarray .boolean, 2) := by decide +kernel
theorem dX7_init_142 : decode cX7_init 142 = .ok (.putfield 58, 3) := by decide +kernel
theorem dX7_init_145 : decode cX7_init 145 = .ok (.aload_n 0, 1) := by decide +kernel
theorem dX7_init_146 : decode cX7_init 146 = .ok (.sipush 192, 3) := by decide +kernel
theorem dX7_init_149 : decode cX7_init 149 = .ok (.newarray .boolean, 2) := by decide +kernel
theorem dX7_init_151 : decode cX7_init 151 = .ok (.putfield 62, 3) := by decide +kernel
theorem dX7_init_154 : decode cX7_init 154 = .ok (.return_, 1) := by decide +kernel
theorem dX7_put_0 : decode cX7_put 0 = .ok (.iload_n 3, 1) := by decide +kernel
theorem dX7_put_1 : decode cX7_put 1 = .ok (.iconst 1, 1) := by decide +kernel
theorem dX7_put_2 : decode cX7_put 2 = .ok (.if_icmp .lt 20, 3) := by decide +kernel
theorem dX7_put_5 : decode cX7_put 5 = .ok (.iload_n 3, 1) := by decide +kernel
theorem dX7_put_6 : decode cX7_put 6 = .ok (.bipush 8, 2) := by decide +kernel
theorem dX7_put_8 : decode cX7_put 8 = .ok (.if_icmp .gt 14, 3) := by decide +kernel
theorem dX7_put_11 : decode cX7_put 11 = .ok (.aload_n 0, 1) := by decide +kernel
theorem dX7_put_12 : decode cX7_put 12 = .ok (.getfield 65, 3) := by decide +kernel
theorem dX7_put_15 : decode cX7_put 15 = .ok (.iload_n 3, 1) := by decide +kernel
theorem dX7_put_16 : decode cX7_put 16 = .ok (.iadd, 1) := by decide +kernel
theorem dX7_put_17 : decode cX7_put 17 = .ok (.bipush 120, 2) := by decide +kernel
theorem dX7_put_19 : decode cX7_put 19 = .ok (.if_icmp .le 5, 3) := by decide +kernel
theorem dX7_put_22 : decode cX7_put 22 = .ok (.iconst 0, 1) := by decide +kernel
theorem dX7_put_23 : decode cX7_put 23 = .ok (.ireturn, 1) := by decide +kernel
theorem dX7_put_24 : decode cX7_put 24 = .ok (.iload_n 3, 1) := by decide +kernel
theorem dX7_put_25 : decode cX7_put 25 = .ok (.iconst 1, 1) := by decide +kernel
theorem dX7_put_26 : decode cX7_put 26 = .ok (.isub, 1) := by decide +kernel
theorem dX7_put_27 : decode cX7_put 27 = .ok (.istore 4, 2) := by decide +kernel
theorem dX7_put_29 : decode cX7_put 29 = .ok (.iload 4, 2) := by decide +kernel
theorem dX7_put_31 : decode cX7_put 31 = .ok (.ifCond .lt 40, 3) := by decide +kernel
theorem dX7_put_34 : decode cX7_put 34 = .ok (.aload_n 0, 1) := by decide +kernel
theorem dX7_put_35 : decode cX7_put 35 = .ok (.getfield 7, 3) := by decide +kernel
theorem dX7_put_38 : decode cX7_put 38 = .ok (.aload_n 0, 1) := by decide +kernel
theorem dX7_put_39 : decode cX7_put 39 = .ok (.getfield 65, 3) := by decide +kernel
theorem dX7_put_42 : decode cX7_put 42 = .ok (.lload_n 1, 1) := by decide +kernel
theorem dX7_put_43 : decode cX7_put 43 = .ok (.bipush 8, 2) := by decide +kernel
theorem dX7_put_45 : decode cX7_put 45 = .ok (.iload 4, 2) := by decide +kernel
theorem dX7_put_47 : decode cX7_put 47 = .ok (.imul, 1) := by decide +kernel
theorem dX7_put_48 : decode cX7_put 48 = .ok (.lshr, 1) := by decide +kernel
theorem dX7_put_49 : decode cX7_put 49 = .ok (.l2i, 1) := by decide +kernel
theorem dX7_put_50 : decode cX7_put 50 = .ok (.sipush 255, 3) := by decide +kernel
theorem dX7_put_53 : decode cX7_put 53 = .ok (.iand, 1) := by decide +kernel
theorem dX7_put_54 : decode cX7_put 54 = .ok (.iastore, 1) := by decide +kernel
theorem dX7_put_55 : decode cX7_put 55 = .ok (.aload_n 0, 1) := by decide +kernel
theorem dX7_put_56 : decode cX7_put 56 = .ok (.dup, 1) := by decide +kernel
theorem dX7_put_57 : decode cX7_put 57 = .ok (.getfield 65, 3) := by decide +kernel
theorem dX7_put_60 : decode cX7_put 60 = .ok (.iconst 1, 1) := by decide +kernel
theorem dX7_put_61 : decode cX7_put 61 = .ok (.iadd, 1) := by decide +kernel
theorem dX7_put_62 : decode cX7_put 62 = .ok (.putfield 65, 3) := by decide +kernel
theorem dX7_put_65 : decode cX7_put 65 = .ok (.iinc 4 (-1), 3) := by decide +kernel
theorem dX7_put_68 : decode cX7_put 68 = .ok (.goto (-39), 3) := by decide +kernel
theorem dX7_put_71 : decode cX7_put 71 = .ok (.iconst 1, 1) := by decide +kernel
theorem dX7_put_72 : decode cX7_put 72 = .ok (.ireturn, 1) := by decide +kernel
theorem dX7_drop_0 : decode cX7_drop 0 = .ok (.aload_n 0, 1) := by decide +kernel
theorem dX7_drop_1 : decode cX7_drop 1 = .ok (.iconst 0, 1) := by decide +kernel
theorem dX7_drop_2 : decode cX7_drop 2 = .ok (.putfield 65, 3) := by decide +kernel
theorem dX7_drop_5 : decode cX7_drop 5 = .ok (.return_, 1) := by decide +kernel
theorem dX7_length_0 : decode cX7_length 0 = .ok (.aload_n 0, 1) := by decide +kernel
theorem dX7_length_1 : decode cX7_length 1 = .ok (.getfield 65, 3) := by decide +kernel
theorem dX7_length_4 : decode cX7_length 4 = .ok (.ireturn, 1) := by decide +kernel
theorem dX7_fail_0 : decode cX7_fail 0 = .ok (.aload_n 0, 1) := by decide +kernel
theorem dX7_fail_1 : decode cX7_fail 1 = .ok (.getfield 69, 3) := by decide +kernel
theorem dX7_fail_4 : decode cX7_fail 4 = .ok (.ifCond .ne 13, 3) := by decide +kernel
theorem dX7_fail_7 : decode cX7_fail 7 = .ok (.aload_n 0, 1) := by decide +kernel
theorem dX7_fail_8 : decode cX7_fail 8 = .ok (.iload_n 1, 1) := by decide +kernel
theorem dX7_fail_9 : decode cX7_fail 9 = .ok (.putfield 69, 3) := by decide +kernel
theorem dX7_fail_12 : decode cX7_fail 12 = .ok (.aload_n 0, 1) := by decide +kernel
theorem dX7_fail_13 : decode cX7_fail 13 = .ok (.iload_n 2, 1) := by decide +kernel
theorem dX7_fail_14 : decode cX7_fail 14 = .ok (.putfield 72, 3) := by decide +kernel
theorem dX7_fail_17 : decode cX7_fail 17 = .ok (.return_, 1) := by decide +kernel
theorem dX7_take_0 : decode cX7_take 0 = .ok (.aload_n 0, 1) := by decide +kernel
theorem dX7_take_1 : decode cX7_take 1 = .ok (.getfield 69, 3) := by decide +kernel
theorem dX7_take_4 : decode cX7_take 4 = .ok (.ifCond .eq 5, 3) := by decide +kernel
theorem dX7_take_7 : decode cX7_take 7 = .ok (.iconst 0, 1) := by decide +kernel
theorem dX7_take_8 : decode cX7_take 8 = .ok (.ireturn, 1) := by decide +kernel
theorem dX7_take_9 : decode cX7_take 9 = .ok (.aload_n 0, 1) := by decide +kernel
theorem dX7_take_10 : decode cX7_take 10 = .ok (.getfield 75, 3) := by decide +kernel
theorem dX7_take_13 : decode cX7_take 13 = .ok (.aload_n 0, 1) := by decide +kernel
theorem dX7_take_14 : decode cX7_take 14 = .ok (.getfield 78, 3) := by decide +kernel
theorem dX7_take_17 : decode cX7_take 17 = .ok (.if_icmp .lt 14, 3) := by decide +kernel
theorem dX7_take_20 : decode cX7_take 20 = .ok (.aload_n 0, 1) := by decide +kernel
theorem dX7_take_21 : decode cX7_take 21 = .ok (.iconst 1, 1) := by decide +kernel
theorem dX7_take_22 : decode cX7_take 22 = .ok (.aload_n 0, 1) := by decide +kernel
theorem dX7_take_23 : decode cX7_take 23 = .ok (.getfield 78, 3) := by decide +kernel
theorem dX7_take_26 : decode cX7_take 26 = .ok (.invokevirtual 81, 3) := by decide +kernel
theorem dX7_take_29 : decode cX7_take 29 = .ok (.iconst 0, 1) := by decide +kernel
theorem dX7_take_30 : decode cX7_take 30 = .ok (.ireturn, 1) := by decide +kernel
theorem dX7_take_31 : decode cX7_take 31 = .ok (.aload_n 0, 1) := by decide +kernel
theorem dX7_take_32 : decode cX7_take 32 = .ok (.getfield 13, 3) := by decide +kernel
theorem dX7_take_35 : decode cX7_take 35 = .ok (.aload_n 0, 1) := by decide +kernel
theorem dX7_take_36 : decode cX7_take 36 = .ok (.getfield 85, 3) := by decide +kernel
theorem dX7_take_39 : decode cX7_take 39 = .ok (.aload_n 0, 1) := by decide +kernel
theorem dX7_take_40 : decode cX7_take 40 = .ok (.getfield 75, 3) := by decide +kernel
theorem dX7_take_43 : decode cX7_take 43 = .ok (.iadd, 1) := by decide +kernel
theorem dX7_take_44 : decode cX7_take 44 = .ok (.iaload, 1) := by decide +kernel
theorem dX7_take_45 : decode cX7_take 45 = .ok (.istore_n 1, 1) := by decide +kernel
theorem dX7_take_46 : decode cX7_take 46 = .ok (.aload_n 0, 1) := by decide +kernel
theorem dX7_take_47 : decode cX7_take 47 = .ok (.dup, 1) := by decide +kernel
theorem dX7_take_48 : decode cX7_take 48 = .ok (.getfield 75, 3) := by decide +kernel
theorem dX7_take_51 : decode cX7_take 51 = .ok (.iconst 1, 1) := by decide +kernel
theorem dX7_take_52 : decode cX7_take 52 = .ok (.iadd, 1) := by decide +kernel
theorem dX7_take_53 : decode cX7_take 53 = .ok (.putfield 75, 3) := by decide +kernel
theorem dX7_take_56 : decode cX7_take 56 = .ok (.iload_n 1, 1) := by decide +kernel
theorem dX7_take_57 : decode cX7_take 57 = .ok (.ireturn, 1) := by decide +kernel
theorem dX7_many_0 : decode cX7_many 0 = .ok (.aload_n 0, 1) := by decide +kernel
theorem dX7_many_1 : decode cX7_many 1 = .ok (.getfield 75, 3) := by decide +kernel
theorem dX7_many_4 : decode cX7_many 4 = .ok (.istore_n 2, 1) := by decide +kernel
theorem dX7_many_5 : decode cX7_many 5 = .ok (.aload_n 0, 1) := by decide +kernel
theorem dX7_many_6 : decode cX7_many 6 = .ok (.invokevirtual 88, 3) := by decide +kernel
theorem dX7_many_9 : decode cX7_many 9 = .ok (.istore_n 3, 1) := by decide +kernel
theorem dX7_many_10 : decode cX7_many 10 = .ok (.iload_n 3, 1) := by decide +kernel
theorem dX7_many_11 : decode cX7_many 11 = .ok (.iload_n 1, 1) := by decide +kernel
theorem dX7_many_12 : decode cX7_many 12 = .ok (.if_icmp .le 9, 3) := by decide +kernel
theorem dX7_many_15 : decode cX7_many 15 = .ok (.aload_n 0, 1) := by decide +kernel
theorem dX7_many_16 : decode cX7_many 16 = .ok (.iconst 4, 1) := by decide +kernel
theorem dX7_many_17 : decode cX7_many 17 = .ok (.iload_n 2, 1) := by decide +kernel
theorem dX7_many_18 : decode cX7_many 18 = .ok (.invokevirtual 81, 3) := by decide +kernel
theorem dX7_many_21 : decode cX7_many 21 = .ok (.aload_n 0, 1) := by decide +kernel
theorem dX7_many_22 : decode cX7_many 22 = .ok (.getfield 69, 3) := by decide +kernel
theorem dX7_many_25 : decode cX7_many 25 = .ok (.ifCond .ne 7, 3) := by decide +kernel
theorem dX7_many_28 : decode cX7_many 28 = .ok (.iload_n 3, 1) := by decide +kernel
theorem dX7_many_29 : decode cX7_many 29 = .ok (.goto 4, 3) := by decide +kernel
theorem dX7_many_32 : decode cX7_many 32 = .ok (.iconst 0, 1) := by decide +kernel
theorem dX7_many_33 : decode cX7_many 33 = .ok (.ireturn, 1) := by decide +kernel
theorem dX7_constant_0 : decode cX7_constant 0 = .ok (.aload_n 0, 1) := by decide +kernel
theorem dX7_constant_1 : decode cX7_constant 1 = .ok (.getfield 75, 3) := by decide +kernel
theorem dX7_constant_4 : decode cX7_constant 4 = .ok (.istore_n 2, 1) := by decide +kernel
theorem dX7_constant_5 : decode cX7_constant 5 = .ok (.aload_n 0, 1) := by decide +kernel
theorem dX7_constant_6 : decode cX7_constant 6 = .ok (.invokevirtual 88, 3) := by decide +kernel
theorem dX7_constant_9 : decode cX7_constant 9 = .ok (.istore_n 3, 1) := by decide +kernel
theorem dX7_constant_10 : decode cX7_constant 10 = .ok (.aload_n 0, 1) := by decide +kernel
theorem dX7_constant_11 : decode cX7_constant 11 = .ok (.getfield 69, 3) := by decide +kernel
theorem dX7_constant_14 : decode cX7_constant 14 = .ok (.ifCond .ne 41, 3) := by decide +kernel
theorem dX7_constant_17 : decode cX7_constant 17 = .ok (.iload_n 3, 1) := by decide +kernel
theorem dX7_constant_18 : decode cX7_constant 18 = .ok (.iconst 1, 1) := by decide +kernel
theorem dX7_constant_19 : decode cX7_constant 19 = .ok (.if_icmp .lt 29, 3) := by decide +kernel
theorem dX7_constant_22 : decode cX7_constant 22 = .ok (.iload_n 3, 1) := by decide +kernel
theorem dX7_constant_23 : decode cX7_constant 23 = .ok (.aload_n 0, 1) := by decide +kernel
theorem dX7_constant_24 : decode cX7_constant 24 = .ok (.getfield 92, 3) := by decide +kernel
theorem dX7_constant_27 : decode cX7_constant 27 = .ok (.if_icmp .gt 21, 3) := by decide +kernel
theorem dX7_constant_30 : decode cX7_constant 30 = .ok (.aload_n 0, 1) := by decide +kernel
theorem dX7_constant_31 : decode cX7_constant 31 = .ok (.getfield 19, 3) := by decide +kernel
theorem dX7_constant_34 : decode cX7_constant 34 = .ok (.bipush 13, 2) := by decide +kernel
theorem dX7_constant_36 : decode cX7_constant 36 = .ok (.aload_n 0, 1) := by decide +kernel
theorem dX7_constant_37 : decode cX7_constant 37 = .ok (.getfield 95, 3) := by decide +kernel
theorem dX7_constant_40 : decode cX7_constant 40 = .ok (.imul, 1) := by decide +kernel
theorem dX7_constant_41 : decode cX7_constant 41 = .ok (.iload_n 3, 1) := by decide +kernel
theorem dX7_constant_42 : decode cX7_constant 42 = .ok (.iadd, 1) := by decide +kernel
theorem dX7_constant_43 : decode cX7_constant 43 = .ok (.iaload, 1) := by decide +kernel
theorem dX7_constant_44 : decode cX7_constant 44 = .ok (.iload_n 1, 1) := by decide +kernel
theorem dX7_constant_45 : decode cX7_constant 45 = .ok (.if_icmp .eq 10, 3) := by decide +kernel
theorem dX7_constant_48 : decode cX7_constant 48 = .ok (.aload_n 0, 1) := by decide +kernel
theorem dX7_constant_49 : decode cX7_constant 49 = .ok (.bipush 6, 2) := by decide +kernel
theorem dX7_constant_51 : decode cX7_constant 51 = .ok (.iload_n 2, 1) := by decide +kernel
theorem dX7_constant_52 : decode cX7_constant 52 = .ok (.invokevirtual 81, 3) := by decide +kernel
theorem dX7_constant_55 : decode cX7_constant 55 = .ok (.iload_n 3, 1) := by decide +kernel
theorem dX7_constant_56 : decode cX7_constant 56 = .ok (.ireturn, 1) := by decide +kernel
theorem dX7_classOrNone_0 : decode cX7_classOrNone 0 = .ok (.aload_n 0, 1) := by decide +kernel
theorem dX7_classOrNone_1 : decode cX7_classOrNone 1 = .ok (.getfield 75, 3) := by decide +kernel
theorem dX7_classOrNone_4 : decode cX7_classOrNone 4 = .ok (.istore_n 1, 1) := by decide +kernel
theorem dX7_classOrNone_5 : decode cX7_classOrNone 5 = .ok (.aload_n 0, 1) := by decide +kernel
theorem dX7_classOrNone_6 : decode cX7_classOrNone 6 = .ok (.invokevirtual 88, 3) := by decide +kernel
theorem dX7_classOrNone_9 : decode cX7_classOrNone 9 = .ok (.istore_n 2, 1) := by decide +kernel
theorem dX7_classOrNone_10 : decode cX7_classOrNone 10 = .ok (.aload_n 0, 1) := by decide +kernel
theorem dX7_classOrNone_11 : decode cX7_classOrNone 11 = .ok (.getfield 69, 3) := by decide +kernel
theorem dX7_classOrNone_14 : decode cX7_classOrNone 14 = .ok (.ifCond .ne 41, 3) := by decide +kernel
theorem dX7_classOrNone_17 : decode cX7_classOrNone 17 = .ok (.iload_n 2, 1) := by decide +kernel
theorem dX7_classOrNone_18 : decode cX7_classOrNone 18 = .ok (.ifCond .eq 37, 3) := by decide +kernel
theorem dX7_classOrNone_21 : decode cX7_classOrNone 21 = .ok (.iload_n 2, 1) := by decide +kernel
theorem dX7_classOrNone_22 : decode cX7_classOrNone 22 = .ok (.aload_n 0, 1) := by decide +kernel
theorem dX7_classOrNone_23 : decode cX7_classOrNone 23 = .ok (.getfield 92, 3) := by decide +kernel
theorem dX7_classOrNone_26 : decode cX7_classOrNone 26 = .ok (.if_icmp .gt 22, 3) := by decide +kernel
theorem dX7_classOrNone_29 : decode cX7_classOrNone 29 = .ok (.aload_n 0, 1) := by decide +kernel
theorem dX7_classOrNone_30 : decode cX7_classOrNone 30 = .ok (.getfield 19, 3) := by decide +kernel
theorem dX7_classOrNone_33 : decode cX7_classOrNone 33 = .ok (.bipush 13, 2) := by decide +kernel
theorem dX7_classOrNone_35 : decode cX7_classOrNone 35 = .ok (.aload_n 0, 1) := by decide +kernel
theorem dX7_classOrNone_36 : decode cX7_classOrNone 36 = .ok (.getfield 95, 3) := by decide +kernel
theorem dX7_classOrNone_39 : decode cX7_classOrNone 39 = .ok (.imul, 1) := by decide +kernel
theorem dX7_classOrNone_40 : decode cX7_classOrNone 40 = .ok (.iload_n 2, 1) := by decide +kernel
theorem dX7_classOrNone_41 : decode cX7_classOrNone 41 = .ok (.iadd, 1) := by decide +kernel
theorem dX7_classOrNone_42 : decode cX7_classOrNone 42 = .ok (.iaload, 1) := by decide +kernel
theorem dX7_classOrNone_43 : decode cX7_classOrNone 43 = .ok (.bipush 7, 2) := by decide +kernel
theorem dX7_classOrNone_45 : decode cX7_classOrNone 45 = .ok (.if_icmp .eq 10, 3) := by decide +kernel
theorem dX7_classOrNone_48 : decode cX7_classOrNone 48 = .ok (.aload_n 0, 1) := by decide +kernel
theorem dX7_classOrNone_49 : decode cX7_classOrNone 49 = .ok (.bipush 6, 2) := by decide +kernel
theorem dX7_classOrNone_51 : decode cX7_classOrNone 51 = .ok (.iload_n 1, 1) := by decide +kernel
theorem dX7_classOrNone_52 : decode cX7_classOrNone 52 = .ok (.invokevirtual 81, 3) := by decide +kernel
theorem dX7_classOrNone_55 : decode cX7_classOrNone 55 = .ok (.iload_n 2, 1) := by decide +kernel
theorem dX7_classOrNone_56 : decode cX7_classOrNone 56 = .ok (.ireturn, 1) := by decide +kernel
theorem dX7_oneConstant_0 : decode cX7_oneConstant 0 = .ok (.aload_n 0, 1) := by decide +kernel
theorem dX7_oneConstant_1 : decode cX7_oneConstant 1 = .ok (.getfield 75, 3) := by decide +kernel
theorem dX7_oneConstant_4 : decode cX7_oneConstant 4 = .ok (.istore_n 2, 1) := by decide +kernel
theorem dX7_oneConstant_5 : decode cX7_oneConstant 5 = .ok (.aload_n 0, 1) := by decide +kernel
theorem dX7_oneConstant_6 : decode cX7_oneConstant 6 = .ok (.invokevirtual 88, 3) := by decide +kernel
theorem dX7_oneConstant_9 : decode cX7_oneConstant 9 = .ok (.istore_n 3, 1) := by decide +kernel
theorem dX7_oneConstant_10 : decode cX7_oneConstant 10 = .ok (.aload_n 0, 1) := by decide +kernel
theorem dX7_oneConstant_11 : decode cX7_oneConstant 11 = .ok (.getfield 69, 3) := by decide +kernel
theorem dX7_oneConstant_14 : decode cX7_oneConstant 14 = .ok (.ifCond .eq 4, 3) := by decide +kernel
theorem dX7_oneConstant_17 : decode cX7_oneConstant 17 = .ok (.return_, 1) := by decide +kernel
theorem dX7_oneConstant_18 : decode cX7_oneConstant 18 = .ok (.aload_n 0, 1) := by decide +kernel
theorem dX7_oneConstant_19 : decode cX7_oneConstant 19 = .ok (.getfield 19, 3) := by decide +kernel
theorem dX7_oneConstant_22 : decode cX7_oneConstant 22 = .ok (.bipush 13, 2) := by decide +kernel
theorem dX7_oneConstant_24 : decode cX7_oneConstant 24 = .ok (.aload_n 0, 1) := by decide +kernel
theorem dX7_oneConstant_25 : decode cX7_oneConstant 25 = .ok (.getfield 95, 3) := by decide +kernel
theorem dX7_oneConstant_28 : decode cX7_oneConstant 28 = .ok (.imul, 1) := by decide +kernel
theorem dX7_oneConstant_29 : decode cX7_oneConstant 29 = .ok (.iload_n 1, 1) := by decide +kernel
theorem dX7_oneConstant_30 : decode cX7_oneConstant 30 = .ok (.iadd, 1) := by decide +kernel
theorem dX7_oneConstant_31 : decode cX7_oneConstant 31 = .ok (.iload_n 3, 1) := by decide +kernel
theorem dX7_oneConstant_32 : decode cX7_oneConstant 32 = .ok (.iastore, 1) := by decide +kernel
theorem dX7_oneConstant_33 : decode cX7_oneConstant 33 = .ok (.aload_n 0, 1) := by decide +kernel
theorem dX7_oneConstant_34 : decode cX7_oneConstant 34 = .ok (.getfield 22, 3) := by decide +kernel
theorem dX7_oneConstant_37 : decode cX7_oneConstant 37 = .ok (.bipush 13, 2) := by decide +kernel
theorem dX7_oneConstant_39 : decode cX7_oneConstant 39 = .ok (.aload_n 0, 1) := by decide +kernel
theorem dX7_oneConstant_40 : decode cX7_oneConstant 40 = .ok (.getfield 95, 3) := by decide +kernel
theorem dX7_oneConstant_43 : decode cX7_oneConstant 43 = .ok (.imul, 1) := by decide +kernel
theorem dX7_oneConstant_44 : decode cX7_oneConstant 44 = .ok (.iload_n 1, 1) := by decide +kernel
theorem dX7_oneConstant_45 : decode cX7_oneConstant 45 = .ok (.iadd, 1) := by decide +kernel
theorem dX7_oneConstant_46 : decode cX7_oneConstant 46 = .ok (.aload_n 0, 1) := by decide +kernel
theorem dX7_oneConstant_47 : decode cX7_oneConstant 47 = .ok (.getfield 85, 3) := by decide +kernel
theorem dX7_oneConstant_50 : decode cX7_oneConstant 50 = .ok (.iload_n 2, 1) := by decide +kernel
theorem dX7_oneConstant_51 : decode cX7_oneConstant 51 = .ok (.iadd, 1) := by decide +kernel
theorem dX7_oneConstant_52 : decode cX7_oneConstant 52 = .ok (.iastore, 1) := by decide +kernel
theorem dX7_oneConstant_53 : decode cX7_oneConstant 53 = .ok (.iload_n 3, 1) := by decide +kernel
theorem dX7_oneConstant_54 : decode cX7_oneConstant 54 = .ok (.iconst 1, 1) := by decide +kernel
theorem dX7_oneConstant_55 : decode cX7_oneConstant 55 = .ok (.if_icmp .ne 70, 3) := by decide +kernel
theorem dX7_oneConstant_58 : decode cX7_oneConstant 58 = .ok (.aload_n 0, 1) := by decide +kernel
theorem dX7_oneConstant_59 : decode cX7_oneConstant 59 = .ok (.bipush 10, 2) := by decide +kernel
theorem dX7_oneConstant_61 : decode cX7_oneConstant 61 = .ok (.invokevirtual 98, 3) := by decide +kernel
theorem dX7_oneConstant_64 : decode cX7_oneConstant 64 = .ok (.istore 4, 2) := by decide +kernel
theorem dX7_oneConstant_66 : decode cX7_oneConstant 66 = .ok (.iconst 0, 1) := by decide +kernel
theorem dX7_oneConstant_67 : decode cX7_oneConstant 67 = .ok (.istore 5, 2) := by decide +kernel
theorem dX7_oneConstant_69 : decode cX7_oneConstant 69 = .ok (.iload 5, 2) := by decide +kernel
theorem dX7_oneConstant_71 : decode cX7_oneConstant 71 = .ok (.iload 4, 2) := by decide +kernel
theorem dX7_oneConstant_73 : decode cX7_oneConstant 73 = .ok (.if_icmp .ge 49, 3) := by decide +kernel
theorem dX7_oneConstant_76 : decode cX7_oneConstant 76 = .ok (.aload_n 0, 1) := by decide +kernel
theorem dX7_oneConstant_77 : decode cX7_oneConstant 77 = .ok (.getfield 75, 3) := by decide +kernel
theorem dX7_oneConstant_80 : decode cX7_oneConstant 80 = .ok (.istore 6, 2) := by decide +kernel
theorem dX7_oneConstant_82 : decode cX7_oneConstant 82 = .ok (.aload_n 0, 1) := by decide +kernel
theorem dX7_oneConstant_83 : decode cX7_oneConstant 83 = .ok (.invokevirtual 88, 3) := by decide +kernel
theorem dX7_oneConstant_86 : decode cX7_oneConstant 86 = .ok (.istore 7, 2) := by decide +kernel
theorem dX7_oneConstant_88 : decode cX7_oneConstant 88 = .ok (.aload_n 0, 1) := by decide +kernel
theorem dX7_oneConstant_89 : decode cX7_oneConstant 89 = .ok (.getfield 69, 3) := by decide +kernel
theorem dX7_oneConstant_92 : decode cX7_oneConstant 92 = .ok (.ifCond .ne 24, 3) := by decide +kernel
theorem dX7_oneConstant_95 : decode cX7_oneConstant 95 = .ok (.iload 7, 2) := by decide +kernel
theorem dX7_oneConstant_97 : decode cX7_oneConstant 97 = .ok (.bipush 33, 2) := by decide +kernel
theorem dX7_oneConstant_99 : decode cX7_oneConstant 99 = .ok (.if_icmp .lt 10, 3) := by decide +kernel
theorem dX7_oneConstant_102 : decode cX7_oneConstant 102 = .ok (.iload 7, 2) := by decide +kernel
theorem dX7_oneConstant_104 : decode cX7_oneConstant 104 = .ok (.bipush 126, 2) := by decide +kernel
theorem dX7_oneConstant_106 : decode cX7_oneConstant 106 = .ok (.if_icmp .le 10, 3) := by decide +kernel
theorem dX7_oneConstant_109 : decode cX7_oneConstant 109 = .ok (.aload_n 0, 1) := by decide +kernel
theorem dX7_oneConstant_110 : decode cX7_oneConstant 110 = .ok (.iconst 5, 1) := by decide +kernel
theorem dX7_oneConstant_111 : decode cX7_oneConstant 111 = .ok (.iload 6, 2) := by decide +kernel
theorem dX7_oneConstant_113 : decode cX7_oneConstant 113 = .ok (.invokevirtual 81, 3) := by decide +kernel
theorem dX7_oneConstant_116 : decode cX7_oneConstant 116 = .ok (.iinc 5 1, 3) := by decide +kernel
theorem dX7_oneConstant_119 : decode cX7_oneConstant 119 = .ok (.goto (-50), 3) := by decide +kernel
theorem dX7_oneConstant_122 : decode cX7_oneConstant 122 = .ok (.goto 51, 3) := by decide +kernel
theorem dX7_oneConstant_125 : decode cX7_oneConstant 125 = .ok (.iload_n 3, 1) := by decide +kernel
theorem dX7_oneConstant_126 : decode cX7_oneConstant 126 = .ok (.iconst 3, 1) := by decide +kernel
theorem dX7_oneConstant_127 : decode cX7_oneConstant 127 = .ok (.if_icmp .ne 26, 3) := by decide +kernel
theorem dX7_oneConstant_130 : decode cX7_oneConstant 130 = .ok (.iconst 0, 1) := by decide +kernel
theorem dX7_oneConstant_131 : decode cX7_oneConstant 131 = .ok (.istore 4, 2) := by decide +kernel
theorem dX7_oneConstant_133 : decode cX7_oneConstant 133 = .ok (.iload 4, 2) := by decide +kernel
theorem dX7_oneConstant_135 : decode cX7_oneConstant 135 = .ok (.iconst 4, 1) := by decide +kernel
theorem dX7_oneConstant_136 : decode cX7_oneConstant 136 = .ok (.if_icmp .ge 14, 3) := by decide +kernel
theorem dX7_oneConstant_139 : decode cX7_oneConstant 139 = .ok (.aload_n 0, 1) := by decide +kernel
theorem dX7_oneConstant_140 : decode cX7_oneConstant 140 = .ok (.invokevirtual 88, 3) := by decide +kernel
theorem dX7_oneConstant_143 : decode cX7_oneConstant 143 = .ok (.pop, 1) := by decide +kernel
theorem dX7_oneConstant_144 : decode cX7_oneConstant 144 = .ok (.iinc 4 1, 3) := by decide +kernel
theorem dX7_oneConstant_147 : decode cX7_oneConstant 147 = .ok (.goto (-14), 3) := by decide +kernel
theorem dX7_oneConstant_150 : decode cX7_oneConstant 150 = .ok (.goto 23, 3) := by decide +kernel
theorem dX7_oneConstant_153 : decode cX7_oneConstant 153 = .ok (.iload_n 3, 1) := by decide +kernel
theorem dX7_oneConstant_154 : decode cX7_oneConstant 154 = .ok (.bipush 7, 2) := by decide +kernel
theorem dX7_oneConstant_156 : decode cX7_oneConstant 156 = .ok (.if_icmp .ne 11, 3) := by decide +kernel
theorem dX7_oneConstant_159 : decode cX7_oneConstant 159 = .ok (.aload_n 0, 1) := by decide +kernel
theorem dX7_oneConstant_160 : decode cX7_oneConstant 160 = .ok (.invokevirtual 88, 3) := by decide +kernel
theorem dX7_oneConstant_163 : decode cX7_oneConstant 163 = .ok (.pop, 1) := by decide +kernel
theorem dX7_oneConstant_164 : decode cX7_oneConstant 164 = .ok (.goto 9, 3) := by decide +kernel
theorem dX7_oneConstant_167 : decode cX7_oneConstant 167 = .ok (.aload_n 0, 1) := by decide +kernel
theorem dX7_oneConstant_168 : decode cX7_oneConstant 168 = .ok (.iconst 3, 1) := by decide +kernel
theorem dX7_oneConstant_169 : decode cX7_oneConstant 169 = .ok (.iload_n 2, 1) := by decide +kernel
theorem dX7_oneConstant_170 : decode cX7_oneConstant 170 = .ok (.invokevirtual 81, 3) := by decide +kernel
theorem dX7_oneConstant_173 : decode cX7_oneConstant 173 = .ok (.return_, 1) := by decide +kernel
theorem dX7_allConstants_0 : decode cX7_allConstants 0 = .ok (.aload_n 0, 1) := by decide +kernel
theorem dX7_allConstants_1 : decode cX7_allConstants 1 = .ok (.aload_n 0, 1) := by decide +kernel
theorem dX7_allConstants_2 : decode cX7_allConstants 2 = .ok (.bipush 12, 2) := by decide +kernel
theorem dX7_allConstants_4 : decode cX7_allConstants 4 = .ok (.invokevirtual 98, 3) := by decide +kernel
theorem dX7_allConstants_7 : decode cX7_allConstants 7 = .ok (.putfield 92, 3) := by decide +kernel
theorem dX7_allConstants_10 : decode cX7_allConstants 10 = .ok (.iconst 1, 1) := by decide +kernel
theorem dX7_allConstants_11 : decode cX7_allConstants 11 = .ok (.istore_n 1, 1) := by decide +kernel
theorem dX7_allConstants_12 : decode cX7_allConstants 12 = .ok (.iload_n 1, 1) := by decide +kernel
theorem dX7_allConstants_13 : decode cX7_allConstants 13 = .ok (.aload_n 0, 1) := by decide +kernel
theorem dX7_allConstants_14 : decode cX7_allConstants 14 = .ok (.getfield 92, 3) := by decide +kernel
theorem dX7_allConstants_17 : decode cX7_allConstants 17 = .ok (.if_icmp .gt 21, 3) := by decide +kernel
theorem dX7_allConstants_20 : decode cX7_allConstants 20 = .ok (.aload_n 0, 1) := by decide +kernel
theorem dX7_allConstants_21 : decode cX7_allConstants 21 = .ok (.getfield 69, 3) := by decide +kernel
theorem dX7_allConstants_24 : decode cX7_allConstants 24 = .ok (.ifCond .ne 14, 3) := by decide +kernel
theorem dX7_allConstants_27 : decode cX7_allConstants 27 = .ok (.aload_n 0, 1) := by decide +kernel
theorem dX7_allConstants_28 : decode cX7_allConstants 28 = .ok (.iload_n 1, 1) := by decide +kernel
theorem dX7_allConstants_29 : decode cX7_allConstants 29 = .ok (.invokevirtual 102, 3) := by decide +kernel
theorem dX7_allConstants_32 : decode cX7_allConstants 32 = .ok (.iinc 1 1, 3) := by decide +kernel
theorem dX7_allConstants_35 : decode cX7_allConstants 35 = .ok (.goto (-23), 3) := by decide +kernel
theorem dX7_allConstants_38 : decode cX7_allConstants 38 = .ok (.iconst 1, 1) := by decide +kernel
theorem dX7_allConstants_39 : decode cX7_allConstants 39 = .ok (.istore_n 1, 1) := by decide +kernel
theorem dX7_allConstants_40 : decode cX7_allConstants 40 = .ok (.iload_n 1, 1) := by decide +kernel
theorem dX7_allConstants_41 : decode cX7_allConstants 41 = .ok (.aload_n 0, 1) := by decide +kernel
theorem dX7_allConstants_42 : decode cX7_allConstants 42 = .ok (.getfield 92, 3) := by decide +kernel
theorem dX7_allConstants_45 : decode cX7_allConstants 45 = .ok (.if_icmp .gt 140, 3) := by decide +kernel
theorem dX7_allConstants_48 : decode cX7_allConstants 48 = .ok (.aload_n 0, 1) := by decide +kernel
theorem dX7_allConstants_49 : decode cX7_allConstants 49 = .ok (.getfield 69, 3) := by decide +kernel
theorem dX7_allConstants_52 : decode cX7_allConstants 52 = .ok (.ifCond .ne 133, 3) := by decide +kernel
theorem dX7_allConstants_55 : decode cX7_allConstants 55 = .ok (.aload_n 0, 1) := by decide +kernel
theorem dX7_allConstants_56 : decode cX7_allConstants 56 = .ok (.getfield 22, 3) := by decide +kernel
theorem dX7_allConstants_59 : decode cX7_allConstants 59 = .ok (.bipush 13, 2) := by decide +kernel
theorem dX7_allConstants_61 : decode cX7_allConstants 61 = .ok (.aload_n 0, 1) := by decide +kernel
theorem dX7_allConstants_62 : decode cX7_allConstants 62 = .ok (.getfield 95, 3) := by decide +kernel
theorem dX7_allConstants_65 : decode cX7_allConstants 65 = .ok (.imul, 1) := by decide +kernel
theorem dX7_allConstants_66 : decode cX7_allConstants 66 = .ok (.iload_n 1, 1) := by decide +kernel
theorem dX7_allConstants_67 : decode cX7_allConstants 67 = .ok (.iadd, 1) := by decide +kernel
theorem dX7_allConstants_68 : decode cX7_allConstants 68 = .ok (.iaload, 1) := by decide +kernel
theorem dX7_allConstants_69 : decode cX7_allConstants 69 = .ok (.istore_n 2, 1) := by decide +kernel
theorem dX7_allConstants_70 : decode cX7_allConstants 70 = .ok (.aload_n 0, 1) := by decide +kernel
theorem dX7_allConstants_71 : decode cX7_allConstants 71 = .ok (.getfield 19, 3) := by decide +kernel
theorem dX7_allConstants_74 : decode cX7_allConstants 74 = .ok (.bipush 13, 2) := by decide +kernel
theorem dX7_allConstants_76 : decode cX7_allConstants 76 = .ok (.aload_n 0, 1) := by decide +kernel
theorem dX7_allConstants_77 : decode cX7_allConstants 77 = .ok (.getfield 95, 3) := by decide +kernel
theorem dX7_allConstants_80 : decode cX7_allConstants 80 = .ok (.imul, 1) := by decide +kernel
theorem dX7_allConstants_81 : decode cX7_allConstants 81 = .ok (.iload_n 1, 1) := by decide +kernel
theorem dX7_allConstants_82 : decode cX7_allConstants 82 = .ok (.iadd, 1) := by decide +kernel
theorem dX7_allConstants_83 : decode cX7_allConstants 83 = .ok (.iaload, 1) := by decide +kernel
theorem dX7_allConstants_84 : decode cX7_allConstants 84 = .ok (.bipush 7, 2) := by decide +kernel
theorem dX7_allConstants_86 : decode cX7_allConstants 86 = .ok (.if_icmp .ne 93, 3) := by decide +kernel
theorem dX7_allConstants_89 : decode cX7_allConstants 89 = .ok (.aload_n 0, 1) := by decide +kernel
theorem dX7_allConstants_90 : decode cX7_allConstants 90 = .ok (.getfield 13, 3) := by decide +kernel
theorem dX7_allConstants_93 : decode cX7_allConstants 93 = .ok (.iload_n 2, 1) := by decide +kernel
theorem dX7_allConstants_94 : decode cX7_allConstants 94 = .ok (.iconst 1, 1) := by decide +kernel
theorem dX7_allConstants_95 : decode cX7_allConstants 95 = .ok (.iadd, 1) := by decide +kernel
theorem dX7_allConstants_96 : decode cX7_allConstants 96 = .ok (.iaload, 1) := by decide +kernel
theorem dX7_allConstants_97 : decode cX7_allConstants 97 = .ok (.istore_n 3, 1) := by decide +kernel
theorem dX7_allConstants_98 : decode cX7_allConstants 98 = .ok (.iload_n 3, 1) := by decide +kernel
theorem dX7_allConstants_99 : decode cX7_allConstants 99 = .ok (.iconst 1, 1) := by decide +kernel
theorem dX7_allConstants_100 : decode cX7_allConstants 100 = .ok (.if_icmp .lt 57, 3) := by decide +kernel
theorem dX7_allConstants_103 : decode cX7_allConstants 103 = .ok (.iload_n 3, 1) := by decide +kernel
theorem dX7_allConstants_104 : decode cX7_allConstants 104 = .ok (.aload_n 0, 1) := by decide +kernel
theorem dX7_allConstants_105 : decode cX7_allConstants 105 = .ok (.getfield 92, 3) := by decide +kernel
theorem dX7_allConstants_108 : decode cX7_allConstants 108 = .ok (.if_icmp .gt 49, 3) := by decide +kernel
theorem dX7_allConstants_111 : decode cX7_allConstants 111 = .ok (.aload_n 0, 1) := by decide +kernel
theorem dX7_allConstants_112 : decode cX7_allConstants 112 = .ok (.getfield 19, 3) := by decide +kernel
theorem dX7_allConstants_115 : decode cX7_allConstants 115 = .ok (.bipush 13, 2) := by decide +kernel
theorem dX7_allConstants_117 : decode cX7_allConstants 117 = .ok (.aload_n 0, 1) := by decide +kernel
theorem dX7_allConstants_118 : decode cX7_allConstants 118 = .ok (.getfield 95, 3) := by decide +kernel
theorem dX7_allConstants_121 : decode cX7_allConstants 121 = .ok (.imul, 1) := by decide +kernel
theorem dX7_allConstants_122 : decode cX7_allConstants 122 = .ok (.iload_n 3, 1) := by decide +kernel
theorem dX7_allConstants_123 : decode cX7_allConstants 123 = .ok (.iadd, 1) := by decide +kernel
theorem dX7_allConstants_124 : decode cX7_allConstants 124 = .ok (.iaload, 1) := by decide +kernel
theorem dX7_allConstants_125 : decode cX7_allConstants 125 = .ok (.iconst 1, 1) := by decide +kernel
theorem dX7_allConstants_126 : decode cX7_allConstants 126 = .ok (.if_icmp .ne 31, 3) := by decide +kernel
theorem dX7_allConstants_129 : decode cX7_allConstants 129 = .ok (.aload_n 0, 1) := by decide +kernel
theorem dX7_allConstants_130 : decode cX7_allConstants 130 = .ok (.getfield 13, 3) := by decide +kernel
theorem dX7_allConstants_133 : decode cX7_allConstants 133 = .ok (.aload_n 0, 1) := by decide +kernel
theorem dX7_allConstants_134 : decode cX7_allConstants 134 = .ok (.getfield 22, 3) := by decide +kernel
theorem dX7_allConstants_137 : decode cX7_allConstants 137 = .ok (.bipush 13, 2) := by decide +kernel
theorem dX7_allConstants_139 : decode cX7_allConstants 139 = .ok (.aload_n 0, 1) := by decide +kernel
theorem dX7_allConstants_140 : decode cX7_allConstants 140 = .ok (.getfield 95, 3) := by decide +kernel
theorem dX7_allConstants_143 : decode cX7_allConstants 143 = .ok (.imul, 1) := by decide +kernel
theorem dX7_allConstants_144 : decode cX7_allConstants 144 = .ok (.iload_n 3, 1) := by decide +kernel
theorem dX7_allConstants_145 : decode cX7_allConstants 145 = .ok (.iadd, 1) := by decide +kernel
theorem dX7_allConstants_146 : decode cX7_allConstants 146 = .ok (.iaload, 1) := by decide +kernel
theorem dX7_allConstants_147 : decode cX7_allConstants 147 = .ok (.iconst 1, 1) := by decide +kernel
theorem dX7_allConstants_148 : decode cX7_allConstants 148 = .ok (.iadd, 1) := by decide +kernel
theorem dX7_allConstants_149 : decode cX7_allConstants 149 = .ok (.iaload, 1) := by decide +kernel
theorem dX7_allConstants_150 : decode cX7_allConstants 150 = .ok (.ifCond .le 7, 3) := by decide +kernel
theorem dX7_allConstants_153 : decode cX7_allConstants 153 = .ok (.iconst 1, 1) := by decide +kernel
theorem dX7_allConstants_154 : decode cX7_allConstants 154 = .ok (.goto 4, 3) := by decide +kernel
theorem dX7_allConstants_157 : decode cX7_allConstants 157 = .ok (.iconst 0, 1) := by decide +kernel
theorem dX7_allConstants_158 : decode cX7_allConstants 158 = .ok (.istore 4, 2) := by decide +kernel
theorem dX7_allConstants_160 : decode cX7_allConstants 160 = .ok (.iload 4, 2) := by decide +kernel
theorem dX7_allConstants_162 : decode cX7_allConstants 162 = .ok (.ifCond .ne 17, 3) := by decide +kernel
theorem dX7_allConstants_165 : decode cX7_allConstants 165 = .ok (.aload_n 0, 1) := by decide +kernel
theorem dX7_allConstants_166 : decode cX7_allConstants 166 = .ok (.bipush 6, 2) := by decide +kernel
theorem dX7_allConstants_168 : decode cX7_allConstants 168 = .ok (.iload_n 2, 1) := by decide +kernel
theorem dX7_allConstants_169 : decode cX7_allConstants 169 = .ok (.iconst 1, 1) := by decide +kernel
theorem dX7_allConstants_170 : decode cX7_allConstants 170 = .ok (.iadd, 1) := by decide +kernel
theorem dX7_allConstants_171 : decode cX7_allConstants 171 = .ok (.aload_n 0, 1) := by decide +kernel
theorem dX7_allConstants_172 : decode cX7_allConstants 172 = .ok (.getfield 85, 3) := by decide +kernel
theorem dX7_allConstants_175 : decode cX7_allConstants 175 = .ok (.isub, 1) := by decide +kernel
theorem dX7_allConstants_176 : decode cX7_allConstants 176 = .ok (.invokevirtual 81, 3) := by decide +kernel
theorem dX7_allConstants_179 : decode cX7_allConstants 179 = .ok (.iinc 1 1, 3) := by decide +kernel
theorem dX7_allConstants_182 : decode cX7_allConstants 182 = .ok (.goto (-142), 3) := by decide +kernel
theorem dX7_allConstants_185 : decode cX7_allConstants 185 = .ok (.return_, 1) := by decide +kernel
theorem dX7_values_0 : decode cX7_values 0 = .ok (.iconst 1, 1) := by decide +kernel
theorem dX7_values_1 : decode cX7_values 1 = .ok (.istore_n 2, 1) := by decide +kernel
theorem dX7_values_2 : decode cX7_values 2 = .ok (.aload_n 0, 1) := by decide +kernel
theorem dX7_values_3 : decode cX7_values 3 = .ok (.getfield 55, 3) := by decide +kernel
theorem dX7_values_6 : decode cX7_values 6 = .ok (.iconst 1, 1) := by decide +kernel
theorem dX7_values_7 : decode cX7_values 7 = .ok (.iload_n 1, 1) := by decide +kernel
theorem dX7_values_8 : decode cX7_values 8 = .ok (.iastore, 1) := by decide +kernel
theorem dX7_values_9 : decode cX7_values 9 = .ok (.aload_n 0, 1) := by decide +kernel
theorem dX7_values_10 : decode cX7_values 10 = .ok (.getfield 58, 3) := by decide +kernel
theorem dX7_values_13 : decode cX7_values 13 = .ok (.iconst 1, 1) := by decide +kernel
theorem dX7_values_14 : decode cX7_values 14 = .ok (.iconst 1, 1) := by decide +kernel
theorem dX7_values_15 : decode cX7_values 15 = .ok (.bastore, 1) := by decide +kernel
theorem dX7_values_16 : decode cX7_values 16 = .ok (.iload_n 2, 1) := by decide +kernel
theorem dX7_values_17 : decode cX7_values 17 = .ok (.ifCond .le 71, 3) := by decide +kernel
theorem dX7_values_20 : decode cX7_values 20 = .ok (.aload_n 0, 1) := by decide +kernel
theorem dX7_values_21 : decode cX7_values 21 = .ok (.getfield 69, 3) := by decide +kernel
theorem dX7_values_24 : decode cX7_values 24 = .ok (.ifCond .ne 64, 3) := by decide +kernel
theorem dX7_values_27 : decode cX7_values 27 = .ok (.aload_n 0, 1) := by decide +kernel
theorem dX7_values_28 : decode cX7_values 28 = .ok (.getfield 55, 3) := by decide +kernel
theorem dX7_values_31 : decode cX7_values 31 = .ok (.iload_n 2, 1) := by decide +kernel
theorem dX7_values_32 : decode cX7_values 32 = .ok (.iaload, 1) := by decide +kernel
theorem dX7_values_33 : decode cX7_values 33 = .ok (.ifCond .ne 9, 3) := by decide +kernel
theorem dX7_values_36 : decode cX7_values 36 = .ok (.iinc 2 (-1), 3) := by decide +kernel
theorem dX7_values_39 : decode cX7_values 39 = .ok (.goto (-23), 3) := by decide +kernel
theorem dX7_values_42 : decode cX7_values 42 = .ok (.aload_n 0, 1) := by decide +kernel
theorem dX7_values_43 : decode cX7_values 43 = .ok (.getfield 55, 3) := by decide +kernel
theorem dX7_values_46 : decode cX7_values 46 = .ok (.iload_n 2, 1) := by decide +kernel
theorem dX7_values_47 : decode cX7_values 47 = .ok (.dup2, 1) := by decide +kernel
theorem dX7_values_48 : decode cX7_values 48 = .ok (.iaload, 1) := by decide +kernel
theorem dX7_values_49 : decode cX7_values 49 = .ok (.iconst 1, 1) := by decide +kernel
theorem dX7_values_50 : decode cX7_values 50 = .ok (.isub, 1) := by decide +kernel
theorem dX7_values_51 : decode cX7_values 51 = .ok (.iastore, 1) := by decide +kernel
theorem dX7_values_52 : decode cX7_values 52 = .ok (.aload_n 0, 1) := by decide +kernel
theorem dX7_values_53 : decode cX7_values 53 = .ok (.getfield 58, 3) := by decide +kernel
theorem dX7_values_56 : decode cX7_values 56 = .ok (.iload_n 2, 1) := by decide +kernel
theorem dX7_values_57 : decode cX7_values 57 = .ok (.baload, 1) := by decide +kernel
theorem dX7_values_58 : decode cX7_values 58 = .ok (.ifCond .eq 9, 3) := by decide +kernel
theorem dX7_values_61 : decode cX7_values 61 = .ok (.aload_n 0, 1) := by decide +kernel
theorem dX7_values_62 : decode cX7_values 62 = .ok (.iconst 1, 1) := by decide +kernel
theorem dX7_values_63 : decode cX7_values 63 = .ok (.invokevirtual 106, 3) := by decide +kernel
theorem dX7_values_66 : decode cX7_values 66 = .ok (.pop, 1) := by decide +kernel
theorem dX7_values_67 : decode cX7_values 67 = .ok (.aload_n 0, 1) := by decide +kernel
theorem dX7_values_68 : decode cX7_values 68 = .ok (.getfield 69, 3) := by decide +kernel
theorem dX7_values_71 : decode cX7_values 71 = .ok (.ifCond .ne (-55), 3) := by decide +kernel
theorem dX7_values_74 : decode cX7_values 74 = .ok (.aload_n 0, 1) := by decide +kernel
theorem dX7_values_75 : decode cX7_values 75 = .ok (.iload_n 2, 1) := by decide +kernel
theorem dX7_values_76 : decode cX7_values 76 = .ok (.invokevirtual 109, 3) := by decide +kernel
theorem dX7_values_79 : decode cX7_values 79 = .ok (.ifCond .eq (-63), 3) := by decide +kernel
theorem dX7_values_82 : decode cX7_values 82 = .ok (.iinc 2 1, 3) := by decide +kernel
theorem dX7_values_85 : decode cX7_values 85 = .ok (.goto (-69), 3) := by decide +kernel
theorem dX7_values_88 : decode cX7_values 88 = .ok (.return_, 1) := by decide +kernel
theorem dX7_oneValue_0 : decode cX7_oneValue 0 = .ok (.aload_n 0, 1) := by decide +kernel
theorem dX7_oneValue_1 : decode cX7_oneValue 1 = .ok (.getfield 75, 3) := by decide +kernel
theorem dX7_oneValue_4 : decode cX7_oneValue 4 = .ok (.istore_n 2, 1) := by decide +kernel
theorem dX7_oneValue_5 : decode cX7_oneValue 5 = .ok (.aload_n 0, 1) := by decide +kernel
theorem dX7_oneValue_6 : decode cX7_oneValue 6 = .ok (.invokevirtual 88, 3) := by decide +kernel
theorem dX7_oneValue_9 : decode cX7_oneValue 9 = .ok (.istore_n 3, 1) := by decide +kernel
theorem dX7_oneValue_10 : decode cX7_oneValue 10 = .ok (.aload_n 0, 1) := by decide +kernel
theorem dX7_oneValue_11 : decode cX7_oneValue 11 = .ok (.getfield 69, 3) := by decide +kernel
theorem dX7_oneValue_14 : decode cX7_oneValue 14 = .ok (.ifCond .eq 5, 3) := by decide +kernel
theorem dX7_oneValue_17 : decode cX7_oneValue 17 = .ok (.iconst 0, 1) := by decide +kernel
theorem dX7_oneValue_18 : decode cX7_oneValue 18 = .ok (.ireturn, 1) := by decide +kernel
theorem dX7_oneValue_19 : decode cX7_oneValue 19 = .ok (.iload_n 1, 1) := by decide +kernel
theorem dX7_oneValue_20 : decode cX7_oneValue 20 = .ok (.iconst 5, 1) := by decide +kernel
theorem dX7_oneValue_21 : decode cX7_oneValue 21 = .ok (.if_icmp .ne 13, 3) := by decide +kernel
theorem dX7_oneValue_24 : decode cX7_oneValue 24 = .ok (.aload_n 0, 1) := by decide +kernel
theorem dX7_oneValue_25 : decode cX7_oneValue 25 = .ok (.bipush 7, 2) := by decide +kernel
theorem dX7_oneValue_27 : decode cX7_oneValue 27 = .ok (.iload_n 2, 1) := by decide +kernel
theorem dX7_oneValue_28 : decode cX7_oneValue 28 = .ok (.invokevirtual 81, 3) := by decide +kernel
theorem dX7_oneValue_31 : decode cX7_oneValue 31 = .ok (.goto 114, 3) := by decide +kernel
theorem dX7_oneValue_34 : decode cX7_oneValue 34 = .ok (.iload_n 3, 1) := by decide +kernel
theorem dX7_oneValue_35 : decode cX7_oneValue 35 = .ok (.bipush 73, 2) := by decide +kernel
theorem dX7_oneValue_37 : decode cX7_oneValue 37 = .ok (.if_icmp .ne 12, 3) := by decide +kernel
theorem dX7_oneValue_40 : decode cX7_oneValue 40 = .ok (.aload_n 0, 1) := by decide +kernel
theorem dX7_oneValue_41 : decode cX7_oneValue 41 = .ok (.iconst 3, 1) := by decide +kernel
theorem dX7_oneValue_42 : decode cX7_oneValue 42 = .ok (.invokevirtual 106, 3) := by decide +kernel
theorem dX7_oneValue_45 : decode cX7_oneValue 45 = .ok (.pop, 1) := by decide +kernel
theorem dX7_oneValue_46 : decode cX7_oneValue 46 = .ok (.goto 99, 3) := by decide +kernel
theorem dX7_oneValue_49 : decode cX7_oneValue 49 = .ok (.iload_n 3, 1) := by decide +kernel
theorem dX7_oneValue_50 : decode cX7_oneValue 50 = .ok (.bipush 115, 2) := by decide +kernel
theorem dX7_oneValue_52 : decode cX7_oneValue 52 = .ok (.if_icmp .ne 12, 3) := by decide +kernel
theorem dX7_oneValue_55 : decode cX7_oneValue 55 = .ok (.aload_n 0, 1) := by decide +kernel
theorem dX7_oneValue_56 : decode cX7_oneValue 56 = .ok (.iconst 1, 1) := by decide +kernel
theorem dX7_oneValue_57 : decode cX7_oneValue 57 = .ok (.invokevirtual 106, 3) := by decide +kernel
theorem dX7_oneValue_60 : decode cX7_oneValue 60 = .ok (.pop, 1) := by decide +kernel
theorem dX7_oneValue_61 : decode cX7_oneValue 61 = .ok (.goto 84, 3) := by decide +kernel
theorem dX7_oneValue_64 : decode cX7_oneValue 64 = .ok (.iload_n 3, 1) := by decide +kernel
theorem dX7_oneValue_65 : decode cX7_oneValue 65 = .ok (.bipush 99, 2) := by decide +kernel
theorem dX7_oneValue_67 : decode cX7_oneValue 67 = .ok (.if_icmp .ne 13, 3) := by decide +kernel
theorem dX7_oneValue_70 : decode cX7_oneValue 70 = .ok (.aload_n 0, 1) := by decide +kernel
theorem dX7_oneValue_71 : decode cX7_oneValue 71 = .ok (.bipush 7, 2) := by decide +kernel
theorem dX7_oneValue_73 : decode cX7_oneValue 73 = .ok (.invokevirtual 106, 3) := by decide +kernel
theorem dX7_oneValue_76 : decode cX7_oneValue 76 = .ok (.pop, 1) := by decide +kernel
theorem dX7_oneValue_77 : decode cX7_oneValue 77 = .ok (.goto 68, 3) := by decide +kernel
theorem dX7_oneValue_80 : decode cX7_oneValue 80 = .ok (.iload_n 3, 1) := by decide +kernel
theorem dX7_oneValue_81 : decode cX7_oneValue 81 = .ok (.bipush 91, 2) := by decide +kernel
theorem dX7_oneValue_83 : decode cX7_oneValue 83 = .ok (.if_icmp .eq 9, 3) := by decide +kernel
theorem dX7_oneValue_86 : decode cX7_oneValue 86 = .ok (.iload_n 3, 1) := by decide +kernel
theorem dX7_oneValue_87 : decode cX7_oneValue 87 = .ok (.bipush 64, 2) := by decide +kernel
theorem dX7_oneValue_89 : decode cX7_oneValue 89 = .ok (.if_icmp .ne 50, 3) := by decide +kernel
theorem dX7_oneValue_92 : decode cX7_oneValue 92 = .ok (.iload_n 3, 1) := by decide +kernel
theorem dX7_oneValue_93 : decode cX7_oneValue 93 = .ok (.bipush 64, 2) := by decide +kernel
theorem dX7_oneValue_95 : decode cX7_oneValue 95 = .ok (.if_icmp .ne 10, 3) := by decide +kernel
theorem dX7_oneValue_98 : decode cX7_oneValue 98 = .ok (.aload_n 0, 1) := by decide +kernel
theorem dX7_oneValue_99 : decode cX7_oneValue 99 = .ok (.bipush 7, 2) := by decide +kernel
theorem dX7_oneValue_101 : decode cX7_oneValue 101 = .ok (.invokevirtual 106, 3) := by decide +kernel
theorem dX7_oneValue_104 : decode cX7_oneValue 104 = .ok (.pop, 1) := by decide +kernel
theorem dX7_oneValue_105 : decode cX7_oneValue 105 = .ok (.aload_n 0, 1) := by decide +kernel
theorem dX7_oneValue_106 : decode cX7_oneValue 106 = .ok (.getfield 55, 3) := by decide +kernel
theorem dX7_oneValue_109 : decode cX7_oneValue 109 = .ok (.iload_n 1, 1) := by decide +kernel
theorem dX7_oneValue_110 : decode cX7_oneValue 110 = .ok (.iconst 1, 1) := by decide +kernel
theorem dX7_oneValue_111 : decode cX7_oneValue 111 = .ok (.iadd, 1) := by decide +kernel
theorem dX7_oneValue_112 : decode cX7_oneValue 112 = .ok (.aload_n 0, 1) := by decide +kernel
theorem dX7_oneValue_113 : decode cX7_oneValue 113 = .ok (.iconst 4, 1) := by decide +kernel
theorem dX7_oneValue_114 : decode cX7_oneValue 114 = .ok (.invokevirtual 98, 3) := by decide +kernel
theorem dX7_oneValue_117 : decode cX7_oneValue 117 = .ok (.iastore, 1) := by decide +kernel
theorem dX7_oneValue_118 : decode cX7_oneValue 118 = .ok (.aload_n 0, 1) := by decide +kernel
theorem dX7_oneValue_119 : decode cX7_oneValue 119 = .ok (.getfield 58, 3) := by decide +kernel
theorem dX7_oneValue_122 : decode cX7_oneValue 122 = .ok (.iload_n 1, 1) := by decide +kernel
theorem dX7_oneValue_123 : decode cX7_oneValue 123 = .ok (.iconst 1, 1) := by decide +kernel
theorem dX7_oneValue_124 : decode cX7_oneValue 124 = .ok (.iadd, 1) := by decide +kernel
theorem dX7_oneValue_125 : decode cX7_oneValue 125 = .ok (.iload_n 3, 1) := by decide +kernel
theorem dX7_oneValue_126 : decode cX7_oneValue 126 = .ok (.bipush 64, 2) := by decide +kernel
theorem dX7_oneValue_128 : decode cX7_oneValue 128 = .ok (.if_icmp .ne 7, 3) := by decide +kernel
theorem dX7_oneValue_131 : decode cX7_oneValue 131 = .ok (.iconst 1, 1) := by decide +kernel
theorem dX7_oneValue_132 : decode cX7_oneValue 132 = .ok (.goto 4, 3) := by decide +kernel
theorem dX7_oneValue_135 : decode cX7_oneValue 135 = .ok (.iconst 0, 1) := by decide +kernel
theorem dX7_oneValue_136 : decode cX7_oneValue 136 = .ok (.bastore, 1) := by decide +kernel
theorem dX7_oneValue_137 : decode cX7_oneValue 137 = .ok (.iconst 1, 1) := by decide +kernel
theorem dX7_oneValue_138 : decode cX7_oneValue 138 = .ok (.ireturn, 1) := by decide +kernel
theorem dX7_oneValue_139 : decode cX7_oneValue 139 = .ok (.aload_n 0, 1) := by decide +kernel
theorem dX7_oneValue_140 : decode cX7_oneValue 140 = .ok (.iconst 3, 1) := by decide +kernel
theorem dX7_oneValue_141 : decode cX7_oneValue 141 = .ok (.iload_n 2, 1) := by decide +kernel
theorem dX7_oneValue_142 : decode cX7_oneValue 142 = .ok (.invokevirtual 81, 3) := by decide +kernel
theorem dX7_oneValue_145 : decode cX7_oneValue 145 = .ok (.iconst 0, 1) := by decide +kernel
theorem dX7_oneValue_146 : decode cX7_oneValue 146 = .ok (.ireturn, 1) := by decide +kernel
end
section
theorem dX7_sameText_0 : decode cX7_sameText 0 = .ok (.aload_n 0, 1) := by decide +kernel
theorem dX7_sameText_1 : decode cX7_sameText 1 = .ok (.getfield 13, 3) := by decide +kernel
theorem dX7_sameText_4 : decode cX7_sameText 4 = .ok (.iload_n 1, 1) := by decide +kernel
theorem dX7_sameText_5 : decode cX7_sameText 5 = .ok (.iaload, 1) := by decide +kernel
theorem dX7_sameText_6 : decode cX7_sameText 6 = .ok (.aload_n 0, 1) := by decide +kernel
theorem dX7_sameText_7 : decode cX7_sameText 7 = .ok (.getfield 13, 3) := by decide +kernel
theorem dX7_sameText_10 : decode cX7_sameText 10 = .ok (.iload_n 2, 1) := by decide +kernel
theorem dX7_sameText_11 : decode cX7_sameText 11 = .ok (.iaload, 1) := by decide +kernel
theorem dX7_sameText_12 : decode cX7_sameText 12 = .ok (.if_icmp .ne 7, 3) := by decide +kernel
theorem dX7_sameText_15 : decode cX7_sameText 15 = .ok (.iconst 1, 1) := by decide +kernel
theorem dX7_sameText_16 : decode cX7_sameText 16 = .ok (.goto 4, 3) := by decide +kernel
theorem dX7_sameText_19 : decode cX7_sameText 19 = .ok (.iconst 0, 1) := by decide +kernel
theorem dX7_sameText_20 : decode cX7_sameText 20 = .ok (.istore_n 3, 1) := by decide +kernel
theorem dX7_sameText_21 : decode cX7_sameText 21 = .ok (.iconst 1, 1) := by decide +kernel
theorem dX7_sameText_22 : decode cX7_sameText 22 = .ok (.istore 4, 2) := by decide +kernel
theorem dX7_sameText_24 : decode cX7_sameText 24 = .ok (.iload 4, 2) := by decide +kernel
theorem dX7_sameText_26 : decode cX7_sameText 26 = .ok (.aload_n 0, 1) := by decide +kernel
theorem dX7_sameText_27 : decode cX7_sameText 27 = .ok (.getfield 13, 3) := by decide +kernel
theorem dX7_sameText_30 : decode cX7_sameText 30 = .ok (.iload_n 1, 1) := by decide +kernel
theorem dX7_sameText_31 : decode cX7_sameText 31 = .ok (.iaload, 1) := by decide +kernel
theorem dX7_sameText_32 : decode cX7_sameText 32 = .ok (.if_icmp .gt 40, 3) := by decide +kernel
theorem dX7_sameText_35 : decode cX7_sameText 35 = .ok (.iload_n 3, 1) := by decide +kernel
theorem dX7_sameText_36 : decode cX7_sameText 36 = .ok (.ifCond .eq 36, 3) := by decide +kernel
theorem dX7_sameText_39 : decode cX7_sameText 39 = .ok (.aload_n 0, 1) := by decide +kernel
theorem dX7_sameText_40 : decode cX7_sameText 40 = .ok (.getfield 13, 3) := by decide +kernel
theorem dX7_sameText_43 : decode cX7_sameText 43 = .ok (.iload_n 1, 1) := by decide +kernel
theorem dX7_sameText_44 : decode cX7_sameText 44 = .ok (.iload 4, 2) := by decide +kernel
theorem dX7_sameText_46 : decode cX7_sameText 46 = .ok (.iadd, 1) := by decide +kernel
theorem dX7_sameText_47 : decode cX7_sameText 47 = .ok (.iaload, 1) := by decide +kernel
theorem dX7_sameText_48 : decode cX7_sameText 48 = .ok (.aload_n 0, 1) := by decide +kernel
theorem dX7_sameText_49 : decode cX7_sameText 49 = .ok (.getfield 13, 3) := by decide +kernel
theorem dX7_sameText_52 : decode cX7_sameText 52 = .ok (.iload_n 2, 1) := by decide +kernel
theorem dX7_sameText_53 : decode cX7_sameText 53 = .ok (.iload 4, 2) := by decide +kernel
theorem dX7_sameText_55 : decode cX7_sameText 55 = .ok (.iadd, 1) := by decide +kernel
theorem dX7_sameText_56 : decode cX7_sameText 56 = .ok (.iaload, 1) := by decide +kernel
theorem dX7_sameText_57 : decode cX7_sameText 57 = .ok (.if_icmp .ne 7, 3) := by decide +kernel
theorem dX7_sameText_60 : decode cX7_sameText 60 = .ok (.iconst 1, 1) := by decide +kernel
theorem dX7_sameText_61 : decode cX7_sameText 61 = .ok (.goto 4, 3) := by decide +kernel
theorem dX7_sameText_64 : decode cX7_sameText 64 = .ok (.iconst 0, 1) := by decide +kernel
theorem dX7_sameText_65 : decode cX7_sameText 65 = .ok (.istore_n 3, 1) := by decide +kernel
theorem dX7_sameText_66 : decode cX7_sameText 66 = .ok (.iinc 4 1, 3) := by decide +kernel
theorem dX7_sameText_69 : decode cX7_sameText 69 = .ok (.goto (-45), 3) := by decide +kernel
theorem dX7_sameText_72 : decode cX7_sameText 72 = .ok (.iload_n 3, 1) := by decide +kernel
theorem dX7_sameText_73 : decode cX7_sameText 73 = .ok (.ireturn, 1) := by decide +kernel
theorem dX7_textPlace_0 : decode cX7_textPlace 0 = .ok (.aload_n 0, 1) := by decide +kernel
theorem dX7_textPlace_1 : decode cX7_textPlace 1 = .ok (.getfield 22, 3) := by decide +kernel
theorem dX7_textPlace_4 : decode cX7_textPlace 4 = .ok (.bipush 13, 2) := by decide +kernel
theorem dX7_textPlace_6 : decode cX7_textPlace 6 = .ok (.aload_n 0, 1) := by decide +kernel
theorem dX7_textPlace_7 : decode cX7_textPlace 7 = .ok (.getfield 95, 3) := by decide +kernel
theorem dX7_textPlace_10 : decode cX7_textPlace 10 = .ok (.imul, 1) := by decide +kernel
theorem dX7_textPlace_11 : decode cX7_textPlace 11 = .ok (.iload_n 1, 1) := by decide +kernel
theorem dX7_textPlace_12 : decode cX7_textPlace 12 = .ok (.iadd, 1) := by decide +kernel
theorem dX7_textPlace_13 : decode cX7_textPlace 13 = .ok (.iaload, 1) := by decide +kernel
theorem dX7_textPlace_14 : decode cX7_textPlace 14 = .ok (.istore_n 2, 1) := by decide +kernel
theorem dX7_textPlace_15 : decode cX7_textPlace 15 = .ok (.aload_n 0, 1) := by decide +kernel
theorem dX7_textPlace_16 : decode cX7_textPlace 16 = .ok (.getfield 19, 3) := by decide +kernel
theorem dX7_textPlace_19 : decode cX7_textPlace 19 = .ok (.bipush 13, 2) := by decide +kernel
theorem dX7_textPlace_21 : decode cX7_textPlace 21 = .ok (.aload_n 0, 1) := by decide +kernel
theorem dX7_textPlace_22 : decode cX7_textPlace 22 = .ok (.getfield 95, 3) := by decide +kernel
theorem dX7_textPlace_25 : decode cX7_textPlace 25 = .ok (.imul, 1) := by decide +kernel
theorem dX7_textPlace_26 : decode cX7_textPlace 26 = .ok (.iload_n 1, 1) := by decide +kernel
theorem dX7_textPlace_27 : decode cX7_textPlace 27 = .ok (.iadd, 1) := by decide +kernel
theorem dX7_textPlace_28 : decode cX7_textPlace 28 = .ok (.iaload, 1) := by decide +kernel
theorem dX7_textPlace_29 : decode cX7_textPlace 29 = .ok (.iconst 1, 1) := by decide +kernel
theorem dX7_textPlace_30 : decode cX7_textPlace 30 = .ok (.if_icmp .ne 9, 3) := by decide +kernel
theorem dX7_textPlace_33 : decode cX7_textPlace 33 = .ok (.iload_n 2, 1) := by decide +kernel
theorem dX7_textPlace_34 : decode cX7_textPlace 34 = .ok (.iconst 1, 1) := by decide +kernel
theorem dX7_textPlace_35 : decode cX7_textPlace 35 = .ok (.iadd, 1) := by decide +kernel
theorem dX7_textPlace_36 : decode cX7_textPlace 36 = .ok (.goto 26, 3) := by decide +kernel
theorem dX7_textPlace_39 : decode cX7_textPlace 39 = .ok (.aload_n 0, 1) := by decide +kernel
theorem dX7_textPlace_40 : decode cX7_textPlace 40 = .ok (.getfield 22, 3) := by decide +kernel
theorem dX7_textPlace_43 : decode cX7_textPlace 43 = .ok (.bipush 13, 2) := by decide +kernel
theorem dX7_textPlace_45 : decode cX7_textPlace 45 = .ok (.aload_n 0, 1) := by decide +kernel
theorem dX7_textPlace_46 : decode cX7_textPlace 46 = .ok (.getfield 95, 3) := by decide +kernel
theorem dX7_textPlace_49 : decode cX7_textPlace 49 = .ok (.imul, 1) := by decide +kernel
theorem dX7_textPlace_50 : decode cX7_textPlace 50 = .ok (.aload_n 0, 1) := by decide +kernel
theorem dX7_textPlace_51 : decode cX7_textPlace 51 = .ok (.getfield 13, 3) := by decide +kernel
theorem dX7_textPlace_54 : decode cX7_textPlace 54 = .ok (.iload_n 2, 1) := by decide +kernel
theorem dX7_textPlace_55 : decode cX7_textPlace 55 = .ok (.iconst 1, 1) := by decide +kernel
theorem dX7_textPlace_56 : decode cX7_textPlace 56 = .ok (.iadd, 1) := by decide +kernel
theorem dX7_textPlace_57 : decode cX7_textPlace 57 = .ok (.iaload, 1) := by decide +kernel
theorem dX7_textPlace_58 : decode cX7_textPlace 58 = .ok (.iadd, 1) := by decide +kernel
theorem dX7_textPlace_59 : decode cX7_textPlace 59 = .ok (.iaload, 1) := by decide +kernel
theorem dX7_textPlace_60 : decode cX7_textPlace 60 = .ok (.iconst 1, 1) := by decide +kernel
theorem dX7_textPlace_61 : decode cX7_textPlace 61 = .ok (.iadd, 1) := by decide +kernel
theorem dX7_textPlace_62 : decode cX7_textPlace 62 = .ok (.ireturn, 1) := by decide +kernel
theorem dX7_taken_0 : decode cX7_taken 0 = .ok (.aload_n 0, 1) := by decide +kernel
theorem dX7_taken_1 : decode cX7_taken 1 = .ok (.iload_n 1, 1) := by decide +kernel
theorem dX7_taken_2 : decode cX7_taken 2 = .ok (.invokevirtual 113, 3) := by decide +kernel
theorem dX7_taken_5 : decode cX7_taken 5 = .ok (.istore_n 2, 1) := by decide +kernel
theorem dX7_taken_6 : decode cX7_taken 6 = .ok (.iconst 0, 1) := by decide +kernel
theorem dX7_taken_7 : decode cX7_taken 7 = .ok (.istore_n 3, 1) := by decide +kernel
theorem dX7_taken_8 : decode cX7_taken 8 = .ok (.iload_n 3, 1) := by decide +kernel
theorem dX7_taken_9 : decode cX7_taken 9 = .ok (.aload_n 0, 1) := by decide +kernel
theorem dX7_taken_10 : decode cX7_taken 10 = .ok (.getfield 116, 3) := by decide +kernel
theorem dX7_taken_13 : decode cX7_taken 13 = .ok (.if_icmp .ge 30, 3) := by decide +kernel
theorem dX7_taken_16 : decode cX7_taken 16 = .ok (.aload_n 0, 1) := by decide +kernel
theorem dX7_taken_17 : decode cX7_taken 17 = .ok (.aload_n 0, 1) := by decide +kernel
theorem dX7_taken_18 : decode cX7_taken 18 = .ok (.getfield 16, 3) := by decide +kernel
theorem dX7_taken_21 : decode cX7_taken 21 = .ok (.aload_n 0, 1) := by decide +kernel
theorem dX7_taken_22 : decode cX7_taken 22 = .ok (.getfield 31, 3) := by decide +kernel
theorem dX7_taken_25 : decode cX7_taken 25 = .ok (.iload_n 3, 1) := by decide +kernel
theorem dX7_taken_26 : decode cX7_taken 26 = .ok (.iaload, 1) := by decide +kernel
theorem dX7_taken_27 : decode cX7_taken 27 = .ok (.iaload, 1) := by decide +kernel
theorem dX7_taken_28 : decode cX7_taken 28 = .ok (.iload_n 2, 1) := by decide +kernel
theorem dX7_taken_29 : decode cX7_taken 29 = .ok (.invokevirtual 119, 3) := by decide +kernel
theorem dX7_taken_32 : decode cX7_taken 32 = .ok (.ifCond .eq 5, 3) := by decide +kernel
theorem dX7_taken_35 : decode cX7_taken 35 = .ok (.iconst 1, 1) := by decide +kernel
theorem dX7_taken_36 : decode cX7_taken 36 = .ok (.ireturn, 1) := by decide +kernel
theorem dX7_taken_37 : decode cX7_taken 37 = .ok (.iinc 3 1, 3) := by decide +kernel
theorem dX7_taken_40 : decode cX7_taken 40 = .ok (.goto (-32), 3) := by decide +kernel
theorem dX7_taken_43 : decode cX7_taken 43 = .ok (.iconst 0, 1) := by decide +kernel
theorem dX7_taken_44 : decode cX7_taken 44 = .ok (.ireturn, 1) := by decide +kernel
theorem dX7_wholeFile_0 : decode cX7_wholeFile 0 = .ok (.aload_n 0, 1) := by decide +kernel
theorem dX7_wholeFile_1 : decode cX7_wholeFile 1 = .ok (.invokevirtual 88, 3) := by decide +kernel
theorem dX7_wholeFile_4 : decode cX7_wholeFile 4 = .ok (.istore_n 1, 1) := by decide +kernel
theorem dX7_wholeFile_5 : decode cX7_wholeFile 5 = .ok (.aload_n 0, 1) := by decide +kernel
theorem dX7_wholeFile_6 : decode cX7_wholeFile 6 = .ok (.getfield 69, 3) := by decide +kernel
theorem dX7_wholeFile_9 : decode cX7_wholeFile 9 = .ok (.ifCond .ne 16, 3) := by decide +kernel
theorem dX7_wholeFile_12 : decode cX7_wholeFile 12 = .ok (.iload_n 1, 1) := by decide +kernel
theorem dX7_wholeFile_13 : decode cX7_wholeFile 13 = .ok (.sipush 202, 3) := by decide +kernel
theorem dX7_wholeFile_16 : decode cX7_wholeFile 16 = .ok (.if_icmp .eq 9, 3) := by decide +kernel
theorem dX7_wholeFile_19 : decode cX7_wholeFile 19 = .ok (.aload_n 0, 1) := by decide +kernel
theorem dX7_wholeFile_20 : decode cX7_wholeFile 20 = .ok (.iconst 2, 1) := by decide +kernel
theorem dX7_wholeFile_21 : decode cX7_wholeFile 21 = .ok (.iconst 0, 1) := by decide +kernel
theorem dX7_wholeFile_22 : decode cX7_wholeFile 22 = .ok (.invokevirtual 81, 3) := by decide +kernel
theorem dX7_wholeFile_25 : decode cX7_wholeFile 25 = .ok (.aload_n 0, 1) := by decide +kernel
theorem dX7_wholeFile_26 : decode cX7_wholeFile 26 = .ok (.invokevirtual 88, 3) := by decide +kernel
theorem dX7_wholeFile_29 : decode cX7_wholeFile 29 = .ok (.istore_n 2, 1) := by decide +kernel
theorem dX7_wholeFile_30 : decode cX7_wholeFile 30 = .ok (.aload_n 0, 1) := by decide +kernel
theorem dX7_wholeFile_31 : decode cX7_wholeFile 31 = .ok (.getfield 69, 3) := by decide +kernel
theorem dX7_wholeFile_34 : decode cX7_wholeFile 34 = .ok (.ifCond .ne 16, 3) := by decide +kernel
theorem dX7_wholeFile_37 : decode cX7_wholeFile 37 = .ok (.iload_n 2, 1) := by decide +kernel
theorem dX7_wholeFile_38 : decode cX7_wholeFile 38 = .ok (.sipush 254, 3) := by decide +kernel
theorem dX7_wholeFile_41 : decode cX7_wholeFile 41 = .ok (.if_icmp .eq 9, 3) := by decide +kernel
theorem dX7_wholeFile_44 : decode cX7_wholeFile 44 = .ok (.aload_n 0, 1) := by decide +kernel
theorem dX7_wholeFile_45 : decode cX7_wholeFile 45 = .ok (.iconst 2, 1) := by decide +kernel
theorem dX7_wholeFile_46 : decode cX7_wholeFile 46 = .ok (.iconst 1, 1) := by decide +kernel
theorem dX7_wholeFile_47 : decode cX7_wholeFile 47 = .ok (.invokevirtual 81, 3) := by decide +kernel
theorem dX7_wholeFile_50 : decode cX7_wholeFile 50 = .ok (.aload_n 0, 1) := by decide +kernel
theorem dX7_wholeFile_51 : decode cX7_wholeFile 51 = .ok (.invokevirtual 123, 3) := by decide +kernel
theorem dX7_wholeFile_54 : decode cX7_wholeFile 54 = .ok (.aload_n 0, 1) := by decide +kernel
theorem dX7_wholeFile_55 : decode cX7_wholeFile 55 = .ok (.getfield 28, 3) := by decide +kernel
theorem dX7_wholeFile_58 : decode cX7_wholeFile 58 = .ok (.aload_n 0, 1) := by decide +kernel
theorem dX7_wholeFile_59 : decode cX7_wholeFile 59 = .ok (.getfield 95, 3) := by decide +kernel
theorem dX7_wholeFile_62 : decode cX7_wholeFile 62 = .ok (.aload_n 0, 1) := by decide +kernel
theorem dX7_wholeFile_63 : decode cX7_wholeFile 63 = .ok (.iconst 3, 1) := by decide +kernel
theorem dX7_wholeFile_64 : decode cX7_wholeFile 64 = .ok (.invokevirtual 98, 3) := by decide +kernel
theorem dX7_wholeFile_67 : decode cX7_wholeFile 67 = .ok (.iastore, 1) := by decide +kernel
theorem dX7_wholeFile_68 : decode cX7_wholeFile 68 = .ok (.aload_n 0, 1) := by decide +kernel
theorem dX7_wholeFile_69 : decode cX7_wholeFile 69 = .ok (.getfield 75, 3) := by decide +kernel
theorem dX7_wholeFile_72 : decode cX7_wholeFile 72 = .ok (.istore_n 3, 1) := by decide +kernel
theorem dX7_wholeFile_73 : decode cX7_wholeFile 73 = .ok (.aload_n 0, 1) := by decide +kernel
theorem dX7_wholeFile_74 : decode cX7_wholeFile 74 = .ok (.getfield 31, 3) := by decide +kernel
theorem dX7_wholeFile_77 : decode cX7_wholeFile 77 = .ok (.aload_n 0, 1) := by decide +kernel
theorem dX7_wholeFile_78 : decode cX7_wholeFile 78 = .ok (.getfield 95, 3) := by decide +kernel
theorem dX7_wholeFile_81 : decode cX7_wholeFile 81 = .ok (.aload_n 0, 1) := by decide +kernel
theorem dX7_wholeFile_82 : decode cX7_wholeFile 82 = .ok (.bipush 7, 2) := by decide +kernel
theorem dX7_wholeFile_84 : decode cX7_wholeFile 84 = .ok (.invokevirtual 106, 3) := by decide +kernel
theorem dX7_wholeFile_87 : decode cX7_wholeFile 87 = .ok (.iastore, 1) := by decide +kernel
theorem dX7_wholeFile_88 : decode cX7_wholeFile 88 = .ok (.aload_n 0, 1) := by decide +kernel
theorem dX7_wholeFile_89 : decode cX7_wholeFile 89 = .ok (.getfield 69, 3) := by decide +kernel
theorem dX7_wholeFile_92 : decode cX7_wholeFile 92 = .ok (.ifCond .ne 26, 3) := by decide +kernel
theorem dX7_wholeFile_95 : decode cX7_wholeFile 95 = .ok (.aload_n 0, 1) := by decide +kernel
theorem dX7_wholeFile_96 : decode cX7_wholeFile 96 = .ok (.aload_n 0, 1) := by decide +kernel
theorem dX7_wholeFile_97 : decode cX7_wholeFile 97 = .ok (.getfield 31, 3) := by decide +kernel
theorem dX7_wholeFile_100 : decode cX7_wholeFile 100 = .ok (.aload_n 0, 1) := by decide +kernel
theorem dX7_wholeFile_101 : decode cX7_wholeFile 101 = .ok (.getfield 95, 3) := by decide +kernel
theorem dX7_wholeFile_104 : decode cX7_wholeFile 104 = .ok (.iaload, 1) := by decide +kernel
theorem dX7_wholeFile_105 : decode cX7_wholeFile 105 = .ok (.invokevirtual 126, 3) := by decide +kernel
theorem dX7_wholeFile_108 : decode cX7_wholeFile 108 = .ok (.ifCond .eq 10, 3) := by decide +kernel
theorem dX7_wholeFile_111 : decode cX7_wholeFile 111 = .ok (.aload_n 0, 1) := by decide +kernel
theorem dX7_wholeFile_112 : decode cX7_wholeFile 112 = .ok (.bipush 9, 2) := by decide +kernel
theorem dX7_wholeFile_114 : decode cX7_wholeFile 114 = .ok (.iload_n 3, 1) := by decide +kernel
theorem dX7_wholeFile_115 : decode cX7_wholeFile 115 = .ok (.invokevirtual 81, 3) := by decide +kernel
theorem dX7_wholeFile_118 : decode cX7_wholeFile 118 = .ok (.aload_n 0, 1) := by decide +kernel
theorem dX7_wholeFile_119 : decode cX7_wholeFile 119 = .ok (.getfield 34, 3) := by decide +kernel
theorem dX7_wholeFile_122 : decode cX7_wholeFile 122 = .ok (.aload_n 0, 1) := by decide +kernel
theorem dX7_wholeFile_123 : decode cX7_wholeFile 123 = .ok (.getfield 95, 3) := by decide +kernel
theorem dX7_wholeFile_126 : decode cX7_wholeFile 126 = .ok (.aload_n 0, 1) := by decide +kernel
theorem dX7_wholeFile_127 : decode cX7_wholeFile 127 = .ok (.invokevirtual 129, 3) := by decide +kernel
theorem dX7_wholeFile_130 : decode cX7_wholeFile 130 = .ok (.iastore, 1) := by decide +kernel
theorem dX7_wholeFile_131 : decode cX7_wholeFile 131 = .ok (.aload_n 0, 1) := by decide +kernel
theorem dX7_wholeFile_132 : decode cX7_wholeFile 132 = .ok (.getfield 37, 3) := by decide +kernel
theorem dX7_wholeFile_135 : decode cX7_wholeFile 135 = .ok (.aload_n 0, 1) := by decide +kernel
theorem dX7_wholeFile_136 : decode cX7_wholeFile 136 = .ok (.getfield 95, 3) := by decide +kernel
theorem dX7_wholeFile_139 : decode cX7_wholeFile 139 = .ok (.aload_n 0, 1) := by decide +kernel
theorem dX7_wholeFile_140 : decode cX7_wholeFile 140 = .ok (.invokevirtual 129, 3) := by decide +kernel
theorem dX7_wholeFile_143 : decode cX7_wholeFile 143 = .ok (.iastore, 1) := by decide +kernel
theorem dX7_wholeFile_144 : decode cX7_wholeFile 144 = .ok (.aload_n 0, 1) := by decide +kernel
theorem dX7_wholeFile_145 : decode cX7_wholeFile 145 = .ok (.getfield 40, 3) := by decide +kernel
theorem dX7_wholeFile_148 : decode cX7_wholeFile 148 = .ok (.aload_n 0, 1) := by decide +kernel
theorem dX7_wholeFile_149 : decode cX7_wholeFile 149 = .ok (.getfield 95, 3) := by decide +kernel
theorem dX7_wholeFile_152 : decode cX7_wholeFile 152 = .ok (.aload_n 0, 1) := by decide +kernel
theorem dX7_wholeFile_153 : decode cX7_wholeFile 153 = .ok (.iconst 4, 1) := by decide +kernel
theorem dX7_wholeFile_154 : decode cX7_wholeFile 154 = .ok (.invokevirtual 98, 3) := by decide +kernel
theorem dX7_wholeFile_157 : decode cX7_wholeFile 157 = .ok (.iastore, 1) := by decide +kernel
theorem dX7_wholeFile_158 : decode cX7_wholeFile 158 = .ok (.iconst 0, 1) := by decide +kernel
theorem dX7_wholeFile_159 : decode cX7_wholeFile 159 = .ok (.istore 4, 2) := by decide +kernel
theorem dX7_wholeFile_161 : decode cX7_wholeFile 161 = .ok (.iload 4, 2) := by decide +kernel
theorem dX7_wholeFile_163 : decode cX7_wholeFile 163 = .ok (.aload_n 0, 1) := by decide +kernel
theorem dX7_wholeFile_164 : decode cX7_wholeFile 164 = .ok (.getfield 40, 3) := by decide +kernel
theorem dX7_wholeFile_167 : decode cX7_wholeFile 167 = .ok (.aload_n 0, 1) := by decide +kernel
theorem dX7_wholeFile_168 : decode cX7_wholeFile 168 = .ok (.getfield 95, 3) := by decide +kernel
theorem dX7_wholeFile_171 : decode cX7_wholeFile 171 = .ok (.iaload, 1) := by decide +kernel
theorem dX7_wholeFile_172 : decode cX7_wholeFile 172 = .ok (.if_icmp .ge 29, 3) := by decide +kernel
theorem dX7_wholeFile_175 : decode cX7_wholeFile 175 = .ok (.aload_n 0, 1) := by decide +kernel
theorem dX7_wholeFile_176 : decode cX7_wholeFile 176 = .ok (.getfield 43, 3) := by decide +kernel
theorem dX7_wholeFile_179 : decode cX7_wholeFile 179 = .ok (.iconst 4, 1) := by decide +kernel
theorem dX7_wholeFile_180 : decode cX7_wholeFile 180 = .ok (.aload_n 0, 1) := by decide +kernel
theorem dX7_wholeFile_181 : decode cX7_wholeFile 181 = .ok (.getfield 95, 3) := by decide +kernel
theorem dX7_wholeFile_184 : decode cX7_wholeFile 184 = .ok (.imul, 1) := by decide +kernel
theorem dX7_wholeFile_185 : decode cX7_wholeFile 185 = .ok (.iload 4, 2) := by decide +kernel
theorem dX7_wholeFile_187 : decode cX7_wholeFile 187 = .ok (.iadd, 1) := by decide +kernel
theorem dX7_wholeFile_188 : decode cX7_wholeFile 188 = .ok (.aload_n 0, 1) := by decide +kernel
theorem dX7_wholeFile_189 : decode cX7_wholeFile 189 = .ok (.bipush 7, 2) := by decide +kernel
theorem dX7_wholeFile_191 : decode cX7_wholeFile 191 = .ok (.invokevirtual 106, 3) := by decide +kernel
theorem dX7_wholeFile_194 : decode cX7_wholeFile 194 = .ok (.iastore, 1) := by decide +kernel
theorem dX7_wholeFile_195 : decode cX7_wholeFile 195 = .ok (.iinc 4 1, 3) := by decide +kernel
theorem dX7_wholeFile_198 : decode cX7_wholeFile 198 = .ok (.goto (-37), 3) := by decide +kernel
theorem dX7_wholeFile_201 : decode cX7_wholeFile 201 = .ok (.aload_n 0, 1) := by decide +kernel
theorem dX7_wholeFile_202 : decode cX7_wholeFile 202 = .ok (.getfield 46, 3) := by decide +kernel
theorem dX7_wholeFile_205 : decode cX7_wholeFile 205 = .ok (.aload_n 0, 1) := by decide +kernel
theorem dX7_wholeFile_206 : decode cX7_wholeFile 206 = .ok (.getfield 95, 3) := by decide +kernel
theorem dX7_wholeFile_209 : decode cX7_wholeFile 209 = .ok (.aload_n 0, 1) := by decide +kernel
theorem dX7_wholeFile_210 : decode cX7_wholeFile 210 = .ok (.iconst 4, 1) := by decide +kernel
theorem dX7_wholeFile_211 : decode cX7_wholeFile 211 = .ok (.invokevirtual 98, 3) := by decide +kernel
theorem dX7_wholeFile_214 : decode cX7_wholeFile 214 = .ok (.iastore, 1) := by decide +kernel
theorem dX7_wholeFile_215 : decode cX7_wholeFile 215 = .ok (.iconst 0, 1) := by decide +kernel
theorem dX7_wholeFile_216 : decode cX7_wholeFile 216 = .ok (.istore 4, 2) := by decide +kernel
theorem dX7_wholeFile_218 : decode cX7_wholeFile 218 = .ok (.iload 4, 2) := by decide +kernel
theorem dX7_wholeFile_220 : decode cX7_wholeFile 220 = .ok (.aload_n 0, 1) := by decide +kernel
theorem dX7_wholeFile_221 : decode cX7_wholeFile 221 = .ok (.getfield 46, 3) := by decide +kernel
theorem dX7_wholeFile_224 : decode cX7_wholeFile 224 = .ok (.aload_n 0, 1) := by decide +kernel
theorem dX7_wholeFile_225 : decode cX7_wholeFile 225 = .ok (.getfield 95, 3) := by decide +kernel
theorem dX7_wholeFile_228 : decode cX7_wholeFile 228 = .ok (.iaload, 1) := by decide +kernel
theorem dX7_wholeFile_229 : decode cX7_wholeFile 229 = .ok (.if_icmp .ge 52, 3) := by decide +kernel
theorem dX7_wholeFile_232 : decode cX7_wholeFile 232 = .ok (.aload_n 0, 1) := by decide +kernel
theorem dX7_wholeFile_233 : decode cX7_wholeFile 233 = .ok (.getfield 49, 3) := by decide +kernel
theorem dX7_wholeFile_236 : decode cX7_wholeFile 236 = .ok (.iconst 4, 1) := by decide +kernel
theorem dX7_wholeFile_237 : decode cX7_wholeFile 237 = .ok (.aload_n 0, 1) := by decide +kernel
theorem dX7_wholeFile_238 : decode cX7_wholeFile 238 = .ok (.getfield 95, 3) := by decide +kernel
theorem dX7_wholeFile_241 : decode cX7_wholeFile 241 = .ok (.imul, 1) := by decide +kernel
theorem dX7_wholeFile_242 : decode cX7_wholeFile 242 = .ok (.iload 4, 2) := by decide +kernel
theorem dX7_wholeFile_244 : decode cX7_wholeFile 244 = .ok (.iadd, 1) := by decide +kernel
theorem dX7_wholeFile_245 : decode cX7_wholeFile 245 = .ok (.aload_n 0, 1) := by decide +kernel
theorem dX7_wholeFile_246 : decode cX7_wholeFile 246 = .ok (.getfield 85, 3) := by decide +kernel
theorem dX7_wholeFile_249 : decode cX7_wholeFile 249 = .ok (.aload_n 0, 1) := by decide +kernel
theorem dX7_wholeFile_250 : decode cX7_wholeFile 250 = .ok (.getfield 75, 3) := by decide +kernel
theorem dX7_wholeFile_253 : decode cX7_wholeFile 253 = .ok (.iadd, 1) := by decide +kernel
theorem dX7_wholeFile_254 : decode cX7_wholeFile 254 = .ok (.iastore, 1) := by decide +kernel
theorem dX7_wholeFile_255 : decode cX7_wholeFile 255 = .ok (.aload_n 0, 1) := by decide +kernel
theorem dX7_wholeFile_256 : decode cX7_wholeFile 256 = .ok (.bipush 7, 2) := by decide +kernel
theorem dX7_wholeFile_258 : decode cX7_wholeFile 258 = .ok (.invokevirtual 106, 3) := by decide +kernel
theorem dX7_wholeFile_261 : decode cX7_wholeFile 261 = .ok (.pop, 1) := by decide +kernel
theorem dX7_wholeFile_262 : decode cX7_wholeFile 262 = .ok (.aload_n 0, 1) := by decide +kernel
theorem dX7_wholeFile_263 : decode cX7_wholeFile 263 = .ok (.iconst 4, 1) := by decide +kernel
theorem dX7_wholeFile_264 : decode cX7_wholeFile 264 = .ok (.invokevirtual 98, 3) := by decide +kernel
theorem dX7_wholeFile_267 : decode cX7_wholeFile 267 = .ok (.istore 5, 2) := by decide +kernel
theorem dX7_wholeFile_269 : decode cX7_wholeFile 269 = .ok (.aload_n 0, 1) := by decide +kernel
theorem dX7_wholeFile_270 : decode cX7_wholeFile 270 = .ok (.iload 5, 2) := by decide +kernel
theorem dX7_wholeFile_272 : decode cX7_wholeFile 272 = .ok (.invokevirtual 132, 3) := by decide +kernel
theorem dX7_wholeFile_275 : decode cX7_wholeFile 275 = .ok (.iinc 4 1, 3) := by decide +kernel
theorem dX7_wholeFile_278 : decode cX7_wholeFile 278 = .ok (.goto (-60), 3) := by decide +kernel
theorem dX7_wholeFile_281 : decode cX7_wholeFile 281 = .ok (.aload_n 0, 1) := by decide +kernel
theorem dX7_wholeFile_282 : decode cX7_wholeFile 282 = .ok (.getfield 52, 3) := by decide +kernel
theorem dX7_wholeFile_285 : decode cX7_wholeFile 285 = .ok (.aload_n 0, 1) := by decide +kernel
theorem dX7_wholeFile_286 : decode cX7_wholeFile 286 = .ok (.getfield 95, 3) := by decide +kernel
theorem dX7_wholeFile_289 : decode cX7_wholeFile 289 = .ok (.aload_n 0, 1) := by decide +kernel
theorem dX7_wholeFile_290 : decode cX7_wholeFile 290 = .ok (.getfield 85, 3) := by decide +kernel
theorem dX7_wholeFile_293 : decode cX7_wholeFile 293 = .ok (.aload_n 0, 1) := by decide +kernel
theorem dX7_wholeFile_294 : decode cX7_wholeFile 294 = .ok (.getfield 75, 3) := by decide +kernel
theorem dX7_wholeFile_297 : decode cX7_wholeFile 297 = .ok (.iadd, 1) := by decide +kernel
theorem dX7_wholeFile_298 : decode cX7_wholeFile 298 = .ok (.iastore, 1) := by decide +kernel
theorem dX7_wholeFile_299 : decode cX7_wholeFile 299 = .ok (.aload_n 0, 1) := by decide +kernel
theorem dX7_wholeFile_300 : decode cX7_wholeFile 300 = .ok (.iconst 4, 1) := by decide +kernel
theorem dX7_wholeFile_301 : decode cX7_wholeFile 301 = .ok (.invokevirtual 98, 3) := by decide +kernel
theorem dX7_wholeFile_304 : decode cX7_wholeFile 304 = .ok (.istore 4, 2) := by decide +kernel
theorem dX7_wholeFile_306 : decode cX7_wholeFile 306 = .ok (.aload_n 0, 1) := by decide +kernel
theorem dX7_wholeFile_307 : decode cX7_wholeFile 307 = .ok (.iload 4, 2) := by decide +kernel
theorem dX7_wholeFile_309 : decode cX7_wholeFile 309 = .ok (.invokevirtual 132, 3) := by decide +kernel
theorem dX7_wholeFile_312 : decode cX7_wholeFile 312 = .ok (.aload_n 0, 1) := by decide +kernel
theorem dX7_wholeFile_313 : decode cX7_wholeFile 313 = .ok (.getfield 75, 3) := by decide +kernel
theorem dX7_wholeFile_316 : decode cX7_wholeFile 316 = .ok (.aload_n 0, 1) := by decide +kernel
theorem dX7_wholeFile_317 : decode cX7_wholeFile 317 = .ok (.getfield 78, 3) := by decide +kernel
theorem dX7_wholeFile_320 : decode cX7_wholeFile 320 = .ok (.if_icmp .ge 13, 3) := by decide +kernel
theorem dX7_wholeFile_323 : decode cX7_wholeFile 323 = .ok (.aload_n 0, 1) := by decide +kernel
theorem dX7_wholeFile_324 : decode cX7_wholeFile 324 = .ok (.bipush 8, 2) := by decide +kernel
theorem dX7_wholeFile_326 : decode cX7_wholeFile 326 = .ok (.aload_n 0, 1) := by decide +kernel
theorem dX7_wholeFile_327 : decode cX7_wholeFile 327 = .ok (.getfield 75, 3) := by decide +kernel
theorem dX7_wholeFile_330 : decode cX7_wholeFile 330 = .ok (.invokevirtual 81, 3) := by decide +kernel
theorem dX7_wholeFile_333 : decode cX7_wholeFile 333 = .ok (.return_, 1) := by decide +kernel
theorem dX7_number_0 : decode cX7_number 0 = .ok (.iconst 0, 1) := by decide +kernel
theorem dX7_number_1 : decode cX7_number 1 = .ok (.istore_n 2, 1) := by decide +kernel
theorem dX7_number_2 : decode cX7_number 2 = .ok (.iload_n 2, 1) := by decide +kernel
theorem dX7_number_3 : decode cX7_number 3 = .ok (.aload_n 0, 1) := by decide +kernel
theorem dX7_number_4 : decode cX7_number 4 = .ok (.getfield 135, 3) := by decide +kernel
theorem dX7_number_7 : decode cX7_number 7 = .ok (.if_icmp .ge 25, 3) := by decide +kernel
theorem dX7_number_10 : decode cX7_number 10 = .ok (.aload_n 0, 1) := by decide +kernel
theorem dX7_number_11 : decode cX7_number 11 = .ok (.aload_n 0, 1) := by decide +kernel
theorem dX7_number_12 : decode cX7_number 12 = .ok (.getfield 16, 3) := by decide +kernel
theorem dX7_number_15 : decode cX7_number 15 = .ok (.iload_n 2, 1) := by decide +kernel
theorem dX7_number_16 : decode cX7_number 16 = .ok (.iaload, 1) := by decide +kernel
theorem dX7_number_17 : decode cX7_number 17 = .ok (.iload_n 1, 1) := by decide +kernel
theorem dX7_number_18 : decode cX7_number 18 = .ok (.invokevirtual 119, 3) := by decide +kernel
theorem dX7_number_21 : decode cX7_number 21 = .ok (.ifCond .eq 5, 3) := by decide +kernel
theorem dX7_number_24 : decode cX7_number 24 = .ok (.iload_n 2, 1) := by decide +kernel
theorem dX7_number_25 : decode cX7_number 25 = .ok (.ireturn, 1) := by decide +kernel
theorem dX7_number_26 : decode cX7_number 26 = .ok (.iinc 2 1, 3) := by decide +kernel
theorem dX7_number_29 : decode cX7_number 29 = .ok (.goto (-27), 3) := by decide +kernel
theorem dX7_number_32 : decode cX7_number 32 = .ok (.aload_n 0, 1) := by decide +kernel
theorem dX7_number_33 : decode cX7_number 33 = .ok (.getfield 16, 3) := by decide +kernel
theorem dX7_number_36 : decode cX7_number 36 = .ok (.aload_n 0, 1) := by decide +kernel
theorem dX7_number_37 : decode cX7_number 37 = .ok (.getfield 135, 3) := by decide +kernel
theorem dX7_number_40 : decode cX7_number 40 = .ok (.iload_n 1, 1) := by decide +kernel
theorem dX7_number_41 : decode cX7_number 41 = .ok (.iastore, 1) := by decide +kernel
theorem dX7_number_42 : decode cX7_number 42 = .ok (.aload_n 0, 1) := by decide +kernel
theorem dX7_number_43 : decode cX7_number 43 = .ok (.dup, 1) := by decide +kernel
theorem dX7_number_44 : decode cX7_number 44 = .ok (.getfield 135, 3) := by decide +kernel
theorem dX7_number_47 : decode cX7_number 47 = .ok (.iconst 1, 1) := by decide +kernel
theorem dX7_number_48 : decode cX7_number 48 = .ok (.iadd, 1) := by decide +kernel
theorem dX7_number_49 : decode cX7_number 49 = .ok (.putfield 135, 3) := by decide +kernel
theorem dX7_number_52 : decode cX7_number 52 = .ok (.aload_n 0, 1) := by decide +kernel
theorem dX7_number_53 : decode cX7_number 53 = .ok (.getfield 135, 3) := by decide +kernel
theorem dX7_number_56 : decode cX7_number 56 = .ok (.iconst 1, 1) := by decide +kernel
theorem dX7_number_57 : decode cX7_number 57 = .ok (.isub, 1) := by decide +kernel
theorem dX7_number_58 : decode cX7_number 58 = .ok (.ireturn, 1) := by decide +kernel
theorem dX7_read_0 : decode cX7_read 0 = .ok (.aload_n 0, 1) := by decide +kernel
theorem dX7_read_1 : decode cX7_read 1 = .ok (.getfield 116, 3) := by decide +kernel
theorem dX7_read_4 : decode cX7_read 4 = .ok (.bipush 16, 2) := by decide +kernel
theorem dX7_read_6 : decode cX7_read 6 = .ok (.if_icmp .ne 5, 3) := by decide +kernel
theorem dX7_read_9 : decode cX7_read 9 = .ok (.iconst (-1), 1) := by decide +kernel
theorem dX7_read_10 : decode cX7_read 10 = .ok (.ireturn, 1) := by decide +kernel
theorem dX7_read_11 : decode cX7_read 11 = .ok (.aload_n 0, 1) := by decide +kernel
theorem dX7_read_12 : decode cX7_read 12 = .ok (.aload_n 0, 1) := by decide +kernel
theorem dX7_read_13 : decode cX7_read 13 = .ok (.getfield 116, 3) := by decide +kernel
theorem dX7_read_16 : decode cX7_read 16 = .ok (.putfield 95, 3) := by decide +kernel
theorem dX7_read_19 : decode cX7_read 19 = .ok (.aload_n 0, 1) := by decide +kernel
theorem dX7_read_20 : decode cX7_read 20 = .ok (.bipush 120, 2) := by decide +kernel
theorem dX7_read_22 : decode cX7_read 22 = .ok (.aload_n 0, 1) := by decide +kernel
theorem dX7_read_23 : decode cX7_read 23 = .ok (.getfield 95, 3) := by decide +kernel
theorem dX7_read_26 : decode cX7_read 26 = .ok (.imul, 1) := by decide +kernel
theorem dX7_read_27 : decode cX7_read 27 = .ok (.putfield 85, 3) := by decide +kernel
theorem dX7_read_30 : decode cX7_read 30 = .ok (.aload_n 0, 1) := by decide +kernel
theorem dX7_read_31 : decode cX7_read 31 = .ok (.aload_n 0, 1) := by decide +kernel
theorem dX7_read_32 : decode cX7_read 32 = .ok (.getfield 65, 3) := by decide +kernel
theorem dX7_read_35 : decode cX7_read 35 = .ok (.putfield 78, 3) := by decide +kernel
theorem dX7_read_38 : decode cX7_read 38 = .ok (.aload_n 0, 1) := by decide +kernel
theorem dX7_read_39 : decode cX7_read 39 = .ok (.iconst 0, 1) := by decide +kernel
theorem dX7_read_40 : decode cX7_read 40 = .ok (.putfield 75, 3) := by decide +kernel
theorem dX7_read_43 : decode cX7_read 43 = .ok (.aload_n 0, 1) := by decide +kernel
theorem dX7_read_44 : decode cX7_read 44 = .ok (.iconst 0, 1) := by decide +kernel
theorem dX7_read_45 : decode cX7_read 45 = .ok (.putfield 69, 3) := by decide +kernel
theorem dX7_read_48 : decode cX7_read 48 = .ok (.iconst 0, 1) := by decide +kernel
theorem dX7_read_49 : decode cX7_read 49 = .ok (.istore_n 1, 1) := by decide +kernel
theorem dX7_read_50 : decode cX7_read 50 = .ok (.iload_n 1, 1) := by decide +kernel
theorem dX7_read_51 : decode cX7_read 51 = .ok (.aload_n 0, 1) := by decide +kernel
theorem dX7_read_52 : decode cX7_read 52 = .ok (.getfield 65, 3) := by decide +kernel
theorem dX7_read_55 : decode cX7_read 55 = .ok (.if_icmp .ge 26, 3) := by decide +kernel
theorem dX7_read_58 : decode cX7_read 58 = .ok (.aload_n 0, 1) := by decide +kernel
theorem dX7_read_59 : decode cX7_read 59 = .ok (.getfield 13, 3) := by decide +kernel
theorem dX7_read_62 : decode cX7_read 62 = .ok (.aload_n 0, 1) := by decide +kernel
theorem dX7_read_63 : decode cX7_read 63 = .ok (.getfield 85, 3) := by decide +kernel
theorem dX7_read_66 : decode cX7_read 66 = .ok (.iload_n 1, 1) := by decide +kernel
theorem dX7_read_67 : decode cX7_read 67 = .ok (.iadd, 1) := by decide +kernel
theorem dX7_read_68 : decode cX7_read 68 = .ok (.aload_n 0, 1) := by decide +kernel
theorem dX7_read_69 : decode cX7_read 69 = .ok (.getfield 7, 3) := by decide +kernel
theorem dX7_read_72 : decode cX7_read 72 = .ok (.iload_n 1, 1) := by decide +kernel
theorem dX7_read_73 : decode cX7_read 73 = .ok (.iaload, 1) := by decide +kernel
theorem dX7_read_74 : decode cX7_read 74 = .ok (.iastore, 1) := by decide +kernel
theorem dX7_read_75 : decode cX7_read 75 = .ok (.iinc 1 1, 3) := by decide +kernel
theorem dX7_read_78 : decode cX7_read 78 = .ok (.goto (-28), 3) := by decide +kernel
theorem dX7_read_81 : decode cX7_read 81 = .ok (.aload_n 0, 1) := by decide +kernel
theorem dX7_read_82 : decode cX7_read 82 = .ok (.iconst 0, 1) := by decide +kernel
theorem dX7_read_83 : decode cX7_read 83 = .ok (.putfield 65, 3) := by decide +kernel
theorem dX7_read_86 : decode cX7_read 86 = .ok (.aload_n 0, 1) := by decide +kernel
theorem dX7_read_87 : decode cX7_read 87 = .ok (.invokevirtual 138, 3) := by decide +kernel
theorem dX7_read_90 : decode cX7_read 90 = .ok (.aload_n 0, 1) := by decide +kernel
theorem dX7_read_91 : decode cX7_read 91 = .ok (.getfield 69, 3) := by decide +kernel
theorem dX7_read_94 : decode cX7_read 94 = .ok (.ifCond .eq 18, 3) := by decide +kernel
theorem dX7_read_97 : decode cX7_read 97 = .ok (.sipush 1000, 3) := by decide +kernel
theorem dX7_read_100 : decode cX7_read 100 = .ok (.aload_n 0, 1) := by decide +kernel
theorem dX7_read_101 : decode cX7_read 101 = .ok (.getfield 69, 3) := by decide +kernel
theorem dX7_read_104 : decode cX7_read 104 = .ok (.imul, 1) := by decide +kernel
theorem dX7_read_105 : decode cX7_read 105 = .ok (.aload_n 0, 1) := by decide +kernel
theorem dX7_read_106 : decode cX7_read 106 = .ok (.getfield 72, 3) := by decide +kernel
theorem dX7_read_109 : decode cX7_read 109 = .ok (.iadd, 1) := by decide +kernel
theorem dX7_read_110 : decode cX7_read 110 = .ok (.ineg, 1) := by decide +kernel
theorem dX7_read_111 : decode cX7_read 111 = .ok (.ireturn, 1) := by decide +kernel
theorem dX7_read_112 : decode cX7_read 112 = .ok (.iconst 1, 1) := by decide +kernel
theorem dX7_read_113 : decode cX7_read 113 = .ok (.istore_n 1, 1) := by decide +kernel
theorem dX7_read_114 : decode cX7_read 114 = .ok (.iload_n 1, 1) := by decide +kernel
theorem dX7_read_115 : decode cX7_read 115 = .ok (.aload_n 0, 1) := by decide +kernel
theorem dX7_read_116 : decode cX7_read 116 = .ok (.getfield 92, 3) := by decide +kernel
theorem dX7_read_119 : decode cX7_read 119 = .ok (.if_icmp .gt 61, 3) := by decide +kernel
theorem dX7_read_122 : decode cX7_read 122 = .ok (.aload_n 0, 1) := by decide +kernel
theorem dX7_read_123 : decode cX7_read 123 = .ok (.getfield 19, 3) := by decide +kernel
theorem dX7_read_126 : decode cX7_read 126 = .ok (.bipush 13, 2) := by decide +kernel
theorem dX7_read_128 : decode cX7_read 128 = .ok (.aload_n 0, 1) := by decide +kernel
theorem dX7_read_129 : decode cX7_read 129 = .ok (.getfield 95, 3) := by decide +kernel
theorem dX7_read_132 : decode cX7_read 132 = .ok (.imul, 1) := by decide +kernel
theorem dX7_read_133 : decode cX7_read 133 = .ok (.iload_n 1, 1) := by decide +kernel
theorem dX7_read_134 : decode cX7_read 134 = .ok (.iadd, 1) := by decide +kernel
theorem dX7_read_135 : decode cX7_read 135 = .ok (.iaload, 1) := by decide +kernel
theorem dX7_read_136 : decode cX7_read 136 = .ok (.iconst 1, 1) := by decide +kernel
theorem dX7_read_137 : decode cX7_read 137 = .ok (.if_icmp .ne 37, 3) := by decide +kernel
theorem dX7_read_140 : decode cX7_read 140 = .ok (.aload_n 0, 1) := by decide +kernel
theorem dX7_read_141 : decode cX7_read 141 = .ok (.getfield 25, 3) := by decide +kernel
theorem dX7_read_144 : decode cX7_read 144 = .ok (.bipush 13, 2) := by decide +kernel
theorem dX7_read_146 : decode cX7_read 146 = .ok (.aload_n 0, 1) := by decide +kernel
theorem dX7_read_147 : decode cX7_read 147 = .ok (.getfield 95, 3) := by decide +kernel
theorem dX7_read_150 : decode cX7_read 150 = .ok (.imul, 1) := by decide +kernel
theorem dX7_read_151 : decode cX7_read 151 = .ok (.iload_n 1, 1) := by decide +kernel
theorem dX7_read_152 : decode cX7_read 152 = .ok (.iadd, 1) := by decide +kernel
theorem dX7_read_153 : decode cX7_read 153 = .ok (.aload_n 0, 1) := by decide +kernel
theorem dX7_read_154 : decode cX7_read 154 = .ok (.aload_n 0, 1) := by decide +kernel
theorem dX7_read_155 : decode cX7_read 155 = .ok (.getfield 22, 3) := by decide +kernel
theorem dX7_read_158 : decode cX7_read 158 = .ok (.bipush 13, 2) := by decide +kernel
theorem dX7_read_160 : decode cX7_read 160 = .ok (.aload_n 0, 1) := by decide +kernel
theorem dX7_read_161 : decode cX7_read 161 = .ok (.getfield 95, 3) := by decide +kernel
theorem dX7_read_164 : decode cX7_read 164 = .ok (.imul, 1) := by decide +kernel
theorem dX7_read_165 : decode cX7_read 165 = .ok (.iload_n 1, 1) := by decide +kernel
theorem dX7_read_166 : decode cX7_read 166 = .ok (.iadd, 1) := by decide +kernel
theorem dX7_read_167 : decode cX7_read 167 = .ok (.iaload, 1) := by decide +kernel
theorem dX7_read_168 : decode cX7_read 168 = .ok (.iconst 1, 1) := by decide +kernel
theorem dX7_read_169 : decode cX7_read 169 = .ok (.iadd, 1) := by decide +kernel
theorem dX7_read_170 : decode cX7_read 170 = .ok (.invokevirtual 141, 3) := by decide +kernel
theorem dX7_read_173 : decode cX7_read 173 = .ok (.iastore, 1) := by decide +kernel
theorem dX7_read_174 : decode cX7_read 174 = .ok (.iinc 1 1, 3) := by decide +kernel
theorem dX7_read_177 : decode cX7_read 177 = .ok (.goto (-63), 3) := by decide +kernel
theorem dX7_read_180 : decode cX7_read 180 = .ok (.iconst 1, 1) := by decide +kernel
theorem dX7_read_181 : decode cX7_read 181 = .ok (.istore_n 1, 1) := by decide +kernel
theorem dX7_read_182 : decode cX7_read 182 = .ok (.iload_n 1, 1) := by decide +kernel
theorem dX7_read_183 : decode cX7_read 183 = .ok (.aload_n 0, 1) := by decide +kernel
theorem dX7_read_184 : decode cX7_read 184 = .ok (.getfield 92, 3) := by decide +kernel
theorem dX7_read_187 : decode cX7_read 187 = .ok (.if_icmp .gt 76, 3) := by decide +kernel
theorem dX7_read_190 : decode cX7_read 190 = .ok (.aload_n 0, 1) := by decide +kernel
theorem dX7_read_191 : decode cX7_read 191 = .ok (.getfield 19, 3) := by decide +kernel
theorem dX7_read_194 : decode cX7_read 194 = .ok (.bipush 13, 2) := by decide +kernel
theorem dX7_read_196 : decode cX7_read 196 = .ok (.aload_n 0, 1) := by decide +kernel
theorem dX7_read_197 : decode cX7_read 197 = .ok (.getfield 95, 3) := by decide +kernel
theorem dX7_read_200 : decode cX7_read 200 = .ok (.imul, 1) := by decide +kernel
theorem dX7_read_201 : decode cX7_read 201 = .ok (.iload_n 1, 1) := by decide +kernel
theorem dX7_read_202 : decode cX7_read 202 = .ok (.iadd, 1) := by decide +kernel
theorem dX7_read_203 : decode cX7_read 203 = .ok (.iaload, 1) := by decide +kernel
theorem dX7_read_204 : decode cX7_read 204 = .ok (.bipush 7, 2) := by decide +kernel
theorem dX7_read_206 : decode cX7_read 206 = .ok (.if_icmp .ne 51, 3) := by decide +kernel
theorem dX7_read_209 : decode cX7_read 209 = .ok (.aload_n 0, 1) := by decide +kernel
theorem dX7_read_210 : decode cX7_read 210 = .ok (.getfield 25, 3) := by decide +kernel
theorem dX7_read_213 : decode cX7_read 213 = .ok (.bipush 13, 2) := by decide +kernel
theorem dX7_read_215 : decode cX7_read 215 = .ok (.aload_n 0, 1) := by decide +kernel
theorem dX7_read_216 : decode cX7_read 216 = .ok (.getfield 95, 3) := by decide +kernel
theorem dX7_read_219 : decode cX7_read 219 = .ok (.imul, 1) := by decide +kernel
theorem dX7_read_220 : decode cX7_read 220 = .ok (.iload_n 1, 1) := by decide +kernel
theorem dX7_read_221 : decode cX7_read 221 = .ok (.iadd, 1) := by decide +kernel
theorem dX7_read_222 : decode cX7_read 222 = .ok (.aload_n 0, 1) := by decide +kernel
theorem dX7_read_223 : decode cX7_read 223 = .ok (.getfield 25, 3) := by decide +kernel
theorem dX7_read_226 : decode cX7_read 226 = .ok (.bipush 13, 2) := by decide +kernel
theorem dX7_read_228 : decode cX7_read 228 = .ok (.aload_n 0, 1) := by decide +kernel
theorem dX7_read_229 : decode cX7_read 229 = .ok (.getfield 95, 3) := by decide +kernel
theorem dX7_read_232 : decode cX7_read 232 = .ok (.imul, 1) := by decide +kernel
theorem dX7_read_233 : decode cX7_read 233 = .ok (.aload_n 0, 1) := by decide +kernel
theorem dX7_read_234 : decode cX7_read 234 = .ok (.getfield 13, 3) := by decide +kernel
theorem dX7_read_237 : decode cX7_read 237 = .ok (.aload_n 0, 1) := by decide +kernel
theorem dX7_read_238 : decode cX7_read 238 = .ok (.getfield 22, 3) := by decide +kernel
theorem dX7_read_241 : decode cX7_read 241 = .ok (.bipush 13, 2) := by decide +kernel
theorem dX7_read_243 : decode cX7_read 243 = .ok (.aload_n 0, 1) := by decide +kernel
theorem dX7_read_244 : decode cX7_read 244 = .ok (.getfield 95, 3) := by decide +kernel
theorem dX7_read_247 : decode cX7_read 247 = .ok (.imul, 1) := by decide +kernel
theorem dX7_read_248 : decode cX7_read 248 = .ok (.iload_n 1, 1) := by decide +kernel
theorem dX7_read_249 : decode cX7_read 249 = .ok (.iadd, 1) := by decide +kernel
theorem dX7_read_250 : decode cX7_read 250 = .ok (.iaload, 1) := by decide +kernel
theorem dX7_read_251 : decode cX7_read 251 = .ok (.iconst 1, 1) := by decide +kernel
theorem dX7_read_252 : decode cX7_read 252 = .ok (.iadd, 1) := by decide +kernel
theorem dX7_read_253 : decode cX7_read 253 = .ok (.iaload, 1) := by decide +kernel
theorem dX7_read_254 : decode cX7_read 254 = .ok (.iadd, 1) := by decide +kernel
theorem dX7_read_255 : decode cX7_read 255 = .ok (.iaload, 1) := by decide +kernel
theorem dX7_read_256 : decode cX7_read 256 = .ok (.iastore, 1) := by decide +kernel
theorem dX7_read_257 : decode cX7_read 257 = .ok (.iinc 1 1, 3) := by decide +kernel
theorem dX7_read_260 : decode cX7_read 260 = .ok (.goto (-78), 3) := by decide +kernel
theorem dX7_read_263 : decode cX7_read 263 = .ok (.aload_n 0, 1) := by decide +kernel
theorem dX7_read_264 : decode cX7_read 264 = .ok (.getfield 31, 3) := by decide +kernel
theorem dX7_read_267 : decode cX7_read 267 = .ok (.aload_n 0, 1) := by decide +kernel
theorem dX7_read_268 : decode cX7_read 268 = .ok (.getfield 95, 3) := by decide +kernel
theorem dX7_read_271 : decode cX7_read 271 = .ok (.aload_n 0, 1) := by decide +kernel
theorem dX7_read_272 : decode cX7_read 272 = .ok (.getfield 25, 3) := by decide +kernel
theorem dX7_read_275 : decode cX7_read 275 = .ok (.bipush 13, 2) := by decide +kernel
theorem dX7_read_277 : decode cX7_read 277 = .ok (.aload_n 0, 1) := by decide +kernel
theorem dX7_read_278 : decode cX7_read 278 = .ok (.getfield 95, 3) := by decide +kernel
theorem dX7_read_281 : decode cX7_read 281 = .ok (.imul, 1) := by decide +kernel
theorem dX7_read_282 : decode cX7_read 282 = .ok (.aload_n 0, 1) := by decide +kernel
theorem dX7_read_283 : decode cX7_read 283 = .ok (.getfield 31, 3) := by decide +kernel
theorem dX7_read_286 : decode cX7_read 286 = .ok (.aload_n 0, 1) := by decide +kernel
theorem dX7_read_287 : decode cX7_read 287 = .ok (.getfield 95, 3) := by decide +kernel
theorem dX7_read_290 : decode cX7_read 290 = .ok (.iaload, 1) := by decide +kernel
theorem dX7_read_291 : decode cX7_read 291 = .ok (.iadd, 1) := by decide +kernel
theorem dX7_read_292 : decode cX7_read 292 = .ok (.iaload, 1) := by decide +kernel
theorem dX7_read_293 : decode cX7_read 293 = .ok (.iastore, 1) := by decide +kernel
theorem dX7_read_294 : decode cX7_read 294 = .ok (.aload_n 0, 1) := by decide +kernel
theorem dX7_read_295 : decode cX7_read 295 = .ok (.getfield 34, 3) := by decide +kernel
theorem dX7_read_298 : decode cX7_read 298 = .ok (.aload_n 0, 1) := by decide +kernel
theorem dX7_read_299 : decode cX7_read 299 = .ok (.getfield 95, 3) := by decide +kernel
theorem dX7_read_302 : decode cX7_read 302 = .ok (.aload_n 0, 1) := by decide +kernel
theorem dX7_read_303 : decode cX7_read 303 = .ok (.getfield 34, 3) := by decide +kernel
theorem dX7_read_306 : decode cX7_read 306 = .ok (.aload_n 0, 1) := by decide +kernel
theorem dX7_read_307 : decode cX7_read 307 = .ok (.getfield 95, 3) := by decide +kernel
theorem dX7_read_310 : decode cX7_read 310 = .ok (.iaload, 1) := by decide +kernel
theorem dX7_read_311 : decode cX7_read 311 = .ok (.ifCond .ne 7, 3) := by decide +kernel
theorem dX7_read_314 : decode cX7_read 314 = .ok (.iconst (-1), 1) := by decide +kernel
theorem dX7_read_315 : decode cX7_read 315 = .ok (.goto 25, 3) := by decide +kernel
theorem dX7_read_318 : decode cX7_read 318 = .ok (.aload_n 0, 1) := by decide +kernel
theorem dX7_read_319 : decode cX7_read 319 = .ok (.getfield 25, 3) := by decide +kernel
theorem dX7_read_322 : decode cX7_read 322 = .ok (.bipush 13, 2) := by decide +kernel
theorem dX7_read_324 : decode cX7_read 324 = .ok (.aload_n 0, 1) := by decide +kernel
theorem dX7_read_325 : decode cX7_read 325 = .ok (.getfield 95, 3) := by decide +kernel
theorem dX7_read_328 : decode cX7_read 328 = .ok (.imul, 1) := by decide +kernel
theorem dX7_read_329 : decode cX7_read 329 = .ok (.aload_n 0, 1) := by decide +kernel
theorem dX7_read_330 : decode cX7_read 330 = .ok (.getfield 34, 3) := by decide +kernel
theorem dX7_read_333 : decode cX7_read 333 = .ok (.aload_n 0, 1) := by decide +kernel
theorem dX7_read_334 : decode cX7_read 334 = .ok (.getfield 95, 3) := by decide +kernel
theorem dX7_read_337 : decode cX7_read 337 = .ok (.iaload, 1) := by decide +kernel
theorem dX7_read_338 : decode cX7_read 338 = .ok (.iadd, 1) := by decide +kernel
theorem dX7_read_339 : decode cX7_read 339 = .ok (.iaload, 1) := by decide +kernel
theorem dX7_read_340 : decode cX7_read 340 = .ok (.iastore, 1) := by decide +kernel
theorem dX7_read_341 : decode cX7_read 341 = .ok (.aload_n 0, 1) := by decide +kernel
theorem dX7_read_342 : decode cX7_read 342 = .ok (.getfield 37, 3) := by decide +kernel
theorem dX7_read_345 : decode cX7_read 345 = .ok (.aload_n 0, 1) := by decide +kernel
theorem dX7_read_346 : decode cX7_read 346 = .ok (.getfield 95, 3) := by decide +kernel
theorem dX7_read_349 : decode cX7_read 349 = .ok (.aload_n 0, 1) := by decide +kernel
theorem dX7_read_350 : decode cX7_read 350 = .ok (.getfield 37, 3) := by decide +kernel
theorem dX7_read_353 : decode cX7_read 353 = .ok (.aload_n 0, 1) := by decide +kernel
theorem dX7_read_354 : decode cX7_read 354 = .ok (.getfield 95, 3) := by decide +kernel
theorem dX7_read_357 : decode cX7_read 357 = .ok (.iaload, 1) := by decide +kernel
theorem dX7_read_358 : decode cX7_read 358 = .ok (.ifCond .ne 7, 3) := by decide +kernel
theorem dX7_read_361 : decode cX7_read 361 = .ok (.iconst (-1), 1) := by decide +kernel
theorem dX7_read_362 : decode cX7_read 362 = .ok (.goto 25, 3) := by decide +kernel
theorem dX7_read_365 : decode cX7_read 365 = .ok (.aload_n 0, 1) := by decide +kernel
theorem dX7_read_366 : decode cX7_read 366 = .ok (.getfield 25, 3) := by decide +kernel
theorem dX7_read_369 : decode cX7_read 369 = .ok (.bipush 13, 2) := by decide +kernel
theorem dX7_read_371 : decode cX7_read 371 = .ok (.aload_n 0, 1) := by decide +kernel
theorem dX7_read_372 : decode cX7_read 372 = .ok (.getfield 95, 3) := by decide +kernel
theorem dX7_read_375 : decode cX7_read 375 = .ok (.imul, 1) := by decide +kernel
theorem dX7_read_376 : decode cX7_read 376 = .ok (.aload_n 0, 1) := by decide +kernel
theorem dX7_read_377 : decode cX7_read 377 = .ok (.getfield 37, 3) := by decide +kernel
theorem dX7_read_380 : decode cX7_read 380 = .ok (.aload_n 0, 1) := by decide +kernel
theorem dX7_read_381 : decode cX7_read 381 = .ok (.getfield 95, 3) := by decide +kernel
theorem dX7_read_384 : decode cX7_read 384 = .ok (.iaload, 1) := by decide +kernel
theorem dX7_read_385 : decode cX7_read 385 = .ok (.iadd, 1) := by decide +kernel
theorem dX7_read_386 : decode cX7_read 386 = .ok (.iaload, 1) := by decide +kernel
theorem dX7_read_387 : decode cX7_read 387 = .ok (.iastore, 1) := by decide +kernel
theorem dX7_read_388 : decode cX7_read 388 = .ok (.iconst 0, 1) := by decide +kernel
theorem dX7_read_389 : decode cX7_read 389 = .ok (.istore_n 1, 1) := by decide +kernel
theorem dX7_read_390 : decode cX7_read 390 = .ok (.iload_n 1, 1) := by decide +kernel
theorem dX7_read_391 : decode cX7_read 391 = .ok (.aload_n 0, 1) := by decide +kernel
theorem dX7_read_392 : decode cX7_read 392 = .ok (.getfield 40, 3) := by decide +kernel
theorem dX7_read_395 : decode cX7_read 395 = .ok (.aload_n 0, 1) := by decide +kernel
theorem dX7_read_396 : decode cX7_read 396 = .ok (.getfield 95, 3) := by decide +kernel
theorem dX7_read_399 : decode cX7_read 399 = .ok (.iaload, 1) := by decide +kernel
theorem dX7_read_400 : decode cX7_read 400 = .ok (.if_icmp .ge 48, 3) := by decide +kernel
theorem dX7_read_403 : decode cX7_read 403 = .ok (.aload_n 0, 1) := by decide +kernel
theorem dX7_read_404 : decode cX7_read 404 = .ok (.getfield 43, 3) := by decide +kernel
theorem dX7_read_407 : decode cX7_read 407 = .ok (.iconst 4, 1) := by decide +kernel
theorem dX7_read_408 : decode cX7_read 408 = .ok (.aload_n 0, 1) := by decide +kernel
theorem dX7_read_409 : decode cX7_read 409 = .ok (.getfield 95, 3) := by decide +kernel
theorem dX7_read_412 : decode cX7_read 412 = .ok (.imul, 1) := by decide +kernel
theorem dX7_read_413 : decode cX7_read 413 = .ok (.iload_n 1, 1) := by decide +kernel
theorem dX7_read_414 : decode cX7_read 414 = .ok (.iadd, 1) := by decide +kernel
theorem dX7_read_415 : decode cX7_read 415 = .ok (.aload_n 0, 1) := by decide +kernel
theorem dX7_read_416 : decode cX7_read 416 = .ok (.getfield 25, 3) := by decide +kernel
theorem dX7_read_419 : decode cX7_read 419 = .ok (.bipush 13, 2) := by decide +kernel
theorem dX7_read_421 : decode cX7_read 421 = .ok (.aload_n 0, 1) := by decide +kernel
theorem dX7_read_422 : decode cX7_read 422 = .ok (.getfield 95, 3) := by decide +kernel
theorem dX7_read_425 : decode cX7_read 425 = .ok (.imul, 1) := by decide +kernel
theorem dX7_read_426 : decode cX7_read 426 = .ok (.aload_n 0, 1) := by decide +kernel
theorem dX7_read_427 : decode cX7_read 427 = .ok (.getfield 43, 3) := by decide +kernel
theorem dX7_read_430 : decode cX7_read 430 = .ok (.iconst 4, 1) := by decide +kernel
theorem dX7_read_431 : decode cX7_read 431 = .ok (.aload_n 0, 1) := by decide +kernel
theorem dX7_read_432 : decode cX7_read 432 = .ok (.getfield 95, 3) := by decide +kernel
theorem dX7_read_435 : decode cX7_read 435 = .ok (.imul, 1) := by decide +kernel
theorem dX7_read_436 : decode cX7_read 436 = .ok (.iload_n 1, 1) := by decide +kernel
theorem dX7_read_437 : decode cX7_read 437 = .ok (.iadd, 1) := by decide +kernel
theorem dX7_read_438 : decode cX7_read 438 = .ok (.iaload, 1) := by decide +kernel
theorem dX7_read_439 : decode cX7_read 439 = .ok (.iadd, 1) := by decide +kernel
theorem dX7_read_440 : decode cX7_read 440 = .ok (.iaload, 1) := by decide +kernel
theorem dX7_read_441 : decode cX7_read 441 = .ok (.iastore, 1) := by decide +kernel
theorem dX7_read_442 : decode cX7_read 442 = .ok (.iinc 1 1, 3) := by decide +kernel
theorem dX7_read_445 : decode cX7_read 445 = .ok (.goto (-55), 3) := by decide +kernel
theorem dX7_read_448 : decode cX7_read 448 = .ok (.aload_n 0, 1) := by decide +kernel
theorem dX7_read_449 : decode cX7_read 449 = .ok (.dup, 1) := by decide +kernel
theorem dX7_read_450 : decode cX7_read 450 = .ok (.getfield 116, 3) := by decide +kernel
theorem dX7_read_453 : decode cX7_read 453 = .ok (.iconst 1, 1) := by decide +kernel
theorem dX7_read_454 : decode cX7_read 454 = .ok (.iadd, 1) := by decide +kernel
theorem dX7_read_455 : decode cX7_read 455 = .ok (.putfield 116, 3) := by decide +kernel
theorem dX7_read_458 : decode cX7_read 458 = .ok (.aload_n 0, 1) := by decide +kernel
theorem dX7_read_459 : decode cX7_read 459 = .ok (.getfield 95, 3) := by decide +kernel
theorem dX7_read_462 : decode cX7_read 462 = .ok (.ireturn, 1) := by decide +kernel
theorem dX7_isClass_0 : decode cX7_isClass 0 = .ok (.iload_n 1, 1) := by decide +kernel
theorem dX7_isClass_1 : decode cX7_isClass 1 = .ok (.ifCond .lt 15, 3) := by decide +kernel
theorem dX7_isClass_4 : decode cX7_isClass 4 = .ok (.iload_n 1, 1) := by decide +kernel
theorem dX7_isClass_5 : decode cX7_isClass 5 = .ok (.aload_n 0, 1) := by decide +kernel
theorem dX7_isClass_6 : decode cX7_isClass 6 = .ok (.getfield 116, 3) := by decide +kernel
theorem dX7_isClass_9 : decode cX7_isClass 9 = .ok (.if_icmp .ge 7, 3) := by decide +kernel
theorem dX7_isClass_12 : decode cX7_isClass 12 = .ok (.iconst 1, 1) := by decide +kernel
theorem dX7_isClass_13 : decode cX7_isClass 13 = .ok (.goto 4, 3) := by decide +kernel
theorem dX7_isClass_16 : decode cX7_isClass 16 = .ok (.iconst 0, 1) := by decide +kernel
theorem dX7_isClass_17 : decode cX7_isClass 17 = .ok (.ireturn, 1) := by decide +kernel
theorem dX7_isText_0 : decode cX7_isText 0 = .ok (.iload_n 1, 1) := by decide +kernel
theorem dX7_isText_1 : decode cX7_isText 1 = .ok (.ifCond .lt 15, 3) := by decide +kernel
theorem dX7_isText_4 : decode cX7_isText 4 = .ok (.iload_n 1, 1) := by decide +kernel
theorem dX7_isText_5 : decode cX7_isText 5 = .ok (.aload_n 0, 1) := by decide +kernel
theorem dX7_isText_6 : decode cX7_isText 6 = .ok (.getfield 135, 3) := by decide +kernel
theorem dX7_isText_9 : decode cX7_isText 9 = .ok (.if_icmp .ge 7, 3) := by decide +kernel
theorem dX7_isText_12 : decode cX7_isText 12 = .ok (.iconst 1, 1) := by decide +kernel
theorem dX7_isText_13 : decode cX7_isText 13 = .ok (.goto 4, 3) := by decide +kernel
theorem dX7_isText_16 : decode cX7_isText 16 = .ok (.iconst 0, 1) := by decide +kernel
theorem dX7_isText_17 : decode cX7_isText 17 = .ok (.ireturn, 1) := by decide +kernel
theorem dX7_classes_0 : decode cX7_classes 0 = .ok (.aload_n 0, 1) := by decide +kernel
theorem dX7_classes_1 : decode cX7_classes 1 = .ok (.getfield 116, 3) := by decide +kernel
theorem dX7_classes_4 : decode cX7_classes 4 = .ok (.ireturn, 1) := by decide +kernel
end
section
theorem dX7_texts_0 : decode cX7_texts 0 = .ok (.aload_n 0, 1) := by decide +kernel
theorem dX7_texts_1 : decode cX7_texts 1 = .ok (.getfield 135, 3) := by decide +kernel
theorem dX7_texts_4 : decode cX7_texts 4 = .ok (.ireturn, 1) := by decide +kernel
theorem dX7_letter_0 : decode cX7_letter 0 = .ok (.aload_n 0, 1) := by decide +kernel
theorem dX7_letter_1 : decode cX7_letter 1 = .ok (.iload_n 1, 1) := by decide +kernel
theorem dX7_letter_2 : decode cX7_letter 2 = .ok (.invokevirtual 144, 3) := by decide +kernel
theorem dX7_letter_5 : decode cX7_letter 5 = .ok (.ifCond .ne 5, 3) := by decide +kernel
theorem dX7_letter_8 : decode cX7_letter 8 = .ok (.iconst (-1), 1) := by decide +kernel
theorem dX7_letter_9 : decode cX7_letter 9 = .ok (.ireturn, 1) := by decide +kernel
theorem dX7_letter_10 : decode cX7_letter 10 = .ok (.iload_n 2, 1) := by decide +kernel
theorem dX7_letter_11 : decode cX7_letter 11 = .ok (.ifCond .lt 18, 3) := by decide +kernel
theorem dX7_letter_14 : decode cX7_letter 14 = .ok (.iload_n 2, 1) := by decide +kernel
theorem dX7_letter_15 : decode cX7_letter 15 = .ok (.aload_n 0, 1) := by decide +kernel
theorem dX7_letter_16 : decode cX7_letter 16 = .ok (.getfield 13, 3) := by decide +kernel
theorem dX7_letter_19 : decode cX7_letter 19 = .ok (.aload_n 0, 1) := by decide +kernel
theorem dX7_letter_20 : decode cX7_letter 20 = .ok (.getfield 16, 3) := by decide +kernel
theorem dX7_letter_23 : decode cX7_letter 23 = .ok (.iload_n 1, 1) := by decide +kernel
theorem dX7_letter_24 : decode cX7_letter 24 = .ok (.iaload, 1) := by decide +kernel
theorem dX7_letter_25 : decode cX7_letter 25 = .ok (.iaload, 1) := by decide +kernel
theorem dX7_letter_26 : decode cX7_letter 26 = .ok (.if_icmp .lt 7, 3) := by decide +kernel
theorem dX7_letter_29 : decode cX7_letter 29 = .ok (.iconst 0, 1) := by decide +kernel
theorem dX7_letter_30 : decode cX7_letter 30 = .ok (.goto 18, 3) := by decide +kernel
theorem dX7_letter_33 : decode cX7_letter 33 = .ok (.aload_n 0, 1) := by decide +kernel
theorem dX7_letter_34 : decode cX7_letter 34 = .ok (.getfield 13, 3) := by decide +kernel
theorem dX7_letter_37 : decode cX7_letter 37 = .ok (.aload_n 0, 1) := by decide +kernel
theorem dX7_letter_38 : decode cX7_letter 38 = .ok (.getfield 16, 3) := by decide +kernel
theorem dX7_letter_41 : decode cX7_letter 41 = .ok (.iload_n 1, 1) := by decide +kernel
theorem dX7_letter_42 : decode cX7_letter 42 = .ok (.iaload, 1) := by decide +kernel
theorem dX7_letter_43 : decode cX7_letter 43 = .ok (.iconst 1, 1) := by decide +kernel
theorem dX7_letter_44 : decode cX7_letter 44 = .ok (.iadd, 1) := by decide +kernel
theorem dX7_letter_45 : decode cX7_letter 45 = .ok (.iload_n 2, 1) := by decide +kernel
theorem dX7_letter_46 : decode cX7_letter 46 = .ok (.iadd, 1) := by decide +kernel
theorem dX7_letter_47 : decode cX7_letter 47 = .ok (.iaload, 1) := by decide +kernel
theorem dX7_letter_48 : decode cX7_letter 48 = .ok (.ireturn, 1) := by decide +kernel
theorem dX7_find_0 : decode cX7_find 0 = .ok (.iconst 0, 1) := by decide +kernel
theorem dX7_find_1 : decode cX7_find 1 = .ok (.istore_n 2, 1) := by decide +kernel
theorem dX7_find_2 : decode cX7_find 2 = .ok (.iload_n 2, 1) := by decide +kernel
theorem dX7_find_3 : decode cX7_find 3 = .ok (.aload_n 0, 1) := by decide +kernel
theorem dX7_find_4 : decode cX7_find 4 = .ok (.getfield 116, 3) := by decide +kernel
theorem dX7_find_7 : decode cX7_find 7 = .ok (.if_icmp .ge 21, 3) := by decide +kernel
theorem dX7_find_10 : decode cX7_find 10 = .ok (.aload_n 0, 1) := by decide +kernel
theorem dX7_find_11 : decode cX7_find 11 = .ok (.getfield 31, 3) := by decide +kernel
theorem dX7_find_14 : decode cX7_find 14 = .ok (.iload_n 2, 1) := by decide +kernel
theorem dX7_find_15 : decode cX7_find 15 = .ok (.iaload, 1) := by decide +kernel
theorem dX7_find_16 : decode cX7_find 16 = .ok (.iload_n 1, 1) := by decide +kernel
theorem dX7_find_17 : decode cX7_find 17 = .ok (.if_icmp .ne 5, 3) := by decide +kernel
theorem dX7_find_20 : decode cX7_find 20 = .ok (.iload_n 2, 1) := by decide +kernel
theorem dX7_find_21 : decode cX7_find 21 = .ok (.ireturn, 1) := by decide +kernel
theorem dX7_find_22 : decode cX7_find 22 = .ok (.iinc 2 1, 3) := by decide +kernel
theorem dX7_find_25 : decode cX7_find 25 = .ok (.goto (-23), 3) := by decide +kernel
theorem dX7_find_28 : decode cX7_find 28 = .ok (.iconst (-1), 1) := by decide +kernel
theorem dX7_find_29 : decode cX7_find 29 = .ok (.ireturn, 1) := by decide +kernel
theorem dX7_name_0 : decode cX7_name 0 = .ok (.aload_n 0, 1) := by decide +kernel
theorem dX7_name_1 : decode cX7_name 1 = .ok (.iload_n 1, 1) := by decide +kernel
theorem dX7_name_2 : decode cX7_name 2 = .ok (.invokevirtual 147, 3) := by decide +kernel
theorem dX7_name_5 : decode cX7_name 5 = .ok (.ifCond .eq 12, 3) := by decide +kernel
theorem dX7_name_8 : decode cX7_name 8 = .ok (.aload_n 0, 1) := by decide +kernel
theorem dX7_name_9 : decode cX7_name 9 = .ok (.getfield 31, 3) := by decide +kernel
theorem dX7_name_12 : decode cX7_name 12 = .ok (.iload_n 1, 1) := by decide +kernel
theorem dX7_name_13 : decode cX7_name 13 = .ok (.iaload, 1) := by decide +kernel
theorem dX7_name_14 : decode cX7_name 14 = .ok (.goto 4, 3) := by decide +kernel
theorem dX7_name_17 : decode cX7_name 17 = .ok (.iconst (-1), 1) := by decide +kernel
theorem dX7_name_18 : decode cX7_name 18 = .ok (.ireturn, 1) := by decide +kernel
theorem dX7_flags_0 : decode cX7_flags 0 = .ok (.aload_n 0, 1) := by decide +kernel
theorem dX7_flags_1 : decode cX7_flags 1 = .ok (.iload_n 1, 1) := by decide +kernel
theorem dX7_flags_2 : decode cX7_flags 2 = .ok (.invokevirtual 147, 3) := by decide +kernel
theorem dX7_flags_5 : decode cX7_flags 5 = .ok (.ifCond .eq 12, 3) := by decide +kernel
theorem dX7_flags_8 : decode cX7_flags 8 = .ok (.aload_n 0, 1) := by decide +kernel
theorem dX7_flags_9 : decode cX7_flags 9 = .ok (.getfield 28, 3) := by decide +kernel
theorem dX7_flags_12 : decode cX7_flags 12 = .ok (.iload_n 1, 1) := by decide +kernel
theorem dX7_flags_13 : decode cX7_flags 13 = .ok (.iaload, 1) := by decide +kernel
theorem dX7_flags_14 : decode cX7_flags 14 = .ok (.goto 4, 3) := by decide +kernel
theorem dX7_flags_17 : decode cX7_flags 17 = .ok (.iconst (-1), 1) := by decide +kernel
theorem dX7_flags_18 : decode cX7_flags 18 = .ok (.ireturn, 1) := by decide +kernel
theorem dX7_superName_0 : decode cX7_superName 0 = .ok (.aload_n 0, 1) := by decide +kernel
theorem dX7_superName_1 : decode cX7_superName 1 = .ok (.iload_n 1, 1) := by decide +kernel
theorem dX7_superName_2 : decode cX7_superName 2 = .ok (.invokevirtual 147, 3) := by decide +kernel
theorem dX7_superName_5 : decode cX7_superName 5 = .ok (.ifCond .eq 12, 3) := by decide +kernel
theorem dX7_superName_8 : decode cX7_superName 8 = .ok (.aload_n 0, 1) := by decide +kernel
theorem dX7_superName_9 : decode cX7_superName 9 = .ok (.getfield 34, 3) := by decide +kernel
theorem dX7_superName_12 : decode cX7_superName 12 = .ok (.iload_n 1, 1) := by decide +kernel
theorem dX7_superName_13 : decode cX7_superName 13 = .ok (.iaload, 1) := by decide +kernel
theorem dX7_superName_14 : decode cX7_superName 14 = .ok (.goto 4, 3) := by decide +kernel
theorem dX7_superName_17 : decode cX7_superName 17 = .ok (.iconst (-1), 1) := by decide +kernel
theorem dX7_superName_18 : decode cX7_superName 18 = .ok (.ireturn, 1) := by decide +kernel
theorem dX7_typeOf_0 : decode cX7_typeOf 0 = .ok (.aload_n 0, 1) := by decide +kernel
theorem dX7_typeOf_1 : decode cX7_typeOf 1 = .ok (.getfield 25, 3) := by decide +kernel
theorem dX7_typeOf_4 : decode cX7_typeOf 4 = .ok (.bipush 13, 2) := by decide +kernel
theorem dX7_typeOf_6 : decode cX7_typeOf 6 = .ok (.iload_n 1, 1) := by decide +kernel
theorem dX7_typeOf_7 : decode cX7_typeOf 7 = .ok (.imul, 1) := by decide +kernel
theorem dX7_typeOf_8 : decode cX7_typeOf 8 = .ok (.aload_n 0, 1) := by decide +kernel
theorem dX7_typeOf_9 : decode cX7_typeOf 9 = .ok (.getfield 13, 3) := by decide +kernel
theorem dX7_typeOf_12 : decode cX7_typeOf 12 = .ok (.aload_n 0, 1) := by decide +kernel
theorem dX7_typeOf_13 : decode cX7_typeOf 13 = .ok (.getfield 49, 3) := by decide +kernel
theorem dX7_typeOf_16 : decode cX7_typeOf 16 = .ok (.iconst 4, 1) := by decide +kernel
theorem dX7_typeOf_17 : decode cX7_typeOf 17 = .ok (.iload_n 1, 1) := by decide +kernel
theorem dX7_typeOf_18 : decode cX7_typeOf 18 = .ok (.imul, 1) := by decide +kernel
theorem dX7_typeOf_19 : decode cX7_typeOf 19 = .ok (.iload_n 2, 1) := by decide +kernel
theorem dX7_typeOf_20 : decode cX7_typeOf 20 = .ok (.iadd, 1) := by decide +kernel
theorem dX7_typeOf_21 : decode cX7_typeOf 21 = .ok (.iaload, 1) := by decide +kernel
theorem dX7_typeOf_22 : decode cX7_typeOf 22 = .ok (.iaload, 1) := by decide +kernel
theorem dX7_typeOf_23 : decode cX7_typeOf 23 = .ok (.iadd, 1) := by decide +kernel
theorem dX7_typeOf_24 : decode cX7_typeOf 24 = .ok (.iaload, 1) := by decide +kernel
theorem dX7_typeOf_25 : decode cX7_typeOf 25 = .ok (.ireturn, 1) := by decide +kernel
theorem dX7_markAbove_0 : decode cX7_markAbove 0 = .ok (.iconst 0, 1) := by decide +kernel
theorem dX7_markAbove_1 : decode cX7_markAbove 1 = .ok (.istore_n 3, 1) := by decide +kernel
theorem dX7_markAbove_2 : decode cX7_markAbove 2 = .ok (.iload_n 2, 1) := by decide +kernel
theorem dX7_markAbove_3 : decode cX7_markAbove 3 = .ok (.ifCond .eq 12, 3) := by decide +kernel
theorem dX7_markAbove_6 : decode cX7_markAbove 6 = .ok (.aload_n 0, 1) := by decide +kernel
theorem dX7_markAbove_7 : decode cX7_markAbove 7 = .ok (.getfield 46, 3) := by decide +kernel
theorem dX7_markAbove_10 : decode cX7_markAbove 10 = .ok (.iload_n 1, 1) := by decide +kernel
theorem dX7_markAbove_11 : decode cX7_markAbove 11 = .ok (.iaload, 1) := by decide +kernel
theorem dX7_markAbove_12 : decode cX7_markAbove 12 = .ok (.goto 9, 3) := by decide +kernel
theorem dX7_markAbove_15 : decode cX7_markAbove 15 = .ok (.aload_n 0, 1) := by decide +kernel
theorem dX7_markAbove_16 : decode cX7_markAbove 16 = .ok (.getfield 40, 3) := by decide +kernel
theorem dX7_markAbove_19 : decode cX7_markAbove 19 = .ok (.iload_n 1, 1) := by decide +kernel
theorem dX7_markAbove_20 : decode cX7_markAbove 20 = .ok (.iaload, 1) := by decide +kernel
theorem dX7_markAbove_21 : decode cX7_markAbove 21 = .ok (.istore 4, 2) := by decide +kernel
theorem dX7_markAbove_23 : decode cX7_markAbove 23 = .ok (.iconst 0, 1) := by decide +kernel
theorem dX7_markAbove_24 : decode cX7_markAbove 24 = .ok (.istore 5, 2) := by decide +kernel
theorem dX7_markAbove_26 : decode cX7_markAbove 26 = .ok (.iload 5, 2) := by decide +kernel
theorem dX7_markAbove_28 : decode cX7_markAbove 28 = .ok (.iload 4, 2) := by decide +kernel
theorem dX7_markAbove_30 : decode cX7_markAbove 30 = .ok (.if_icmp .ge 64, 3) := by decide +kernel
theorem dX7_markAbove_33 : decode cX7_markAbove 33 = .ok (.iload_n 2, 1) := by decide +kernel
theorem dX7_markAbove_34 : decode cX7_markAbove 34 = .ok (.ifCond .eq 13, 3) := by decide +kernel
theorem dX7_markAbove_37 : decode cX7_markAbove 37 = .ok (.aload_n 0, 1) := by decide +kernel
theorem dX7_markAbove_38 : decode cX7_markAbove 38 = .ok (.iload_n 1, 1) := by decide +kernel
theorem dX7_markAbove_39 : decode cX7_markAbove 39 = .ok (.iload 5, 2) := by decide +kernel
theorem dX7_markAbove_41 : decode cX7_markAbove 41 = .ok (.invokevirtual 150, 3) := by decide +kernel
theorem dX7_markAbove_44 : decode cX7_markAbove 44 = .ok (.goto 14, 3) := by decide +kernel
theorem dX7_markAbove_47 : decode cX7_markAbove 47 = .ok (.aload_n 0, 1) := by decide +kernel
theorem dX7_markAbove_48 : decode cX7_markAbove 48 = .ok (.getfield 43, 3) := by decide +kernel
theorem dX7_markAbove_51 : decode cX7_markAbove 51 = .ok (.iconst 4, 1) := by decide +kernel
theorem dX7_markAbove_52 : decode cX7_markAbove 52 = .ok (.iload_n 1, 1) := by decide +kernel
theorem dX7_markAbove_53 : decode cX7_markAbove 53 = .ok (.imul, 1) := by decide +kernel
theorem dX7_markAbove_54 : decode cX7_markAbove 54 = .ok (.iload 5, 2) := by decide +kernel
theorem dX7_markAbove_56 : decode cX7_markAbove 56 = .ok (.iadd, 1) := by decide +kernel
theorem dX7_markAbove_57 : decode cX7_markAbove 57 = .ok (.iaload, 1) := by decide +kernel
theorem dX7_markAbove_58 : decode cX7_markAbove 58 = .ok (.istore 6, 2) := by decide +kernel
theorem dX7_markAbove_60 : decode cX7_markAbove 60 = .ok (.iload_n 3, 1) := by decide +kernel
theorem dX7_markAbove_61 : decode cX7_markAbove 61 = .ok (.ifCond .ne 13, 3) := by decide +kernel
theorem dX7_markAbove_64 : decode cX7_markAbove 64 = .ok (.aload_n 0, 1) := by decide +kernel
theorem dX7_markAbove_65 : decode cX7_markAbove 65 = .ok (.getfield 62, 3) := by decide +kernel
theorem dX7_markAbove_68 : decode cX7_markAbove 68 = .ok (.iload 6, 2) := by decide +kernel
theorem dX7_markAbove_70 : decode cX7_markAbove 70 = .ok (.baload, 1) := by decide +kernel
theorem dX7_markAbove_71 : decode cX7_markAbove 71 = .ok (.ifCond .ne 7, 3) := by decide +kernel
theorem dX7_markAbove_74 : decode cX7_markAbove 74 = .ok (.iconst 1, 1) := by decide +kernel
theorem dX7_markAbove_75 : decode cX7_markAbove 75 = .ok (.goto 4, 3) := by decide +kernel
theorem dX7_markAbove_78 : decode cX7_markAbove 78 = .ok (.iconst 0, 1) := by decide +kernel
theorem dX7_markAbove_79 : decode cX7_markAbove 79 = .ok (.istore_n 3, 1) := by decide +kernel
theorem dX7_markAbove_80 : decode cX7_markAbove 80 = .ok (.aload_n 0, 1) := by decide +kernel
theorem dX7_markAbove_81 : decode cX7_markAbove 81 = .ok (.getfield 62, 3) := by decide +kernel
theorem dX7_markAbove_84 : decode cX7_markAbove 84 = .ok (.iload 6, 2) := by decide +kernel
theorem dX7_markAbove_86 : decode cX7_markAbove 86 = .ok (.iconst 1, 1) := by decide +kernel
theorem dX7_markAbove_87 : decode cX7_markAbove 87 = .ok (.bastore, 1) := by decide +kernel
theorem dX7_markAbove_88 : decode cX7_markAbove 88 = .ok (.iinc 5 1, 3) := by decide +kernel
theorem dX7_markAbove_91 : decode cX7_markAbove 91 = .ok (.goto (-65), 3) := by decide +kernel
theorem dX7_markAbove_94 : decode cX7_markAbove 94 = .ok (.iload_n 2, 1) := by decide +kernel
theorem dX7_markAbove_95 : decode cX7_markAbove 95 = .ok (.ifCond .ne 48, 3) := by decide +kernel
theorem dX7_markAbove_98 : decode cX7_markAbove 98 = .ok (.aload_n 0, 1) := by decide +kernel
theorem dX7_markAbove_99 : decode cX7_markAbove 99 = .ok (.getfield 34, 3) := by decide +kernel
theorem dX7_markAbove_102 : decode cX7_markAbove 102 = .ok (.iload_n 1, 1) := by decide +kernel
theorem dX7_markAbove_103 : decode cX7_markAbove 103 = .ok (.iaload, 1) := by decide +kernel
theorem dX7_markAbove_104 : decode cX7_markAbove 104 = .ok (.ifCond .lt 39, 3) := by decide +kernel
theorem dX7_markAbove_107 : decode cX7_markAbove 107 = .ok (.iload_n 3, 1) := by decide +kernel
theorem dX7_markAbove_108 : decode cX7_markAbove 108 = .ok (.ifCond .ne 17, 3) := by decide +kernel
theorem dX7_markAbove_111 : decode cX7_markAbove 111 = .ok (.aload_n 0, 1) := by decide +kernel
theorem dX7_markAbove_112 : decode cX7_markAbove 112 = .ok (.getfield 62, 3) := by decide +kernel
theorem dX7_markAbove_115 : decode cX7_markAbove 115 = .ok (.aload_n 0, 1) := by decide +kernel
theorem dX7_markAbove_116 : decode cX7_markAbove 116 = .ok (.getfield 34, 3) := by decide +kernel
theorem dX7_markAbove_119 : decode cX7_markAbove 119 = .ok (.iload_n 1, 1) := by decide +kernel
theorem dX7_markAbove_120 : decode cX7_markAbove 120 = .ok (.iaload, 1) := by decide +kernel
theorem dX7_markAbove_121 : decode cX7_markAbove 121 = .ok (.baload, 1) := by decide +kernel
theorem dX7_markAbove_122 : decode cX7_markAbove 122 = .ok (.ifCond .ne 7, 3) := by decide +kernel
theorem dX7_markAbove_125 : decode cX7_markAbove 125 = .ok (.iconst 1, 1) := by decide +kernel
theorem dX7_markAbove_126 : decode cX7_markAbove 126 = .ok (.goto 4, 3) := by decide +kernel
theorem dX7_markAbove_129 : decode cX7_markAbove 129 = .ok (.iconst 0, 1) := by decide +kernel
theorem dX7_markAbove_130 : decode cX7_markAbove 130 = .ok (.istore_n 3, 1) := by decide +kernel
theorem dX7_markAbove_131 : decode cX7_markAbove 131 = .ok (.aload_n 0, 1) := by decide +kernel
theorem dX7_markAbove_132 : decode cX7_markAbove 132 = .ok (.getfield 62, 3) := by decide +kernel
theorem dX7_markAbove_135 : decode cX7_markAbove 135 = .ok (.aload_n 0, 1) := by decide +kernel
theorem dX7_markAbove_136 : decode cX7_markAbove 136 = .ok (.getfield 34, 3) := by decide +kernel
theorem dX7_markAbove_139 : decode cX7_markAbove 139 = .ok (.iload_n 1, 1) := by decide +kernel
theorem dX7_markAbove_140 : decode cX7_markAbove 140 = .ok (.iaload, 1) := by decide +kernel
theorem dX7_markAbove_141 : decode cX7_markAbove 141 = .ok (.iconst 1, 1) := by decide +kernel
theorem dX7_markAbove_142 : decode cX7_markAbove 142 = .ok (.bastore, 1) := by decide +kernel
theorem dX7_markAbove_143 : decode cX7_markAbove 143 = .ok (.iload_n 3, 1) := by decide +kernel
theorem dX7_markAbove_144 : decode cX7_markAbove 144 = .ok (.ireturn, 1) := by decide +kernel
theorem dX7_reaches_0 : decode cX7_reaches 0 = .ok (.iconst 0, 1) := by decide +kernel
theorem dX7_reaches_1 : decode cX7_reaches 1 = .ok (.istore 4, 2) := by decide +kernel
theorem dX7_reaches_3 : decode cX7_reaches 3 = .ok (.iload 4, 2) := by decide +kernel
theorem dX7_reaches_5 : decode cX7_reaches 5 = .ok (.aload_n 0, 1) := by decide +kernel
theorem dX7_reaches_6 : decode cX7_reaches 6 = .ok (.getfield 135, 3) := by decide +kernel
theorem dX7_reaches_9 : decode cX7_reaches 9 = .ok (.if_icmp .ge 17, 3) := by decide +kernel
theorem dX7_reaches_12 : decode cX7_reaches 12 = .ok (.aload_n 0, 1) := by decide +kernel
theorem dX7_reaches_13 : decode cX7_reaches 13 = .ok (.getfield 62, 3) := by decide +kernel
theorem dX7_reaches_16 : decode cX7_reaches 16 = .ok (.iload 4, 2) := by decide +kernel
theorem dX7_reaches_18 : decode cX7_reaches 18 = .ok (.iconst 0, 1) := by decide +kernel
theorem dX7_reaches_19 : decode cX7_reaches 19 = .ok (.bastore, 1) := by decide +kernel
theorem dX7_reaches_20 : decode cX7_reaches 20 = .ok (.iinc 4 1, 3) := by decide +kernel
theorem dX7_reaches_23 : decode cX7_reaches 23 = .ok (.goto (-20), 3) := by decide +kernel
theorem dX7_reaches_26 : decode cX7_reaches 26 = .ok (.aload_n 0, 1) := by decide +kernel
theorem dX7_reaches_27 : decode cX7_reaches 27 = .ok (.iload_n 1, 1) := by decide +kernel
theorem dX7_reaches_28 : decode cX7_reaches 28 = .ok (.iload_n 3, 1) := by decide +kernel
theorem dX7_reaches_29 : decode cX7_reaches 29 = .ok (.invokevirtual 154, 3) := by decide +kernel
theorem dX7_reaches_32 : decode cX7_reaches 32 = .ok (.istore 4, 2) := by decide +kernel
theorem dX7_reaches_34 : decode cX7_reaches 34 = .ok (.iconst 0, 1) := by decide +kernel
theorem dX7_reaches_35 : decode cX7_reaches 35 = .ok (.istore 5, 2) := by decide +kernel
theorem dX7_reaches_37 : decode cX7_reaches 37 = .ok (.iload 5, 2) := by decide +kernel
theorem dX7_reaches_39 : decode cX7_reaches 39 = .ok (.sipush 192, 3) := by decide +kernel
theorem dX7_reaches_42 : decode cX7_reaches 42 = .ok (.if_icmp .gt 84, 3) := by decide +kernel
theorem dX7_reaches_45 : decode cX7_reaches 45 = .ok (.iload 4, 2) := by decide +kernel
theorem dX7_reaches_47 : decode cX7_reaches 47 = .ok (.ifCond .eq 79, 3) := by decide +kernel
theorem dX7_reaches_50 : decode cX7_reaches 50 = .ok (.iconst 0, 1) := by decide +kernel
theorem dX7_reaches_51 : decode cX7_reaches 51 = .ok (.istore 4, 2) := by decide +kernel
theorem dX7_reaches_53 : decode cX7_reaches 53 = .ok (.iconst 0, 1) := by decide +kernel
theorem dX7_reaches_54 : decode cX7_reaches 54 = .ok (.istore 6, 2) := by decide +kernel
theorem dX7_reaches_56 : decode cX7_reaches 56 = .ok (.iload 6, 2) := by decide +kernel
theorem dX7_reaches_58 : decode cX7_reaches 58 = .ok (.aload_n 0, 1) := by decide +kernel
theorem dX7_reaches_59 : decode cX7_reaches 59 = .ok (.getfield 116, 3) := by decide +kernel
theorem dX7_reaches_62 : decode cX7_reaches 62 = .ok (.if_icmp .ge 58, 3) := by decide +kernel
theorem dX7_reaches_65 : decode cX7_reaches 65 = .ok (.aload_n 0, 1) := by decide +kernel
theorem dX7_reaches_66 : decode cX7_reaches 66 = .ok (.getfield 62, 3) := by decide +kernel
theorem dX7_reaches_69 : decode cX7_reaches 69 = .ok (.aload_n 0, 1) := by decide +kernel
theorem dX7_reaches_70 : decode cX7_reaches 70 = .ok (.getfield 31, 3) := by decide +kernel
theorem dX7_reaches_73 : decode cX7_reaches 73 = .ok (.iload 6, 2) := by decide +kernel
theorem dX7_reaches_75 : decode cX7_reaches 75 = .ok (.iaload, 1) := by decide +kernel
theorem dX7_reaches_76 : decode cX7_reaches 76 = .ok (.baload, 1) := by decide +kernel
theorem dX7_reaches_77 : decode cX7_reaches 77 = .ok (.ifCond .eq 17, 3) := by decide +kernel
theorem dX7_reaches_80 : decode cX7_reaches 80 = .ok (.aload_n 0, 1) := by decide +kernel
theorem dX7_reaches_81 : decode cX7_reaches 81 = .ok (.iload 6, 2) := by decide +kernel
theorem dX7_reaches_83 : decode cX7_reaches 83 = .ok (.iload_n 3, 1) := by decide +kernel
theorem dX7_reaches_84 : decode cX7_reaches 84 = .ok (.invokevirtual 154, 3) := by decide +kernel
theorem dX7_reaches_87 : decode cX7_reaches 87 = .ok (.ifCond .eq 7, 3) := by decide +kernel
theorem dX7_reaches_90 : decode cX7_reaches 90 = .ok (.iconst 1, 1) := by decide +kernel
theorem dX7_reaches_91 : decode cX7_reaches 91 = .ok (.goto 4, 3) := by decide +kernel
theorem dX7_reaches_94 : decode cX7_reaches 94 = .ok (.iconst 0, 1) := by decide +kernel
theorem dX7_reaches_95 : decode cX7_reaches 95 = .ok (.istore 7, 2) := by decide +kernel
theorem dX7_reaches_97 : decode cX7_reaches 97 = .ok (.iload 4, 2) := by decide +kernel
theorem dX7_reaches_99 : decode cX7_reaches 99 = .ok (.ifCond .ne 8, 3) := by decide +kernel
theorem dX7_reaches_102 : decode cX7_reaches 102 = .ok (.iload 7, 2) := by decide +kernel
theorem dX7_reaches_104 : decode cX7_reaches 104 = .ok (.ifCond .eq 7, 3) := by decide +kernel
theorem dX7_reaches_107 : decode cX7_reaches 107 = .ok (.iconst 1, 1) := by decide +kernel
theorem dX7_reaches_108 : decode cX7_reaches 108 = .ok (.goto 4, 3) := by decide +kernel
theorem dX7_reaches_111 : decode cX7_reaches 111 = .ok (.iconst 0, 1) := by decide +kernel
theorem dX7_reaches_112 : decode cX7_reaches 112 = .ok (.istore 4, 2) := by decide +kernel
theorem dX7_reaches_114 : decode cX7_reaches 114 = .ok (.iinc 6 1, 3) := by decide +kernel
theorem dX7_reaches_117 : decode cX7_reaches 117 = .ok (.goto (-61), 3) := by decide +kernel
theorem dX7_reaches_120 : decode cX7_reaches 120 = .ok (.iinc 5 1, 3) := by decide +kernel
theorem dX7_reaches_123 : decode cX7_reaches 123 = .ok (.goto (-86), 3) := by decide +kernel
theorem dX7_reaches_126 : decode cX7_reaches 126 = .ok (.aload_n 0, 1) := by decide +kernel
theorem dX7_reaches_127 : decode cX7_reaches 127 = .ok (.getfield 62, 3) := by decide +kernel
theorem dX7_reaches_130 : decode cX7_reaches 130 = .ok (.iload_n 2, 1) := by decide +kernel
theorem dX7_reaches_131 : decode cX7_reaches 131 = .ok (.baload, 1) := by decide +kernel
theorem dX7_reaches_132 : decode cX7_reaches 132 = .ok (.ireturn, 1) := by decide +kernel
theorem dX7_subtype_0 : decode cX7_subtype 0 = .ok (.aload_n 0, 1) := by decide +kernel
theorem dX7_subtype_1 : decode cX7_subtype 1 = .ok (.iload_n 1, 1) := by decide +kernel
theorem dX7_subtype_2 : decode cX7_subtype 2 = .ok (.invokevirtual 147, 3) := by decide +kernel
theorem dX7_subtype_5 : decode cX7_subtype 5 = .ok (.ifCond .eq 25, 3) := by decide +kernel
theorem dX7_subtype_8 : decode cX7_subtype 8 = .ok (.aload_n 0, 1) := by decide +kernel
theorem dX7_subtype_9 : decode cX7_subtype 9 = .ok (.iload_n 2, 1) := by decide +kernel
theorem dX7_subtype_10 : decode cX7_subtype 10 = .ok (.invokevirtual 144, 3) := by decide +kernel
theorem dX7_subtype_13 : decode cX7_subtype 13 = .ok (.ifCond .eq 17, 3) := by decide +kernel
theorem dX7_subtype_16 : decode cX7_subtype 16 = .ok (.aload_n 0, 1) := by decide +kernel
theorem dX7_subtype_17 : decode cX7_subtype 17 = .ok (.iload_n 1, 1) := by decide +kernel
theorem dX7_subtype_18 : decode cX7_subtype 18 = .ok (.iload_n 2, 1) := by decide +kernel
theorem dX7_subtype_19 : decode cX7_subtype 19 = .ok (.iconst 0, 1) := by decide +kernel
theorem dX7_subtype_20 : decode cX7_subtype 20 = .ok (.invokevirtual 158, 3) := by decide +kernel
theorem dX7_subtype_23 : decode cX7_subtype 23 = .ok (.ifCond .eq 7, 3) := by decide +kernel
theorem dX7_subtype_26 : decode cX7_subtype 26 = .ok (.iconst 1, 1) := by decide +kernel
theorem dX7_subtype_27 : decode cX7_subtype 27 = .ok (.goto 4, 3) := by decide +kernel
theorem dX7_subtype_30 : decode cX7_subtype 30 = .ok (.iconst 0, 1) := by decide +kernel
theorem dX7_subtype_31 : decode cX7_subtype 31 = .ok (.ireturn, 1) := by decide +kernel
theorem dX7_subtypeAt_0 : decode cX7_subtypeAt 0 = .ok (.aload_n 0, 1) := by decide +kernel
theorem dX7_subtypeAt_1 : decode cX7_subtypeAt 1 = .ok (.iload_n 1, 1) := by decide +kernel
theorem dX7_subtypeAt_2 : decode cX7_subtypeAt 2 = .ok (.invokevirtual 144, 3) := by decide +kernel
theorem dX7_subtypeAt_5 : decode cX7_subtypeAt 5 = .ok (.ifCond .eq 7, 3) := by decide +kernel
theorem dX7_subtypeAt_8 : decode cX7_subtypeAt 8 = .ok (.iload_n 2, 1) := by decide +kernel
theorem dX7_subtypeAt_9 : decode cX7_subtypeAt 9 = .ok (.ifCond .ge 5, 3) := by decide +kernel
theorem dX7_subtypeAt_12 : decode cX7_subtypeAt 12 = .ok (.iconst (-1), 1) := by decide +kernel
theorem dX7_subtypeAt_13 : decode cX7_subtypeAt 13 = .ok (.ireturn, 1) := by decide +kernel
theorem dX7_subtypeAt_14 : decode cX7_subtypeAt 14 = .ok (.iconst 0, 1) := by decide +kernel
theorem dX7_subtypeAt_15 : decode cX7_subtypeAt 15 = .ok (.istore_n 3, 1) := by decide +kernel
theorem dX7_subtypeAt_16 : decode cX7_subtypeAt 16 = .ok (.iconst 0, 1) := by decide +kernel
theorem dX7_subtypeAt_17 : decode cX7_subtypeAt 17 = .ok (.istore 4, 2) := by decide +kernel
theorem dX7_subtypeAt_19 : decode cX7_subtypeAt 19 = .ok (.iload 4, 2) := by decide +kernel
theorem dX7_subtypeAt_21 : decode cX7_subtypeAt 21 = .ok (.aload_n 0, 1) := by decide +kernel
theorem dX7_subtypeAt_22 : decode cX7_subtypeAt 22 = .ok (.getfield 116, 3) := by decide +kernel
theorem dX7_subtypeAt_25 : decode cX7_subtypeAt 25 = .ok (.if_icmp .ge 31, 3) := by decide +kernel
theorem dX7_subtypeAt_28 : decode cX7_subtypeAt 28 = .ok (.aload_n 0, 1) := by decide +kernel
theorem dX7_subtypeAt_29 : decode cX7_subtypeAt 29 = .ok (.iload 4, 2) := by decide +kernel
theorem dX7_subtypeAt_31 : decode cX7_subtypeAt 31 = .ok (.iload_n 1, 1) := by decide +kernel
theorem dX7_subtypeAt_32 : decode cX7_subtypeAt 32 = .ok (.iconst 0, 1) := by decide +kernel
theorem dX7_subtypeAt_33 : decode cX7_subtypeAt 33 = .ok (.invokevirtual 158, 3) := by decide +kernel
theorem dX7_subtypeAt_36 : decode cX7_subtypeAt 36 = .ok (.ifCond .eq 14, 3) := by decide +kernel
theorem dX7_subtypeAt_39 : decode cX7_subtypeAt 39 = .ok (.iload_n 3, 1) := by decide +kernel
theorem dX7_subtypeAt_40 : decode cX7_subtypeAt 40 = .ok (.iload_n 2, 1) := by decide +kernel
theorem dX7_subtypeAt_41 : decode cX7_subtypeAt 41 = .ok (.if_icmp .ne 6, 3) := by decide +kernel
theorem dX7_subtypeAt_44 : decode cX7_subtypeAt 44 = .ok (.iload 4, 2) := by decide +kernel
theorem dX7_subtypeAt_46 : decode cX7_subtypeAt 46 = .ok (.ireturn, 1) := by decide +kernel
theorem dX7_subtypeAt_47 : decode cX7_subtypeAt 47 = .ok (.iinc 3 1, 3) := by decide +kernel
theorem dX7_subtypeAt_50 : decode cX7_subtypeAt 50 = .ok (.iinc 4 1, 3) := by decide +kernel
theorem dX7_subtypeAt_53 : decode cX7_subtypeAt 53 = .ok (.goto (-34), 3) := by decide +kernel
theorem dX7_subtypeAt_56 : decode cX7_subtypeAt 56 = .ok (.iconst (-1), 1) := by decide +kernel
theorem dX7_subtypeAt_57 : decode cX7_subtypeAt 57 = .ok (.ireturn, 1) := by decide +kernel
theorem dX7_meta_0 : decode cX7_meta 0 = .ok (.aload_n 0, 1) := by decide +kernel
theorem dX7_meta_1 : decode cX7_meta 1 = .ok (.iload_n 1, 1) := by decide +kernel
theorem dX7_meta_2 : decode cX7_meta 2 = .ok (.invokevirtual 147, 3) := by decide +kernel
theorem dX7_meta_5 : decode cX7_meta 5 = .ok (.ifCond .eq 25, 3) := by decide +kernel
theorem dX7_meta_8 : decode cX7_meta 8 = .ok (.aload_n 0, 1) := by decide +kernel
theorem dX7_meta_9 : decode cX7_meta 9 = .ok (.iload_n 2, 1) := by decide +kernel
theorem dX7_meta_10 : decode cX7_meta 10 = .ok (.invokevirtual 144, 3) := by decide +kernel
theorem dX7_meta_13 : decode cX7_meta 13 = .ok (.ifCond .eq 17, 3) := by decide +kernel
theorem dX7_meta_16 : decode cX7_meta 16 = .ok (.aload_n 0, 1) := by decide +kernel
theorem dX7_meta_17 : decode cX7_meta 17 = .ok (.iload_n 1, 1) := by decide +kernel
theorem dX7_meta_18 : decode cX7_meta 18 = .ok (.iload_n 2, 1) := by decide +kernel
theorem dX7_meta_19 : decode cX7_meta 19 = .ok (.iconst 1, 1) := by decide +kernel
theorem dX7_meta_20 : decode cX7_meta 20 = .ok (.invokevirtual 158, 3) := by decide +kernel
theorem dX7_meta_23 : decode cX7_meta 23 = .ok (.ifCond .eq 7, 3) := by decide +kernel
theorem dX7_meta_26 : decode cX7_meta 26 = .ok (.iconst 1, 1) := by decide +kernel
theorem dX7_meta_27 : decode cX7_meta 27 = .ok (.goto 4, 3) := by decide +kernel
theorem dX7_meta_30 : decode cX7_meta 30 = .ok (.iconst 0, 1) := by decide +kernel
theorem dX7_meta_31 : decode cX7_meta 31 = .ok (.ireturn, 1) := by decide +kernel
theorem dX7_inherited_0 : decode cX7_inherited 0 = .ok (.aload_n 0, 1) := by decide +kernel
theorem dX7_inherited_1 : decode cX7_inherited 1 = .ok (.iload_n 1, 1) := by decide +kernel
theorem dX7_inherited_2 : decode cX7_inherited 2 = .ok (.invokevirtual 162, 3) := by decide +kernel
theorem dX7_inherited_5 : decode cX7_inherited 5 = .ok (.istore_n 2, 1) := by decide +kernel
theorem dX7_inherited_6 : decode cX7_inherited 6 = .ok (.iload_n 2, 1) := by decide +kernel
theorem dX7_inherited_7 : decode cX7_inherited 7 = .ok (.ifCond .lt 18, 3) := by decide +kernel
theorem dX7_inherited_10 : decode cX7_inherited 10 = .ok (.aload_n 0, 1) := by decide +kernel
theorem dX7_inherited_11 : decode cX7_inherited 11 = .ok (.getfield 28, 3) := by decide +kernel
theorem dX7_inherited_14 : decode cX7_inherited 14 = .ok (.iload_n 2, 1) := by decide +kernel
theorem dX7_inherited_15 : decode cX7_inherited 15 = .ok (.iaload, 1) := by decide +kernel
theorem dX7_inherited_16 : decode cX7_inherited 16 = .ok (.iconst 2, 1) := by decide +kernel
theorem dX7_inherited_17 : decode cX7_inherited 17 = .ok (.iand, 1) := by decide +kernel
theorem dX7_inherited_18 : decode cX7_inherited 18 = .ok (.ifCond .eq 7, 3) := by decide +kernel
theorem dX7_inherited_21 : decode cX7_inherited 21 = .ok (.iconst 1, 1) := by decide +kernel
theorem dX7_inherited_22 : decode cX7_inherited 22 = .ok (.goto 4, 3) := by decide +kernel
theorem dX7_inherited_25 : decode cX7_inherited 25 = .ok (.iconst 0, 1) := by decide +kernel
theorem dX7_inherited_26 : decode cX7_inherited 26 = .ok (.ireturn, 1) := by decide +kernel
theorem dX7_firstNote_0 : decode cX7_firstNote 0 = .ok (.iconst 0, 1) := by decide +kernel
theorem dX7_firstNote_1 : decode cX7_firstNote 1 = .ok (.istore_n 3, 1) := by decide +kernel
theorem dX7_firstNote_2 : decode cX7_firstNote 2 = .ok (.iload_n 3, 1) := by decide +kernel
theorem dX7_firstNote_3 : decode cX7_firstNote 3 = .ok (.aload_n 0, 1) := by decide +kernel
theorem dX7_firstNote_4 : decode cX7_firstNote 4 = .ok (.getfield 46, 3) := by decide +kernel
theorem dX7_firstNote_7 : decode cX7_firstNote 7 = .ok (.iload_n 1, 1) := by decide +kernel
theorem dX7_firstNote_8 : decode cX7_firstNote 8 = .ok (.iaload, 1) := by decide +kernel
theorem dX7_firstNote_9 : decode cX7_firstNote 9 = .ok (.if_icmp .ge 21, 3) := by decide +kernel
theorem dX7_firstNote_12 : decode cX7_firstNote 12 = .ok (.aload_n 0, 1) := by decide +kernel
theorem dX7_firstNote_13 : decode cX7_firstNote 13 = .ok (.iload_n 1, 1) := by decide +kernel
theorem dX7_firstNote_14 : decode cX7_firstNote 14 = .ok (.iload_n 3, 1) := by decide +kernel
theorem dX7_firstNote_15 : decode cX7_firstNote 15 = .ok (.invokevirtual 150, 3) := by decide +kernel
theorem dX7_firstNote_18 : decode cX7_firstNote 18 = .ok (.iload_n 2, 1) := by decide +kernel
theorem dX7_firstNote_19 : decode cX7_firstNote 19 = .ok (.if_icmp .ne 5, 3) := by decide +kernel
theorem dX7_firstNote_22 : decode cX7_firstNote 22 = .ok (.iload_n 3, 1) := by decide +kernel
theorem dX7_firstNote_23 : decode cX7_firstNote 23 = .ok (.ireturn, 1) := by decide +kernel
theorem dX7_firstNote_24 : decode cX7_firstNote 24 = .ok (.iinc 3 1, 3) := by decide +kernel
theorem dX7_firstNote_27 : decode cX7_firstNote 27 = .ok (.goto (-25), 3) := by decide +kernel
theorem dX7_firstNote_30 : decode cX7_firstNote 30 = .ok (.iconst (-1), 1) := by decide +kernel
theorem dX7_firstNote_31 : decode cX7_firstNote 31 = .ok (.ireturn, 1) := by decide +kernel
theorem dX7_holder_0 : decode cX7_holder 0 = .ok (.aload_n 0, 1) := by decide +kernel
theorem dX7_holder_1 : decode cX7_holder 1 = .ok (.iload_n 1, 1) := by decide +kernel
theorem dX7_holder_2 : decode cX7_holder 2 = .ok (.invokevirtual 147, 3) := by decide +kernel
theorem dX7_holder_5 : decode cX7_holder 5 = .ok (.ifCond .eq 11, 3) := by decide +kernel
theorem dX7_holder_8 : decode cX7_holder 8 = .ok (.aload_n 0, 1) := by decide +kernel
theorem dX7_holder_9 : decode cX7_holder 9 = .ok (.iload_n 2, 1) := by decide +kernel
theorem dX7_holder_10 : decode cX7_holder 10 = .ok (.invokevirtual 144, 3) := by decide +kernel
theorem dX7_holder_13 : decode cX7_holder 13 = .ok (.ifCond .ne 5, 3) := by decide +kernel
theorem dX7_holder_16 : decode cX7_holder 16 = .ok (.iconst (-1), 1) := by decide +kernel
theorem dX7_holder_17 : decode cX7_holder 17 = .ok (.ireturn, 1) := by decide +kernel
theorem dX7_holder_18 : decode cX7_holder 18 = .ok (.aload_n 0, 1) := by decide +kernel
theorem dX7_holder_19 : decode cX7_holder 19 = .ok (.iload_n 2, 1) := by decide +kernel
theorem dX7_holder_20 : decode cX7_holder 20 = .ok (.invokevirtual 165, 3) := by decide +kernel
theorem dX7_holder_23 : decode cX7_holder 23 = .ok (.istore_n 3, 1) := by decide +kernel
theorem dX7_holder_24 : decode cX7_holder 24 = .ok (.iload_n 1, 1) := by decide +kernel
theorem dX7_holder_25 : decode cX7_holder 25 = .ok (.istore 4, 2) := by decide +kernel
theorem dX7_holder_27 : decode cX7_holder 27 = .ok (.iconst 0, 1) := by decide +kernel
theorem dX7_holder_28 : decode cX7_holder 28 = .ok (.istore 5, 2) := by decide +kernel
theorem dX7_holder_30 : decode cX7_holder 30 = .ok (.iload 5, 2) := by decide +kernel
theorem dX7_holder_32 : decode cX7_holder 32 = .ok (.bipush 16, 2) := by decide +kernel
theorem dX7_holder_34 : decode cX7_holder 34 = .ok (.if_icmp .gt 58, 3) := by decide +kernel
theorem dX7_holder_37 : decode cX7_holder 37 = .ok (.iload 4, 2) := by decide +kernel
theorem dX7_holder_39 : decode cX7_holder 39 = .ok (.ifCond .lt 53, 3) := by decide +kernel
theorem dX7_holder_42 : decode cX7_holder 42 = .ok (.aload_n 0, 1) := by decide +kernel
theorem dX7_holder_43 : decode cX7_holder 43 = .ok (.iload 4, 2) := by decide +kernel
theorem dX7_holder_45 : decode cX7_holder 45 = .ok (.iload_n 2, 1) := by decide +kernel
theorem dX7_holder_46 : decode cX7_holder 46 = .ok (.invokevirtual 168, 3) := by decide +kernel
theorem dX7_holder_49 : decode cX7_holder 49 = .ok (.ifCond .lt 6, 3) := by decide +kernel
theorem dX7_holder_52 : decode cX7_holder 52 = .ok (.iload 4, 2) := by decide +kernel
theorem dX7_holder_54 : decode cX7_holder 54 = .ok (.ireturn, 1) := by decide +kernel
theorem dX7_holder_55 : decode cX7_holder 55 = .ok (.iload_n 3, 1) := by decide +kernel
theorem dX7_holder_56 : decode cX7_holder 56 = .ok (.ifCond .eq 27, 3) := by decide +kernel
theorem dX7_holder_59 : decode cX7_holder 59 = .ok (.aload_n 0, 1) := by decide +kernel
theorem dX7_holder_60 : decode cX7_holder 60 = .ok (.getfield 34, 3) := by decide +kernel
theorem dX7_holder_63 : decode cX7_holder 63 = .ok (.iload 4, 2) := by decide +kernel
theorem dX7_holder_65 : decode cX7_holder 65 = .ok (.iaload, 1) := by decide +kernel
theorem dX7_holder_66 : decode cX7_holder 66 = .ok (.ifCond .lt 17, 3) := by decide +kernel
theorem dX7_holder_69 : decode cX7_holder 69 = .ok (.aload_n 0, 1) := by decide +kernel
theorem dX7_holder_70 : decode cX7_holder 70 = .ok (.aload_n 0, 1) := by decide +kernel
theorem dX7_holder_71 : decode cX7_holder 71 = .ok (.getfield 34, 3) := by decide +kernel
theorem dX7_holder_74 : decode cX7_holder 74 = .ok (.iload 4, 2) := by decide +kernel
theorem dX7_holder_76 : decode cX7_holder 76 = .ok (.iaload, 1) := by decide +kernel
theorem dX7_holder_77 : decode cX7_holder 77 = .ok (.invokevirtual 162, 3) := by decide +kernel
theorem dX7_holder_80 : decode cX7_holder 80 = .ok (.goto 4, 3) := by decide +kernel
theorem dX7_holder_83 : decode cX7_holder 83 = .ok (.iconst (-1), 1) := by decide +kernel
theorem dX7_holder_84 : decode cX7_holder 84 = .ok (.istore 4, 2) := by decide +kernel
theorem dX7_holder_86 : decode cX7_holder 86 = .ok (.iinc 5 1, 3) := by decide +kernel
theorem dX7_holder_89 : decode cX7_holder 89 = .ok (.goto (-59), 3) := by decide +kernel
theorem dX7_holder_92 : decode cX7_holder 92 = .ok (.iconst (-1), 1) := by decide +kernel
theorem dX7_holder_93 : decode cX7_holder 93 = .ok (.ireturn, 1) := by decide +kernel
theorem dX7_behind_0 : decode cX7_behind 0 = .ok (.iload_n 1, 1) := by decide +kernel
theorem dX7_behind_1 : decode cX7_behind 1 = .ok (.istore_n 2, 1) := by decide +kernel
theorem dX7_behind_2 : decode cX7_behind 2 = .ok (.iconst 1, 1) := by decide +kernel
theorem dX7_behind_3 : decode cX7_behind 3 = .ok (.istore_n 3, 1) := by decide +kernel
theorem dX7_behind_4 : decode cX7_behind 4 = .ok (.aload_n 0, 1) := by decide +kernel
theorem dX7_behind_5 : decode cX7_behind 5 = .ok (.getfield 55, 3) := by decide +kernel
theorem dX7_behind_8 : decode cX7_behind 8 = .ok (.iconst 1, 1) := by decide +kernel
theorem dX7_behind_9 : decode cX7_behind 9 = .ok (.iconst 1, 1) := by decide +kernel
theorem dX7_behind_10 : decode cX7_behind 10 = .ok (.iastore, 1) := by decide +kernel
theorem dX7_behind_11 : decode cX7_behind 11 = .ok (.aload_n 0, 1) := by decide +kernel
theorem dX7_behind_12 : decode cX7_behind 12 = .ok (.getfield 58, 3) := by decide +kernel
theorem dX7_behind_15 : decode cX7_behind 15 = .ok (.iconst 1, 1) := by decide +kernel
theorem dX7_behind_16 : decode cX7_behind 16 = .ok (.iconst 0, 1) := by decide +kernel
theorem dX7_behind_17 : decode cX7_behind 17 = .ok (.bastore, 1) := by decide +kernel
theorem dX7_behind_18 : decode cX7_behind 18 = .ok (.iload_n 3, 1) := by decide +kernel
theorem dX7_behind_19 : decode cX7_behind 19 = .ok (.ifCond .le 129, 3) := by decide +kernel
theorem dX7_behind_22 : decode cX7_behind 22 = .ok (.aload_n 0, 1) := by decide +kernel
theorem dX7_behind_23 : decode cX7_behind 23 = .ok (.getfield 55, 3) := by decide +kernel
theorem dX7_behind_26 : decode cX7_behind 26 = .ok (.iload_n 3, 1) := by decide +kernel
theorem dX7_behind_27 : decode cX7_behind 27 = .ok (.iaload, 1) := by decide +kernel
theorem dX7_behind_28 : decode cX7_behind 28 = .ok (.ifCond .ne 9, 3) := by decide +kernel
theorem dX7_behind_31 : decode cX7_behind 31 = .ok (.iinc 3 (-1), 3) := by decide +kernel
theorem dX7_behind_34 : decode cX7_behind 34 = .ok (.goto (-16), 3) := by decide +kernel
theorem dX7_behind_37 : decode cX7_behind 37 = .ok (.aload_n 0, 1) := by decide +kernel
theorem dX7_behind_38 : decode cX7_behind 38 = .ok (.getfield 55, 3) := by decide +kernel
theorem dX7_behind_41 : decode cX7_behind 41 = .ok (.iload_n 3, 1) := by decide +kernel
theorem dX7_behind_42 : decode cX7_behind 42 = .ok (.dup2, 1) := by decide +kernel
theorem dX7_behind_43 : decode cX7_behind 43 = .ok (.iaload, 1) := by decide +kernel
theorem dX7_behind_44 : decode cX7_behind 44 = .ok (.iconst 1, 1) := by decide +kernel
theorem dX7_behind_45 : decode cX7_behind 45 = .ok (.isub, 1) := by decide +kernel
theorem dX7_behind_46 : decode cX7_behind 46 = .ok (.iastore, 1) := by decide +kernel
theorem dX7_behind_47 : decode cX7_behind 47 = .ok (.aload_n 0, 1) := by decide +kernel
theorem dX7_behind_48 : decode cX7_behind 48 = .ok (.getfield 58, 3) := by decide +kernel
theorem dX7_behind_51 : decode cX7_behind 51 = .ok (.iload_n 3, 1) := by decide +kernel
theorem dX7_behind_52 : decode cX7_behind 52 = .ok (.baload, 1) := by decide +kernel
theorem dX7_behind_53 : decode cX7_behind 53 = .ok (.ifCond .eq 9, 3) := by decide +kernel
theorem dX7_behind_56 : decode cX7_behind 56 = .ok (.iload_n 2, 1) := by decide +kernel
theorem dX7_behind_57 : decode cX7_behind 57 = .ok (.iconst 1, 1) := by decide +kernel
theorem dX7_behind_58 : decode cX7_behind 58 = .ok (.iadd, 1) := by decide +kernel
theorem dX7_behind_59 : decode cX7_behind 59 = .ok (.goto 4, 3) := by decide +kernel
theorem dX7_behind_62 : decode cX7_behind 62 = .ok (.iload_n 2, 1) := by decide +kernel
theorem dX7_behind_63 : decode cX7_behind 63 = .ok (.istore_n 2, 1) := by decide +kernel
theorem dX7_behind_64 : decode cX7_behind 64 = .ok (.aload_n 0, 1) := by decide +kernel
theorem dX7_behind_65 : decode cX7_behind 65 = .ok (.getfield 13, 3) := by decide +kernel
theorem dX7_behind_68 : decode cX7_behind 68 = .ok (.iload_n 2, 1) := by decide +kernel
theorem dX7_behind_69 : decode cX7_behind 69 = .ok (.iaload, 1) := by decide +kernel
theorem dX7_behind_70 : decode cX7_behind 70 = .ok (.istore 4, 2) := by decide +kernel
theorem dX7_behind_72 : decode cX7_behind 72 = .ok (.iload 4, 2) := by decide +kernel
theorem dX7_behind_74 : decode cX7_behind 74 = .ok (.bipush 91, 2) := by decide +kernel
theorem dX7_behind_76 : decode cX7_behind 76 = .ok (.if_icmp .eq 10, 3) := by decide +kernel
theorem dX7_behind_79 : decode cX7_behind 79 = .ok (.iload 4, 2) := by decide +kernel
theorem dX7_behind_81 : decode cX7_behind 81 = .ok (.bipush 64, 2) := by decide +kernel
theorem dX7_behind_83 : decode cX7_behind 83 = .ok (.if_icmp .ne 59, 3) := by decide +kernel
theorem dX7_behind_86 : decode cX7_behind 86 = .ok (.iload 4, 2) := by decide +kernel
theorem dX7_behind_88 : decode cX7_behind 88 = .ok (.bipush 64, 2) := by decide +kernel
theorem dX7_behind_90 : decode cX7_behind 90 = .ok (.if_icmp .ne 9, 3) := by decide +kernel
theorem dX7_behind_93 : decode cX7_behind 93 = .ok (.iload_n 2, 1) := by decide +kernel
theorem dX7_behind_94 : decode cX7_behind 94 = .ok (.iconst 2, 1) := by decide +kernel
theorem dX7_behind_95 : decode cX7_behind 95 = .ok (.iadd, 1) := by decide +kernel
theorem dX7_behind_96 : decode cX7_behind 96 = .ok (.goto 6, 3) := by decide +kernel
theorem dX7_behind_99 : decode cX7_behind 99 = .ok (.iload_n 2, 1) := by decide +kernel
theorem dX7_behind_100 : decode cX7_behind 100 = .ok (.iconst 1, 1) := by decide +kernel
theorem dX7_behind_101 : decode cX7_behind 101 = .ok (.iadd, 1) := by decide +kernel
theorem dX7_behind_102 : decode cX7_behind 102 = .ok (.istore_n 2, 1) := by decide +kernel
theorem dX7_behind_103 : decode cX7_behind 103 = .ok (.iinc 3 1, 3) := by decide +kernel
theorem dX7_behind_106 : decode cX7_behind 106 = .ok (.aload_n 0, 1) := by decide +kernel
theorem dX7_behind_107 : decode cX7_behind 107 = .ok (.getfield 55, 3) := by decide +kernel
theorem dX7_behind_110 : decode cX7_behind 110 = .ok (.iload_n 3, 1) := by decide +kernel
theorem dX7_behind_111 : decode cX7_behind 111 = .ok (.aload_n 0, 1) := by decide +kernel
theorem dX7_behind_112 : decode cX7_behind 112 = .ok (.getfield 13, 3) := by decide +kernel
theorem dX7_behind_115 : decode cX7_behind 115 = .ok (.iload_n 2, 1) := by decide +kernel
theorem dX7_behind_116 : decode cX7_behind 116 = .ok (.iaload, 1) := by decide +kernel
theorem dX7_behind_117 : decode cX7_behind 117 = .ok (.iastore, 1) := by decide +kernel
theorem dX7_behind_118 : decode cX7_behind 118 = .ok (.aload_n 0, 1) := by decide +kernel
theorem dX7_behind_119 : decode cX7_behind 119 = .ok (.getfield 58, 3) := by decide +kernel
theorem dX7_behind_122 : decode cX7_behind 122 = .ok (.iload_n 3, 1) := by decide +kernel
theorem dX7_behind_123 : decode cX7_behind 123 = .ok (.iload 4, 2) := by decide +kernel
theorem dX7_behind_125 : decode cX7_behind 125 = .ok (.bipush 64, 2) := by decide +kernel
theorem dX7_behind_127 : decode cX7_behind 127 = .ok (.if_icmp .ne 7, 3) := by decide +kernel
theorem dX7_behind_130 : decode cX7_behind 130 = .ok (.iconst 1, 1) := by decide +kernel
theorem dX7_behind_131 : decode cX7_behind 131 = .ok (.goto 4, 3) := by decide +kernel
theorem dX7_behind_134 : decode cX7_behind 134 = .ok (.iconst 0, 1) := by decide +kernel
theorem dX7_behind_135 : decode cX7_behind 135 = .ok (.bastore, 1) := by decide +kernel
theorem dX7_behind_136 : decode cX7_behind 136 = .ok (.iinc 2 1, 3) := by decide +kernel
theorem dX7_behind_139 : decode cX7_behind 139 = .ok (.goto 6, 3) := by decide +kernel
theorem dX7_behind_142 : decode cX7_behind 142 = .ok (.iinc 2 2, 3) := by decide +kernel
theorem dX7_behind_145 : decode cX7_behind 145 = .ok (.goto (-127), 3) := by decide +kernel
theorem dX7_behind_148 : decode cX7_behind 148 = .ok (.iload_n 2, 1) := by decide +kernel
theorem dX7_behind_149 : decode cX7_behind 149 = .ok (.ireturn, 1) := by decide +kernel
theorem dX7_inRow_0 : decode cX7_inRow 0 = .ok (.aload_n 0, 1) := by decide +kernel
theorem dX7_inRow_1 : decode cX7_inRow 1 = .ok (.getfield 49, 3) := by decide +kernel
theorem dX7_inRow_4 : decode cX7_inRow 4 = .ok (.iconst 4, 1) := by decide +kernel
theorem dX7_inRow_5 : decode cX7_inRow 5 = .ok (.iload_n 1, 1) := by decide +kernel
theorem dX7_inRow_6 : decode cX7_inRow 6 = .ok (.imul, 1) := by decide +kernel
theorem dX7_inRow_7 : decode cX7_inRow 7 = .ok (.iload_n 2, 1) := by decide +kernel
theorem dX7_inRow_8 : decode cX7_inRow 8 = .ok (.iadd, 1) := by decide +kernel
theorem dX7_inRow_9 : decode cX7_inRow 9 = .ok (.iaload, 1) := by decide +kernel
theorem dX7_inRow_10 : decode cX7_inRow 10 = .ok (.istore 4, 2) := by decide +kernel
theorem dX7_inRow_12 : decode cX7_inRow 12 = .ok (.aload_n 0, 1) := by decide +kernel
theorem dX7_inRow_13 : decode cX7_inRow 13 = .ok (.getfield 13, 3) := by decide +kernel
theorem dX7_inRow_16 : decode cX7_inRow 16 = .ok (.iload 4, 2) := by decide +kernel
theorem dX7_inRow_18 : decode cX7_inRow 18 = .ok (.iconst 1, 1) := by decide +kernel
theorem dX7_inRow_19 : decode cX7_inRow 19 = .ok (.iadd, 1) := by decide +kernel
theorem dX7_inRow_20 : decode cX7_inRow 20 = .ok (.iaload, 1) := by decide +kernel
theorem dX7_inRow_21 : decode cX7_inRow 21 = .ok (.ifCond .eq 17, 3) := by decide +kernel
theorem dX7_inRow_24 : decode cX7_inRow 24 = .ok (.aload_n 0, 1) := by decide +kernel
theorem dX7_inRow_25 : decode cX7_inRow 25 = .ok (.getfield 13, 3) := by decide +kernel
theorem dX7_inRow_28 : decode cX7_inRow 28 = .ok (.iload 4, 2) := by decide +kernel
theorem dX7_inRow_30 : decode cX7_inRow 30 = .ok (.iconst 3, 1) := by decide +kernel
theorem dX7_inRow_31 : decode cX7_inRow 31 = .ok (.iadd, 1) := by decide +kernel
theorem dX7_inRow_32 : decode cX7_inRow 32 = .ok (.iaload, 1) := by decide +kernel
theorem dX7_inRow_33 : decode cX7_inRow 33 = .ok (.bipush 91, 2) := by decide +kernel
theorem dX7_inRow_35 : decode cX7_inRow 35 = .ok (.if_icmp .eq 5, 3) := by decide +kernel
theorem dX7_inRow_38 : decode cX7_inRow 38 = .ok (.iconst 0, 1) := by decide +kernel
theorem dX7_inRow_39 : decode cX7_inRow 39 = .ok (.ireturn, 1) := by decide +kernel
theorem dX7_inRow_40 : decode cX7_inRow 40 = .ok (.iconst 0, 1) := by decide +kernel
theorem dX7_inRow_41 : decode cX7_inRow 41 = .ok (.istore 5, 2) := by decide +kernel
theorem dX7_inRow_43 : decode cX7_inRow 43 = .ok (.iload 4, 2) := by decide +kernel
theorem dX7_inRow_45 : decode cX7_inRow 45 = .ok (.iconst 5, 1) := by decide +kernel
theorem dX7_inRow_46 : decode cX7_inRow 46 = .ok (.iadd, 1) := by decide +kernel
theorem dX7_inRow_47 : decode cX7_inRow 47 = .ok (.istore 6, 2) := by decide +kernel
theorem dX7_inRow_49 : decode cX7_inRow 49 = .ok (.iconst 0, 1) := by decide +kernel
theorem dX7_inRow_50 : decode cX7_inRow 50 = .ok (.istore 7, 2) := by decide +kernel
theorem dX7_inRow_52 : decode cX7_inRow 52 = .ok (.iload 7, 2) := by decide +kernel
theorem dX7_inRow_54 : decode cX7_inRow 54 = .ok (.aload_n 0, 1) := by decide +kernel
theorem dX7_inRow_55 : decode cX7_inRow 55 = .ok (.getfield 13, 3) := by decide +kernel
theorem dX7_inRow_58 : decode cX7_inRow 58 = .ok (.iload 4, 2) := by decide +kernel
theorem dX7_inRow_60 : decode cX7_inRow 60 = .ok (.iconst 4, 1) := by decide +kernel
theorem dX7_inRow_61 : decode cX7_inRow 61 = .ok (.iadd, 1) := by decide +kernel
theorem dX7_inRow_62 : decode cX7_inRow 62 = .ok (.iaload, 1) := by decide +kernel
theorem dX7_inRow_63 : decode cX7_inRow 63 = .ok (.if_icmp .ge 55, 3) := by decide +kernel
theorem dX7_inRow_66 : decode cX7_inRow 66 = .ok (.aload_n 0, 1) := by decide +kernel
theorem dX7_inRow_67 : decode cX7_inRow 67 = .ok (.getfield 13, 3) := by decide +kernel
theorem dX7_inRow_70 : decode cX7_inRow 70 = .ok (.iload 6, 2) := by decide +kernel
theorem dX7_inRow_72 : decode cX7_inRow 72 = .ok (.iaload, 1) := by decide +kernel
theorem dX7_inRow_73 : decode cX7_inRow 73 = .ok (.bipush 64, 2) := by decide +kernel
theorem dX7_inRow_75 : decode cX7_inRow 75 = .ok (.if_icmp .ne 29, 3) := by decide +kernel
theorem dX7_inRow_78 : decode cX7_inRow 78 = .ok (.aload_n 0, 1) := by decide +kernel
theorem dX7_inRow_79 : decode cX7_inRow 79 = .ok (.getfield 25, 3) := by decide +kernel
theorem dX7_inRow_82 : decode cX7_inRow 82 = .ok (.bipush 13, 2) := by decide +kernel
theorem dX7_inRow_84 : decode cX7_inRow 84 = .ok (.iload_n 1, 1) := by decide +kernel
theorem dX7_inRow_85 : decode cX7_inRow 85 = .ok (.imul, 1) := by decide +kernel
theorem dX7_inRow_86 : decode cX7_inRow 86 = .ok (.aload_n 0, 1) := by decide +kernel
theorem dX7_inRow_87 : decode cX7_inRow 87 = .ok (.getfield 13, 3) := by decide +kernel
theorem dX7_inRow_90 : decode cX7_inRow 90 = .ok (.iload 6, 2) := by decide +kernel
theorem dX7_inRow_92 : decode cX7_inRow 92 = .ok (.iconst 1, 1) := by decide +kernel
theorem dX7_inRow_93 : decode cX7_inRow 93 = .ok (.iadd, 1) := by decide +kernel
theorem dX7_inRow_94 : decode cX7_inRow 94 = .ok (.iaload, 1) := by decide +kernel
theorem dX7_inRow_95 : decode cX7_inRow 95 = .ok (.iadd, 1) := by decide +kernel
theorem dX7_inRow_96 : decode cX7_inRow 96 = .ok (.iaload, 1) := by decide +kernel
theorem dX7_inRow_97 : decode cX7_inRow 97 = .ok (.iload_n 3, 1) := by decide +kernel
theorem dX7_inRow_98 : decode cX7_inRow 98 = .ok (.if_icmp .ne 6, 3) := by decide +kernel
theorem dX7_inRow_101 : decode cX7_inRow 101 = .ok (.iinc 5 1, 3) := by decide +kernel
theorem dX7_inRow_104 : decode cX7_inRow 104 = .ok (.aload_n 0, 1) := by decide +kernel
theorem dX7_inRow_105 : decode cX7_inRow 105 = .ok (.iload 6, 2) := by decide +kernel
theorem dX7_inRow_107 : decode cX7_inRow 107 = .ok (.invokevirtual 171, 3) := by decide +kernel
theorem dX7_inRow_110 : decode cX7_inRow 110 = .ok (.istore 6, 2) := by decide +kernel
theorem dX7_inRow_112 : decode cX7_inRow 112 = .ok (.iinc 7 1, 3) := by decide +kernel
theorem dX7_inRow_115 : decode cX7_inRow 115 = .ok (.goto (-63), 3) := by decide +kernel
theorem dX7_inRow_118 : decode cX7_inRow 118 = .ok (.iload 5, 2) := by decide +kernel
theorem dX7_inRow_120 : decode cX7_inRow 120 = .ok (.ireturn, 1) := by decide +kernel
theorem dX7_countAt_0 : decode cX7_countAt 0 = .ok (.aload_n 0, 1) := by decide +kernel
theorem dX7_countAt_1 : decode cX7_countAt 1 = .ok (.iload_n 2, 1) := by decide +kernel
theorem dX7_countAt_2 : decode cX7_countAt 2 = .ok (.invokevirtual 162, 3) := by decide +kernel
theorem dX7_countAt_5 : decode cX7_countAt 5 = .ok (.istore_n 3, 1) := by decide +kernel
theorem dX7_countAt_6 : decode cX7_countAt 6 = .ok (.iconst 0, 1) := by decide +kernel
theorem dX7_countAt_7 : decode cX7_countAt 7 = .ok (.istore 4, 2) := by decide +kernel
theorem dX7_countAt_9 : decode cX7_countAt 9 = .ok (.iconst 0, 1) := by decide +kernel
theorem dX7_countAt_10 : decode cX7_countAt 10 = .ok (.istore 5, 2) := by decide +kernel
theorem dX7_countAt_12 : decode cX7_countAt 12 = .ok (.iload 5, 2) := by decide +kernel
theorem dX7_countAt_14 : decode cX7_countAt 14 = .ok (.aload_n 0, 1) := by decide +kernel
theorem dX7_countAt_15 : decode cX7_countAt 15 = .ok (.getfield 46, 3) := by decide +kernel
theorem dX7_countAt_18 : decode cX7_countAt 18 = .ok (.iload_n 1, 1) := by decide +kernel
theorem dX7_countAt_19 : decode cX7_countAt 19 = .ok (.iaload, 1) := by decide +kernel
theorem dX7_countAt_20 : decode cX7_countAt 20 = .ok (.if_icmp .ge 55, 3) := by decide +kernel
theorem dX7_countAt_23 : decode cX7_countAt 23 = .ok (.aload_n 0, 1) := by decide +kernel
theorem dX7_countAt_24 : decode cX7_countAt 24 = .ok (.iload_n 1, 1) := by decide +kernel
theorem dX7_countAt_25 : decode cX7_countAt 25 = .ok (.iload 5, 2) := by decide +kernel
theorem dX7_countAt_27 : decode cX7_countAt 27 = .ok (.invokevirtual 150, 3) := by decide +kernel
theorem dX7_countAt_30 : decode cX7_countAt 30 = .ok (.istore 6, 2) := by decide +kernel
theorem dX7_countAt_32 : decode cX7_countAt 32 = .ok (.iload 6, 2) := by decide +kernel
theorem dX7_countAt_34 : decode cX7_countAt 34 = .ok (.iload_n 2, 1) := by decide +kernel
theorem dX7_countAt_35 : decode cX7_countAt 35 = .ok (.if_icmp .ne 6, 3) := by decide +kernel
theorem dX7_countAt_38 : decode cX7_countAt 38 = .ok (.iinc 4 1, 3) := by decide +kernel
theorem dX7_countAt_41 : decode cX7_countAt 41 = .ok (.iload_n 3, 1) := by decide +kernel
theorem dX7_countAt_42 : decode cX7_countAt 42 = .ok (.ifCond .lt 27, 3) := by decide +kernel
theorem dX7_countAt_45 : decode cX7_countAt 45 = .ok (.aload_n 0, 1) := by decide +kernel
theorem dX7_countAt_46 : decode cX7_countAt 46 = .ok (.getfield 37, 3) := by decide +kernel
theorem dX7_countAt_49 : decode cX7_countAt 49 = .ok (.iload_n 3, 1) := by decide +kernel
theorem dX7_countAt_50 : decode cX7_countAt 50 = .ok (.iaload, 1) := by decide +kernel
theorem dX7_countAt_51 : decode cX7_countAt 51 = .ok (.iload 6, 2) := by decide +kernel
theorem dX7_countAt_53 : decode cX7_countAt 53 = .ok (.if_icmp .ne 16, 3) := by decide +kernel
theorem dX7_countAt_56 : decode cX7_countAt 56 = .ok (.iload 4, 2) := by decide +kernel
theorem dX7_countAt_58 : decode cX7_countAt 58 = .ok (.aload_n 0, 1) := by decide +kernel
theorem dX7_countAt_59 : decode cX7_countAt 59 = .ok (.iload_n 1, 1) := by decide +kernel
theorem dX7_countAt_60 : decode cX7_countAt 60 = .ok (.iload 5, 2) := by decide +kernel
theorem dX7_countAt_62 : decode cX7_countAt 62 = .ok (.iload_n 2, 1) := by decide +kernel
theorem dX7_countAt_63 : decode cX7_countAt 63 = .ok (.invokevirtual 174, 3) := by decide +kernel
theorem dX7_countAt_66 : decode cX7_countAt 66 = .ok (.iadd, 1) := by decide +kernel
theorem dX7_countAt_67 : decode cX7_countAt 67 = .ok (.istore 4, 2) := by decide +kernel
theorem dX7_countAt_69 : decode cX7_countAt 69 = .ok (.iinc 5 1, 3) := by decide +kernel
theorem dX7_countAt_72 : decode cX7_countAt 72 = .ok (.goto (-60), 3) := by decide +kernel
theorem dX7_countAt_75 : decode cX7_countAt 75 = .ok (.iload 4, 2) := by decide +kernel
theorem dX7_countAt_77 : decode cX7_countAt 77 = .ok (.ireturn, 1) := by decide +kernel
end
section
theorem dX7_count_0 : decode cX7_count 0 = .ok (.aload_n 0, 1) := by decide +kernel
theorem dX7_count_1 : decode cX7_count 1 = .ok (.iload_n 1, 1) := by decide +kernel
theorem dX7_count_2 : decode cX7_count 2 = .ok (.invokevirtual 147, 3) := by decide +kernel
theorem dX7_count_5 : decode cX7_count 5 = .ok (.ifCond .eq 11, 3) := by decide +kernel
theorem dX7_count_8 : decode cX7_count 8 = .ok (.aload_n 0, 1) := by decide +kernel
theorem dX7_count_9 : decode cX7_count 9 = .ok (.iload_n 2, 1) := by decide +kernel
theorem dX7_count_10 : decode cX7_count 10 = .ok (.invokevirtual 144, 3) := by decide +kernel
theorem dX7_count_13 : decode cX7_count 13 = .ok (.ifCond .ne 5, 3) := by decide +kernel
theorem dX7_count_16 : decode cX7_count 16 = .ok (.iconst 0, 1) := by decide +kernel
theorem dX7_count_17 : decode cX7_count 17 = .ok (.ireturn, 1) := by decide +kernel
theorem dX7_count_18 : decode cX7_count 18 = .ok (.aload_n 0, 1) := by decide +kernel
theorem dX7_count_19 : decode cX7_count 19 = .ok (.iload_n 2, 1) := by decide +kernel
theorem dX7_count_20 : decode cX7_count 20 = .ok (.invokevirtual 165, 3) := by decide +kernel
theorem dX7_count_23 : decode cX7_count 23 = .ok (.istore_n 3, 1) := by decide +kernel
theorem dX7_count_24 : decode cX7_count 24 = .ok (.iload_n 1, 1) := by decide +kernel
theorem dX7_count_25 : decode cX7_count 25 = .ok (.istore 4, 2) := by decide +kernel
theorem dX7_count_27 : decode cX7_count 27 = .ok (.iconst 0, 1) := by decide +kernel
theorem dX7_count_28 : decode cX7_count 28 = .ok (.istore 5, 2) := by decide +kernel
theorem dX7_count_30 : decode cX7_count 30 = .ok (.iconst 0, 1) := by decide +kernel
theorem dX7_count_31 : decode cX7_count 31 = .ok (.istore 6, 2) := by decide +kernel
theorem dX7_count_33 : decode cX7_count 33 = .ok (.iload 6, 2) := by decide +kernel
theorem dX7_count_35 : decode cX7_count 35 = .ok (.bipush 16, 2) := by decide +kernel
theorem dX7_count_37 : decode cX7_count 37 = .ok (.if_icmp .gt 59, 3) := by decide +kernel
theorem dX7_count_40 : decode cX7_count 40 = .ok (.iload 4, 2) := by decide +kernel
theorem dX7_count_42 : decode cX7_count 42 = .ok (.ifCond .lt 54, 3) := by decide +kernel
theorem dX7_count_45 : decode cX7_count 45 = .ok (.iload 5, 2) := by decide +kernel
theorem dX7_count_47 : decode cX7_count 47 = .ok (.ifCond .ne 49, 3) := by decide +kernel
theorem dX7_count_50 : decode cX7_count 50 = .ok (.aload_n 0, 1) := by decide +kernel
theorem dX7_count_51 : decode cX7_count 51 = .ok (.iload 4, 2) := by decide +kernel
theorem dX7_count_53 : decode cX7_count 53 = .ok (.iload_n 2, 1) := by decide +kernel
theorem dX7_count_54 : decode cX7_count 54 = .ok (.invokevirtual 178, 3) := by decide +kernel
theorem dX7_count_57 : decode cX7_count 57 = .ok (.istore 5, 2) := by decide +kernel
theorem dX7_count_59 : decode cX7_count 59 = .ok (.iload_n 3, 1) := by decide +kernel
theorem dX7_count_60 : decode cX7_count 60 = .ok (.ifCond .eq 27, 3) := by decide +kernel
theorem dX7_count_63 : decode cX7_count 63 = .ok (.aload_n 0, 1) := by decide +kernel
theorem dX7_count_64 : decode cX7_count 64 = .ok (.getfield 34, 3) := by decide +kernel
theorem dX7_count_67 : decode cX7_count 67 = .ok (.iload 4, 2) := by decide +kernel
theorem dX7_count_69 : decode cX7_count 69 = .ok (.iaload, 1) := by decide +kernel
theorem dX7_count_70 : decode cX7_count 70 = .ok (.ifCond .lt 17, 3) := by decide +kernel
theorem dX7_count_73 : decode cX7_count 73 = .ok (.aload_n 0, 1) := by decide +kernel
theorem dX7_count_74 : decode cX7_count 74 = .ok (.aload_n 0, 1) := by decide +kernel
theorem dX7_count_75 : decode cX7_count 75 = .ok (.getfield 34, 3) := by decide +kernel
theorem dX7_count_78 : decode cX7_count 78 = .ok (.iload 4, 2) := by decide +kernel
theorem dX7_count_80 : decode cX7_count 80 = .ok (.iaload, 1) := by decide +kernel
theorem dX7_count_81 : decode cX7_count 81 = .ok (.invokevirtual 162, 3) := by decide +kernel
theorem dX7_count_84 : decode cX7_count 84 = .ok (.goto 4, 3) := by decide +kernel
theorem dX7_count_87 : decode cX7_count 87 = .ok (.iconst (-1), 1) := by decide +kernel
theorem dX7_count_88 : decode cX7_count 88 = .ok (.istore 4, 2) := by decide +kernel
theorem dX7_count_90 : decode cX7_count 90 = .ok (.iinc 6 1, 3) := by decide +kernel
theorem dX7_count_93 : decode cX7_count 93 = .ok (.goto (-60), 3) := by decide +kernel
theorem dX7_count_96 : decode cX7_count 96 = .ok (.iload 5, 2) := by decide +kernel
theorem dX7_count_98 : decode cX7_count 98 = .ok (.ireturn, 1) := by decide +kernel
theorem dX7_lookUp_0 : decode cX7_lookUp 0 = .ok (.iload_n 2, 1) := by decide +kernel
theorem dX7_lookUp_1 : decode cX7_lookUp 1 = .ok (.iconst 1, 1) := by decide +kernel
theorem dX7_lookUp_2 : decode cX7_lookUp 2 = .ok (.iadd, 1) := by decide +kernel
theorem dX7_lookUp_3 : decode cX7_lookUp 3 = .ok (.istore 4, 2) := by decide +kernel
theorem dX7_lookUp_5 : decode cX7_lookUp 5 = .ok (.iconst 0, 1) := by decide +kernel
theorem dX7_lookUp_6 : decode cX7_lookUp 6 = .ok (.istore 5, 2) := by decide +kernel
theorem dX7_lookUp_8 : decode cX7_lookUp 8 = .ok (.iload 5, 2) := by decide +kernel
theorem dX7_lookUp_10 : decode cX7_lookUp 10 = .ok (.aload_n 0, 1) := by decide +kernel
theorem dX7_lookUp_11 : decode cX7_lookUp 11 = .ok (.getfield 13, 3) := by decide +kernel
theorem dX7_lookUp_14 : decode cX7_lookUp 14 = .ok (.iload_n 2, 1) := by decide +kernel
theorem dX7_lookUp_15 : decode cX7_lookUp 15 = .ok (.iaload, 1) := by decide +kernel
theorem dX7_lookUp_16 : decode cX7_lookUp 16 = .ok (.if_icmp .ge 45, 3) := by decide +kernel
theorem dX7_lookUp_19 : decode cX7_lookUp 19 = .ok (.aload_n 0, 1) := by decide +kernel
theorem dX7_lookUp_20 : decode cX7_lookUp 20 = .ok (.getfield 25, 3) := by decide +kernel
theorem dX7_lookUp_23 : decode cX7_lookUp 23 = .ok (.bipush 13, 2) := by decide +kernel
theorem dX7_lookUp_25 : decode cX7_lookUp 25 = .ok (.iload_n 1, 1) := by decide +kernel
theorem dX7_lookUp_26 : decode cX7_lookUp 26 = .ok (.imul, 1) := by decide +kernel
theorem dX7_lookUp_27 : decode cX7_lookUp 27 = .ok (.aload_n 0, 1) := by decide +kernel
theorem dX7_lookUp_28 : decode cX7_lookUp 28 = .ok (.getfield 13, 3) := by decide +kernel
theorem dX7_lookUp_31 : decode cX7_lookUp 31 = .ok (.iload 4, 2) := by decide +kernel
theorem dX7_lookUp_33 : decode cX7_lookUp 33 = .ok (.iaload, 1) := by decide +kernel
theorem dX7_lookUp_34 : decode cX7_lookUp 34 = .ok (.iadd, 1) := by decide +kernel
theorem dX7_lookUp_35 : decode cX7_lookUp 35 = .ok (.iaload, 1) := by decide +kernel
theorem dX7_lookUp_36 : decode cX7_lookUp 36 = .ok (.iload_n 3, 1) := by decide +kernel
theorem dX7_lookUp_37 : decode cX7_lookUp 37 = .ok (.if_icmp .ne 8, 3) := by decide +kernel
theorem dX7_lookUp_40 : decode cX7_lookUp 40 = .ok (.iload 4, 2) := by decide +kernel
theorem dX7_lookUp_42 : decode cX7_lookUp 42 = .ok (.iconst 1, 1) := by decide +kernel
theorem dX7_lookUp_43 : decode cX7_lookUp 43 = .ok (.iadd, 1) := by decide +kernel
theorem dX7_lookUp_44 : decode cX7_lookUp 44 = .ok (.ireturn, 1) := by decide +kernel
theorem dX7_lookUp_45 : decode cX7_lookUp 45 = .ok (.aload_n 0, 1) := by decide +kernel
theorem dX7_lookUp_46 : decode cX7_lookUp 46 = .ok (.iload 4, 2) := by decide +kernel
theorem dX7_lookUp_48 : decode cX7_lookUp 48 = .ok (.iconst 1, 1) := by decide +kernel
theorem dX7_lookUp_49 : decode cX7_lookUp 49 = .ok (.iadd, 1) := by decide +kernel
theorem dX7_lookUp_50 : decode cX7_lookUp 50 = .ok (.invokevirtual 171, 3) := by decide +kernel
theorem dX7_lookUp_53 : decode cX7_lookUp 53 = .ok (.istore 4, 2) := by decide +kernel
theorem dX7_lookUp_55 : decode cX7_lookUp 55 = .ok (.iinc 5 1, 3) := by decide +kernel
theorem dX7_lookUp_58 : decode cX7_lookUp 58 = .ok (.goto (-50), 3) := by decide +kernel
theorem dX7_lookUp_61 : decode cX7_lookUp 61 = .ok (.iconst (-1), 1) := by decide +kernel
theorem dX7_lookUp_62 : decode cX7_lookUp 62 = .ok (.ireturn, 1) := by decide +kernel
theorem dX7_inside_0 : decode cX7_inside 0 = .ok (.aload_n 0, 1) := by decide +kernel
theorem dX7_inside_1 : decode cX7_inside 1 = .ok (.getfield 13, 3) := by decide +kernel
theorem dX7_inside_4 : decode cX7_inside 4 = .ok (.iload_n 1, 1) := by decide +kernel
theorem dX7_inside_5 : decode cX7_inside 5 = .ok (.iaload, 1) := by decide +kernel
theorem dX7_inside_6 : decode cX7_inside 6 = .ok (.istore_n 3, 1) := by decide +kernel
theorem dX7_inside_7 : decode cX7_inside 7 = .ok (.iload_n 3, 1) := by decide +kernel
theorem dX7_inside_8 : decode cX7_inside 8 = .ok (.bipush 91, 2) := by decide +kernel
theorem dX7_inside_10 : decode cX7_inside 10 = .ok (.if_icmp .eq 11, 3) := by decide +kernel
theorem dX7_inside_13 : decode cX7_inside 13 = .ok (.iload_n 3, 1) := by decide +kernel
theorem dX7_inside_14 : decode cX7_inside 14 = .ok (.bipush 64, 2) := by decide +kernel
theorem dX7_inside_16 : decode cX7_inside 16 = .ok (.if_icmp .eq 5, 3) := by decide +kernel
theorem dX7_inside_19 : decode cX7_inside 19 = .ok (.iconst (-1), 1) := by decide +kernel
theorem dX7_inside_20 : decode cX7_inside 20 = .ok (.ireturn, 1) := by decide +kernel
theorem dX7_inside_21 : decode cX7_inside 21 = .ok (.iload_n 3, 1) := by decide +kernel
theorem dX7_inside_22 : decode cX7_inside 22 = .ok (.bipush 64, 2) := by decide +kernel
theorem dX7_inside_24 : decode cX7_inside 24 = .ok (.if_icmp .ne 9, 3) := by decide +kernel
theorem dX7_inside_27 : decode cX7_inside 27 = .ok (.iload_n 1, 1) := by decide +kernel
theorem dX7_inside_28 : decode cX7_inside 28 = .ok (.iconst 2, 1) := by decide +kernel
theorem dX7_inside_29 : decode cX7_inside 29 = .ok (.iadd, 1) := by decide +kernel
theorem dX7_inside_30 : decode cX7_inside 30 = .ok (.goto 6, 3) := by decide +kernel
theorem dX7_inside_33 : decode cX7_inside 33 = .ok (.iload_n 1, 1) := by decide +kernel
theorem dX7_inside_34 : decode cX7_inside 34 = .ok (.iconst 1, 1) := by decide +kernel
theorem dX7_inside_35 : decode cX7_inside 35 = .ok (.iadd, 1) := by decide +kernel
theorem dX7_inside_36 : decode cX7_inside 36 = .ok (.istore 4, 2) := by decide +kernel
theorem dX7_inside_38 : decode cX7_inside 38 = .ok (.iload_n 2, 1) := by decide +kernel
theorem dX7_inside_39 : decode cX7_inside 39 = .ok (.iconst 1, 1) := by decide +kernel
theorem dX7_inside_40 : decode cX7_inside 40 = .ok (.if_icmp .lt 14, 3) := by decide +kernel
theorem dX7_inside_43 : decode cX7_inside 43 = .ok (.iload_n 2, 1) := by decide +kernel
theorem dX7_inside_44 : decode cX7_inside 44 = .ok (.aload_n 0, 1) := by decide +kernel
theorem dX7_inside_45 : decode cX7_inside 45 = .ok (.getfield 13, 3) := by decide +kernel
theorem dX7_inside_48 : decode cX7_inside 48 = .ok (.iload 4, 2) := by decide +kernel
theorem dX7_inside_50 : decode cX7_inside 50 = .ok (.iaload, 1) := by decide +kernel
theorem dX7_inside_51 : decode cX7_inside 51 = .ok (.if_icmp .le 5, 3) := by decide +kernel
theorem dX7_inside_54 : decode cX7_inside 54 = .ok (.iconst (-1), 1) := by decide +kernel
theorem dX7_inside_55 : decode cX7_inside 55 = .ok (.ireturn, 1) := by decide +kernel
theorem dX7_inside_56 : decode cX7_inside 56 = .ok (.iload_n 3, 1) := by decide +kernel
theorem dX7_inside_57 : decode cX7_inside 57 = .ok (.bipush 64, 2) := by decide +kernel
theorem dX7_inside_59 : decode cX7_inside 59 = .ok (.if_icmp .ne 10, 3) := by decide +kernel
theorem dX7_inside_62 : decode cX7_inside 62 = .ok (.iload 4, 2) := by decide +kernel
theorem dX7_inside_64 : decode cX7_inside 64 = .ok (.iconst 2, 1) := by decide +kernel
theorem dX7_inside_65 : decode cX7_inside 65 = .ok (.iadd, 1) := by decide +kernel
theorem dX7_inside_66 : decode cX7_inside 66 = .ok (.goto 7, 3) := by decide +kernel
theorem dX7_inside_69 : decode cX7_inside 69 = .ok (.iload 4, 2) := by decide +kernel
theorem dX7_inside_71 : decode cX7_inside 71 = .ok (.iconst 1, 1) := by decide +kernel
theorem dX7_inside_72 : decode cX7_inside 72 = .ok (.iadd, 1) := by decide +kernel
theorem dX7_inside_73 : decode cX7_inside 73 = .ok (.istore 4, 2) := by decide +kernel
theorem dX7_inside_75 : decode cX7_inside 75 = .ok (.iconst 1, 1) := by decide +kernel
theorem dX7_inside_76 : decode cX7_inside 76 = .ok (.istore 5, 2) := by decide +kernel
theorem dX7_inside_78 : decode cX7_inside 78 = .ok (.iload 5, 2) := by decide +kernel
theorem dX7_inside_80 : decode cX7_inside 80 = .ok (.iload_n 2, 1) := by decide +kernel
theorem dX7_inside_81 : decode cX7_inside 81 = .ok (.if_icmp .ge 34, 3) := by decide +kernel
theorem dX7_inside_84 : decode cX7_inside 84 = .ok (.aload_n 0, 1) := by decide +kernel
theorem dX7_inside_85 : decode cX7_inside 85 = .ok (.iload 4, 2) := by decide +kernel
theorem dX7_inside_87 : decode cX7_inside 87 = .ok (.invokevirtual 171, 3) := by decide +kernel
theorem dX7_inside_90 : decode cX7_inside 90 = .ok (.istore 4, 2) := by decide +kernel
theorem dX7_inside_92 : decode cX7_inside 92 = .ok (.iload_n 3, 1) := by decide +kernel
theorem dX7_inside_93 : decode cX7_inside 93 = .ok (.bipush 64, 2) := by decide +kernel
theorem dX7_inside_95 : decode cX7_inside 95 = .ok (.if_icmp .ne 10, 3) := by decide +kernel
theorem dX7_inside_98 : decode cX7_inside 98 = .ok (.iload 4, 2) := by decide +kernel
theorem dX7_inside_100 : decode cX7_inside 100 = .ok (.iconst 1, 1) := by decide +kernel
theorem dX7_inside_101 : decode cX7_inside 101 = .ok (.iadd, 1) := by decide +kernel
theorem dX7_inside_102 : decode cX7_inside 102 = .ok (.goto 5, 3) := by decide +kernel
theorem dX7_inside_105 : decode cX7_inside 105 = .ok (.iload 4, 2) := by decide +kernel
theorem dX7_inside_107 : decode cX7_inside 107 = .ok (.istore 4, 2) := by decide +kernel
theorem dX7_inside_109 : decode cX7_inside 109 = .ok (.iinc 5 1, 3) := by decide +kernel
theorem dX7_inside_112 : decode cX7_inside 112 = .ok (.goto (-34), 3) := by decide +kernel
theorem dX7_inside_115 : decode cX7_inside 115 = .ok (.iload 4, 2) := by decide +kernel
theorem dX7_inside_117 : decode cX7_inside 117 = .ok (.ireturn, 1) := by decide +kernel
theorem dX7_shown_0 : decode cX7_shown 0 = .ok (.aload_n 0, 1) := by decide +kernel
theorem dX7_shown_1 : decode cX7_shown 1 = .ok (.getfield 13, 3) := by decide +kernel
theorem dX7_shown_4 : decode cX7_shown 4 = .ok (.iload_n 2, 1) := by decide +kernel
theorem dX7_shown_5 : decode cX7_shown 5 = .ok (.iaload, 1) := by decide +kernel
theorem dX7_shown_6 : decode cX7_shown 6 = .ok (.istore_n 3, 1) := by decide +kernel
theorem dX7_shown_7 : decode cX7_shown 7 = .ok (.aload_n 0, 1) := by decide +kernel
theorem dX7_shown_8 : decode cX7_shown 8 = .ok (.getfield 13, 3) := by decide +kernel
theorem dX7_shown_11 : decode cX7_shown 11 = .ok (.iload_n 2, 1) := by decide +kernel
theorem dX7_shown_12 : decode cX7_shown 12 = .ok (.iconst 1, 1) := by decide +kernel
theorem dX7_shown_13 : decode cX7_shown 13 = .ok (.iadd, 1) := by decide +kernel
theorem dX7_shown_14 : decode cX7_shown 14 = .ok (.iaload, 1) := by decide +kernel
theorem dX7_shown_15 : decode cX7_shown 15 = .ok (.istore 4, 2) := by decide +kernel
theorem dX7_shown_17 : decode cX7_shown 17 = .ok (.iload_n 3, 1) := by decide +kernel
theorem dX7_shown_18 : decode cX7_shown 18 = .ok (.bipush 91, 2) := by decide +kernel
theorem dX7_shown_20 : decode cX7_shown 20 = .ok (.if_icmp .ne 11, 3) := by decide +kernel
theorem dX7_shown_23 : decode cX7_shown 23 = .ok (.ldc2_w 181, 3) := by decide +kernel
theorem dX7_shown_26 : decode cX7_shown 26 = .ok (.iload 4, 2) := by decide +kernel
theorem dX7_shown_28 : decode cX7_shown 28 = .ok (.i2l, 1) := by decide +kernel
theorem dX7_shown_29 : decode cX7_shown 29 = .ok (.ladd, 1) := by decide +kernel
theorem dX7_shown_30 : decode cX7_shown 30 = .ok (.lreturn, 1) := by decide +kernel
theorem dX7_shown_31 : decode cX7_shown 31 = .ok (.iload_n 3, 1) := by decide +kernel
theorem dX7_shown_32 : decode cX7_shown 32 = .ok (.bipush 73, 2) := by decide +kernel
theorem dX7_shown_34 : decode cX7_shown 34 = .ok (.if_icmp .ne 58, 3) := by decide +kernel
theorem dX7_shown_37 : decode cX7_shown 37 = .ok (.lconst 0, 1) := by decide +kernel
theorem dX7_shown_38 : decode cX7_shown 38 = .ok (.lstore 5, 2) := by decide +kernel
theorem dX7_shown_40 : decode cX7_shown 40 = .ok (.iconst 1, 1) := by decide +kernel
theorem dX7_shown_41 : decode cX7_shown 41 = .ok (.istore 7, 2) := by decide +kernel
theorem dX7_shown_43 : decode cX7_shown 43 = .ok (.iload 7, 2) := by decide +kernel
theorem dX7_shown_45 : decode cX7_shown 45 = .ok (.iconst 4, 1) := by decide +kernel
theorem dX7_shown_46 : decode cX7_shown 46 = .ok (.if_icmp .gt 39, 3) := by decide +kernel
theorem dX7_shown_49 : decode cX7_shown 49 = .ok (.ldc2_w 183, 3) := by decide +kernel
theorem dX7_shown_52 : decode cX7_shown 52 = .ok (.lload 5, 2) := by decide +kernel
theorem dX7_shown_54 : decode cX7_shown 54 = .ok (.lmul, 1) := by decide +kernel
theorem dX7_shown_55 : decode cX7_shown 55 = .ok (.aload_n 0, 1) := by decide +kernel
theorem dX7_shown_56 : decode cX7_shown 56 = .ok (.getfield 13, 3) := by decide +kernel
theorem dX7_shown_59 : decode cX7_shown 59 = .ok (.aload_n 0, 1) := by decide +kernel
theorem dX7_shown_60 : decode cX7_shown 60 = .ok (.getfield 22, 3) := by decide +kernel
theorem dX7_shown_63 : decode cX7_shown 63 = .ok (.bipush 13, 2) := by decide +kernel
theorem dX7_shown_65 : decode cX7_shown 65 = .ok (.iload_n 1, 1) := by decide +kernel
theorem dX7_shown_66 : decode cX7_shown 66 = .ok (.imul, 1) := by decide +kernel
theorem dX7_shown_67 : decode cX7_shown 67 = .ok (.iload 4, 2) := by decide +kernel
theorem dX7_shown_69 : decode cX7_shown 69 = .ok (.iadd, 1) := by decide +kernel
theorem dX7_shown_70 : decode cX7_shown 70 = .ok (.iaload, 1) := by decide +kernel
theorem dX7_shown_71 : decode cX7_shown 71 = .ok (.iload 7, 2) := by decide +kernel
theorem dX7_shown_73 : decode cX7_shown 73 = .ok (.iadd, 1) := by decide +kernel
theorem dX7_shown_74 : decode cX7_shown 74 = .ok (.iaload, 1) := by decide +kernel
theorem dX7_shown_75 : decode cX7_shown 75 = .ok (.i2l, 1) := by decide +kernel
theorem dX7_shown_76 : decode cX7_shown 76 = .ok (.ladd, 1) := by decide +kernel
theorem dX7_shown_77 : decode cX7_shown 77 = .ok (.lstore 5, 2) := by decide +kernel
theorem dX7_shown_79 : decode cX7_shown 79 = .ok (.iinc 7 1, 3) := by decide +kernel
theorem dX7_shown_82 : decode cX7_shown 82 = .ok (.goto (-39), 3) := by decide +kernel
theorem dX7_shown_85 : decode cX7_shown 85 = .ok (.ldc2_w 185, 3) := by decide +kernel
theorem dX7_shown_88 : decode cX7_shown 88 = .ok (.lload 5, 2) := by decide +kernel
theorem dX7_shown_90 : decode cX7_shown 90 = .ok (.ladd, 1) := by decide +kernel
theorem dX7_shown_91 : decode cX7_shown 91 = .ok (.lreturn, 1) := by decide +kernel
theorem dX7_shown_92 : decode cX7_shown 92 = .ok (.iload_n 3, 1) := by decide +kernel
theorem dX7_shown_93 : decode cX7_shown 93 = .ok (.bipush 115, 2) := by decide +kernel
theorem dX7_shown_95 : decode cX7_shown 95 = .ok (.if_icmp .ne 9, 3) := by decide +kernel
theorem dX7_shown_98 : decode cX7_shown 98 = .ok (.ldc2_w 187, 3) := by decide +kernel
theorem dX7_shown_101 : decode cX7_shown 101 = .ok (.goto 18, 3) := by decide +kernel
theorem dX7_shown_104 : decode cX7_shown 104 = .ok (.iload_n 3, 1) := by decide +kernel
theorem dX7_shown_105 : decode cX7_shown 105 = .ok (.bipush 99, 2) := by decide +kernel
theorem dX7_shown_107 : decode cX7_shown 107 = .ok (.if_icmp .ne 9, 3) := by decide +kernel
theorem dX7_shown_110 : decode cX7_shown 110 = .ok (.ldc2_w 189, 3) := by decide +kernel
theorem dX7_shown_113 : decode cX7_shown 113 = .ok (.goto 6, 3) := by decide +kernel
theorem dX7_shown_116 : decode cX7_shown 116 = .ok (.ldc2_w 191, 3) := by decide +kernel
theorem dX7_shown_119 : decode cX7_shown 119 = .ok (.lstore 5, 2) := by decide +kernel
theorem dX7_shown_121 : decode cX7_shown 121 = .ok (.lload 5, 2) := by decide +kernel
theorem dX7_shown_123 : decode cX7_shown 123 = .ok (.ldc2_w 185, 3) := by decide +kernel
theorem dX7_shown_126 : decode cX7_shown 126 = .ok (.lmul, 1) := by decide +kernel
theorem dX7_shown_127 : decode cX7_shown 127 = .ok (.aload_n 0, 1) := by decide +kernel
theorem dX7_shown_128 : decode cX7_shown 128 = .ok (.getfield 25, 3) := by decide +kernel
theorem dX7_shown_131 : decode cX7_shown 131 = .ok (.bipush 13, 2) := by decide +kernel
theorem dX7_shown_133 : decode cX7_shown 133 = .ok (.iload_n 1, 1) := by decide +kernel
theorem dX7_shown_134 : decode cX7_shown 134 = .ok (.imul, 1) := by decide +kernel
theorem dX7_shown_135 : decode cX7_shown 135 = .ok (.iload 4, 2) := by decide +kernel
theorem dX7_shown_137 : decode cX7_shown 137 = .ok (.iadd, 1) := by decide +kernel
theorem dX7_shown_138 : decode cX7_shown 138 = .ok (.iaload, 1) := by decide +kernel
theorem dX7_shown_139 : decode cX7_shown 139 = .ok (.i2l, 1) := by decide +kernel
theorem dX7_shown_140 : decode cX7_shown 140 = .ok (.ladd, 1) := by decide +kernel
theorem dX7_shown_141 : decode cX7_shown 141 = .ok (.lreturn, 1) := by decide +kernel
theorem dX7_value_0 : decode cX7_value 0 = .ok (.aload_n 0, 1) := by decide +kernel
theorem dX7_value_1 : decode cX7_value 1 = .ok (.iload_n 1, 1) := by decide +kernel
theorem dX7_value_2 : decode cX7_value 2 = .ok (.iload_n 2, 1) := by decide +kernel
theorem dX7_value_3 : decode cX7_value 3 = .ok (.invokevirtual 193, 3) := by decide +kernel
theorem dX7_value_6 : decode cX7_value 6 = .ok (.istore 5, 2) := by decide +kernel
theorem dX7_value_8 : decode cX7_value 8 = .ok (.iload 5, 2) := by decide +kernel
theorem dX7_value_10 : decode cX7_value 10 = .ok (.ifCond .lt 16, 3) := by decide +kernel
theorem dX7_value_13 : decode cX7_value 13 = .ok (.iload 4, 2) := by decide +kernel
theorem dX7_value_15 : decode cX7_value 15 = .ok (.ifCond .lt 11, 3) := by decide +kernel
theorem dX7_value_18 : decode cX7_value 18 = .ok (.aload_n 0, 1) := by decide +kernel
theorem dX7_value_19 : decode cX7_value 19 = .ok (.iload_n 3, 1) := by decide +kernel
theorem dX7_value_20 : decode cX7_value 20 = .ok (.invokevirtual 144, 3) := by decide +kernel
theorem dX7_value_23 : decode cX7_value 23 = .ok (.ifCond .ne 7, 3) := by decide +kernel
theorem dX7_value_26 : decode cX7_value 26 = .ok (.ldc2_w 196, 3) := by decide +kernel
theorem dX7_value_29 : decode cX7_value 29 = .ok (.lreturn, 1) := by decide +kernel
theorem dX7_value_30 : decode cX7_value 30 = .ok (.aload_n 0, 1) := by decide +kernel
theorem dX7_value_31 : decode cX7_value 31 = .ok (.iload 5, 2) := by decide +kernel
theorem dX7_value_33 : decode cX7_value 33 = .ok (.iload_n 2, 1) := by decide +kernel
theorem dX7_value_34 : decode cX7_value 34 = .ok (.invokevirtual 168, 3) := by decide +kernel
theorem dX7_value_37 : decode cX7_value 37 = .ok (.istore 6, 2) := by decide +kernel
theorem dX7_value_39 : decode cX7_value 39 = .ok (.aload_n 0, 1) := by decide +kernel
theorem dX7_value_40 : decode cX7_value 40 = .ok (.iload 5, 2) := by decide +kernel
theorem dX7_value_42 : decode cX7_value 42 = .ok (.aload_n 0, 1) := by decide +kernel
theorem dX7_value_43 : decode cX7_value 43 = .ok (.getfield 49, 3) := by decide +kernel
theorem dX7_value_46 : decode cX7_value 46 = .ok (.iconst 4, 1) := by decide +kernel
theorem dX7_value_47 : decode cX7_value 47 = .ok (.iload 5, 2) := by decide +kernel
theorem dX7_value_49 : decode cX7_value 49 = .ok (.imul, 1) := by decide +kernel
theorem dX7_value_50 : decode cX7_value 50 = .ok (.iload 6, 2) := by decide +kernel
theorem dX7_value_52 : decode cX7_value 52 = .ok (.iadd, 1) := by decide +kernel
theorem dX7_value_53 : decode cX7_value 53 = .ok (.iaload, 1) := by decide +kernel
theorem dX7_value_54 : decode cX7_value 54 = .ok (.iconst 1, 1) := by decide +kernel
theorem dX7_value_55 : decode cX7_value 55 = .ok (.iadd, 1) := by decide +kernel
theorem dX7_value_56 : decode cX7_value 56 = .ok (.iload_n 3, 1) := by decide +kernel
theorem dX7_value_57 : decode cX7_value 57 = .ok (.invokevirtual 198, 3) := by decide +kernel
theorem dX7_value_60 : decode cX7_value 60 = .ok (.istore 7, 2) := by decide +kernel
theorem dX7_value_62 : decode cX7_value 62 = .ok (.iload 7, 2) := by decide +kernel
theorem dX7_value_64 : decode cX7_value 64 = .ok (.ifCond .ge 35, 3) := by decide +kernel
theorem dX7_value_67 : decode cX7_value 67 = .ok (.aload_n 0, 1) := by decide +kernel
theorem dX7_value_68 : decode cX7_value 68 = .ok (.iload_n 2, 1) := by decide +kernel
theorem dX7_value_69 : decode cX7_value 69 = .ok (.invokevirtual 162, 3) := by decide +kernel
theorem dX7_value_72 : decode cX7_value 72 = .ok (.istore 5, 2) := by decide +kernel
theorem dX7_value_74 : decode cX7_value 74 = .ok (.iload 5, 2) := by decide +kernel
theorem dX7_value_76 : decode cX7_value 76 = .ok (.ifCond .ge 7, 3) := by decide +kernel
theorem dX7_value_79 : decode cX7_value 79 = .ok (.iconst (-1), 1) := by decide +kernel
theorem dX7_value_80 : decode cX7_value 80 = .ok (.goto 17, 3) := by decide +kernel
theorem dX7_value_83 : decode cX7_value 83 = .ok (.aload_n 0, 1) := by decide +kernel
theorem dX7_value_84 : decode cX7_value 84 = .ok (.iload 5, 2) := by decide +kernel
theorem dX7_value_86 : decode cX7_value 86 = .ok (.aload_n 0, 1) := by decide +kernel
theorem dX7_value_87 : decode cX7_value 87 = .ok (.getfield 52, 3) := by decide +kernel
theorem dX7_value_90 : decode cX7_value 90 = .ok (.iload 5, 2) := by decide +kernel
theorem dX7_value_92 : decode cX7_value 92 = .ok (.iaload, 1) := by decide +kernel
theorem dX7_value_93 : decode cX7_value 93 = .ok (.iload_n 3, 1) := by decide +kernel
theorem dX7_value_94 : decode cX7_value 94 = .ok (.invokevirtual 198, 3) := by decide +kernel
theorem dX7_value_97 : decode cX7_value 97 = .ok (.istore 7, 2) := by decide +kernel
theorem dX7_value_99 : decode cX7_value 99 = .ok (.iload 4, 2) := by decide +kernel
theorem dX7_value_101 : decode cX7_value 101 = .ok (.istore 8, 2) := by decide +kernel
theorem dX7_value_103 : decode cX7_value 103 = .ok (.iconst 0, 1) := by decide +kernel
theorem dX7_value_104 : decode cX7_value 104 = .ok (.istore 9, 2) := by decide +kernel
theorem dX7_value_106 : decode cX7_value 106 = .ok (.iload 9, 2) := by decide +kernel
theorem dX7_value_108 : decode cX7_value 108 = .ok (.bipush 11, 2) := by decide +kernel
theorem dX7_value_110 : decode cX7_value 110 = .ok (.if_icmp .ge 39, 3) := by decide +kernel
theorem dX7_value_113 : decode cX7_value 113 = .ok (.iload 8, 2) := by decide +kernel
theorem dX7_value_115 : decode cX7_value 115 = .ok (.ifCond .eq 34, 3) := by decide +kernel
theorem dX7_value_118 : decode cX7_value 118 = .ok (.iload 7, 2) := by decide +kernel
theorem dX7_value_120 : decode cX7_value 120 = .ok (.ifCond .lt 29, 3) := by decide +kernel
theorem dX7_value_123 : decode cX7_value 123 = .ok (.aload_n 0, 1) := by decide +kernel
theorem dX7_value_124 : decode cX7_value 124 = .ok (.iload 7, 2) := by decide +kernel
theorem dX7_value_126 : decode cX7_value 126 = .ok (.iload 8, 2) := by decide +kernel
theorem dX7_value_128 : decode cX7_value 128 = .ok (.bipush 8, 2) := by decide +kernel
theorem dX7_value_130 : decode cX7_value 130 = .ok (.irem, 1) := by decide +kernel
theorem dX7_value_131 : decode cX7_value 131 = .ok (.invokevirtual 201, 3) := by decide +kernel
theorem dX7_value_134 : decode cX7_value 134 = .ok (.istore 7, 2) := by decide +kernel
theorem dX7_value_136 : decode cX7_value 136 = .ok (.iload 8, 2) := by decide +kernel
theorem dX7_value_138 : decode cX7_value 138 = .ok (.bipush 8, 2) := by decide +kernel
theorem dX7_value_140 : decode cX7_value 140 = .ok (.idiv, 1) := by decide +kernel
theorem dX7_value_141 : decode cX7_value 141 = .ok (.istore 8, 2) := by decide +kernel
theorem dX7_value_143 : decode cX7_value 143 = .ok (.iinc 9 1, 3) := by decide +kernel
theorem dX7_value_146 : decode cX7_value 146 = .ok (.goto (-40), 3) := by decide +kernel
theorem dX7_value_149 : decode cX7_value 149 = .ok (.iload 7, 2) := by decide +kernel
theorem dX7_value_151 : decode cX7_value 151 = .ok (.ifCond .ge 9, 3) := by decide +kernel
theorem dX7_value_154 : decode cX7_value 154 = .ok (.ldc2_w 196, 3) := by decide +kernel
theorem dX7_value_157 : decode cX7_value 157 = .ok (.goto 11, 3) := by decide +kernel
theorem dX7_value_160 : decode cX7_value 160 = .ok (.aload_n 0, 1) := by decide +kernel
theorem dX7_value_161 : decode cX7_value 161 = .ok (.iload 5, 2) := by decide +kernel
theorem dX7_value_163 : decode cX7_value 163 = .ok (.iload 7, 2) := by decide +kernel
theorem dX7_value_165 : decode cX7_value 165 = .ok (.invokevirtual 204, 3) := by decide +kernel
theorem dX7_value_168 : decode cX7_value 168 = .ok (.lreturn, 1) := by decide +kernel
end
section
/-- a loop's predicate: at most n rounds -/
def fx {α : Type} (Φ : (α → Prop) → α → Prop) : Nat → α → Prop
  | 0, _ => False
  | n + 1, z => Φ (fx Φ n) z
theorem fx_lp {α : Type} (Φ : (α → Prop) → α → Prop) (I : α → Prop) (μ : α → Nat) (hs : ∀ (K : α → Prop) (z : α), I z → (∀ y, I y → μ y < μ z → K y) → Φ K z) : ∀ (n : Nat) (z : α), I z → μ z < n → fx Φ n z := by
  intro n
  induction n with
  | zero => intro z _ h; exact absurd h (Nat.not_lt_zero _)
  | succ n ih =>
    intro z hz hn
    exact hs (fx Φ n) z hz (fun y hy hm => ih y hy (by omega))
theorem fx_ex {α : Type} (Φ : (α → Prop) → α → Prop) (I : α → Prop) (μ : α → Nat) (hs : ∀ (K : α → Prop) (z : α), I z → (∀ y, I y → μ y < μ z → K y) → Φ K z) (z : α) (hz : I z) : ∃ n, fx Φ n z := ⟨μ z + 1, fx_lp Φ I μ hs _ z hz (Nat.lt_succ_self _)⟩
/-- an int that is a boolean -/
def zb (v : Int32) : Prop := narrow .boolean (.int v) = .int v
theorem va_freeAll {A0 : Nat → Prop} {ws : va_W} {H0 H : Heap} {locs : List Loc} (hD : va_D A0 ws) (hS : va_S A0 H0 H locs) (hA : ∀ q, H0.size ≤ q → A0 q) : ∀ q, va_A ws H.size q → A0 q := by
  intro q hq
  rcases hq with ⟨k, e, hk⟩ | hq
  · exact hD.2 k (q, e) hk
  · exact hA q (Nat.le_trans hS.1 hq)
/-- the reference: int fields by slot, arrays by slot -/
abbrev rS : Type := (Nat → Int32) × (Nat → Nat → Int32)
def rI (σ : rS) (k : Nat) (x : Int32) : rS := (va_up σ.1 k x, σ.2)
def rA (σ : rS) (k : Nat) (i x : Int32) : rS := (σ.1, va_up σ.2 k (upd (σ.2 k) i.toNatClampNeg x))
def rF (a : Nat → Nat) (σ : rS) : List Value := [.ref (a 0), .int (σ.1 1), .ref (a 2), .int (σ.1 3), .ref (a 4), .int (σ.1 5), .ref (a 6), .ref (a 7), .ref (a 8), .ref (a 9), .ref (a 10), .ref (a 11), .ref (a 12), .ref (a 13), .ref (a 14), .ref (a 15), .ref (a 16), .ref (a 17), .int (σ.1 18), .int (σ.1 19), .int (σ.1 20), .int (σ.1 21), .int (σ.1 22), .int (σ.1 23), .int (σ.1 24), .ref (a 25), .ref (a 26), .ref (a 27)]
def rCells (h : Nat) (a : Nat → Nat) (cI cZ : ClassId) (σ : rS) : va_W := [(h, .inr (7, rF a σ)), (a 0, .inl (cI, 120, .inl (σ.2 0))), (a 2, .inl (cI, 1920, .inl (σ.2 2))), (a 4, .inl (cI, 192, .inl (σ.2 4))), (a 6, .inl (cI, 208, .inl (σ.2 6))), (a 7, .inl (cI, 208, .inl (σ.2 7))), (a 8, .inl (cI, 208, .inl (σ.2 8))), (a 9, .inl (cI, 16, .inl (σ.2 9))), (a 10, .inl (cI, 16, .inl (σ.2 10))), (a 11, .inl (cI, 16, .inl (σ.2 11))), (a 12, .inl (cI, 16, .inl (σ.2 12))), (a 13, .inl (cI, 16, .inl (σ.2 13))), (a 14, .inl (cI, 64, .inl (σ.2 14))), (a 15, .inl (cI, 16, .inl (σ.2 15))), (a 16, .inl (cI, 64, .inl (σ.2 16))), (a 17, .inl (cI, 16, .inl (σ.2 17))), (a 25, .inl (cI, 7, .inl (σ.2 25))), (a 26, .inl (cZ, 7, .inl (σ.2 26))), (a 27, .inl (cZ, 192, .inl (σ.2 27)))]
def rO (dC : Nat → ClassId) (dI : Nat → Nat → Nat) (h : Nat) (a : Nat → Nat) (cI cZ : ClassId) (A : Nat → Prop) (H0 : Heap) (σ : rS) (H : Heap) (locs : List Loc) : Prop := va_P (dC, dI) vwCl (rCells h a cI cZ σ) H ∧ va_D A (rCells h a cI cZ σ) ∧ va_S A H0 H locs
def rAt (dC : Nat → ClassId) (dI : Nat → Nat → Nat) (A : Nat → Prop) (h : Nat) (a : Nat → Nat) (cI cZ : ClassId) (σ : rS) (t : State) : Prop := va_P (dC, dI) vwCl (rCells h a cI cZ σ) t.heap ∧ va_K (dC, dI) vwCl [(cI, .int), (cZ, .boolean)] t ∧ va_D A (rCells h a cI cZ σ)
def rPc (dC : Nat → ClassId) (dI : Nat → Nat → Nat) (h : Nat) (a : Nat → Nat) (cI cZ : ClassId) (sz : Nat) (σ : rS) (av : List Value) : Array Value → State → Prop := va_Pc av (fun U => U.heap.size = sz ∧ va_P (dC, dI) vwCl (rCells h a cI cZ σ) U.heap ∧ va_K (dC, dI) vwCl [(cI, .int), (cZ, .boolean)] U ∧ va_D (fun _ => True) (rCells h a cI cZ σ))
section
variable {p : Program} {l : Launch} {e : Env} {R : Room} {s : State} {m : MethodId} {args : Array Value} {below : List Frame} {meth : Method} {c : Code}
variable {dC : Nat → ClassId} {dI : Nat → Nat → Nat} {h : Nat} {a : Nat → Nat} {cI cZ : ClassId} {A : Nat → Prop}
variable {H : Heap} {locs : List Loc} {cells slots : Nat} {QF : State → Prop} {cc : ByteArray} {nL pc : Nat} {ls : Array Slot} {rest : List Value} {Ts : List Cond} {cw : Cond} {H0 : Heap} {σ : rS}
theorem rO_end {t : State} (hO : rO dC dI h a cI cZ A H0 σ H locs) (hK : va_K (dC, dI) vwCl [(cI, .int), (cZ, .boolean)] s) (ht : t.heap = H) (hW : s.WarmedH t.vm) : rAt dC dI A h a cI cZ σ t := ⟨by rw [ht]; exact hO.1, va_K.moved hW.alike hK, hO.2.1⟩
theorem rPc_blind {sz : Nat} {av : List Value} : FrameBlind (rPc dC dI h a cI cZ sz σ av) := fun v U g mk q => by
  obtain ⟨q0, q1, qP, qK, qD⟩ := q
  exact ⟨q0, q1, qP, va_K.moved (u := U) (U := U.calling g mk v) (Vm.Alike.refl U.vm) qK, qD⟩
theorem rPc_pre {av : List Value} (hK : va_K (dC, dI) vwCl [(cI, .int), (cZ, .boolean)] s) (hO : rO dC dI h a cI cZ A H0 σ H locs) : ∀ U : State, U.heap = H → s.WarmedH U.vm → rPc dC dI h a cI cZ H.size σ av av.toArray U := fun U hU hW => ⟨rfl, by rw [hU], by rw [hU]; exact hO.1, va_K.moved hW.alike hK, hO.2.1.weaken (fun _ _ _ _ => trivial)⟩
set_option maxRecDepth 100000 in
theorem rf_buffer (X : CallFix p m c cc nL s args (cw :: wG) RX7) (hK : va_K (dC, dI) vwCl [(cI, .int), (cZ, .boolean)] s) (hO : rO dC dI h a cI cZ A H0 σ H locs) (hdg : decode cc pc = .ok (.getfield 7, 3)) (kk : W p l e R s m args below meth c H locs cells slots QF (F0 m (pc + 3) ls (.ref (a 0) :: rest))) : W p l e R s m args below meth c H locs cells slots QF (F0 m pc ls (.ref h :: rest)) :=
  va_get (D := (dC, dI)) (ci := 7) (v := .ref (a 0)) (C := RX7) (T := TX7) (N := 28) X.1 X.2.1 X.2.2.2.2 (fun w h => List.mem_cons_of_mem _ (wlX7 w h)) X.2.2.2.1 hK hO.1 0 rfl rfl 0 (by decide) (X.2.2.2.2 _ (List.mem_cons_of_mem _ fX7_buffer)) (fun _ h9 => h9) rfl hdg kk
set_option maxRecDepth 100000 in
theorem ra_buffer (hx : p.tables.exec = Jvm.exec) (hb : c.code = cc) (hK : va_K (dC, dI) vwCl [(cI, .int), (cZ, .boolean)] s) (hO : rO dC dI h a cI cZ A H0 σ H locs) {i : Int32} (hi : vp_in i 120) (hdg : decode cc pc = .ok (.iaload, 1)) (kk : W p l e R s m args below meth c H locs cells slots QF (F0 m (pc + 1) ls (.int (σ.2 0 i.toNatClampNeg) :: rest))) : W p l e R s m args below meth c H locs cells slots QF (F0 m pc ls (.int i :: .ref (a 0) :: rest)) :=
  va_iald hx hb hK hO.1 1 0 rfl rfl hi hdg kk
set_option maxRecDepth 100000 in
theorem rs_buffer (hx : p.tables.exec = Jvm.exec) (hb : c.code = cc) (hK : va_K (dC, dI) vwCl [(cI, .int), (cZ, .boolean)] s) (hO : rO dC dI h a cI cZ A H0 σ H locs) {i x : Int32} (hi : vp_in i 120) (hdg : decode cc pc = .ok (.iastore, 1)) (kk : ∀ (H1 : Heap) (locs1 : List Loc), rO dC dI h a cI cZ A H0 (rA σ 0 i x) H1 locs1 → W p l e R s m args below meth c H1 locs1 cells slots QF (F0 m (pc + 1) ls rest)) : W p l e R s m args below meth c H locs cells slots QF (F0 m pc ls (.int x :: .int i :: .ref (a 0) :: rest)) :=
  va_iast hx hb hK hO.1 hO.2.1 hO.2.2 1 0 rfl rfl hi hdg (fun H1 locs1 hP hD hS => kk H1 locs1 ⟨hP, hD, hS⟩)
set_option maxRecDepth 100000 in
theorem rf_held (X : CallFix p m c cc nL s args (cw :: wG) RX7) (hK : va_K (dC, dI) vwCl [(cI, .int), (cZ, .boolean)] s) (hO : rO dC dI h a cI cZ A H0 σ H locs) (hdg : decode cc pc = .ok (.getfield 65, 3)) (kk : W p l e R s m args below meth c H locs cells slots QF (F0 m (pc + 3) ls (.int (σ.1 1) :: rest))) : W p l e R s m args below meth c H locs cells slots QF (F0 m pc ls (.ref h :: rest)) :=
  va_get (D := (dC, dI)) (ci := 7) (v := .int (σ.1 1)) (C := RX7) (T := TX7) (N := 28) X.1 X.2.1 X.2.2.2.2 (fun w h => List.mem_cons_of_mem _ (wlX7 w h)) X.2.2.2.1 hK hO.1 0 rfl rfl 1 (by decide) (X.2.2.2.2 _ (List.mem_cons_of_mem _ fX7_held)) (fun _ h9 => h9) rfl hdg kk
set_option maxRecDepth 100000 in
theorem rp_held (X : CallFix p m c cc nL s args (cw :: wG) RX7) (hK : va_K (dC, dI) vwCl [(cI, .int), (cZ, .boolean)] s) (hO : rO dC dI h a cI cZ A H0 σ H locs) {x : Int32} (hdg : decode cc pc = .ok (.putfield 65, 3)) (kk : ∀ (H1 : Heap) (locs1 : List Loc), rO dC dI h a cI cZ A H0 (rI σ 1 x) H1 locs1 → W p l e R s m args below meth c H1 locs1 cells slots QF (F0 m (pc + 3) ls rest)) : W p l e R s m args below meth c H locs cells slots QF (F0 m pc ls (.int x :: .ref h :: rest)) :=
  va_put (D := (dC, dI)) (ci := 7) (v := .int x) (ty := .int) (C := RX7) (T := TX7) (N := 28) X.1 X.2.1 X.2.2.2.2 (fun w h => List.mem_cons_of_mem _ (wlX7 w h)) tyX7 tyX7_ok nmX7 X.2.2.2.1 hK hO.1 hO.2.1 hO.2.2 0 rfl rfl 1 (by decide) (X.2.2.2.2 _ (List.mem_cons_of_mem _ fX7_held)) (fun _ h9 => h9) rfl (by decide +kernel) rfl rfl (Nat.le_of_ble_eq_true rfl) hdg (fun H1 locs1 hP hD hS => kk H1 locs1 ⟨hP, hD, hS⟩)
set_option maxRecDepth 100000 in
theorem rf_bytes (X : CallFix p m c cc nL s args (cw :: wG) RX7) (hK : va_K (dC, dI) vwCl [(cI, .int), (cZ, .boolean)] s) (hO : rO dC dI h a cI cZ A H0 σ H locs) (hdg : decode cc pc = .ok (.getfield 13, 3)) (kk : W p l e R s m args below meth c H locs cells slots QF (F0 m (pc + 3) ls (.ref (a 2) :: rest))) : W p l e R s m args below meth c H locs cells slots QF (F0 m pc ls (.ref h :: rest)) :=
  va_get (D := (dC, dI)) (ci := 7) (v := .ref (a 2)) (C := RX7) (T := TX7) (N := 28) X.1 X.2.1 X.2.2.2.2 (fun w h => List.mem_cons_of_mem _ (wlX7 w h)) X.2.2.2.1 hK hO.1 0 rfl rfl 2 (by decide) (X.2.2.2.2 _ (List.mem_cons_of_mem _ fX7_bytes)) (fun _ h9 => h9) rfl hdg kk
set_option maxRecDepth 100000 in
theorem ra_bytes (hx : p.tables.exec = Jvm.exec) (hb : c.code = cc) (hK : va_K (dC, dI) vwCl [(cI, .int), (cZ, .boolean)] s) (hO : rO dC dI h a cI cZ A H0 σ H locs) {i : Int32} (hi : vp_in i 1920) (hdg : decode cc pc = .ok (.iaload, 1)) (kk : W p l e R s m args below meth c H locs cells slots QF (F0 m (pc + 1) ls (.int (σ.2 2 i.toNatClampNeg) :: rest))) : W p l e R s m args below meth c H locs cells slots QF (F0 m pc ls (.int i :: .ref (a 2) :: rest)) :=
  va_iald hx hb hK hO.1 2 0 rfl rfl hi hdg kk
set_option maxRecDepth 100000 in
theorem rs_bytes (hx : p.tables.exec = Jvm.exec) (hb : c.code = cc) (hK : va_K (dC, dI) vwCl [(cI, .int), (cZ, .boolean)] s) (hO : rO dC dI h a cI cZ A H0 σ H locs) {i x : Int32} (hi : vp_in i 1920) (hdg : decode cc pc = .ok (.iastore, 1)) (kk : ∀ (H1 : Heap) (locs1 : List Loc), rO dC dI h a cI cZ A H0 (rA σ 2 i x) H1 locs1 → W p l e R s m args below meth c H1 locs1 cells slots QF (F0 m (pc + 1) ls rest)) : W p l e R s m args below meth c H locs cells slots QF (F0 m pc ls (.int x :: .int i :: .ref (a 2) :: rest)) :=
  va_iast hx hb hK hO.1 hO.2.1 hO.2.2 2 0 rfl rfl hi hdg (fun H1 locs1 hP hD hS => kk H1 locs1 ⟨hP, hD, hS⟩)
set_option maxRecDepth 100000 in
theorem rf_classes (X : CallFix p m c cc nL s args (cw :: wG) RX7) (hK : va_K (dC, dI) vwCl [(cI, .int), (cZ, .boolean)] s) (hO : rO dC dI h a cI cZ A H0 σ H locs) (hdg : decode cc pc = .ok (.getfield 116, 3)) (kk : W p l e R s m args below meth c H locs cells slots QF (F0 m (pc + 3) ls (.int (σ.1 3) :: rest))) : W p l e R s m args below meth c H locs cells slots QF (F0 m pc ls (.ref h :: rest)) :=
  va_get (D := (dC, dI)) (ci := 7) (v := .int (σ.1 3)) (C := RX7) (T := TX7) (N := 28) X.1 X.2.1 X.2.2.2.2 (fun w h => List.mem_cons_of_mem _ (wlX7 w h)) X.2.2.2.1 hK hO.1 0 rfl rfl 3 (by decide) (X.2.2.2.2 _ (List.mem_cons_of_mem _ fX7_classes)) (fun _ h9 => h9) rfl hdg kk
set_option maxRecDepth 100000 in
theorem rp_classes (X : CallFix p m c cc nL s args (cw :: wG) RX7) (hK : va_K (dC, dI) vwCl [(cI, .int), (cZ, .boolean)] s) (hO : rO dC dI h a cI cZ A H0 σ H locs) {x : Int32} (hdg : decode cc pc = .ok (.putfield 116, 3)) (kk : ∀ (H1 : Heap) (locs1 : List Loc), rO dC dI h a cI cZ A H0 (rI σ 3 x) H1 locs1 → W p l e R s m args below meth c H1 locs1 cells slots QF (F0 m (pc + 3) ls rest)) : W p l e R s m args below meth c H locs cells slots QF (F0 m pc ls (.int x :: .ref h :: rest)) :=
  va_put (D := (dC, dI)) (ci := 7) (v := .int x) (ty := .int) (C := RX7) (T := TX7) (N := 28) X.1 X.2.1 X.2.2.2.2 (fun w h => List.mem_cons_of_mem _ (wlX7 w h)) tyX7 tyX7_ok nmX7 X.2.2.2.1 hK hO.1 hO.2.1 hO.2.2 0 rfl rfl 3 (by decide) (X.2.2.2.2 _ (List.mem_cons_of_mem _ fX7_classes)) (fun _ h9 => h9) rfl (by decide +kernel) rfl rfl (Nat.le_of_ble_eq_true rfl) hdg (fun H1 locs1 hP hD hS => kk H1 locs1 ⟨hP, hD, hS⟩)
set_option maxRecDepth 100000 in
theorem rf_textAt (X : CallFix p m c cc nL s args (cw :: wG) RX7) (hK : va_K (dC, dI) vwCl [(cI, .int), (cZ, .boolean)] s) (hO : rO dC dI h a cI cZ A H0 σ H locs) (hdg : decode cc pc = .ok (.getfield 16, 3)) (kk : W p l e R s m args below meth c H locs cells slots QF (F0 m (pc + 3) ls (.ref (a 4) :: rest))) : W p l e R s m args below meth c H locs cells slots QF (F0 m pc ls (.ref h :: rest)) :=
  va_get (D := (dC, dI)) (ci := 7) (v := .ref (a 4)) (C := RX7) (T := TX7) (N := 28) X.1 X.2.1 X.2.2.2.2 (fun w h => List.mem_cons_of_mem _ (wlX7 w h)) X.2.2.2.1 hK hO.1 0 rfl rfl 4 (by decide) (X.2.2.2.2 _ (List.mem_cons_of_mem _ fX7_textAt)) (fun _ h9 => h9) rfl hdg kk
set_option maxRecDepth 100000 in
theorem ra_textAt (hx : p.tables.exec = Jvm.exec) (hb : c.code = cc) (hK : va_K (dC, dI) vwCl [(cI, .int), (cZ, .boolean)] s) (hO : rO dC dI h a cI cZ A H0 σ H locs) {i : Int32} (hi : vp_in i 192) (hdg : decode cc pc = .ok (.iaload, 1)) (kk : W p l e R s m args below meth c H locs cells slots QF (F0 m (pc + 1) ls (.int (σ.2 4 i.toNatClampNeg) :: rest))) : W p l e R s m args below meth c H locs cells slots QF (F0 m pc ls (.int i :: .ref (a 4) :: rest)) :=
  va_iald hx hb hK hO.1 3 0 rfl rfl hi hdg kk
set_option maxRecDepth 100000 in
theorem rs_textAt (hx : p.tables.exec = Jvm.exec) (hb : c.code = cc) (hK : va_K (dC, dI) vwCl [(cI, .int), (cZ, .boolean)] s) (hO : rO dC dI h a cI cZ A H0 σ H locs) {i x : Int32} (hi : vp_in i 192) (hdg : decode cc pc = .ok (.iastore, 1)) (kk : ∀ (H1 : Heap) (locs1 : List Loc), rO dC dI h a cI cZ A H0 (rA σ 4 i x) H1 locs1 → W p l e R s m args below meth c H1 locs1 cells slots QF (F0 m (pc + 1) ls rest)) : W p l e R s m args below meth c H locs cells slots QF (F0 m pc ls (.int x :: .int i :: .ref (a 4) :: rest)) :=
  va_iast hx hb hK hO.1 hO.2.1 hO.2.2 3 0 rfl rfl hi hdg (fun H1 locs1 hP hD hS => kk H1 locs1 ⟨hP, hD, hS⟩)
set_option maxRecDepth 100000 in
theorem rf_texts (X : CallFix p m c cc nL s args (cw :: wG) RX7) (hK : va_K (dC, dI) vwCl [(cI, .int), (cZ, .boolean)] s) (hO : rO dC dI h a cI cZ A H0 σ H locs) (hdg : decode cc pc = .ok (.getfield 135, 3)) (kk : W p l e R s m args below meth c H locs cells slots QF (F0 m (pc + 3) ls (.int (σ.1 5) :: rest))) : W p l e R s m args below meth c H locs cells slots QF (F0 m pc ls (.ref h :: rest)) :=
  va_get (D := (dC, dI)) (ci := 7) (v := .int (σ.1 5)) (C := RX7) (T := TX7) (N := 28) X.1 X.2.1 X.2.2.2.2 (fun w h => List.mem_cons_of_mem _ (wlX7 w h)) X.2.2.2.1 hK hO.1 0 rfl rfl 5 (by decide) (X.2.2.2.2 _ (List.mem_cons_of_mem _ fX7_texts)) (fun _ h9 => h9) rfl hdg kk
set_option maxRecDepth 100000 in
theorem rp_texts (X : CallFix p m c cc nL s args (cw :: wG) RX7) (hK : va_K (dC, dI) vwCl [(cI, .int), (cZ, .boolean)] s) (hO : rO dC dI h a cI cZ A H0 σ H locs) {x : Int32} (hdg : decode cc pc = .ok (.putfield 135, 3)) (kk : ∀ (H1 : Heap) (locs1 : List Loc), rO dC dI h a cI cZ A H0 (rI σ 5 x) H1 locs1 → W p l e R s m args below meth c H1 locs1 cells slots QF (F0 m (pc + 3) ls rest)) : W p l e R s m args below meth c H locs cells slots QF (F0 m pc ls (.int x :: .ref h :: rest)) :=
  va_put (D := (dC, dI)) (ci := 7) (v := .int x) (ty := .int) (C := RX7) (T := TX7) (N := 28) X.1 X.2.1 X.2.2.2.2 (fun w h => List.mem_cons_of_mem _ (wlX7 w h)) tyX7 tyX7_ok nmX7 X.2.2.2.1 hK hO.1 hO.2.1 hO.2.2 0 rfl rfl 5 (by decide) (X.2.2.2.2 _ (List.mem_cons_of_mem _ fX7_texts)) (fun _ h9 => h9) rfl (by decide +kernel) rfl rfl (Nat.le_of_ble_eq_true rfl) hdg (fun H1 locs1 hP hD hS => kk H1 locs1 ⟨hP, hD, hS⟩)
set_option maxRecDepth 100000 in
theorem rf_sort (X : CallFix p m c cc nL s args (cw :: wG) RX7) (hK : va_K (dC, dI) vwCl [(cI, .int), (cZ, .boolean)] s) (hO : rO dC dI h a cI cZ A H0 σ H locs) (hdg : decode cc pc = .ok (.getfield 19, 3)) (kk : W p l e R s m args below meth c H locs cells slots QF (F0 m (pc + 3) ls (.ref (a 6) :: rest))) : W p l e R s m args below meth c H locs cells slots QF (F0 m pc ls (.ref h :: rest)) :=
  va_get (D := (dC, dI)) (ci := 7) (v := .ref (a 6)) (C := RX7) (T := TX7) (N := 28) X.1 X.2.1 X.2.2.2.2 (fun w h => List.mem_cons_of_mem _ (wlX7 w h)) X.2.2.2.1 hK hO.1 0 rfl rfl 6 (by decide) (X.2.2.2.2 _ (List.mem_cons_of_mem _ fX7_sort)) (fun _ h9 => h9) rfl hdg kk
set_option maxRecDepth 100000 in
theorem ra_sort (hx : p.tables.exec = Jvm.exec) (hb : c.code = cc) (hK : va_K (dC, dI) vwCl [(cI, .int), (cZ, .boolean)] s) (hO : rO dC dI h a cI cZ A H0 σ H locs) {i : Int32} (hi : vp_in i 208) (hdg : decode cc pc = .ok (.iaload, 1)) (kk : W p l e R s m args below meth c H locs cells slots QF (F0 m (pc + 1) ls (.int (σ.2 6 i.toNatClampNeg) :: rest))) : W p l e R s m args below meth c H locs cells slots QF (F0 m pc ls (.int i :: .ref (a 6) :: rest)) :=
  va_iald hx hb hK hO.1 4 0 rfl rfl hi hdg kk
set_option maxRecDepth 100000 in
theorem rs_sort (hx : p.tables.exec = Jvm.exec) (hb : c.code = cc) (hK : va_K (dC, dI) vwCl [(cI, .int), (cZ, .boolean)] s) (hO : rO dC dI h a cI cZ A H0 σ H locs) {i x : Int32} (hi : vp_in i 208) (hdg : decode cc pc = .ok (.iastore, 1)) (kk : ∀ (H1 : Heap) (locs1 : List Loc), rO dC dI h a cI cZ A H0 (rA σ 6 i x) H1 locs1 → W p l e R s m args below meth c H1 locs1 cells slots QF (F0 m (pc + 1) ls rest)) : W p l e R s m args below meth c H locs cells slots QF (F0 m pc ls (.int x :: .int i :: .ref (a 6) :: rest)) :=
  va_iast hx hb hK hO.1 hO.2.1 hO.2.2 4 0 rfl rfl hi hdg (fun H1 locs1 hP hD hS => kk H1 locs1 ⟨hP, hD, hS⟩)
set_option maxRecDepth 100000 in
theorem rf_place (X : CallFix p m c cc nL s args (cw :: wG) RX7) (hK : va_K (dC, dI) vwCl [(cI, .int), (cZ, .boolean)] s) (hO : rO dC dI h a cI cZ A H0 σ H locs) (hdg : decode cc pc = .ok (.getfield 22, 3)) (kk : W p l e R s m args below meth c H locs cells slots QF (F0 m (pc + 3) ls (.ref (a 7) :: rest))) : W p l e R s m args below meth c H locs cells slots QF (F0 m pc ls (.ref h :: rest)) :=
  va_get (D := (dC, dI)) (ci := 7) (v := .ref (a 7)) (C := RX7) (T := TX7) (N := 28) X.1 X.2.1 X.2.2.2.2 (fun w h => List.mem_cons_of_mem _ (wlX7 w h)) X.2.2.2.1 hK hO.1 0 rfl rfl 7 (by decide) (X.2.2.2.2 _ (List.mem_cons_of_mem _ fX7_place)) (fun _ h9 => h9) rfl hdg kk
set_option maxRecDepth 100000 in
theorem ra_place (hx : p.tables.exec = Jvm.exec) (hb : c.code = cc) (hK : va_K (dC, dI) vwCl [(cI, .int), (cZ, .boolean)] s) (hO : rO dC dI h a cI cZ A H0 σ H locs) {i : Int32} (hi : vp_in i 208) (hdg : decode cc pc = .ok (.iaload, 1)) (kk : W p l e R s m args below meth c H locs cells slots QF (F0 m (pc + 1) ls (.int (σ.2 7 i.toNatClampNeg) :: rest))) : W p l e R s m args below meth c H locs cells slots QF (F0 m pc ls (.int i :: .ref (a 7) :: rest)) :=
  va_iald hx hb hK hO.1 5 0 rfl rfl hi hdg kk
set_option maxRecDepth 100000 in
theorem rs_place (hx : p.tables.exec = Jvm.exec) (hb : c.code = cc) (hK : va_K (dC, dI) vwCl [(cI, .int), (cZ, .boolean)] s) (hO : rO dC dI h a cI cZ A H0 σ H locs) {i x : Int32} (hi : vp_in i 208) (hdg : decode cc pc = .ok (.iastore, 1)) (kk : ∀ (H1 : Heap) (locs1 : List Loc), rO dC dI h a cI cZ A H0 (rA σ 7 i x) H1 locs1 → W p l e R s m args below meth c H1 locs1 cells slots QF (F0 m (pc + 1) ls rest)) : W p l e R s m args below meth c H locs cells slots QF (F0 m pc ls (.int x :: .int i :: .ref (a 7) :: rest)) :=
  va_iast hx hb hK hO.1 hO.2.1 hO.2.2 5 0 rfl rfl hi hdg (fun H1 locs1 hP hD hS => kk H1 locs1 ⟨hP, hD, hS⟩)
set_option maxRecDepth 100000 in
theorem rf_text (X : CallFix p m c cc nL s args (cw :: wG) RX7) (hK : va_K (dC, dI) vwCl [(cI, .int), (cZ, .boolean)] s) (hO : rO dC dI h a cI cZ A H0 σ H locs) (hdg : decode cc pc = .ok (.getfield 25, 3)) (kk : W p l e R s m args below meth c H locs cells slots QF (F0 m (pc + 3) ls (.ref (a 8) :: rest))) : W p l e R s m args below meth c H locs cells slots QF (F0 m pc ls (.ref h :: rest)) :=
  va_get (D := (dC, dI)) (ci := 7) (v := .ref (a 8)) (C := RX7) (T := TX7) (N := 28) X.1 X.2.1 X.2.2.2.2 (fun w h => List.mem_cons_of_mem _ (wlX7 w h)) X.2.2.2.1 hK hO.1 0 rfl rfl 8 (by decide) (X.2.2.2.2 _ (List.mem_cons_of_mem _ fX7_text)) (fun _ h9 => h9) rfl hdg kk
set_option maxRecDepth 100000 in
theorem ra_text (hx : p.tables.exec = Jvm.exec) (hb : c.code = cc) (hK : va_K (dC, dI) vwCl [(cI, .int), (cZ, .boolean)] s) (hO : rO dC dI h a cI cZ A H0 σ H locs) {i : Int32} (hi : vp_in i 208) (hdg : decode cc pc = .ok (.iaload, 1)) (kk : W p l e R s m args below meth c H locs cells slots QF (F0 m (pc + 1) ls (.int (σ.2 8 i.toNatClampNeg) :: rest))) : W p l e R s m args below meth c H locs cells slots QF (F0 m pc ls (.int i :: .ref (a 8) :: rest)) :=
  va_iald hx hb hK hO.1 6 0 rfl rfl hi hdg kk
set_option maxRecDepth 100000 in
theorem rs_text (hx : p.tables.exec = Jvm.exec) (hb : c.code = cc) (hK : va_K (dC, dI) vwCl [(cI, .int), (cZ, .boolean)] s) (hO : rO dC dI h a cI cZ A H0 σ H locs) {i x : Int32} (hi : vp_in i 208) (hdg : decode cc pc = .ok (.iastore, 1)) (kk : ∀ (H1 : Heap) (locs1 : List Loc), rO dC dI h a cI cZ A H0 (rA σ 8 i x) H1 locs1 → W p l e R s m args below meth c H1 locs1 cells slots QF (F0 m (pc + 1) ls rest)) : W p l e R s m args below meth c H locs cells slots QF (F0 m pc ls (.int x :: .int i :: .ref (a 8) :: rest)) :=
  va_iast hx hb hK hO.1 hO.2.1 hO.2.2 6 0 rfl rfl hi hdg (fun H1 locs1 hP hD hS => kk H1 locs1 ⟨hP, hD, hS⟩)
set_option maxRecDepth 100000 in
theorem rf_flag (X : CallFix p m c cc nL s args (cw :: wG) RX7) (hK : va_K (dC, dI) vwCl [(cI, .int), (cZ, .boolean)] s) (hO : rO dC dI h a cI cZ A H0 σ H locs) (hdg : decode cc pc = .ok (.getfield 28, 3)) (kk : W p l e R s m args below meth c H locs cells slots QF (F0 m (pc + 3) ls (.ref (a 9) :: rest))) : W p l e R s m args below meth c H locs cells slots QF (F0 m pc ls (.ref h :: rest)) :=
  va_get (D := (dC, dI)) (ci := 7) (v := .ref (a 9)) (C := RX7) (T := TX7) (N := 28) X.1 X.2.1 X.2.2.2.2 (fun w h => List.mem_cons_of_mem _ (wlX7 w h)) X.2.2.2.1 hK hO.1 0 rfl rfl 9 (by decide) (X.2.2.2.2 _ (List.mem_cons_of_mem _ fX7_flag)) (fun _ h9 => h9) rfl hdg kk
set_option maxRecDepth 100000 in
theorem ra_flag (hx : p.tables.exec = Jvm.exec) (hb : c.code = cc) (hK : va_K (dC, dI) vwCl [(cI, .int), (cZ, .boolean)] s) (hO : rO dC dI h a cI cZ A H0 σ H locs) {i : Int32} (hi : vp_in i 16) (hdg : decode cc pc = .ok (.iaload, 1)) (kk : W p l e R s m args below meth c H locs cells slots QF (F0 m (pc + 1) ls (.int (σ.2 9 i.toNatClampNeg) :: rest))) : W p l e R s m args below meth c H locs cells slots QF (F0 m pc ls (.int i :: .ref (a 9) :: rest)) :=
  va_iald hx hb hK hO.1 7 0 rfl rfl hi hdg kk
set_option maxRecDepth 100000 in
theorem rs_flag (hx : p.tables.exec = Jvm.exec) (hb : c.code = cc) (hK : va_K (dC, dI) vwCl [(cI, .int), (cZ, .boolean)] s) (hO : rO dC dI h a cI cZ A H0 σ H locs) {i x : Int32} (hi : vp_in i 16) (hdg : decode cc pc = .ok (.iastore, 1)) (kk : ∀ (H1 : Heap) (locs1 : List Loc), rO dC dI h a cI cZ A H0 (rA σ 9 i x) H1 locs1 → W p l e R s m args below meth c H1 locs1 cells slots QF (F0 m (pc + 1) ls rest)) : W p l e R s m args below meth c H locs cells slots QF (F0 m pc ls (.int x :: .int i :: .ref (a 9) :: rest)) :=
  va_iast hx hb hK hO.1 hO.2.1 hO.2.2 7 0 rfl rfl hi hdg (fun H1 locs1 hP hD hS => kk H1 locs1 ⟨hP, hD, hS⟩)
set_option maxRecDepth 100000 in
theorem rf_self (X : CallFix p m c cc nL s args (cw :: wG) RX7) (hK : va_K (dC, dI) vwCl [(cI, .int), (cZ, .boolean)] s) (hO : rO dC dI h a cI cZ A H0 σ H locs) (hdg : decode cc pc = .ok (.getfield 31, 3)) (kk : W p l e R s m args below meth c H locs cells slots QF (F0 m (pc + 3) ls (.ref (a 10) :: rest))) : W p l e R s m args below meth c H locs cells slots QF (F0 m pc ls (.ref h :: rest)) :=
  va_get (D := (dC, dI)) (ci := 7) (v := .ref (a 10)) (C := RX7) (T := TX7) (N := 28) X.1 X.2.1 X.2.2.2.2 (fun w h => List.mem_cons_of_mem _ (wlX7 w h)) X.2.2.2.1 hK hO.1 0 rfl rfl 10 (by decide) (X.2.2.2.2 _ (List.mem_cons_of_mem _ fX7_self)) (fun _ h9 => h9) rfl hdg kk
set_option maxRecDepth 100000 in
theorem ra_self (hx : p.tables.exec = Jvm.exec) (hb : c.code = cc) (hK : va_K (dC, dI) vwCl [(cI, .int), (cZ, .boolean)] s) (hO : rO dC dI h a cI cZ A H0 σ H locs) {i : Int32} (hi : vp_in i 16) (hdg : decode cc pc = .ok (.iaload, 1)) (kk : W p l e R s m args below meth c H locs cells slots QF (F0 m (pc + 1) ls (.int (σ.2 10 i.toNatClampNeg) :: rest))) : W p l e R s m args below meth c H locs cells slots QF (F0 m pc ls (.int i :: .ref (a 10) :: rest)) :=
  va_iald hx hb hK hO.1 8 0 rfl rfl hi hdg kk
set_option maxRecDepth 100000 in
theorem rs_self (hx : p.tables.exec = Jvm.exec) (hb : c.code = cc) (hK : va_K (dC, dI) vwCl [(cI, .int), (cZ, .boolean)] s) (hO : rO dC dI h a cI cZ A H0 σ H locs) {i x : Int32} (hi : vp_in i 16) (hdg : decode cc pc = .ok (.iastore, 1)) (kk : ∀ (H1 : Heap) (locs1 : List Loc), rO dC dI h a cI cZ A H0 (rA σ 10 i x) H1 locs1 → W p l e R s m args below meth c H1 locs1 cells slots QF (F0 m (pc + 1) ls rest)) : W p l e R s m args below meth c H locs cells slots QF (F0 m pc ls (.int x :: .int i :: .ref (a 10) :: rest)) :=
  va_iast hx hb hK hO.1 hO.2.1 hO.2.2 8 0 rfl rfl hi hdg (fun H1 locs1 hP hD hS => kk H1 locs1 ⟨hP, hD, hS⟩)
set_option maxRecDepth 100000 in
theorem rf_above (X : CallFix p m c cc nL s args (cw :: wG) RX7) (hK : va_K (dC, dI) vwCl [(cI, .int), (cZ, .boolean)] s) (hO : rO dC dI h a cI cZ A H0 σ H locs) (hdg : decode cc pc = .ok (.getfield 34, 3)) (kk : W p l e R s m args below meth c H locs cells slots QF (F0 m (pc + 3) ls (.ref (a 11) :: rest))) : W p l e R s m args below meth c H locs cells slots QF (F0 m pc ls (.ref h :: rest)) :=
  va_get (D := (dC, dI)) (ci := 7) (v := .ref (a 11)) (C := RX7) (T := TX7) (N := 28) X.1 X.2.1 X.2.2.2.2 (fun w h => List.mem_cons_of_mem _ (wlX7 w h)) X.2.2.2.1 hK hO.1 0 rfl rfl 11 (by decide) (X.2.2.2.2 _ (List.mem_cons_of_mem _ fX7_above)) (fun _ h9 => h9) rfl hdg kk
set_option maxRecDepth 100000 in
theorem ra_above (hx : p.tables.exec = Jvm.exec) (hb : c.code = cc) (hK : va_K (dC, dI) vwCl [(cI, .int), (cZ, .boolean)] s) (hO : rO dC dI h a cI cZ A H0 σ H locs) {i : Int32} (hi : vp_in i 16) (hdg : decode cc pc = .ok (.iaload, 1)) (kk : W p l e R s m args below meth c H locs cells slots QF (F0 m (pc + 1) ls (.int (σ.2 11 i.toNatClampNeg) :: rest))) : W p l e R s m args below meth c H locs cells slots QF (F0 m pc ls (.int i :: .ref (a 11) :: rest)) :=
  va_iald hx hb hK hO.1 9 0 rfl rfl hi hdg kk
set_option maxRecDepth 100000 in
theorem rs_above (hx : p.tables.exec = Jvm.exec) (hb : c.code = cc) (hK : va_K (dC, dI) vwCl [(cI, .int), (cZ, .boolean)] s) (hO : rO dC dI h a cI cZ A H0 σ H locs) {i x : Int32} (hi : vp_in i 16) (hdg : decode cc pc = .ok (.iastore, 1)) (kk : ∀ (H1 : Heap) (locs1 : List Loc), rO dC dI h a cI cZ A H0 (rA σ 11 i x) H1 locs1 → W p l e R s m args below meth c H1 locs1 cells slots QF (F0 m (pc + 1) ls rest)) : W p l e R s m args below meth c H locs cells slots QF (F0 m pc ls (.int x :: .int i :: .ref (a 11) :: rest)) :=
  va_iast hx hb hK hO.1 hO.2.1 hO.2.2 9 0 rfl rfl hi hdg (fun H1 locs1 hP hD hS => kk H1 locs1 ⟨hP, hD, hS⟩)
set_option maxRecDepth 100000 in
theorem rf_box (X : CallFix p m c cc nL s args (cw :: wG) RX7) (hK : va_K (dC, dI) vwCl [(cI, .int), (cZ, .boolean)] s) (hO : rO dC dI h a cI cZ A H0 σ H locs) (hdg : decode cc pc = .ok (.getfield 37, 3)) (kk : W p l e R s m args below meth c H locs cells slots QF (F0 m (pc + 3) ls (.ref (a 12) :: rest))) : W p l e R s m args below meth c H locs cells slots QF (F0 m pc ls (.ref h :: rest)) :=
  va_get (D := (dC, dI)) (ci := 7) (v := .ref (a 12)) (C := RX7) (T := TX7) (N := 28) X.1 X.2.1 X.2.2.2.2 (fun w h => List.mem_cons_of_mem _ (wlX7 w h)) X.2.2.2.1 hK hO.1 0 rfl rfl 12 (by decide) (X.2.2.2.2 _ (List.mem_cons_of_mem _ fX7_box)) (fun _ h9 => h9) rfl hdg kk
set_option maxRecDepth 100000 in
theorem ra_box (hx : p.tables.exec = Jvm.exec) (hb : c.code = cc) (hK : va_K (dC, dI) vwCl [(cI, .int), (cZ, .boolean)] s) (hO : rO dC dI h a cI cZ A H0 σ H locs) {i : Int32} (hi : vp_in i 16) (hdg : decode cc pc = .ok (.iaload, 1)) (kk : W p l e R s m args below meth c H locs cells slots QF (F0 m (pc + 1) ls (.int (σ.2 12 i.toNatClampNeg) :: rest))) : W p l e R s m args below meth c H locs cells slots QF (F0 m pc ls (.int i :: .ref (a 12) :: rest)) :=
  va_iald hx hb hK hO.1 10 0 rfl rfl hi hdg kk
set_option maxRecDepth 100000 in
theorem rs_box (hx : p.tables.exec = Jvm.exec) (hb : c.code = cc) (hK : va_K (dC, dI) vwCl [(cI, .int), (cZ, .boolean)] s) (hO : rO dC dI h a cI cZ A H0 σ H locs) {i x : Int32} (hi : vp_in i 16) (hdg : decode cc pc = .ok (.iastore, 1)) (kk : ∀ (H1 : Heap) (locs1 : List Loc), rO dC dI h a cI cZ A H0 (rA σ 12 i x) H1 locs1 → W p l e R s m args below meth c H1 locs1 cells slots QF (F0 m (pc + 1) ls rest)) : W p l e R s m args below meth c H locs cells slots QF (F0 m pc ls (.int x :: .int i :: .ref (a 12) :: rest)) :=
  va_iast hx hb hK hO.1 hO.2.1 hO.2.2 10 0 rfl rfl hi hdg (fun H1 locs1 hP hD hS => kk H1 locs1 ⟨hP, hD, hS⟩)
set_option maxRecDepth 100000 in
theorem rf_faceCount (X : CallFix p m c cc nL s args (cw :: wG) RX7) (hK : va_K (dC, dI) vwCl [(cI, .int), (cZ, .boolean)] s) (hO : rO dC dI h a cI cZ A H0 σ H locs) (hdg : decode cc pc = .ok (.getfield 40, 3)) (kk : W p l e R s m args below meth c H locs cells slots QF (F0 m (pc + 3) ls (.ref (a 13) :: rest))) : W p l e R s m args below meth c H locs cells slots QF (F0 m pc ls (.ref h :: rest)) :=
  va_get (D := (dC, dI)) (ci := 7) (v := .ref (a 13)) (C := RX7) (T := TX7) (N := 28) X.1 X.2.1 X.2.2.2.2 (fun w h => List.mem_cons_of_mem _ (wlX7 w h)) X.2.2.2.1 hK hO.1 0 rfl rfl 13 (by decide) (X.2.2.2.2 _ (List.mem_cons_of_mem _ fX7_faceCount)) (fun _ h9 => h9) rfl hdg kk
set_option maxRecDepth 100000 in
theorem ra_faceCount (hx : p.tables.exec = Jvm.exec) (hb : c.code = cc) (hK : va_K (dC, dI) vwCl [(cI, .int), (cZ, .boolean)] s) (hO : rO dC dI h a cI cZ A H0 σ H locs) {i : Int32} (hi : vp_in i 16) (hdg : decode cc pc = .ok (.iaload, 1)) (kk : W p l e R s m args below meth c H locs cells slots QF (F0 m (pc + 1) ls (.int (σ.2 13 i.toNatClampNeg) :: rest))) : W p l e R s m args below meth c H locs cells slots QF (F0 m pc ls (.int i :: .ref (a 13) :: rest)) :=
  va_iald hx hb hK hO.1 11 0 rfl rfl hi hdg kk
set_option maxRecDepth 100000 in
theorem rs_faceCount (hx : p.tables.exec = Jvm.exec) (hb : c.code = cc) (hK : va_K (dC, dI) vwCl [(cI, .int), (cZ, .boolean)] s) (hO : rO dC dI h a cI cZ A H0 σ H locs) {i x : Int32} (hi : vp_in i 16) (hdg : decode cc pc = .ok (.iastore, 1)) (kk : ∀ (H1 : Heap) (locs1 : List Loc), rO dC dI h a cI cZ A H0 (rA σ 13 i x) H1 locs1 → W p l e R s m args below meth c H1 locs1 cells slots QF (F0 m (pc + 1) ls rest)) : W p l e R s m args below meth c H locs cells slots QF (F0 m pc ls (.int x :: .int i :: .ref (a 13) :: rest)) :=
  va_iast hx hb hK hO.1 hO.2.1 hO.2.2 11 0 rfl rfl hi hdg (fun H1 locs1 hP hD hS => kk H1 locs1 ⟨hP, hD, hS⟩)
set_option maxRecDepth 100000 in
theorem rf_face (X : CallFix p m c cc nL s args (cw :: wG) RX7) (hK : va_K (dC, dI) vwCl [(cI, .int), (cZ, .boolean)] s) (hO : rO dC dI h a cI cZ A H0 σ H locs) (hdg : decode cc pc = .ok (.getfield 43, 3)) (kk : W p l e R s m args below meth c H locs cells slots QF (F0 m (pc + 3) ls (.ref (a 14) :: rest))) : W p l e R s m args below meth c H locs cells slots QF (F0 m pc ls (.ref h :: rest)) :=
  va_get (D := (dC, dI)) (ci := 7) (v := .ref (a 14)) (C := RX7) (T := TX7) (N := 28) X.1 X.2.1 X.2.2.2.2 (fun w h => List.mem_cons_of_mem _ (wlX7 w h)) X.2.2.2.1 hK hO.1 0 rfl rfl 14 (by decide) (X.2.2.2.2 _ (List.mem_cons_of_mem _ fX7_face)) (fun _ h9 => h9) rfl hdg kk
set_option maxRecDepth 100000 in
theorem ra_face (hx : p.tables.exec = Jvm.exec) (hb : c.code = cc) (hK : va_K (dC, dI) vwCl [(cI, .int), (cZ, .boolean)] s) (hO : rO dC dI h a cI cZ A H0 σ H locs) {i : Int32} (hi : vp_in i 64) (hdg : decode cc pc = .ok (.iaload, 1)) (kk : W p l e R s m args below meth c H locs cells slots QF (F0 m (pc + 1) ls (.int (σ.2 14 i.toNatClampNeg) :: rest))) : W p l e R s m args below meth c H locs cells slots QF (F0 m pc ls (.int i :: .ref (a 14) :: rest)) :=
  va_iald hx hb hK hO.1 12 0 rfl rfl hi hdg kk
set_option maxRecDepth 100000 in
theorem rs_face (hx : p.tables.exec = Jvm.exec) (hb : c.code = cc) (hK : va_K (dC, dI) vwCl [(cI, .int), (cZ, .boolean)] s) (hO : rO dC dI h a cI cZ A H0 σ H locs) {i x : Int32} (hi : vp_in i 64) (hdg : decode cc pc = .ok (.iastore, 1)) (kk : ∀ (H1 : Heap) (locs1 : List Loc), rO dC dI h a cI cZ A H0 (rA σ 14 i x) H1 locs1 → W p l e R s m args below meth c H1 locs1 cells slots QF (F0 m (pc + 1) ls rest)) : W p l e R s m args below meth c H locs cells slots QF (F0 m pc ls (.int x :: .int i :: .ref (a 14) :: rest)) :=
  va_iast hx hb hK hO.1 hO.2.1 hO.2.2 12 0 rfl rfl hi hdg (fun H1 locs1 hP hD hS => kk H1 locs1 ⟨hP, hD, hS⟩)
set_option maxRecDepth 100000 in
theorem rf_noteCount (X : CallFix p m c cc nL s args (cw :: wG) RX7) (hK : va_K (dC, dI) vwCl [(cI, .int), (cZ, .boolean)] s) (hO : rO dC dI h a cI cZ A H0 σ H locs) (hdg : decode cc pc = .ok (.getfield 46, 3)) (kk : W p l e R s m args below meth c H locs cells slots QF (F0 m (pc + 3) ls (.ref (a 15) :: rest))) : W p l e R s m args below meth c H locs cells slots QF (F0 m pc ls (.ref h :: rest)) :=
  va_get (D := (dC, dI)) (ci := 7) (v := .ref (a 15)) (C := RX7) (T := TX7) (N := 28) X.1 X.2.1 X.2.2.2.2 (fun w h => List.mem_cons_of_mem _ (wlX7 w h)) X.2.2.2.1 hK hO.1 0 rfl rfl 15 (by decide) (X.2.2.2.2 _ (List.mem_cons_of_mem _ fX7_noteCount)) (fun _ h9 => h9) rfl hdg kk
set_option maxRecDepth 100000 in
theorem ra_noteCount (hx : p.tables.exec = Jvm.exec) (hb : c.code = cc) (hK : va_K (dC, dI) vwCl [(cI, .int), (cZ, .boolean)] s) (hO : rO dC dI h a cI cZ A H0 σ H locs) {i : Int32} (hi : vp_in i 16) (hdg : decode cc pc = .ok (.iaload, 1)) (kk : W p l e R s m args below meth c H locs cells slots QF (F0 m (pc + 1) ls (.int (σ.2 15 i.toNatClampNeg) :: rest))) : W p l e R s m args below meth c H locs cells slots QF (F0 m pc ls (.int i :: .ref (a 15) :: rest)) :=
  va_iald hx hb hK hO.1 13 0 rfl rfl hi hdg kk
set_option maxRecDepth 100000 in
theorem rs_noteCount (hx : p.tables.exec = Jvm.exec) (hb : c.code = cc) (hK : va_K (dC, dI) vwCl [(cI, .int), (cZ, .boolean)] s) (hO : rO dC dI h a cI cZ A H0 σ H locs) {i x : Int32} (hi : vp_in i 16) (hdg : decode cc pc = .ok (.iastore, 1)) (kk : ∀ (H1 : Heap) (locs1 : List Loc), rO dC dI h a cI cZ A H0 (rA σ 15 i x) H1 locs1 → W p l e R s m args below meth c H1 locs1 cells slots QF (F0 m (pc + 1) ls rest)) : W p l e R s m args below meth c H locs cells slots QF (F0 m pc ls (.int x :: .int i :: .ref (a 15) :: rest)) :=
  va_iast hx hb hK hO.1 hO.2.1 hO.2.2 13 0 rfl rfl hi hdg (fun H1 locs1 hP hD hS => kk H1 locs1 ⟨hP, hD, hS⟩)
set_option maxRecDepth 100000 in
theorem rf_note (X : CallFix p m c cc nL s args (cw :: wG) RX7) (hK : va_K (dC, dI) vwCl [(cI, .int), (cZ, .boolean)] s) (hO : rO dC dI h a cI cZ A H0 σ H locs) (hdg : decode cc pc = .ok (.getfield 49, 3)) (kk : W p l e R s m args below meth c H locs cells slots QF (F0 m (pc + 3) ls (.ref (a 16) :: rest))) : W p l e R s m args below meth c H locs cells slots QF (F0 m pc ls (.ref h :: rest)) :=
  va_get (D := (dC, dI)) (ci := 7) (v := .ref (a 16)) (C := RX7) (T := TX7) (N := 28) X.1 X.2.1 X.2.2.2.2 (fun w h => List.mem_cons_of_mem _ (wlX7 w h)) X.2.2.2.1 hK hO.1 0 rfl rfl 16 (by decide) (X.2.2.2.2 _ (List.mem_cons_of_mem _ fX7_note)) (fun _ h9 => h9) rfl hdg kk
set_option maxRecDepth 100000 in
theorem ra_note (hx : p.tables.exec = Jvm.exec) (hb : c.code = cc) (hK : va_K (dC, dI) vwCl [(cI, .int), (cZ, .boolean)] s) (hO : rO dC dI h a cI cZ A H0 σ H locs) {i : Int32} (hi : vp_in i 64) (hdg : decode cc pc = .ok (.iaload, 1)) (kk : W p l e R s m args below meth c H locs cells slots QF (F0 m (pc + 1) ls (.int (σ.2 16 i.toNatClampNeg) :: rest))) : W p l e R s m args below meth c H locs cells slots QF (F0 m pc ls (.int i :: .ref (a 16) :: rest)) :=
  va_iald hx hb hK hO.1 14 0 rfl rfl hi hdg kk
set_option maxRecDepth 100000 in
theorem rs_note (hx : p.tables.exec = Jvm.exec) (hb : c.code = cc) (hK : va_K (dC, dI) vwCl [(cI, .int), (cZ, .boolean)] s) (hO : rO dC dI h a cI cZ A H0 σ H locs) {i x : Int32} (hi : vp_in i 64) (hdg : decode cc pc = .ok (.iastore, 1)) (kk : ∀ (H1 : Heap) (locs1 : List Loc), rO dC dI h a cI cZ A H0 (rA σ 16 i x) H1 locs1 → W p l e R s m args below meth c H1 locs1 cells slots QF (F0 m (pc + 1) ls rest)) : W p l e R s m args below meth c H locs cells slots QF (F0 m pc ls (.int x :: .int i :: .ref (a 16) :: rest)) :=
  va_iast hx hb hK hO.1 hO.2.1 hO.2.2 14 0 rfl rfl hi hdg (fun H1 locs1 hP hD hS => kk H1 locs1 ⟨hP, hD, hS⟩)
set_option maxRecDepth 100000 in
theorem rf_rest (X : CallFix p m c cc nL s args (cw :: wG) RX7) (hK : va_K (dC, dI) vwCl [(cI, .int), (cZ, .boolean)] s) (hO : rO dC dI h a cI cZ A H0 σ H locs) (hdg : decode cc pc = .ok (.getfield 52, 3)) (kk : W p l e R s m args below meth c H locs cells slots QF (F0 m (pc + 3) ls (.ref (a 17) :: rest))) : W p l e R s m args below meth c H locs cells slots QF (F0 m pc ls (.ref h :: rest)) :=
  va_get (D := (dC, dI)) (ci := 7) (v := .ref (a 17)) (C := RX7) (T := TX7) (N := 28) X.1 X.2.1 X.2.2.2.2 (fun w h => List.mem_cons_of_mem _ (wlX7 w h)) X.2.2.2.1 hK hO.1 0 rfl rfl 17 (by decide) (X.2.2.2.2 _ (List.mem_cons_of_mem _ fX7_rest)) (fun _ h9 => h9) rfl hdg kk
set_option maxRecDepth 100000 in
theorem ra_rest (hx : p.tables.exec = Jvm.exec) (hb : c.code = cc) (hK : va_K (dC, dI) vwCl [(cI, .int), (cZ, .boolean)] s) (hO : rO dC dI h a cI cZ A H0 σ H locs) {i : Int32} (hi : vp_in i 16) (hdg : decode cc pc = .ok (.iaload, 1)) (kk : W p l e R s m args below meth c H locs cells slots QF (F0 m (pc + 1) ls (.int (σ.2 17 i.toNatClampNeg) :: rest))) : W p l e R s m args below meth c H locs cells slots QF (F0 m pc ls (.int i :: .ref (a 17) :: rest)) :=
  va_iald hx hb hK hO.1 15 0 rfl rfl hi hdg kk
set_option maxRecDepth 100000 in
theorem rs_rest (hx : p.tables.exec = Jvm.exec) (hb : c.code = cc) (hK : va_K (dC, dI) vwCl [(cI, .int), (cZ, .boolean)] s) (hO : rO dC dI h a cI cZ A H0 σ H locs) {i x : Int32} (hi : vp_in i 16) (hdg : decode cc pc = .ok (.iastore, 1)) (kk : ∀ (H1 : Heap) (locs1 : List Loc), rO dC dI h a cI cZ A H0 (rA σ 17 i x) H1 locs1 → W p l e R s m args below meth c H1 locs1 cells slots QF (F0 m (pc + 1) ls rest)) : W p l e R s m args below meth c H locs cells slots QF (F0 m pc ls (.int x :: .int i :: .ref (a 17) :: rest)) :=
  va_iast hx hb hK hO.1 hO.2.1 hO.2.2 15 0 rfl rfl hi hdg (fun H1 locs1 hP hD hS => kk H1 locs1 ⟨hP, hD, hS⟩)
set_option maxRecDepth 100000 in
theorem rf_now (X : CallFix p m c cc nL s args (cw :: wG) RX7) (hK : va_K (dC, dI) vwCl [(cI, .int), (cZ, .boolean)] s) (hO : rO dC dI h a cI cZ A H0 σ H locs) (hdg : decode cc pc = .ok (.getfield 95, 3)) (kk : W p l e R s m args below meth c H locs cells slots QF (F0 m (pc + 3) ls (.int (σ.1 18) :: rest))) : W p l e R s m args below meth c H locs cells slots QF (F0 m pc ls (.ref h :: rest)) :=
  va_get (D := (dC, dI)) (ci := 7) (v := .int (σ.1 18)) (C := RX7) (T := TX7) (N := 28) X.1 X.2.1 X.2.2.2.2 (fun w h => List.mem_cons_of_mem _ (wlX7 w h)) X.2.2.2.1 hK hO.1 0 rfl rfl 18 (by decide) (X.2.2.2.2 _ (List.mem_cons_of_mem _ fX7_now)) (fun _ h9 => h9) rfl hdg kk
set_option maxRecDepth 100000 in
theorem rp_now (X : CallFix p m c cc nL s args (cw :: wG) RX7) (hK : va_K (dC, dI) vwCl [(cI, .int), (cZ, .boolean)] s) (hO : rO dC dI h a cI cZ A H0 σ H locs) {x : Int32} (hdg : decode cc pc = .ok (.putfield 95, 3)) (kk : ∀ (H1 : Heap) (locs1 : List Loc), rO dC dI h a cI cZ A H0 (rI σ 18 x) H1 locs1 → W p l e R s m args below meth c H1 locs1 cells slots QF (F0 m (pc + 3) ls rest)) : W p l e R s m args below meth c H locs cells slots QF (F0 m pc ls (.int x :: .ref h :: rest)) :=
  va_put (D := (dC, dI)) (ci := 7) (v := .int x) (ty := .int) (C := RX7) (T := TX7) (N := 28) X.1 X.2.1 X.2.2.2.2 (fun w h => List.mem_cons_of_mem _ (wlX7 w h)) tyX7 tyX7_ok nmX7 X.2.2.2.1 hK hO.1 hO.2.1 hO.2.2 0 rfl rfl 18 (by decide) (X.2.2.2.2 _ (List.mem_cons_of_mem _ fX7_now)) (fun _ h9 => h9) rfl (by decide +kernel) rfl rfl (Nat.le_of_ble_eq_true rfl) hdg (fun H1 locs1 hP hD hS => kk H1 locs1 ⟨hP, hD, hS⟩)
set_option maxRecDepth 100000 in
theorem rf_base (X : CallFix p m c cc nL s args (cw :: wG) RX7) (hK : va_K (dC, dI) vwCl [(cI, .int), (cZ, .boolean)] s) (hO : rO dC dI h a cI cZ A H0 σ H locs) (hdg : decode cc pc = .ok (.getfield 85, 3)) (kk : W p l e R s m args below meth c H locs cells slots QF (F0 m (pc + 3) ls (.int (σ.1 19) :: rest))) : W p l e R s m args below meth c H locs cells slots QF (F0 m pc ls (.ref h :: rest)) :=
  va_get (D := (dC, dI)) (ci := 7) (v := .int (σ.1 19)) (C := RX7) (T := TX7) (N := 28) X.1 X.2.1 X.2.2.2.2 (fun w h => List.mem_cons_of_mem _ (wlX7 w h)) X.2.2.2.1 hK hO.1 0 rfl rfl 19 (by decide) (X.2.2.2.2 _ (List.mem_cons_of_mem _ fX7_base)) (fun _ h9 => h9) rfl hdg kk
set_option maxRecDepth 100000 in
theorem rp_base (X : CallFix p m c cc nL s args (cw :: wG) RX7) (hK : va_K (dC, dI) vwCl [(cI, .int), (cZ, .boolean)] s) (hO : rO dC dI h a cI cZ A H0 σ H locs) {x : Int32} (hdg : decode cc pc = .ok (.putfield 85, 3)) (kk : ∀ (H1 : Heap) (locs1 : List Loc), rO dC dI h a cI cZ A H0 (rI σ 19 x) H1 locs1 → W p l e R s m args below meth c H1 locs1 cells slots QF (F0 m (pc + 3) ls rest)) : W p l e R s m args below meth c H locs cells slots QF (F0 m pc ls (.int x :: .ref h :: rest)) :=
  va_put (D := (dC, dI)) (ci := 7) (v := .int x) (ty := .int) (C := RX7) (T := TX7) (N := 28) X.1 X.2.1 X.2.2.2.2 (fun w h => List.mem_cons_of_mem _ (wlX7 w h)) tyX7 tyX7_ok nmX7 X.2.2.2.1 hK hO.1 hO.2.1 hO.2.2 0 rfl rfl 19 (by decide) (X.2.2.2.2 _ (List.mem_cons_of_mem _ fX7_base)) (fun _ h9 => h9) rfl (by decide +kernel) rfl rfl (Nat.le_of_ble_eq_true rfl) hdg (fun H1 locs1 hP hD hS => kk H1 locs1 ⟨hP, hD, hS⟩)
set_option maxRecDepth 100000 in
theorem rf_end (X : CallFix p m c cc nL s args (cw :: wG) RX7) (hK : va_K (dC, dI) vwCl [(cI, .int), (cZ, .boolean)] s) (hO : rO dC dI h a cI cZ A H0 σ H locs) (hdg : decode cc pc = .ok (.getfield 78, 3)) (kk : W p l e R s m args below meth c H locs cells slots QF (F0 m (pc + 3) ls (.int (σ.1 20) :: rest))) : W p l e R s m args below meth c H locs cells slots QF (F0 m pc ls (.ref h :: rest)) :=
  va_get (D := (dC, dI)) (ci := 7) (v := .int (σ.1 20)) (C := RX7) (T := TX7) (N := 28) X.1 X.2.1 X.2.2.2.2 (fun w h => List.mem_cons_of_mem _ (wlX7 w h)) X.2.2.2.1 hK hO.1 0 rfl rfl 20 (by decide) (X.2.2.2.2 _ (List.mem_cons_of_mem _ fX7_end)) (fun _ h9 => h9) rfl hdg kk
set_option maxRecDepth 100000 in
theorem rp_end (X : CallFix p m c cc nL s args (cw :: wG) RX7) (hK : va_K (dC, dI) vwCl [(cI, .int), (cZ, .boolean)] s) (hO : rO dC dI h a cI cZ A H0 σ H locs) {x : Int32} (hdg : decode cc pc = .ok (.putfield 78, 3)) (kk : ∀ (H1 : Heap) (locs1 : List Loc), rO dC dI h a cI cZ A H0 (rI σ 20 x) H1 locs1 → W p l e R s m args below meth c H1 locs1 cells slots QF (F0 m (pc + 3) ls rest)) : W p l e R s m args below meth c H locs cells slots QF (F0 m pc ls (.int x :: .ref h :: rest)) :=
  va_put (D := (dC, dI)) (ci := 7) (v := .int x) (ty := .int) (C := RX7) (T := TX7) (N := 28) X.1 X.2.1 X.2.2.2.2 (fun w h => List.mem_cons_of_mem _ (wlX7 w h)) tyX7 tyX7_ok nmX7 X.2.2.2.1 hK hO.1 hO.2.1 hO.2.2 0 rfl rfl 20 (by decide) (X.2.2.2.2 _ (List.mem_cons_of_mem _ fX7_end)) (fun _ h9 => h9) rfl (by decide +kernel) rfl rfl (Nat.le_of_ble_eq_true rfl) hdg (fun H1 locs1 hP hD hS => kk H1 locs1 ⟨hP, hD, hS⟩)
set_option maxRecDepth 100000 in
theorem rf_at (X : CallFix p m c cc nL s args (cw :: wG) RX7) (hK : va_K (dC, dI) vwCl [(cI, .int), (cZ, .boolean)] s) (hO : rO dC dI h a cI cZ A H0 σ H locs) (hdg : decode cc pc = .ok (.getfield 75, 3)) (kk : W p l e R s m args below meth c H locs cells slots QF (F0 m (pc + 3) ls (.int (σ.1 21) :: rest))) : W p l e R s m args below meth c H locs cells slots QF (F0 m pc ls (.ref h :: rest)) :=
  va_get (D := (dC, dI)) (ci := 7) (v := .int (σ.1 21)) (C := RX7) (T := TX7) (N := 28) X.1 X.2.1 X.2.2.2.2 (fun w h => List.mem_cons_of_mem _ (wlX7 w h)) X.2.2.2.1 hK hO.1 0 rfl rfl 21 (by decide) (X.2.2.2.2 _ (List.mem_cons_of_mem _ fX7_at)) (fun _ h9 => h9) rfl hdg kk
set_option maxRecDepth 100000 in
theorem rp_at (X : CallFix p m c cc nL s args (cw :: wG) RX7) (hK : va_K (dC, dI) vwCl [(cI, .int), (cZ, .boolean)] s) (hO : rO dC dI h a cI cZ A H0 σ H locs) {x : Int32} (hdg : decode cc pc = .ok (.putfield 75, 3)) (kk : ∀ (H1 : Heap) (locs1 : List Loc), rO dC dI h a cI cZ A H0 (rI σ 21 x) H1 locs1 → W p l e R s m args below meth c H1 locs1 cells slots QF (F0 m (pc + 3) ls rest)) : W p l e R s m args below meth c H locs cells slots QF (F0 m pc ls (.int x :: .ref h :: rest)) :=
  va_put (D := (dC, dI)) (ci := 7) (v := .int x) (ty := .int) (C := RX7) (T := TX7) (N := 28) X.1 X.2.1 X.2.2.2.2 (fun w h => List.mem_cons_of_mem _ (wlX7 w h)) tyX7 tyX7_ok nmX7 X.2.2.2.1 hK hO.1 hO.2.1 hO.2.2 0 rfl rfl 21 (by decide) (X.2.2.2.2 _ (List.mem_cons_of_mem _ fX7_at)) (fun _ h9 => h9) rfl (by decide +kernel) rfl rfl (Nat.le_of_ble_eq_true rfl) hdg (fun H1 locs1 hP hD hS => kk H1 locs1 ⟨hP, hD, hS⟩)
set_option maxRecDepth 100000 in
theorem rf_constants (X : CallFix p m c cc nL s args (cw :: wG) RX7) (hK : va_K (dC, dI) vwCl [(cI, .int), (cZ, .boolean)] s) (hO : rO dC dI h a cI cZ A H0 σ H locs) (hdg : decode cc pc = .ok (.getfield 92, 3)) (kk : W p l e R s m args below meth c H locs cells slots QF (F0 m (pc + 3) ls (.int (σ.1 22) :: rest))) : W p l e R s m args below meth c H locs cells slots QF (F0 m pc ls (.ref h :: rest)) :=
  va_get (D := (dC, dI)) (ci := 7) (v := .int (σ.1 22)) (C := RX7) (T := TX7) (N := 28) X.1 X.2.1 X.2.2.2.2 (fun w h => List.mem_cons_of_mem _ (wlX7 w h)) X.2.2.2.1 hK hO.1 0 rfl rfl 22 (by decide) (X.2.2.2.2 _ (List.mem_cons_of_mem _ fX7_constants)) (fun _ h9 => h9) rfl hdg kk
set_option maxRecDepth 100000 in
theorem rp_constants (X : CallFix p m c cc nL s args (cw :: wG) RX7) (hK : va_K (dC, dI) vwCl [(cI, .int), (cZ, .boolean)] s) (hO : rO dC dI h a cI cZ A H0 σ H locs) {x : Int32} (hdg : decode cc pc = .ok (.putfield 92, 3)) (kk : ∀ (H1 : Heap) (locs1 : List Loc), rO dC dI h a cI cZ A H0 (rI σ 22 x) H1 locs1 → W p l e R s m args below meth c H1 locs1 cells slots QF (F0 m (pc + 3) ls rest)) : W p l e R s m args below meth c H locs cells slots QF (F0 m pc ls (.int x :: .ref h :: rest)) :=
  va_put (D := (dC, dI)) (ci := 7) (v := .int x) (ty := .int) (C := RX7) (T := TX7) (N := 28) X.1 X.2.1 X.2.2.2.2 (fun w h => List.mem_cons_of_mem _ (wlX7 w h)) tyX7 tyX7_ok nmX7 X.2.2.2.1 hK hO.1 hO.2.1 hO.2.2 0 rfl rfl 22 (by decide) (X.2.2.2.2 _ (List.mem_cons_of_mem _ fX7_constants)) (fun _ h9 => h9) rfl (by decide +kernel) rfl rfl (Nat.le_of_ble_eq_true rfl) hdg (fun H1 locs1 hP hD hS => kk H1 locs1 ⟨hP, hD, hS⟩)
set_option maxRecDepth 100000 in
theorem rf_reason (X : CallFix p m c cc nL s args (cw :: wG) RX7) (hK : va_K (dC, dI) vwCl [(cI, .int), (cZ, .boolean)] s) (hO : rO dC dI h a cI cZ A H0 σ H locs) (hdg : decode cc pc = .ok (.getfield 69, 3)) (kk : W p l e R s m args below meth c H locs cells slots QF (F0 m (pc + 3) ls (.int (σ.1 23) :: rest))) : W p l e R s m args below meth c H locs cells slots QF (F0 m pc ls (.ref h :: rest)) :=
  va_get (D := (dC, dI)) (ci := 7) (v := .int (σ.1 23)) (C := RX7) (T := TX7) (N := 28) X.1 X.2.1 X.2.2.2.2 (fun w h => List.mem_cons_of_mem _ (wlX7 w h)) X.2.2.2.1 hK hO.1 0 rfl rfl 23 (by decide) (X.2.2.2.2 _ (List.mem_cons_of_mem _ fX7_reason)) (fun _ h9 => h9) rfl hdg kk
set_option maxRecDepth 100000 in
theorem rp_reason (X : CallFix p m c cc nL s args (cw :: wG) RX7) (hK : va_K (dC, dI) vwCl [(cI, .int), (cZ, .boolean)] s) (hO : rO dC dI h a cI cZ A H0 σ H locs) {x : Int32} (hdg : decode cc pc = .ok (.putfield 69, 3)) (kk : ∀ (H1 : Heap) (locs1 : List Loc), rO dC dI h a cI cZ A H0 (rI σ 23 x) H1 locs1 → W p l e R s m args below meth c H1 locs1 cells slots QF (F0 m (pc + 3) ls rest)) : W p l e R s m args below meth c H locs cells slots QF (F0 m pc ls (.int x :: .ref h :: rest)) :=
  va_put (D := (dC, dI)) (ci := 7) (v := .int x) (ty := .int) (C := RX7) (T := TX7) (N := 28) X.1 X.2.1 X.2.2.2.2 (fun w h => List.mem_cons_of_mem _ (wlX7 w h)) tyX7 tyX7_ok nmX7 X.2.2.2.1 hK hO.1 hO.2.1 hO.2.2 0 rfl rfl 23 (by decide) (X.2.2.2.2 _ (List.mem_cons_of_mem _ fX7_reason)) (fun _ h9 => h9) rfl (by decide +kernel) rfl rfl (Nat.le_of_ble_eq_true rfl) hdg (fun H1 locs1 hP hD hS => kk H1 locs1 ⟨hP, hD, hS⟩)
set_option maxRecDepth 100000 in
theorem rf_spot (X : CallFix p m c cc nL s args (cw :: wG) RX7) (hK : va_K (dC, dI) vwCl [(cI, .int), (cZ, .boolean)] s) (hO : rO dC dI h a cI cZ A H0 σ H locs) (hdg : decode cc pc = .ok (.getfield 72, 3)) (kk : W p l e R s m args below meth c H locs cells slots QF (F0 m (pc + 3) ls (.int (σ.1 24) :: rest))) : W p l e R s m args below meth c H locs cells slots QF (F0 m pc ls (.ref h :: rest)) :=
  va_get (D := (dC, dI)) (ci := 7) (v := .int (σ.1 24)) (C := RX7) (T := TX7) (N := 28) X.1 X.2.1 X.2.2.2.2 (fun w h => List.mem_cons_of_mem _ (wlX7 w h)) X.2.2.2.1 hK hO.1 0 rfl rfl 24 (by decide) (X.2.2.2.2 _ (List.mem_cons_of_mem _ fX7_spot)) (fun _ h9 => h9) rfl hdg kk
set_option maxRecDepth 100000 in
theorem rp_spot (X : CallFix p m c cc nL s args (cw :: wG) RX7) (hK : va_K (dC, dI) vwCl [(cI, .int), (cZ, .boolean)] s) (hO : rO dC dI h a cI cZ A H0 σ H locs) {x : Int32} (hdg : decode cc pc = .ok (.putfield 72, 3)) (kk : ∀ (H1 : Heap) (locs1 : List Loc), rO dC dI h a cI cZ A H0 (rI σ 24 x) H1 locs1 → W p l e R s m args below meth c H1 locs1 cells slots QF (F0 m (pc + 3) ls rest)) : W p l e R s m args below meth c H locs cells slots QF (F0 m pc ls (.int x :: .ref h :: rest)) :=
  va_put (D := (dC, dI)) (ci := 7) (v := .int x) (ty := .int) (C := RX7) (T := TX7) (N := 28) X.1 X.2.1 X.2.2.2.2 (fun w h => List.mem_cons_of_mem _ (wlX7 w h)) tyX7 tyX7_ok nmX7 X.2.2.2.1 hK hO.1 hO.2.1 hO.2.2 0 rfl rfl 24 (by decide) (X.2.2.2.2 _ (List.mem_cons_of_mem _ fX7_spot)) (fun _ h9 => h9) rfl (by decide +kernel) rfl rfl (Nat.le_of_ble_eq_true rfl) hdg (fun H1 locs1 hP hD hS => kk H1 locs1 ⟨hP, hD, hS⟩)
set_option maxRecDepth 100000 in
theorem rf_left (X : CallFix p m c cc nL s args (cw :: wG) RX7) (hK : va_K (dC, dI) vwCl [(cI, .int), (cZ, .boolean)] s) (hO : rO dC dI h a cI cZ A H0 σ H locs) (hdg : decode cc pc = .ok (.getfield 55, 3)) (kk : W p l e R s m args below meth c H locs cells slots QF (F0 m (pc + 3) ls (.ref (a 25) :: rest))) : W p l e R s m args below meth c H locs cells slots QF (F0 m pc ls (.ref h :: rest)) :=
  va_get (D := (dC, dI)) (ci := 7) (v := .ref (a 25)) (C := RX7) (T := TX7) (N := 28) X.1 X.2.1 X.2.2.2.2 (fun w h => List.mem_cons_of_mem _ (wlX7 w h)) X.2.2.2.1 hK hO.1 0 rfl rfl 25 (by decide) (X.2.2.2.2 _ (List.mem_cons_of_mem _ fX7_left)) (fun _ h9 => h9) rfl hdg kk
set_option maxRecDepth 100000 in
theorem ra_left (hx : p.tables.exec = Jvm.exec) (hb : c.code = cc) (hK : va_K (dC, dI) vwCl [(cI, .int), (cZ, .boolean)] s) (hO : rO dC dI h a cI cZ A H0 σ H locs) {i : Int32} (hi : vp_in i 7) (hdg : decode cc pc = .ok (.iaload, 1)) (kk : W p l e R s m args below meth c H locs cells slots QF (F0 m (pc + 1) ls (.int (σ.2 25 i.toNatClampNeg) :: rest))) : W p l e R s m args below meth c H locs cells slots QF (F0 m pc ls (.int i :: .ref (a 25) :: rest)) :=
  va_iald hx hb hK hO.1 16 0 rfl rfl hi hdg kk
set_option maxRecDepth 100000 in
theorem rs_left (hx : p.tables.exec = Jvm.exec) (hb : c.code = cc) (hK : va_K (dC, dI) vwCl [(cI, .int), (cZ, .boolean)] s) (hO : rO dC dI h a cI cZ A H0 σ H locs) {i x : Int32} (hi : vp_in i 7) (hdg : decode cc pc = .ok (.iastore, 1)) (kk : ∀ (H1 : Heap) (locs1 : List Loc), rO dC dI h a cI cZ A H0 (rA σ 25 i x) H1 locs1 → W p l e R s m args below meth c H1 locs1 cells slots QF (F0 m (pc + 1) ls rest)) : W p l e R s m args below meth c H locs cells slots QF (F0 m pc ls (.int x :: .int i :: .ref (a 25) :: rest)) :=
  va_iast hx hb hK hO.1 hO.2.1 hO.2.2 16 0 rfl rfl hi hdg (fun H1 locs1 hP hD hS => kk H1 locs1 ⟨hP, hD, hS⟩)
set_option maxRecDepth 100000 in
theorem rf_named (X : CallFix p m c cc nL s args (cw :: wG) RX7) (hK : va_K (dC, dI) vwCl [(cI, .int), (cZ, .boolean)] s) (hO : rO dC dI h a cI cZ A H0 σ H locs) (hdg : decode cc pc = .ok (.getfield 58, 3)) (kk : W p l e R s m args below meth c H locs cells slots QF (F0 m (pc + 3) ls (.ref (a 26) :: rest))) : W p l e R s m args below meth c H locs cells slots QF (F0 m pc ls (.ref h :: rest)) :=
  va_get (D := (dC, dI)) (ci := 7) (v := .ref (a 26)) (C := RX7) (T := TX7) (N := 28) X.1 X.2.1 X.2.2.2.2 (fun w h => List.mem_cons_of_mem _ (wlX7 w h)) X.2.2.2.1 hK hO.1 0 rfl rfl 26 (by decide) (X.2.2.2.2 _ (List.mem_cons_of_mem _ fX7_named)) (fun _ h9 => h9) rfl hdg kk
set_option maxRecDepth 100000 in
theorem ra_named (hx : p.tables.exec = Jvm.exec) (hb : c.code = cc) (hK : va_K (dC, dI) vwCl [(cI, .int), (cZ, .boolean)] s) (hO : rO dC dI h a cI cZ A H0 σ H locs) {i : Int32} (hi : vp_in i 7) (hdg : decode cc pc = .ok (.baload, 1)) (kk : W p l e R s m args below meth c H locs cells slots QF (F0 m (pc + 1) ls (.int (σ.2 26 i.toNatClampNeg) :: rest))) : W p l e R s m args below meth c H locs cells slots QF (F0 m pc ls (.int i :: .ref (a 26) :: rest)) :=
  va_zald hx hb hK hO.1 17 1 rfl rfl hi hdg kk
set_option maxRecDepth 100000 in
theorem rs_named (hx : p.tables.exec = Jvm.exec) (hb : c.code = cc) (hK : va_K (dC, dI) vwCl [(cI, .int), (cZ, .boolean)] s) (hO : rO dC dI h a cI cZ A H0 σ H locs) {i x : Int32} (hi : vp_in i 7) (hdg : decode cc pc = .ok (.bastore, 1)) (kk : ∀ (H1 : Heap) (locs1 : List Loc), rO dC dI h a cI cZ A H0 (rA σ 26 i (vp_nar .boolean x)) H1 locs1 → W p l e R s m args below meth c H1 locs1 cells slots QF (F0 m (pc + 1) ls rest)) : W p l e R s m args below meth c H locs cells slots QF (F0 m pc ls (.int x :: .int i :: .ref (a 26) :: rest)) :=
  va_zast hx hb hK hO.1 hO.2.1 hO.2.2 17 1 rfl rfl hi hdg (fun H1 locs1 hP hD hS => kk H1 locs1 ⟨hP, hD, hS⟩)
set_option maxRecDepth 100000 in
theorem rf_marked (X : CallFix p m c cc nL s args (cw :: wG) RX7) (hK : va_K (dC, dI) vwCl [(cI, .int), (cZ, .boolean)] s) (hO : rO dC dI h a cI cZ A H0 σ H locs) (hdg : decode cc pc = .ok (.getfield 62, 3)) (kk : W p l e R s m args below meth c H locs cells slots QF (F0 m (pc + 3) ls (.ref (a 27) :: rest))) : W p l e R s m args below meth c H locs cells slots QF (F0 m pc ls (.ref h :: rest)) :=
  va_get (D := (dC, dI)) (ci := 7) (v := .ref (a 27)) (C := RX7) (T := TX7) (N := 28) X.1 X.2.1 X.2.2.2.2 (fun w h => List.mem_cons_of_mem _ (wlX7 w h)) X.2.2.2.1 hK hO.1 0 rfl rfl 27 (by decide) (X.2.2.2.2 _ (List.mem_cons_of_mem _ fX7_marked)) (fun _ h9 => h9) rfl hdg kk
set_option maxRecDepth 100000 in
theorem ra_marked (hx : p.tables.exec = Jvm.exec) (hb : c.code = cc) (hK : va_K (dC, dI) vwCl [(cI, .int), (cZ, .boolean)] s) (hO : rO dC dI h a cI cZ A H0 σ H locs) {i : Int32} (hi : vp_in i 192) (hdg : decode cc pc = .ok (.baload, 1)) (kk : W p l e R s m args below meth c H locs cells slots QF (F0 m (pc + 1) ls (.int (σ.2 27 i.toNatClampNeg) :: rest))) : W p l e R s m args below meth c H locs cells slots QF (F0 m pc ls (.int i :: .ref (a 27) :: rest)) :=
  va_zald hx hb hK hO.1 18 1 rfl rfl hi hdg kk
set_option maxRecDepth 100000 in
theorem rs_marked (hx : p.tables.exec = Jvm.exec) (hb : c.code = cc) (hK : va_K (dC, dI) vwCl [(cI, .int), (cZ, .boolean)] s) (hO : rO dC dI h a cI cZ A H0 σ H locs) {i x : Int32} (hi : vp_in i 192) (hdg : decode cc pc = .ok (.bastore, 1)) (kk : ∀ (H1 : Heap) (locs1 : List Loc), rO dC dI h a cI cZ A H0 (rA σ 27 i (vp_nar .boolean x)) H1 locs1 → W p l e R s m args below meth c H1 locs1 cells slots QF (F0 m (pc + 1) ls rest)) : W p l e R s m args below meth c H locs cells slots QF (F0 m pc ls (.int x :: .int i :: .ref (a 27) :: rest)) :=
  va_zast hx hb hK hO.1 hO.2.1 hO.2.2 18 1 rfl rfl hi hdg (fun H1 locs1 hP hD hS => kk H1 locs1 ⟨hP, hD, hS⟩)
set_option maxRecDepth 100000 in
theorem r_calli {As st0 : List Value} {y : MethodName} {ws : List Cond} {rm : Room} {index n maxL : Nat} {bytes : ByteArray} {ret : Option FieldType} {Q' : Int32 → rS → Prop} (X : CallFix p m c cc nL s args Ts RX7)
    (hM : Met l y ws rm (rPc dC dI h a cI cZ H.size σ (.ref h :: As)) (va_Qi Q' (rAt dC dI (va_A (rCells h a cI cZ σ) H.size) h a cI cZ) (va_A (rCells h a cI cZ σ) H.size)) 0 0 (va_A (rCells h a cI cZ σ) H.size))
    (cw : CallW R s args RX7 RX7 index y bytes maxL ret ws rm 0 0 n) (hK : va_K (dC, dI) vwCl [(cI, .int), (cZ, .boolean)] s) (hA : ∀ q, s.heap.size ≤ q → A q) (hO : rO dC dI h a cI cZ A s.heap σ H locs)
    (hn : As.length = n) (hls : ls.size = nL) (hst : st0 = As.reverse ++ .ref h :: rest) (hcat : (rest.map fun v => v.category).sum ≤ 8) (hdg : decode cc pc = .ok (.invokevirtual index, 3))
    (kk : ∀ (r : Int32) (σ' : rS) (H1 : Heap) (locs1 : List Loc), rO dC dI h a cI cZ A s.heap σ' H1 locs1 → Q' r σ' → W p l e R s m args below meth c H1 locs1 0 0 QF (F0 m (pc + 3) ls (.int r :: rest))) : W p l e R s m args below meth c H locs 0 0 QF (F0 m pc ls st0) := by
  have hFc := va_freeAll hO.2.1 hO.2.2 hA
  obtain ⟨cell, g1, g2, g3⟩ := va_recv hK hO.1 (ci := 7) (q0 := 0) rfl rfl
  refine va_calli (va_runV (rest := rest) X hM cw ⟨rPc_blind, ⟨cell, g1, g2, g3⟩, rPc_pre hK hO⟩ rfl hn hls hst (lv_room hcat) hdg ⟨Nat.zero_le _, Nat.zero_le _⟩) hO.2.2 (fun q _ h => hFc q h) hFc (fun r σ' t H1 locs1 ht hvm hq hB hz1 hk1 hS => ?_)
  obtain ⟨hP1, hK1, hD1⟩ := hB
  rw [ht] at hP1
  exact kk r σ' H1 locs1 ⟨hP1, hD1.weaken (fun _ q _ hq => hFc q.1 hq), hS⟩ hq
set_option maxRecDepth 100000 in
theorem r_calll {As st0 : List Value} {y : MethodName} {ws : List Cond} {rm : Room} {index n maxL : Nat} {bytes : ByteArray} {ret : Option FieldType} {Q' : Int64 → rS → Prop} (X : CallFix p m c cc nL s args Ts RX7)
    (hM : Met l y ws rm (rPc dC dI h a cI cZ H.size σ (.ref h :: As)) (va_Ql Q' (rAt dC dI (va_A (rCells h a cI cZ σ) H.size) h a cI cZ) (va_A (rCells h a cI cZ σ) H.size)) 0 0 (va_A (rCells h a cI cZ σ) H.size))
    (cw : CallW R s args RX7 RX7 index y bytes maxL ret ws rm 0 0 n) (hK : va_K (dC, dI) vwCl [(cI, .int), (cZ, .boolean)] s) (hA : ∀ q, s.heap.size ≤ q → A q) (hO : rO dC dI h a cI cZ A s.heap σ H locs)
    (hn : As.length = n) (hls : ls.size = nL) (hst : st0 = As.reverse ++ .ref h :: rest) (hcat : (rest.map fun v => v.category).sum ≤ 8) (hdg : decode cc pc = .ok (.invokevirtual index, 3))
    (kk : ∀ (r : Int64) (σ' : rS) (H1 : Heap) (locs1 : List Loc), rO dC dI h a cI cZ A s.heap σ' H1 locs1 → Q' r σ' → W p l e R s m args below meth c H1 locs1 0 0 QF (F0 m (pc + 3) ls (.long r :: rest))) : W p l e R s m args below meth c H locs 0 0 QF (F0 m pc ls st0) := by
  have hFc := va_freeAll hO.2.1 hO.2.2 hA
  obtain ⟨cell, g1, g2, g3⟩ := va_recv hK hO.1 (ci := 7) (q0 := 0) rfl rfl
  refine va_calll (va_runV (rest := rest) X hM cw ⟨rPc_blind, ⟨cell, g1, g2, g3⟩, rPc_pre hK hO⟩ rfl hn hls hst (lv_room hcat) hdg ⟨Nat.zero_le _, Nat.zero_le _⟩) hO.2.2 (fun q _ h => hFc q h) hFc (fun r σ' t H1 locs1 ht hvm hq hB hz1 hk1 hS => ?_)
  obtain ⟨hP1, hK1, hD1⟩ := hB
  rw [ht] at hP1
  exact kk r σ' H1 locs1 ⟨hP1, hD1.weaken (fun _ q _ hq => hFc q.1 hq), hS⟩ hq
set_option maxRecDepth 100000 in
theorem r_callv {As st0 : List Value} {y : MethodName} {ws : List Cond} {rm : Room} {index n maxL : Nat} {bytes : ByteArray} {ret : Option FieldType} {Q' : rS → Prop} (X : CallFix p m c cc nL s args Ts RX7)
    (hM : Met l y ws rm (rPc dC dI h a cI cZ H.size σ (.ref h :: As)) (va_Qv Q' (rAt dC dI (va_A (rCells h a cI cZ σ) H.size) h a cI cZ) (va_A (rCells h a cI cZ σ) H.size)) 0 0 (va_A (rCells h a cI cZ σ) H.size))
    (cw : CallW R s args RX7 RX7 index y bytes maxL ret ws rm 0 0 n) (hK : va_K (dC, dI) vwCl [(cI, .int), (cZ, .boolean)] s) (hA : ∀ q, s.heap.size ≤ q → A q) (hO : rO dC dI h a cI cZ A s.heap σ H locs)
    (hn : As.length = n) (hls : ls.size = nL) (hst : st0 = As.reverse ++ .ref h :: rest) (hcat : (rest.map fun v => v.category).sum ≤ 8) (hdg : decode cc pc = .ok (.invokevirtual index, 3))
    (kk : ∀ (σ' : rS) (H1 : Heap) (locs1 : List Loc), rO dC dI h a cI cZ A s.heap σ' H1 locs1 → Q' σ' → W p l e R s m args below meth c H1 locs1 0 0 QF (F0 m (pc + 3) ls (rest))) : W p l e R s m args below meth c H locs 0 0 QF (F0 m pc ls st0) := by
  have hFc := va_freeAll hO.2.1 hO.2.2 hA
  obtain ⟨cell, g1, g2, g3⟩ := va_recv hK hO.1 (ci := 7) (q0 := 0) rfl rfl
  refine va_callv (va_runV (rest := rest) X hM cw ⟨rPc_blind, ⟨cell, g1, g2, g3⟩, rPc_pre hK hO⟩ rfl hn hls hst (lv_room hcat) hdg ⟨Nat.zero_le _, Nat.zero_le _⟩) hO.2.2 (fun q _ h => hFc q h) hFc (fun σ' t H1 locs1 ht hvm hq hB hz1 hk1 hS => ?_)
  obtain ⟨hP1, hK1, hD1⟩ := hB
  rw [ht] at hP1
  exact kk σ' H1 locs1 ⟨hP1, hD1.weaken (fun _ q _ hq => hFc q.1 hq), hS⟩ hq
end
end
