section
-- ===== PART A: goes FIRST, ahead of the names: the tables' words, and 'selects' of the private methods out of them =====
/-- a private method of a class that the tables say can be made, by its rows of tables_1 -/
def lw_okq (q : MethodName × Nat) : Prop := (q.1.cls ≠ "java/lang/invoke/MethodHandle" ∧ q.1.cls ≠ "java/lang/invoke/VarHandle") ∧ Cond.instantiable q.1.cls q.2 ∈ tables_1 ∧ Cond.privateMethod q.1 ∈ tables_1 ∧ Cond.instanceMethod q.1 ∈ tables_1
theorem lw_p0 : lw_okq (⟨"ClassFileIndex$Reader", "readStart", "(I)V"⟩, 11) := ⟨⟨by decide +kernel, by decide +kernel⟩, List.mem_of_getElem? (i := 69) (by decide +kernel), List.mem_of_getElem? (i := 164) (by decide +kernel), List.mem_of_getElem? (i := 165) (by decide +kernel)⟩
theorem lw_p1 : lw_okq (⟨"ClassFileIndex$Reader", "next", "()I"⟩, 11) := ⟨⟨by decide +kernel, by decide +kernel⟩, List.mem_of_getElem? (i := 69) (by decide +kernel), List.mem_of_getElem? (i := 168) (by decide +kernel), List.mem_of_getElem? (i := 169) (by decide +kernel)⟩
theorem lw_p2 : lw_okq (⟨"ClassFileIndex$Reader", "refuse", "(II)V"⟩, 11) := ⟨⟨by decide +kernel, by decide +kernel⟩, List.mem_of_getElem? (i := 69) (by decide +kernel), List.mem_of_getElem? (i := 172) (by decide +kernel), List.mem_of_getElem? (i := 173) (by decide +kernel)⟩
theorem lw_p3 : lw_okq (⟨"ClassFileIndex$Reader", "readConstants", "()V"⟩, 11) := ⟨⟨by decide +kernel, by decide +kernel⟩, List.mem_of_getElem? (i := 69) (by decide +kernel), List.mem_of_getElem? (i := 176) (by decide +kernel), List.mem_of_getElem? (i := 177) (by decide +kernel)⟩
theorem lw_p4 : lw_okq (⟨"ClassFileIndex$Reader", "readAtMost", "(I)I"⟩, 11) := ⟨⟨by decide +kernel, by decide +kernel⟩, List.mem_of_getElem? (i := 69) (by decide +kernel), List.mem_of_getElem? (i := 180) (by decide +kernel), List.mem_of_getElem? (i := 181) (by decide +kernel)⟩
theorem lw_p5 : lw_okq (⟨"ClassFileIndex$Reader", "readText", "()I"⟩, 11) := ⟨⟨by decide +kernel, by decide +kernel⟩, List.mem_of_getElem? (i := 69) (by decide +kernel), List.mem_of_getElem? (i := 184) (by decide +kernel), List.mem_of_getElem? (i := 185) (by decide +kernel)⟩
theorem lw_p6 : lw_okq (⟨"ClassFileIndex$Texts", "isText", "(I[III)Z"⟩, 3) := ⟨⟨by decide +kernel, by decide +kernel⟩, List.mem_of_getElem? (i := 20) (by decide +kernel), List.mem_of_getElem? (i := 192) (by decide +kernel), List.mem_of_getElem? (i := 193) (by decide +kernel)⟩
theorem lw_p7 : lw_okq (⟨"ClassFileIndex$Reader", "readInt", "()I"⟩, 11) := ⟨⟨by decide +kernel, by decide +kernel⟩, List.mem_of_getElem? (i := 69) (by decide +kernel), List.mem_of_getElem? (i := 196) (by decide +kernel), List.mem_of_getElem? (i := 197) (by decide +kernel)⟩
theorem lw_p8 : lw_okq (⟨"ClassFileIndex$Reader", "nameClassConstants", "()V"⟩, 11) := ⟨⟨by decide +kernel, by decide +kernel⟩, List.mem_of_getElem? (i := 69) (by decide +kernel), List.mem_of_getElem? (i := 200) (by decide +kernel), List.mem_of_getElem? (i := 201) (by decide +kernel)⟩
theorem lw_p9 : lw_okq (⟨"ClassFileIndex$Reader", "isConstant", "(II)Z"⟩, 11) := ⟨⟨by decide +kernel, by decide +kernel⟩, List.mem_of_getElem? (i := 69) (by decide +kernel), List.mem_of_getElem? (i := 204) (by decide +kernel), List.mem_of_getElem? (i := 205) (by decide +kernel)⟩
theorem lw_p10 : lw_okq (⟨"ClassFileIndex$Reader", "readName", "()I"⟩, 11) := ⟨⟨by decide +kernel, by decide +kernel⟩, List.mem_of_getElem? (i := 69) (by decide +kernel), List.mem_of_getElem? (i := 216) (by decide +kernel), List.mem_of_getElem? (i := 217) (by decide +kernel)⟩
theorem lw_p11 : lw_okq (⟨"ClassFileIndex$Reader", "readConstant", "(I)I"⟩, 11) := ⟨⟨by decide +kernel, by decide +kernel⟩, List.mem_of_getElem? (i := 69) (by decide +kernel), List.mem_of_getElem? (i := 220) (by decide +kernel), List.mem_of_getElem? (i := 221) (by decide +kernel)⟩
theorem lw_p12 : lw_okq (⟨"ClassFileIndex$Reader", "readClassOrNone", "()I"⟩, 11) := ⟨⟨by decide +kernel, by decide +kernel⟩, List.mem_of_getElem? (i := 69) (by decide +kernel), List.mem_of_getElem? (i := 228) (by decide +kernel), List.mem_of_getElem? (i := 229) (by decide +kernel)⟩
theorem lw_p13 : lw_okq (⟨"ClassFileIndex$Reader", "readInterfaces", "()[I"⟩, 11) := ⟨⟨by decide +kernel, by decide +kernel⟩, List.mem_of_getElem? (i := 69) (by decide +kernel), List.mem_of_getElem? (i := 232) (by decide +kernel), List.mem_of_getElem? (i := 233) (by decide +kernel)⟩
theorem lw_p14 : lw_okq (⟨"ClassFileIndex$Reader", "readAnnotations", "()[LClassFileIndex$Value;"⟩, 11) := ⟨⟨by decide +kernel, by decide +kernel⟩, List.mem_of_getElem? (i := 69) (by decide +kernel), List.mem_of_getElem? (i := 236) (by decide +kernel), List.mem_of_getElem? (i := 237) (by decide +kernel)⟩
theorem lw_p15 : lw_okq (⟨"ClassFileIndex$Reader", "readAnnotation", "(I)LClassFileIndex$Value;"⟩, 11) := ⟨⟨by decide +kernel, by decide +kernel⟩, List.mem_of_getElem? (i := 69) (by decide +kernel), List.mem_of_getElem? (i := 241) (by decide +kernel), List.mem_of_getElem? (i := 242) (by decide +kernel)⟩
def lw_privs_1 : List (MethodName × Nat) := [(⟨"ClassFileIndex$Reader", "readStart", "(I)V"⟩, 11), (⟨"ClassFileIndex$Reader", "next", "()I"⟩, 11), (⟨"ClassFileIndex$Reader", "refuse", "(II)V"⟩, 11), (⟨"ClassFileIndex$Reader", "readConstants", "()V"⟩, 11), (⟨"ClassFileIndex$Reader", "readAtMost", "(I)I"⟩, 11), (⟨"ClassFileIndex$Reader", "readText", "()I"⟩, 11), (⟨"ClassFileIndex$Texts", "isText", "(I[III)Z"⟩, 3), (⟨"ClassFileIndex$Reader", "readInt", "()I"⟩, 11), (⟨"ClassFileIndex$Reader", "nameClassConstants", "()V"⟩, 11), (⟨"ClassFileIndex$Reader", "isConstant", "(II)Z"⟩, 11), (⟨"ClassFileIndex$Reader", "readName", "()I"⟩, 11), (⟨"ClassFileIndex$Reader", "readConstant", "(I)I"⟩, 11), (⟨"ClassFileIndex$Reader", "readClassOrNone", "()I"⟩, 11), (⟨"ClassFileIndex$Reader", "readInterfaces", "()[I"⟩, 11), (⟨"ClassFileIndex$Reader", "readAnnotations", "()[LClassFileIndex$Value;"⟩, 11), (⟨"ClassFileIndex$Reader", "readAnnotation", "(I)LClassFileIndex$Value;"⟩, 11)]
theorem lw_r1 : ∀ q ∈ lw_privs_1, lw_okq q := List.forall_mem_cons.mpr ⟨lw_p0, List.forall_mem_cons.mpr ⟨lw_p1, List.forall_mem_cons.mpr ⟨lw_p2, List.forall_mem_cons.mpr ⟨lw_p3, List.forall_mem_cons.mpr ⟨lw_p4, List.forall_mem_cons.mpr ⟨lw_p5, List.forall_mem_cons.mpr ⟨lw_p6, List.forall_mem_cons.mpr ⟨lw_p7, List.forall_mem_cons.mpr ⟨lw_p8, List.forall_mem_cons.mpr ⟨lw_p9, List.forall_mem_cons.mpr ⟨lw_p10, List.forall_mem_cons.mpr ⟨lw_p11, List.forall_mem_cons.mpr ⟨lw_p12, List.forall_mem_cons.mpr ⟨lw_p13, List.forall_mem_cons.mpr ⟨lw_p14, List.forall_mem_cons.mpr ⟨lw_p15, fun _ h => absurd h List.not_mem_nil⟩⟩⟩⟩⟩⟩⟩⟩⟩⟩⟩⟩⟩⟩⟩⟩
theorem lw_p16 : lw_okq (⟨"ClassFileIndex$Reader", "readParts", "(ZI)LClassFileIndex$Parts;"⟩, 11) := ⟨⟨by decide +kernel, by decide +kernel⟩, List.mem_of_getElem? (i := 69) (by decide +kernel), List.mem_of_getElem? (i := 246) (by decide +kernel), List.mem_of_getElem? (i := 247) (by decide +kernel)⟩
theorem lw_p17 : lw_okq (⟨"ClassFileIndex$Reader", "readValue", "(I)LClassFileIndex$Value;"⟩, 11) := ⟨⟨by decide +kernel, by decide +kernel⟩, List.mem_of_getElem? (i := 69) (by decide +kernel), List.mem_of_getElem? (i := 250) (by decide +kernel), List.mem_of_getElem? (i := 251) (by decide +kernel)⟩
theorem lw_p18 : lw_okq (⟨"ClassFileIndex$Reader", "readRow", "(I)LClassFileIndex$Value;"⟩, 11) := ⟨⟨by decide +kernel, by decide +kernel⟩, List.mem_of_getElem? (i := 69) (by decide +kernel), List.mem_of_getElem? (i := 270) (by decide +kernel), List.mem_of_getElem? (i := 271) (by decide +kernel)⟩
theorem lw_p19 : lw_okq (⟨"ClassFileIndex", "areThere", "(II)Z"⟩, 5) := ⟨⟨by decide +kernel, by decide +kernel⟩, List.mem_of_getElem? (i := 12) (by decide +kernel), List.mem_of_getElem? (i := 367) (by decide +kernel), List.mem_of_getElem? (i := 368) (by decide +kernel)⟩
theorem lw_p20 : lw_okq (⟨"ClassFileIndex", "elementOrDefault", "(III)LClassFileIndex$Value;"⟩, 5) := ⟨⟨by decide +kernel, by decide +kernel⟩, List.mem_of_getElem? (i := 12) (by decide +kernel), List.mem_of_getElem? (i := 435) (by decide +kernel), List.mem_of_getElem? (i := 436) (by decide +kernel)⟩
theorem lw_p21 : lw_okq (⟨"ClassFileIndexModel", "wholeFile", "()V"⟩, 28) := ⟨⟨by decide +kernel, by decide +kernel⟩, List.mem_of_getElem? (i := 449) (by decide +kernel), List.mem_of_getElem? (i := 556) (by decide +kernel), List.mem_of_getElem? (i := 557) (by decide +kernel)⟩
theorem lw_p22 : lw_okq (⟨"ClassFileIndexModel", "take", "()I"⟩, 28) := ⟨⟨by decide +kernel, by decide +kernel⟩, List.mem_of_getElem? (i := 449) (by decide +kernel), List.mem_of_getElem? (i := 560) (by decide +kernel), List.mem_of_getElem? (i := 561) (by decide +kernel)⟩
theorem lw_p23 : lw_okq (⟨"ClassFileIndexModel", "fail", "(II)V"⟩, 28) := ⟨⟨by decide +kernel, by decide +kernel⟩, List.mem_of_getElem? (i := 449) (by decide +kernel), List.mem_of_getElem? (i := 564) (by decide +kernel), List.mem_of_getElem? (i := 565) (by decide +kernel)⟩
theorem lw_p24 : lw_okq (⟨"ClassFileIndexModel", "allConstants", "()V"⟩, 28) := ⟨⟨by decide +kernel, by decide +kernel⟩, List.mem_of_getElem? (i := 449) (by decide +kernel), List.mem_of_getElem? (i := 568) (by decide +kernel), List.mem_of_getElem? (i := 569) (by decide +kernel)⟩
theorem lw_p25 : lw_okq (⟨"ClassFileIndexModel", "many", "(I)I"⟩, 28) := ⟨⟨by decide +kernel, by decide +kernel⟩, List.mem_of_getElem? (i := 449) (by decide +kernel), List.mem_of_getElem? (i := 572) (by decide +kernel), List.mem_of_getElem? (i := 573) (by decide +kernel)⟩
theorem lw_p26 : lw_okq (⟨"ClassFileIndexModel", "oneConstant", "(I)V"⟩, 28) := ⟨⟨by decide +kernel, by decide +kernel⟩, List.mem_of_getElem? (i := 449) (by decide +kernel), List.mem_of_getElem? (i := 576) (by decide +kernel), List.mem_of_getElem? (i := 577) (by decide +kernel)⟩
theorem lw_p27 : lw_okq (⟨"ClassFileIndexModel", "constant", "(I)I"⟩, 28) := ⟨⟨by decide +kernel, by decide +kernel⟩, List.mem_of_getElem? (i := 449) (by decide +kernel), List.mem_of_getElem? (i := 580) (by decide +kernel), List.mem_of_getElem? (i := 581) (by decide +kernel)⟩
theorem lw_p28 : lw_okq (⟨"ClassFileIndexModel", "taken", "(I)Z"⟩, 28) := ⟨⟨by decide +kernel, by decide +kernel⟩, List.mem_of_getElem? (i := 449) (by decide +kernel), List.mem_of_getElem? (i := 584) (by decide +kernel), List.mem_of_getElem? (i := 585) (by decide +kernel)⟩
theorem lw_p29 : lw_okq (⟨"ClassFileIndexModel", "textPlace", "(I)I"⟩, 28) := ⟨⟨by decide +kernel, by decide +kernel⟩, List.mem_of_getElem? (i := 449) (by decide +kernel), List.mem_of_getElem? (i := 588) (by decide +kernel), List.mem_of_getElem? (i := 589) (by decide +kernel)⟩
theorem lw_p30 : lw_okq (⟨"ClassFileIndexModel", "sameText", "(II)Z"⟩, 28) := ⟨⟨by decide +kernel, by decide +kernel⟩, List.mem_of_getElem? (i := 449) (by decide +kernel), List.mem_of_getElem? (i := 592) (by decide +kernel), List.mem_of_getElem? (i := 593) (by decide +kernel)⟩
theorem lw_p31 : lw_okq (⟨"ClassFileIndexModel", "classOrNone", "()I"⟩, 28) := ⟨⟨by decide +kernel, by decide +kernel⟩, List.mem_of_getElem? (i := 449) (by decide +kernel), List.mem_of_getElem? (i := 596) (by decide +kernel), List.mem_of_getElem? (i := 597) (by decide +kernel)⟩
def lw_privs_2 : List (MethodName × Nat) := [(⟨"ClassFileIndex$Reader", "readParts", "(ZI)LClassFileIndex$Parts;"⟩, 11), (⟨"ClassFileIndex$Reader", "readValue", "(I)LClassFileIndex$Value;"⟩, 11), (⟨"ClassFileIndex$Reader", "readRow", "(I)LClassFileIndex$Value;"⟩, 11), (⟨"ClassFileIndex", "areThere", "(II)Z"⟩, 5), (⟨"ClassFileIndex", "elementOrDefault", "(III)LClassFileIndex$Value;"⟩, 5), (⟨"ClassFileIndexModel", "wholeFile", "()V"⟩, 28), (⟨"ClassFileIndexModel", "take", "()I"⟩, 28), (⟨"ClassFileIndexModel", "fail", "(II)V"⟩, 28), (⟨"ClassFileIndexModel", "allConstants", "()V"⟩, 28), (⟨"ClassFileIndexModel", "many", "(I)I"⟩, 28), (⟨"ClassFileIndexModel", "oneConstant", "(I)V"⟩, 28), (⟨"ClassFileIndexModel", "constant", "(I)I"⟩, 28), (⟨"ClassFileIndexModel", "taken", "(I)Z"⟩, 28), (⟨"ClassFileIndexModel", "textPlace", "(I)I"⟩, 28), (⟨"ClassFileIndexModel", "sameText", "(II)Z"⟩, 28), (⟨"ClassFileIndexModel", "classOrNone", "()I"⟩, 28)]
theorem lw_r2 : ∀ q ∈ lw_privs_2, lw_okq q := List.forall_mem_cons.mpr ⟨lw_p16, List.forall_mem_cons.mpr ⟨lw_p17, List.forall_mem_cons.mpr ⟨lw_p18, List.forall_mem_cons.mpr ⟨lw_p19, List.forall_mem_cons.mpr ⟨lw_p20, List.forall_mem_cons.mpr ⟨lw_p21, List.forall_mem_cons.mpr ⟨lw_p22, List.forall_mem_cons.mpr ⟨lw_p23, List.forall_mem_cons.mpr ⟨lw_p24, List.forall_mem_cons.mpr ⟨lw_p25, List.forall_mem_cons.mpr ⟨lw_p26, List.forall_mem_cons.mpr ⟨lw_p27, List.forall_mem_cons.mpr ⟨lw_p28, List.forall_mem_cons.mpr ⟨lw_p29, List.forall_mem_cons.mpr ⟨lw_p30, List.forall_mem_cons.mpr ⟨lw_p31, fun _ h => absurd h List.not_mem_nil⟩⟩⟩⟩⟩⟩⟩⟩⟩⟩⟩⟩⟩⟩⟩⟩
theorem lw_p32 : lw_okq (⟨"ClassFileIndexModel", "values", "(I)V"⟩, 28) := ⟨⟨by decide +kernel, by decide +kernel⟩, List.mem_of_getElem? (i := 449) (by decide +kernel), List.mem_of_getElem? (i := 600) (by decide +kernel), List.mem_of_getElem? (i := 601) (by decide +kernel)⟩
theorem lw_p33 : lw_okq (⟨"ClassFileIndexModel", "oneValue", "(I)Z"⟩, 28) := ⟨⟨by decide +kernel, by decide +kernel⟩, List.mem_of_getElem? (i := 449) (by decide +kernel), List.mem_of_getElem? (i := 604) (by decide +kernel), List.mem_of_getElem? (i := 605) (by decide +kernel)⟩
theorem lw_p34 : lw_okq (⟨"ClassFileIndexModel", "number", "(I)I"⟩, 28) := ⟨⟨by decide +kernel, by decide +kernel⟩, List.mem_of_getElem? (i := 449) (by decide +kernel), List.mem_of_getElem? (i := 608) (by decide +kernel), List.mem_of_getElem? (i := 609) (by decide +kernel)⟩
theorem lw_p35 : lw_okq (⟨"ClassFileIndexModel", "isText", "(I)Z"⟩, 28) := ⟨⟨by decide +kernel, by decide +kernel⟩, List.mem_of_getElem? (i := 449) (by decide +kernel), List.mem_of_getElem? (i := 624) (by decide +kernel), List.mem_of_getElem? (i := 625) (by decide +kernel)⟩
theorem lw_p36 : lw_okq (⟨"ClassFileIndexModel", "isClass", "(I)Z"⟩, 28) := ⟨⟨by decide +kernel, by decide +kernel⟩, List.mem_of_getElem? (i := 449) (by decide +kernel), List.mem_of_getElem? (i := 636) (by decide +kernel), List.mem_of_getElem? (i := 637) (by decide +kernel)⟩
theorem lw_p37 : lw_okq (⟨"ClassFileIndexModel", "reaches", "(IIZ)Z"⟩, 28) := ⟨⟨by decide +kernel, by decide +kernel⟩, List.mem_of_getElem? (i := 449) (by decide +kernel), List.mem_of_getElem? (i := 652) (by decide +kernel), List.mem_of_getElem? (i := 653) (by decide +kernel)⟩
theorem lw_p38 : lw_okq (⟨"ClassFileIndexModel", "markAbove", "(IZ)Z"⟩, 28) := ⟨⟨by decide +kernel, by decide +kernel⟩, List.mem_of_getElem? (i := 449) (by decide +kernel), List.mem_of_getElem? (i := 656) (by decide +kernel), List.mem_of_getElem? (i := 657) (by decide +kernel)⟩
theorem lw_p39 : lw_okq (⟨"ClassFileIndexModel", "typeOf", "(II)I"⟩, 28) := ⟨⟨by decide +kernel, by decide +kernel⟩, List.mem_of_getElem? (i := 449) (by decide +kernel), List.mem_of_getElem? (i := 660) (by decide +kernel), List.mem_of_getElem? (i := 661) (by decide +kernel)⟩
theorem lw_p40 : lw_okq (⟨"ClassFileIndexModel", "inherited", "(I)Z"⟩, 28) := ⟨⟨by decide +kernel, by decide +kernel⟩, List.mem_of_getElem? (i := 449) (by decide +kernel), List.mem_of_getElem? (i := 676) (by decide +kernel), List.mem_of_getElem? (i := 677) (by decide +kernel)⟩
theorem lw_p41 : lw_okq (⟨"ClassFileIndexModel", "firstNote", "(II)I"⟩, 28) := ⟨⟨by decide +kernel, by decide +kernel⟩, List.mem_of_getElem? (i := 449) (by decide +kernel), List.mem_of_getElem? (i := 681) (by decide +kernel), List.mem_of_getElem? (i := 682) (by decide +kernel)⟩
theorem lw_p42 : lw_okq (⟨"ClassFileIndexModel", "countAt", "(II)I"⟩, 28) := ⟨⟨by decide +kernel, by decide +kernel⟩, List.mem_of_getElem? (i := 449) (by decide +kernel), List.mem_of_getElem? (i := 689) (by decide +kernel), List.mem_of_getElem? (i := 690) (by decide +kernel)⟩
theorem lw_p43 : lw_okq (⟨"ClassFileIndexModel", "inRow", "(III)I"⟩, 28) := ⟨⟨by decide +kernel, by decide +kernel⟩, List.mem_of_getElem? (i := 449) (by decide +kernel), List.mem_of_getElem? (i := 693) (by decide +kernel), List.mem_of_getElem? (i := 694) (by decide +kernel)⟩
theorem lw_p44 : lw_okq (⟨"ClassFileIndexModel", "behind", "(I)I"⟩, 28) := ⟨⟨by decide +kernel, by decide +kernel⟩, List.mem_of_getElem? (i := 449) (by decide +kernel), List.mem_of_getElem? (i := 697) (by decide +kernel), List.mem_of_getElem? (i := 698) (by decide +kernel)⟩
theorem lw_p45 : lw_okq (⟨"ClassFileIndexModel", "lookUp", "(III)I"⟩, 28) := ⟨⟨by decide +kernel, by decide +kernel⟩, List.mem_of_getElem? (i := 449) (by decide +kernel), List.mem_of_getElem? (i := 707) (by decide +kernel), List.mem_of_getElem? (i := 708) (by decide +kernel)⟩
theorem lw_p46 : lw_okq (⟨"ClassFileIndexModel", "inside", "(II)I"⟩, 28) := ⟨⟨by decide +kernel, by decide +kernel⟩, List.mem_of_getElem? (i := 449) (by decide +kernel), List.mem_of_getElem? (i := 711) (by decide +kernel), List.mem_of_getElem? (i := 712) (by decide +kernel)⟩
theorem lw_p47 : lw_okq (⟨"ClassFileIndexModel", "shown", "(II)J"⟩, 28) := ⟨⟨by decide +kernel, by decide +kernel⟩, List.mem_of_getElem? (i := 449) (by decide +kernel), List.mem_of_getElem? (i := 715) (by decide +kernel), List.mem_of_getElem? (i := 716) (by decide +kernel)⟩
def lw_privs_3 : List (MethodName × Nat) := [(⟨"ClassFileIndexModel", "values", "(I)V"⟩, 28), (⟨"ClassFileIndexModel", "oneValue", "(I)Z"⟩, 28), (⟨"ClassFileIndexModel", "number", "(I)I"⟩, 28), (⟨"ClassFileIndexModel", "isText", "(I)Z"⟩, 28), (⟨"ClassFileIndexModel", "isClass", "(I)Z"⟩, 28), (⟨"ClassFileIndexModel", "reaches", "(IIZ)Z"⟩, 28), (⟨"ClassFileIndexModel", "markAbove", "(IZ)Z"⟩, 28), (⟨"ClassFileIndexModel", "typeOf", "(II)I"⟩, 28), (⟨"ClassFileIndexModel", "inherited", "(I)Z"⟩, 28), (⟨"ClassFileIndexModel", "firstNote", "(II)I"⟩, 28), (⟨"ClassFileIndexModel", "countAt", "(II)I"⟩, 28), (⟨"ClassFileIndexModel", "inRow", "(III)I"⟩, 28), (⟨"ClassFileIndexModel", "behind", "(I)I"⟩, 28), (⟨"ClassFileIndexModel", "lookUp", "(III)I"⟩, 28), (⟨"ClassFileIndexModel", "inside", "(II)I"⟩, 28), (⟨"ClassFileIndexModel", "shown", "(II)J"⟩, 28)]
theorem lw_r3 : ∀ q ∈ lw_privs_3, lw_okq q := List.forall_mem_cons.mpr ⟨lw_p32, List.forall_mem_cons.mpr ⟨lw_p33, List.forall_mem_cons.mpr ⟨lw_p34, List.forall_mem_cons.mpr ⟨lw_p35, List.forall_mem_cons.mpr ⟨lw_p36, List.forall_mem_cons.mpr ⟨lw_p37, List.forall_mem_cons.mpr ⟨lw_p38, List.forall_mem_cons.mpr ⟨lw_p39, List.forall_mem_cons.mpr ⟨lw_p40, List.forall_mem_cons.mpr ⟨lw_p41, List.forall_mem_cons.mpr ⟨lw_p42, List.forall_mem_cons.mpr ⟨lw_p43, List.forall_mem_cons.mpr ⟨lw_p44, List.forall_mem_cons.mpr ⟨lw_p45, List.forall_mem_cons.mpr ⟨lw_p46, List.forall_mem_cons.mpr ⟨lw_p47, fun _ h => absurd h List.not_mem_nil⟩⟩⟩⟩⟩⟩⟩⟩⟩⟩⟩⟩⟩⟩⟩⟩
def lw_privs : List (MethodName × Nat) := lw_privs_1 ++ (lw_privs_2 ++ (lw_privs_3))
def lw_tbl : List Cond := k2_sels lw_privs ++ tables_1
theorem lw_privs_ok : ∀ q ∈ lw_privs, lw_okq q := by
  show ∀ q ∈ lw_privs_1 ++ (lw_privs_2 ++ (lw_privs_3)), lw_okq q
  exact List.forall_mem_append.mpr ⟨lw_r1, List.forall_mem_append.mpr ⟨lw_r2, lw_r3⟩⟩
end
section
/-- the tables' words that a call may take along -/
def wG : List Cond := lw_tbl.filter goodWord
theorem wG_in {w : Cond} (h : w ∈ tables_1) (hg : goodWord w = true) : w ∈ wG := List.mem_filter.mpr ⟨List.mem_append_right _ h, hg⟩
theorem wG_sel {w : Cond} (h : w ∈ k2_sels lw_privs) (hg : goodWord w = true) : w ∈ wG := List.mem_filter.mpr ⟨List.mem_append_left _ h, hg⟩
theorem wG_all {ws : List Cond} (h : ws.all (fun w => decide (w ∈ tables_1) && goodWord w) = true) : ∀ w ∈ ws, w ∈ wG := by
  intro w hw
  have h1 := List.all_eq_true.mp h w hw
  rw [Bool.and_eq_true] at h1
  exact wG_in (of_decide_eq_true h1.1) h1.2
theorem wT1 {w : Cond} (h : w ∈ tables_1_1) : w ∈ tables_1 := (List.mem_append_left _ h)
theorem wT2 {w : Cond} (h : w ∈ tables_1_2) : w ∈ tables_1 := (List.mem_append_right _ (List.mem_append_left _ h))
theorem wT3 {w : Cond} (h : w ∈ tables_1_3) : w ∈ tables_1 := (List.mem_append_right _ (List.mem_append_right _ (List.mem_append_left _ h)))
theorem wT4 {w : Cond} (h : w ∈ tables_1_4) : w ∈ tables_1 := (List.mem_append_right _ (List.mem_append_right _ (List.mem_append_right _ h)))
theorem gG {x w : Cond} (h : w ∈ wG) (hg : goodWord w = true) : GoodIn (x :: wG) (w :: wG) := fun v hv => (List.mem_cons.mp hv).elim (fun e => by rw [e]; exact ⟨List.mem_cons_of_mem _ h, good_of_word hg⟩) (fun hv => ⟨List.mem_cons_of_mem _ hv, good_of_word (List.mem_filter.mp hv).2⟩)
def RX0 : String := "ClassFileIndex$ClassFile"
def TX0 : u_T := fun k => match k with
  | 0 => ("ClassFileIndex$ClassFile", "name", "I", true)
  | 1 => ("ClassFileIndex$ClassFile", "flags", "I", true)
  | 2 => ("ClassFileIndex$ClassFile", "superName", "I", true)
  | 3 => ("ClassFileIndex$ClassFile", "container", "I", true)
  | 4 => ("ClassFileIndex$ClassFile", "annotations", "[LClassFileIndex$Value;", true)
  | 5 => ("ClassFileIndex$ClassFile", "defaults", "LClassFileIndex$Parts;", true)
  | 6 => ("ClassFileIndex$ClassFile", "supertypes", "[I", true)
  | _ => ("ClassFileIndex$ClassFile", "annotationTypes", "[I", true)
def tyX0 : Nat → FieldType := fun k => match k with
  | 0 => .int
  | 1 => .int
  | 2 => .int
  | 3 => .int
  | 4 => .array (.object "ClassFileIndex$Value")
  | 5 => .object "ClassFileIndex$Parts"
  | 6 => .array .int
  | _ => .array .int
theorem nmX0 : ∀ a, a < 8 → ∀ b, b < 8 → a ≠ b → (TX0 a).2.1 ≠ (TX0 b).2.1 := by decide +kernel
theorem tyX0_ok : ∀ k, k < 8 → parseFieldDescriptor (TX0 k).2.2.1 = some (tyX0 k) := by decide +kernel
set_option maxRecDepth 20000 in
theorem wlX0 : ∀ w ∈ u_ws RX0 TX0 8, w ∈ wG := wG_all (by decide +kernel)
def RX1 : String := "ClassFileIndex$Classes"
def TX1 : u_T := fun k => match k with
  | 0 => ("ClassFileIndex$Classes", "files", "[LClassFileIndex$ClassFile;", true)
  | 1 => ("ClassFileIndex$Classes", "size", "I", false)
  | 2 => ("ClassFileIndex$Classes", "classOfText", "[I", true)
  | 3 => ("ClassFileIndex$Classes", "queue", "[I", true)
  | _ => ("ClassFileIndex$Classes", "queued", "[Z", true)
def tyX1 : Nat → FieldType := fun k => match k with
  | 0 => .array (.object "ClassFileIndex$ClassFile")
  | 1 => .int
  | 2 => .array .int
  | 3 => .array .int
  | _ => .array .boolean
theorem nmX1 : ∀ a, a < 5 → ∀ b, b < 5 → a ≠ b → (TX1 a).2.1 ≠ (TX1 b).2.1 := by decide +kernel
theorem tyX1_ok : ∀ k, k < 5 → parseFieldDescriptor (TX1 k).2.2.1 = some (tyX1 k) := by decide +kernel
set_option maxRecDepth 20000 in
theorem wlX1 : ∀ w ∈ u_ws RX1 TX1 5, w ∈ wG := wG_all (by decide +kernel)
def RX2 : String := "ClassFileIndex$Parts"
def TX2 : u_T := fun k => match k with
  | 0 => ("ClassFileIndex$Parts", "names", "[I", true)
  | _ => ("ClassFileIndex$Parts", "values", "[LClassFileIndex$Value;", true)
def tyX2 : Nat → FieldType := fun k => match k with
  | 0 => .array .int
  | _ => .array (.object "ClassFileIndex$Value")
theorem nmX2 : ∀ a, a < 2 → ∀ b, b < 2 → a ≠ b → (TX2 a).2.1 ≠ (TX2 b).2.1 := by decide +kernel
theorem tyX2_ok : ∀ k, k < 2 → parseFieldDescriptor (TX2 k).2.2.1 = some (tyX2 k) := by decide +kernel
set_option maxRecDepth 20000 in
theorem wlX2 : ∀ w ∈ u_ws RX2 TX2 2, w ∈ wG := wG_all (by decide +kernel)
def RX3 : String := "ClassFileIndex$Reader"
def TX3 : u_T := fun k => match k with
  | 0 => ("ClassFileIndex$Reader", "fault", "I", false)
  | 1 => ("ClassFileIndex$Reader", "bytes", "[I", false)
  | 2 => ("ClassFileIndex$Reader", "end", "I", false)
  | 3 => ("ClassFileIndex$Reader", "place", "I", false)
  | 4 => ("ClassFileIndex$Reader", "texts", "LClassFileIndex$Texts;", false)
  | 5 => ("ClassFileIndex$Reader", "classes", "LClassFileIndex$Classes;", false)
  | 6 => ("ClassFileIndex$Reader", "constants", "I", false)
  | 7 => ("ClassFileIndex$Reader", "kinds", "[I", true)
  | 8 => ("ClassFileIndex$Reader", "numbers", "[I", true)
  | 9 => ("ClassFileIndex$Reader", "places", "[I", true)
  | _ => ("ClassFileIndex$Reader", "noParts", "LClassFileIndex$Parts;", true)
def tyX3 : Nat → FieldType := fun k => match k with
  | 0 => .int
  | 1 => .array .int
  | 2 => .int
  | 3 => .int
  | 4 => .object "ClassFileIndex$Texts"
  | 5 => .object "ClassFileIndex$Classes"
  | 6 => .int
  | 7 => .array .int
  | 8 => .array .int
  | 9 => .array .int
  | _ => .object "ClassFileIndex$Parts"
theorem nmX3 : ∀ a, a < 11 → ∀ b, b < 11 → a ≠ b → (TX3 a).2.1 ≠ (TX3 b).2.1 := by decide +kernel
theorem tyX3_ok : ∀ k, k < 11 → parseFieldDescriptor (TX3 k).2.2.1 = some (tyX3 k) := by decide +kernel
set_option maxRecDepth 20000 in
theorem wlX3 : ∀ w ∈ u_ws RX3 TX3 11, w ∈ wG := wG_all (by decide +kernel)
def RX4 : String := "ClassFileIndex$Texts"
def TX4 : u_T := fun k => match k with
  | 0 => ("ClassFileIndex$Texts", "letters", "[B", true)
  | 1 => ("ClassFileIndex$Texts", "lengths", "[I", true)
  | _ => ("ClassFileIndex$Texts", "size", "I", false)
def tyX4 : Nat → FieldType := fun k => match k with
  | 0 => .array .byte
  | 1 => .array .int
  | _ => .int
theorem nmX4 : ∀ a, a < 3 → ∀ b, b < 3 → a ≠ b → (TX4 a).2.1 ≠ (TX4 b).2.1 := by decide +kernel
theorem tyX4_ok : ∀ k, k < 3 → parseFieldDescriptor (TX4 k).2.2.1 = some (tyX4 k) := by decide +kernel
set_option maxRecDepth 20000 in
theorem wlX4 : ∀ w ∈ u_ws RX4 TX4 3, w ∈ wG := wG_all (by decide +kernel)
def RX5 : String := "ClassFileIndex$Value"
def TX5 : u_T := fun k => match k with
  | 0 => ("ClassFileIndex$Value", "kind", "I", true)
  | 1 => ("ClassFileIndex$Value", "number", "I", true)
  | _ => ("ClassFileIndex$Value", "parts", "LClassFileIndex$Parts;", true)
def tyX5 : Nat → FieldType := fun k => match k with
  | 0 => .int
  | 1 => .int
  | _ => .object "ClassFileIndex$Parts"
theorem nmX5 : ∀ a, a < 3 → ∀ b, b < 3 → a ≠ b → (TX5 a).2.1 ≠ (TX5 b).2.1 := by decide +kernel
theorem tyX5_ok : ∀ k, k < 3 → parseFieldDescriptor (TX5 k).2.2.1 = some (tyX5 k) := by decide +kernel
set_option maxRecDepth 20000 in
theorem wlX5 : ∀ w ∈ u_ws RX5 TX5 3, w ∈ wG := wG_all (by decide +kernel)
def RX6 : String := "ClassFileIndex"
def TX6 : u_T := fun k => match k with
  | 0 => ("ClassFileIndex", "buffer", "[I", true)
  | 1 => ("ClassFileIndex", "held", "I", false)
  | 2 => ("ClassFileIndex", "knownTexts", "LClassFileIndex$Texts;", true)
  | 3 => ("ClassFileIndex", "knownClasses", "LClassFileIndex$Classes;", true)
  | _ => ("ClassFileIndex", "reader", "LClassFileIndex$Reader;", true)
def tyX6 : Nat → FieldType := fun k => match k with
  | 0 => .array .int
  | 1 => .int
  | 2 => .object "ClassFileIndex$Texts"
  | 3 => .object "ClassFileIndex$Classes"
  | _ => .object "ClassFileIndex$Reader"
theorem nmX6 : ∀ a, a < 5 → ∀ b, b < 5 → a ≠ b → (TX6 a).2.1 ≠ (TX6 b).2.1 := by decide +kernel
theorem tyX6_ok : ∀ k, k < 5 → parseFieldDescriptor (TX6 k).2.2.1 = some (tyX6 k) := by decide +kernel
set_option maxRecDepth 20000 in
theorem wlX6 : ∀ w ∈ u_ws RX6 TX6 5, w ∈ wG := wG_all (by decide +kernel)
def RX7 : String := "ClassFileIndexModel"
def TX7 : u_T := fun k => match k with
  | 0 => ("ClassFileIndexModel", "buffer", "[I", true)
  | 1 => ("ClassFileIndexModel", "held", "I", false)
  | 2 => ("ClassFileIndexModel", "bytes", "[I", true)
  | 3 => ("ClassFileIndexModel", "classes", "I", false)
  | 4 => ("ClassFileIndexModel", "textAt", "[I", true)
  | 5 => ("ClassFileIndexModel", "texts", "I", false)
  | 6 => ("ClassFileIndexModel", "sort", "[I", true)
  | 7 => ("ClassFileIndexModel", "place", "[I", true)
  | 8 => ("ClassFileIndexModel", "text", "[I", true)
  | 9 => ("ClassFileIndexModel", "flag", "[I", true)
  | 10 => ("ClassFileIndexModel", "self", "[I", true)
  | 11 => ("ClassFileIndexModel", "above", "[I", true)
  | 12 => ("ClassFileIndexModel", "box", "[I", true)
  | 13 => ("ClassFileIndexModel", "faceCount", "[I", true)
  | 14 => ("ClassFileIndexModel", "face", "[I", true)
  | 15 => ("ClassFileIndexModel", "noteCount", "[I", true)
  | 16 => ("ClassFileIndexModel", "note", "[I", true)
  | 17 => ("ClassFileIndexModel", "rest", "[I", true)
  | 18 => ("ClassFileIndexModel", "now", "I", false)
  | 19 => ("ClassFileIndexModel", "base", "I", false)
  | 20 => ("ClassFileIndexModel", "end", "I", false)
  | 21 => ("ClassFileIndexModel", "at", "I", false)
  | 22 => ("ClassFileIndexModel", "constants", "I", false)
  | 23 => ("ClassFileIndexModel", "reason", "I", false)
  | 24 => ("ClassFileIndexModel", "spot", "I", false)
  | 25 => ("ClassFileIndexModel", "left", "[I", true)
  | 26 => ("ClassFileIndexModel", "named", "[Z", true)
  | _ => ("ClassFileIndexModel", "marked", "[Z", true)
def tyX7 : Nat → FieldType := fun k => match k with
  | 0 => .array .int
  | 1 => .int
  | 2 => .array .int
  | 3 => .int
  | 4 => .array .int
  | 5 => .int
  | 6 => .array .int
  | 7 => .array .int
  | 8 => .array .int
  | 9 => .array .int
  | 10 => .array .int
  | 11 => .array .int
  | 12 => .array .int
  | 13 => .array .int
  | 14 => .array .int
  | 15 => .array .int
  | 16 => .array .int
  | 17 => .array .int
  | 18 => .int
  | 19 => .int
  | 20 => .int
  | 21 => .int
  | 22 => .int
  | 23 => .int
  | 24 => .int
  | 25 => .array .int
  | 26 => .array .boolean
  | _ => .array .boolean
theorem nmX7 : ∀ a, a < 28 → ∀ b, b < 28 → a ≠ b → (TX7 a).2.1 ≠ (TX7 b).2.1 := by decide +kernel
theorem tyX7_ok : ∀ k, k < 28 → parseFieldDescriptor (TX7 k).2.2.1 = some (tyX7 k) := by decide +kernel
set_option maxRecDepth 20000 in
theorem wlX7 : ∀ w ∈ u_ws RX7 TX7 28, w ∈ wG := wG_all (by decide +kernel)
abbrev vwCl : List vw_C := [(RX0, TX0, 8), (RX1, TX1, 5), (RX2, TX2, 2), (RX3, TX3, 11), (RX4, TX4, 3), (RX5, TX5, 3), (RX6, TX6, 5), (RX7, TX7, 28)]
theorem gW {x : Cond} {ws : List Cond} (h : ∀ w ∈ ws, w ∈ wG) : GoodIn (x :: wG) ws := fun w hw => ⟨List.mem_cons_of_mem _ (h w hw), good_of_word (List.mem_filter.mp (h w hw)).2⟩
end
section
abbrev cX7_init : ByteArray := prog_9_method_1_code
def yX7_init : MethodName := ⟨RX7, "<init>", "()V"⟩
abbrev wsX7_init : List Cond := .code yX7_init cX7_init 1 (none) :: wG
set_option maxRecDepth 20000 in
theorem kX7_init : Cond.code yX7_init cX7_init 1 (none) ∈ wG := wG_in (wT2 (List.mem_of_getElem? (i := 212) rfl)) rfl
abbrev cX7_put : ByteArray := prog_9_method_2_code
def yX7_put : MethodName := ⟨RX7, "put", "(JI)Z"⟩
abbrev wsX7_put : List Cond := .code yX7_put cX7_put 5 (some .boolean) :: wG
set_option maxRecDepth 20000 in
theorem kX7_put : Cond.code yX7_put cX7_put 5 (some .boolean) ∈ wG := wG_in (wT3 (List.mem_of_getElem? (i := 62) rfl)) rfl
abbrev cX7_drop : ByteArray := prog_9_method_3_code
def yX7_drop : MethodName := ⟨RX7, "drop", "()V"⟩
abbrev wsX7_drop : List Cond := .code yX7_drop cX7_drop 1 (none) :: wG
set_option maxRecDepth 20000 in
theorem kX7_drop : Cond.code yX7_drop cX7_drop 1 (none) ∈ wG := wG_in (wT3 (List.mem_of_getElem? (i := 66) rfl)) rfl
abbrev cX7_length : ByteArray := prog_9_method_4_code
def yX7_length : MethodName := ⟨RX7, "length", "()I"⟩
abbrev wsX7_length : List Cond := .code yX7_length cX7_length 1 (some .int) :: wG
set_option maxRecDepth 20000 in
theorem kX7_length : Cond.code yX7_length cX7_length 1 (some .int) ∈ wG := wG_in (wT3 (List.mem_of_getElem? (i := 70) rfl)) rfl
abbrev cX7_fail : ByteArray := prog_9_method_5_code
def yX7_fail : MethodName := ⟨RX7, "fail", "(II)V"⟩
abbrev wsX7_fail : List Cond := .code yX7_fail cX7_fail 3 (none) :: wG
set_option maxRecDepth 20000 in
theorem kX7_fail : Cond.code yX7_fail cX7_fail 3 (none) ∈ wG := wG_in (wT3 (List.mem_of_getElem? (i := 86) rfl)) rfl
abbrev cX7_take : ByteArray := prog_9_method_6_code
def yX7_take : MethodName := ⟨RX7, "take", "()I"⟩
abbrev wsX7_take : List Cond := .code yX7_take cX7_take 2 (some .int) :: wG
set_option maxRecDepth 20000 in
theorem kX7_take : Cond.code yX7_take cX7_take 2 (some .int) ∈ wG := wG_in (wT3 (List.mem_of_getElem? (i := 82) rfl)) rfl
abbrev cX7_many : ByteArray := prog_9_method_7_code
def yX7_many : MethodName := ⟨RX7, "many", "(I)I"⟩
abbrev wsX7_many : List Cond := .code yX7_many cX7_many 4 (some .int) :: wG
set_option maxRecDepth 20000 in
theorem kX7_many : Cond.code yX7_many cX7_many 4 (some .int) ∈ wG := wG_in (wT3 (List.mem_of_getElem? (i := 94) rfl)) rfl
abbrev cX7_constant : ByteArray := prog_9_method_8_code
def yX7_constant : MethodName := ⟨RX7, "constant", "(I)I"⟩
abbrev wsX7_constant : List Cond := .code yX7_constant cX7_constant 4 (some .int) :: wG
set_option maxRecDepth 20000 in
theorem kX7_constant : Cond.code yX7_constant cX7_constant 4 (some .int) ∈ wG := wG_in (wT3 (List.mem_of_getElem? (i := 102) rfl)) rfl
abbrev cX7_classOrNone : ByteArray := prog_9_method_9_code
def yX7_classOrNone : MethodName := ⟨RX7, "classOrNone", "()I"⟩
abbrev wsX7_classOrNone : List Cond := .code yX7_classOrNone cX7_classOrNone 3 (some .int) :: wG
set_option maxRecDepth 20000 in
theorem kX7_classOrNone : Cond.code yX7_classOrNone cX7_classOrNone 3 (some .int) ∈ wG := wG_in (wT3 (List.mem_of_getElem? (i := 118) rfl)) rfl
abbrev cX7_oneConstant : ByteArray := prog_9_method_10_code
def yX7_oneConstant : MethodName := ⟨RX7, "oneConstant", "(I)V"⟩
abbrev wsX7_oneConstant : List Cond := .code yX7_oneConstant cX7_oneConstant 8 (none) :: wG
set_option maxRecDepth 20000 in
theorem kX7_oneConstant : Cond.code yX7_oneConstant cX7_oneConstant 8 (none) ∈ wG := wG_in (wT3 (List.mem_of_getElem? (i := 98) rfl)) rfl
abbrev cX7_allConstants : ByteArray := prog_9_method_11_code
def yX7_allConstants : MethodName := ⟨RX7, "allConstants", "()V"⟩
abbrev wsX7_allConstants : List Cond := .code yX7_allConstants cX7_allConstants 5 (none) :: wG
set_option maxRecDepth 20000 in
theorem kX7_allConstants : Cond.code yX7_allConstants cX7_allConstants 5 (none) ∈ wG := wG_in (wT3 (List.mem_of_getElem? (i := 90) rfl)) rfl
abbrev cX7_values : ByteArray := prog_9_method_12_code
def yX7_values : MethodName := ⟨RX7, "values", "(I)V"⟩
abbrev wsX7_values : List Cond := .code yX7_values cX7_values 3 (none) :: wG
set_option maxRecDepth 20000 in
theorem kX7_values : Cond.code yX7_values cX7_values 3 (none) ∈ wG := wG_in (wT3 (List.mem_of_getElem? (i := 122) rfl)) rfl
abbrev cX7_oneValue : ByteArray := prog_9_method_13_code
def yX7_oneValue : MethodName := ⟨RX7, "oneValue", "(I)Z"⟩
abbrev wsX7_oneValue : List Cond := .code yX7_oneValue cX7_oneValue 4 (some .boolean) :: wG
set_option maxRecDepth 20000 in
theorem kX7_oneValue : Cond.code yX7_oneValue cX7_oneValue 4 (some .boolean) ∈ wG := wG_in (wT3 (List.mem_of_getElem? (i := 126) rfl)) rfl
abbrev cX7_sameText : ByteArray := prog_9_method_14_code
def yX7_sameText : MethodName := ⟨RX7, "sameText", "(II)Z"⟩
abbrev wsX7_sameText : List Cond := .code yX7_sameText cX7_sameText 5 (some .boolean) :: wG
set_option maxRecDepth 20000 in
theorem kX7_sameText : Cond.code yX7_sameText cX7_sameText 5 (some .boolean) ∈ wG := wG_in (wT3 (List.mem_of_getElem? (i := 114) rfl)) rfl
abbrev cX7_textPlace : ByteArray := prog_9_method_15_code
def yX7_textPlace : MethodName := ⟨RX7, "textPlace", "(I)I"⟩
abbrev wsX7_textPlace : List Cond := .code yX7_textPlace cX7_textPlace 3 (some .int) :: wG
set_option maxRecDepth 20000 in
theorem kX7_textPlace : Cond.code yX7_textPlace cX7_textPlace 3 (some .int) ∈ wG := wG_in (wT3 (List.mem_of_getElem? (i := 110) rfl)) rfl
abbrev cX7_taken : ByteArray := prog_9_method_16_code
def yX7_taken : MethodName := ⟨RX7, "taken", "(I)Z"⟩
abbrev wsX7_taken : List Cond := .code yX7_taken cX7_taken 4 (some .boolean) :: wG
set_option maxRecDepth 20000 in
theorem kX7_taken : Cond.code yX7_taken cX7_taken 4 (some .boolean) ∈ wG := wG_in (wT3 (List.mem_of_getElem? (i := 106) rfl)) rfl
abbrev cX7_wholeFile : ByteArray := prog_9_method_17_code
def yX7_wholeFile : MethodName := ⟨RX7, "wholeFile", "()V"⟩
abbrev wsX7_wholeFile : List Cond := .code yX7_wholeFile cX7_wholeFile 6 (none) :: wG
set_option maxRecDepth 20000 in
theorem kX7_wholeFile : Cond.code yX7_wholeFile cX7_wholeFile 6 (none) ∈ wG := wG_in (wT3 (List.mem_of_getElem? (i := 78) rfl)) rfl
abbrev cX7_number : ByteArray := prog_9_method_18_code
def yX7_number : MethodName := ⟨RX7, "number", "(I)I"⟩
abbrev wsX7_number : List Cond := .code yX7_number cX7_number 3 (some .int) :: wG
set_option maxRecDepth 20000 in
theorem kX7_number : Cond.code yX7_number cX7_number 3 (some .int) ∈ wG := wG_in (wT3 (List.mem_of_getElem? (i := 130) rfl)) rfl
abbrev cX7_read : ByteArray := prog_9_method_19_code
def yX7_read : MethodName := ⟨RX7, "read", "()I"⟩
abbrev wsX7_read : List Cond := .code yX7_read cX7_read 2 (some .int) :: wG
set_option maxRecDepth 20000 in
theorem kX7_read : Cond.code yX7_read cX7_read 2 (some .int) ∈ wG := wG_in (wT3 (List.mem_of_getElem? (i := 74) rfl)) rfl
abbrev cX7_isClass : ByteArray := prog_9_method_20_code
def yX7_isClass : MethodName := ⟨RX7, "isClass", "(I)Z"⟩
abbrev wsX7_isClass : List Cond := .code yX7_isClass cX7_isClass 2 (some .boolean) :: wG
set_option maxRecDepth 20000 in
theorem kX7_isClass : Cond.code yX7_isClass cX7_isClass 2 (some .boolean) ∈ wG := wG_in (wT3 (List.mem_of_getElem? (i := 158) rfl)) rfl
abbrev cX7_isText : ByteArray := prog_9_method_21_code
def yX7_isText : MethodName := ⟨RX7, "isText", "(I)Z"⟩
abbrev wsX7_isText : List Cond := .code yX7_isText cX7_isText 2 (some .boolean) :: wG
set_option maxRecDepth 20000 in
theorem kX7_isText : Cond.code yX7_isText cX7_isText 2 (some .boolean) ∈ wG := wG_in (wT3 (List.mem_of_getElem? (i := 146) rfl)) rfl
abbrev cX7_classes : ByteArray := prog_9_method_22_code
def yX7_classes : MethodName := ⟨RX7, "classes", "()I"⟩
abbrev wsX7_classes : List Cond := .code yX7_classes cX7_classes 1 (some .int) :: wG
set_option maxRecDepth 20000 in
theorem kX7_classes : Cond.code yX7_classes cX7_classes 1 (some .int) ∈ wG := wG_in (wT3 (List.mem_of_getElem? (i := 134) rfl)) rfl
abbrev cX7_texts : ByteArray := prog_9_method_23_code
def yX7_texts : MethodName := ⟨RX7, "texts", "()I"⟩
abbrev wsX7_texts : List Cond := .code yX7_texts cX7_texts 1 (some .int) :: wG
set_option maxRecDepth 20000 in
theorem kX7_texts : Cond.code yX7_texts cX7_texts 1 (some .int) ∈ wG := wG_in (wT3 (List.mem_of_getElem? (i := 138) rfl)) rfl
abbrev cX7_letter : ByteArray := prog_9_method_24_code
def yX7_letter : MethodName := ⟨RX7, "letter", "(II)I"⟩
abbrev wsX7_letter : List Cond := .code yX7_letter cX7_letter 3 (some .int) :: wG
set_option maxRecDepth 20000 in
theorem kX7_letter : Cond.code yX7_letter cX7_letter 3 (some .int) ∈ wG := wG_in (wT3 (List.mem_of_getElem? (i := 142) rfl)) rfl
abbrev cX7_find : ByteArray := prog_9_method_25_code
def yX7_find : MethodName := ⟨RX7, "find", "(I)I"⟩
abbrev wsX7_find : List Cond := .code yX7_find cX7_find 3 (some .int) :: wG
set_option maxRecDepth 20000 in
theorem kX7_find : Cond.code yX7_find cX7_find 3 (some .int) ∈ wG := wG_in (wT3 (List.mem_of_getElem? (i := 150) rfl)) rfl
abbrev cX7_name : ByteArray := prog_9_method_26_code
def yX7_name : MethodName := ⟨RX7, "name", "(I)I"⟩
abbrev wsX7_name : List Cond := .code yX7_name cX7_name 2 (some .int) :: wG
set_option maxRecDepth 20000 in
theorem kX7_name : Cond.code yX7_name cX7_name 2 (some .int) ∈ wG := wG_in (wT3 (List.mem_of_getElem? (i := 154) rfl)) rfl
abbrev cX7_flags : ByteArray := prog_9_method_27_code
def yX7_flags : MethodName := ⟨RX7, "flags", "(I)I"⟩
abbrev wsX7_flags : List Cond := .code yX7_flags cX7_flags 2 (some .int) :: wG
set_option maxRecDepth 20000 in
theorem kX7_flags : Cond.code yX7_flags cX7_flags 2 (some .int) ∈ wG := wG_in (wT3 (List.mem_of_getElem? (i := 162) rfl)) rfl
abbrev cX7_superName : ByteArray := prog_9_method_28_code
def yX7_superName : MethodName := ⟨RX7, "superName", "(I)I"⟩
abbrev wsX7_superName : List Cond := .code yX7_superName cX7_superName 2 (some .int) :: wG
set_option maxRecDepth 20000 in
theorem kX7_superName : Cond.code yX7_superName cX7_superName 2 (some .int) ∈ wG := wG_in (wT3 (List.mem_of_getElem? (i := 166) rfl)) rfl
abbrev cX7_typeOf : ByteArray := prog_9_method_29_code
def yX7_typeOf : MethodName := ⟨RX7, "typeOf", "(II)I"⟩
abbrev wsX7_typeOf : List Cond := .code yX7_typeOf cX7_typeOf 3 (some .int) :: wG
set_option maxRecDepth 20000 in
theorem kX7_typeOf : Cond.code yX7_typeOf cX7_typeOf 3 (some .int) ∈ wG := wG_in (wT3 (List.mem_of_getElem? (i := 182) rfl)) rfl
abbrev cX7_markAbove : ByteArray := prog_9_method_30_code
def yX7_markAbove : MethodName := ⟨RX7, "markAbove", "(IZ)Z"⟩
abbrev wsX7_markAbove : List Cond := .code yX7_markAbove cX7_markAbove 7 (some .boolean) :: wG
set_option maxRecDepth 20000 in
theorem kX7_markAbove : Cond.code yX7_markAbove cX7_markAbove 7 (some .boolean) ∈ wG := wG_in (wT3 (List.mem_of_getElem? (i := 178) rfl)) rfl
abbrev cX7_reaches : ByteArray := prog_9_method_31_code
def yX7_reaches : MethodName := ⟨RX7, "reaches", "(IIZ)Z"⟩
abbrev wsX7_reaches : List Cond := .code yX7_reaches cX7_reaches 8 (some .boolean) :: wG
set_option maxRecDepth 20000 in
theorem kX7_reaches : Cond.code yX7_reaches cX7_reaches 8 (some .boolean) ∈ wG := wG_in (wT3 (List.mem_of_getElem? (i := 174) rfl)) rfl
abbrev cX7_subtype : ByteArray := prog_9_method_32_code
def yX7_subtype : MethodName := ⟨RX7, "subtype", "(II)Z"⟩
abbrev wsX7_subtype : List Cond := .code yX7_subtype cX7_subtype 3 (some .boolean) :: wG
set_option maxRecDepth 20000 in
theorem kX7_subtype : Cond.code yX7_subtype cX7_subtype 3 (some .boolean) ∈ wG := wG_in (wT3 (List.mem_of_getElem? (i := 170) rfl)) rfl
abbrev cX7_subtypeAt : ByteArray := prog_9_method_33_code
def yX7_subtypeAt : MethodName := ⟨RX7, "subtypeAt", "(II)I"⟩
abbrev wsX7_subtypeAt : List Cond := .code yX7_subtypeAt cX7_subtypeAt 5 (some .int) :: wG
set_option maxRecDepth 20000 in
theorem kX7_subtypeAt : Cond.code yX7_subtypeAt cX7_subtypeAt 5 (some .int) ∈ wG := wG_in (wT3 (List.mem_of_getElem? (i := 186) rfl)) rfl
abbrev cX7_meta : ByteArray := prog_9_method_34_code
def yX7_meta : MethodName := ⟨RX7, "meta", "(II)Z"⟩
abbrev wsX7_meta : List Cond := .code yX7_meta cX7_meta 3 (some .boolean) :: wG
set_option maxRecDepth 20000 in
theorem kX7_meta : Cond.code yX7_meta cX7_meta 3 (some .boolean) ∈ wG := wG_in (wT3 (List.mem_of_getElem? (i := 190) rfl)) rfl
abbrev cX7_inherited : ByteArray := prog_9_method_35_code
def yX7_inherited : MethodName := ⟨RX7, "inherited", "(I)Z"⟩
abbrev wsX7_inherited : List Cond := .code yX7_inherited cX7_inherited 3 (some .boolean) :: wG
set_option maxRecDepth 20000 in
theorem kX7_inherited : Cond.code yX7_inherited cX7_inherited 3 (some .boolean) ∈ wG := wG_in (wT3 (List.mem_of_getElem? (i := 198) rfl)) rfl
abbrev cX7_firstNote : ByteArray := prog_9_method_36_code
def yX7_firstNote : MethodName := ⟨RX7, "firstNote", "(II)I"⟩
abbrev wsX7_firstNote : List Cond := .code yX7_firstNote cX7_firstNote 4 (some .int) :: wG
set_option maxRecDepth 20000 in
theorem kX7_firstNote : Cond.code yX7_firstNote cX7_firstNote 4 (some .int) ∈ wG := wG_in (wT3 (List.mem_of_getElem? (i := 203) rfl)) rfl
abbrev cX7_holder : ByteArray := prog_9_method_37_code
def yX7_holder : MethodName := ⟨RX7, "holder", "(II)I"⟩
abbrev wsX7_holder : List Cond := .code yX7_holder cX7_holder 6 (some .int) :: wG
set_option maxRecDepth 20000 in
theorem kX7_holder : Cond.code yX7_holder cX7_holder 6 (some .int) ∈ wG := wG_in (wT3 (List.mem_of_getElem? (i := 194) rfl)) rfl
abbrev cX7_behind : ByteArray := prog_9_method_38_code
def yX7_behind : MethodName := ⟨RX7, "behind", "(I)I"⟩
abbrev wsX7_behind : List Cond := .code yX7_behind cX7_behind 5 (some .int) :: wG
set_option maxRecDepth 20000 in
theorem kX7_behind : Cond.code yX7_behind cX7_behind 5 (some .int) ∈ wG := wG_in (wT3 (List.mem_of_getElem? (i := 219) rfl)) rfl
abbrev cX7_inRow : ByteArray := prog_9_method_39_code
def yX7_inRow : MethodName := ⟨RX7, "inRow", "(III)I"⟩
abbrev wsX7_inRow : List Cond := .code yX7_inRow cX7_inRow 8 (some .int) :: wG
set_option maxRecDepth 20000 in
theorem kX7_inRow : Cond.code yX7_inRow cX7_inRow 8 (some .int) ∈ wG := wG_in (wT3 (List.mem_of_getElem? (i := 215) rfl)) rfl
abbrev cX7_countAt : ByteArray := prog_9_method_40_code
def yX7_countAt : MethodName := ⟨RX7, "countAt", "(II)I"⟩
abbrev wsX7_countAt : List Cond := .code yX7_countAt cX7_countAt 7 (some .int) :: wG
set_option maxRecDepth 20000 in
theorem kX7_countAt : Cond.code yX7_countAt cX7_countAt 7 (some .int) ∈ wG := wG_in (wT3 (List.mem_of_getElem? (i := 211) rfl)) rfl
abbrev cX7_count : ByteArray := prog_9_method_41_code
def yX7_count : MethodName := ⟨RX7, "count", "(II)I"⟩
abbrev wsX7_count : List Cond := .code yX7_count cX7_count 7 (some .int) :: wG
set_option maxRecDepth 20000 in
theorem kX7_count : Cond.code yX7_count cX7_count 7 (some .int) ∈ wG := wG_in (wT3 (List.mem_of_getElem? (i := 207) rfl)) rfl
abbrev cX7_lookUp : ByteArray := prog_9_method_42_code
def yX7_lookUp : MethodName := ⟨RX7, "lookUp", "(III)I"⟩
abbrev wsX7_lookUp : List Cond := .code yX7_lookUp cX7_lookUp 6 (some .int) :: wG
set_option maxRecDepth 20000 in
theorem kX7_lookUp : Cond.code yX7_lookUp cX7_lookUp 6 (some .int) ∈ wG := wG_in (wT3 (List.mem_of_getElem? (i := 229) rfl)) rfl
abbrev cX7_inside : ByteArray := prog_9_method_43_code
def yX7_inside : MethodName := ⟨RX7, "inside", "(II)I"⟩
abbrev wsX7_inside : List Cond := .code yX7_inside cX7_inside 6 (some .int) :: wG
set_option maxRecDepth 20000 in
theorem kX7_inside : Cond.code yX7_inside cX7_inside 6 (some .int) ∈ wG := wG_in (wT3 (List.mem_of_getElem? (i := 233) rfl)) rfl
abbrev cX7_shown : ByteArray := prog_9_method_44_code
def yX7_shown : MethodName := ⟨RX7, "shown", "(II)J"⟩
abbrev wsX7_shown : List Cond := .code yX7_shown cX7_shown 8 (some .long) :: wG
set_option maxRecDepth 20000 in
theorem kX7_shown : Cond.code yX7_shown cX7_shown 8 (some .long) ∈ wG := wG_in (wT3 (List.mem_of_getElem? (i := 237) rfl)) rfl
abbrev cX7_value : ByteArray := prog_9_method_45_code
def yX7_value : MethodName := ⟨RX7, "value", "(IIII)J"⟩
abbrev wsX7_value : List Cond := .code yX7_value cX7_value 10 (some .long) :: wG
set_option maxRecDepth 20000 in
theorem kX7_value : Cond.code yX7_value cX7_value 10 (some .long) ∈ wG := wG_in (wT3 (List.mem_of_getElem? (i := 223) rfl)) rfl
set_option maxRecDepth 20000 in
theorem fX7_buffer : Cond.fieldLink RX7 7 "ClassFileIndexModel" "buffer" "[I" ∈ wG := wG_in (wT2 (List.mem_of_getElem? (i := 214) (by decide +kernel))) rfl
set_option maxRecDepth 20000 in
theorem fX7_held : Cond.fieldLink RX7 65 "ClassFileIndexModel" "held" "I" ∈ wG := wG_in (wT2 (List.mem_of_getElem? (i := 215) (by decide +kernel))) rfl
set_option maxRecDepth 20000 in
theorem fX7_bytes : Cond.fieldLink RX7 13 "ClassFileIndexModel" "bytes" "[I" ∈ wG := wG_in (wT2 (List.mem_of_getElem? (i := 216) (by decide +kernel))) rfl
set_option maxRecDepth 20000 in
theorem fX7_classes : Cond.fieldLink RX7 116 "ClassFileIndexModel" "classes" "I" ∈ wG := wG_in (wT2 (List.mem_of_getElem? (i := 217) (by decide +kernel))) rfl
set_option maxRecDepth 20000 in
theorem fX7_textAt : Cond.fieldLink RX7 16 "ClassFileIndexModel" "textAt" "[I" ∈ wG := wG_in (wT2 (List.mem_of_getElem? (i := 218) (by decide +kernel))) rfl
set_option maxRecDepth 20000 in
theorem fX7_texts : Cond.fieldLink RX7 135 "ClassFileIndexModel" "texts" "I" ∈ wG := wG_in (wT2 (List.mem_of_getElem? (i := 219) (by decide +kernel))) rfl
set_option maxRecDepth 20000 in
theorem fX7_sort : Cond.fieldLink RX7 19 "ClassFileIndexModel" "sort" "[I" ∈ wG := wG_in (wT2 (List.mem_of_getElem? (i := 220) (by decide +kernel))) rfl
set_option maxRecDepth 20000 in
theorem fX7_place : Cond.fieldLink RX7 22 "ClassFileIndexModel" "place" "[I" ∈ wG := wG_in (wT2 (List.mem_of_getElem? (i := 221) (by decide +kernel))) rfl
set_option maxRecDepth 20000 in
theorem fX7_text : Cond.fieldLink RX7 25 "ClassFileIndexModel" "text" "[I" ∈ wG := wG_in (wT2 (List.mem_of_getElem? (i := 222) (by decide +kernel))) rfl
set_option maxRecDepth 20000 in
theorem fX7_flag : Cond.fieldLink RX7 28 "ClassFileIndexModel" "flag" "[I" ∈ wG := wG_in (wT2 (List.mem_of_getElem? (i := 223) (by decide +kernel))) rfl
set_option maxRecDepth 20000 in
theorem fX7_self : Cond.fieldLink RX7 31 "ClassFileIndexModel" "self" "[I" ∈ wG := wG_in (wT2 (List.mem_of_getElem? (i := 224) (by decide +kernel))) rfl
set_option maxRecDepth 20000 in
theorem fX7_above : Cond.fieldLink RX7 34 "ClassFileIndexModel" "above" "[I" ∈ wG := wG_in (wT2 (List.mem_of_getElem? (i := 225) (by decide +kernel))) rfl
set_option maxRecDepth 20000 in
theorem fX7_box : Cond.fieldLink RX7 37 "ClassFileIndexModel" "box" "[I" ∈ wG := wG_in (wT2 (List.mem_of_getElem? (i := 226) (by decide +kernel))) rfl
set_option maxRecDepth 20000 in
theorem fX7_faceCount : Cond.fieldLink RX7 40 "ClassFileIndexModel" "faceCount" "[I" ∈ wG := wG_in (wT2 (List.mem_of_getElem? (i := 227) (by decide +kernel))) rfl
set_option maxRecDepth 20000 in
theorem fX7_face : Cond.fieldLink RX7 43 "ClassFileIndexModel" "face" "[I" ∈ wG := wG_in (wT2 (List.mem_of_getElem? (i := 228) (by decide +kernel))) rfl
set_option maxRecDepth 20000 in
theorem fX7_noteCount : Cond.fieldLink RX7 46 "ClassFileIndexModel" "noteCount" "[I" ∈ wG := wG_in (wT2 (List.mem_of_getElem? (i := 229) (by decide +kernel))) rfl
set_option maxRecDepth 20000 in
theorem fX7_note : Cond.fieldLink RX7 49 "ClassFileIndexModel" "note" "[I" ∈ wG := wG_in (wT2 (List.mem_of_getElem? (i := 230) (by decide +kernel))) rfl
set_option maxRecDepth 20000 in
theorem fX7_rest : Cond.fieldLink RX7 52 "ClassFileIndexModel" "rest" "[I" ∈ wG := wG_in (wT2 (List.mem_of_getElem? (i := 231) (by decide +kernel))) rfl
set_option maxRecDepth 20000 in
theorem fX7_now : Cond.fieldLink RX7 95 "ClassFileIndexModel" "now" "I" ∈ wG := wG_in (wT2 (List.mem_of_getElem? (i := 232) (by decide +kernel))) rfl
set_option maxRecDepth 20000 in
theorem fX7_base : Cond.fieldLink RX7 85 "ClassFileIndexModel" "base" "I" ∈ wG := wG_in (wT2 (List.mem_of_getElem? (i := 233) (by decide +kernel))) rfl
set_option maxRecDepth 20000 in
theorem fX7_end : Cond.fieldLink RX7 78 "ClassFileIndexModel" "end" "I" ∈ wG := wG_in (wT2 (List.mem_of_getElem? (i := 234) (by decide +kernel))) rfl
set_option maxRecDepth 20000 in
theorem fX7_at : Cond.fieldLink RX7 75 "ClassFileIndexModel" "at" "I" ∈ wG := wG_in (wT2 (List.mem_of_getElem? (i := 235) (by decide +kernel))) rfl
set_option maxRecDepth 20000 in
theorem fX7_constants : Cond.fieldLink RX7 92 "ClassFileIndexModel" "constants" "I" ∈ wG := wG_in (wT2 (List.mem_of_getElem? (i := 236) (by decide +kernel))) rfl
set_option maxRecDepth 20000 in
theorem fX7_reason : Cond.fieldLink RX7 69 "ClassFileIndexModel" "reason" "I" ∈ wG := wG_in (wT2 (List.mem_of_getElem? (i := 237) (by decide +kernel))) rfl
set_option maxRecDepth 20000 in
theorem fX7_spot : Cond.fieldLink RX7 72 "ClassFileIndexModel" "spot" "I" ∈ wG := wG_in (wT2 (List.mem_of_getElem? (i := 238) (by decide +kernel))) rfl
set_option maxRecDepth 20000 in
theorem fX7_left : Cond.fieldLink RX7 55 "ClassFileIndexModel" "left" "[I" ∈ wG := wG_in (wT2 (List.mem_of_getElem? (i := 239) (by decide +kernel))) rfl
set_option maxRecDepth 20000 in
theorem fX7_named : Cond.fieldLink RX7 58 "ClassFileIndexModel" "named" "[Z" ∈ wG := wG_in (wT3 (List.mem_of_getElem? (i := 0) (by decide +kernel))) rfl
set_option maxRecDepth 20000 in
theorem fX7_marked : Cond.fieldLink RX7 62 "ClassFileIndexModel" "marked" "[Z" ∈ wG := wG_in (wT3 (List.mem_of_getElem? (i := 1) (by decide +kernel))) rfl
set_option maxRecDepth 20000 in
theorem qX7_196 : Cond.constantLong RX7 196 (-1) ∈ wG := wG_in (wT3 (List.mem_of_getElem? (i := 225) (by decide +kernel))) rfl
set_option maxRecDepth 20000 in
theorem qX7_181 : Cond.constantLong RX7 181 (17179869184) ∈ wG := wG_in (wT3 (List.mem_of_getElem? (i := 238) (by decide +kernel))) rfl
set_option maxRecDepth 20000 in
theorem qX7_183 : Cond.constantLong RX7 183 (256) ∈ wG := wG_in (wT3 (List.mem_of_getElem? (i := 239) (by decide +kernel))) rfl
set_option maxRecDepth 20000 in
theorem qX7_185 : Cond.constantLong RX7 185 (4294967296) ∈ wG := wG_in (wT4 (List.mem_of_getElem? (i := 0) (by decide +kernel))) rfl
set_option maxRecDepth 20000 in
theorem qX7_187 : Cond.constantLong RX7 187 (2) ∈ wG := wG_in (wT4 (List.mem_of_getElem? (i := 1) (by decide +kernel))) rfl
set_option maxRecDepth 20000 in
theorem qX7_189 : Cond.constantLong RX7 189 (3) ∈ wG := wG_in (wT4 (List.mem_of_getElem? (i := 2) (by decide +kernel))) rfl
set_option maxRecDepth 20000 in
theorem qX7_191 : Cond.constantLong RX7 191 (5) ∈ wG := wG_in (wT4 (List.mem_of_getElem? (i := 3) (by decide +kernel))) rfl
set_option maxRecDepth 20000 in
theorem gX7_fail {x : Cond} : GoodIn (x :: wG) (wsV RX7 81 RX7 yX7_fail wsX7_fail) := gW (List.forall_mem_cons.mpr ⟨wG_in (wT3 (List.mem_of_getElem? (i := 83) (by decide +kernel))) rfl, List.forall_mem_cons.mpr ⟨wG_in (wT3 (List.mem_of_getElem? (i := 85) (by decide +kernel))) rfl, List.forall_mem_cons.mpr ⟨wG_sel (List.mem_of_getElem? (i := 23) (by decide +kernel)) rfl, List.forall_mem_cons.mpr ⟨wG_in (wT1 (List.mem_of_getElem? (i := 7) (by decide +kernel))) rfl, List.forall_mem_cons.mpr ⟨kX7_fail, fun _ h => h⟩⟩⟩⟩⟩)
theorem hdX7_fail : yX7_fail.cls = RX7 ∧ yX7_fail.cls ≠ "java/lang/invoke/MethodHandle" ∧ yX7_fail.cls ≠ "java/lang/invoke/VarHandle" ∧ (parseMethodDescriptor yX7_fail.desc).map (fun d => d.parameters.length) = some 2 := by decide +kernel
set_option maxRecDepth 20000 in
theorem gX7_take {x : Cond} : GoodIn (x :: wG) (wsV RX7 88 RX7 yX7_take wsX7_take) := gW (List.forall_mem_cons.mpr ⟨wG_in (wT3 (List.mem_of_getElem? (i := 79) (by decide +kernel))) rfl, List.forall_mem_cons.mpr ⟨wG_in (wT3 (List.mem_of_getElem? (i := 81) (by decide +kernel))) rfl, List.forall_mem_cons.mpr ⟨wG_sel (List.mem_of_getElem? (i := 22) (by decide +kernel)) rfl, List.forall_mem_cons.mpr ⟨wG_in (wT1 (List.mem_of_getElem? (i := 7) (by decide +kernel))) rfl, List.forall_mem_cons.mpr ⟨kX7_take, fun _ h => h⟩⟩⟩⟩⟩)
theorem hdX7_take : yX7_take.cls = RX7 ∧ yX7_take.cls ≠ "java/lang/invoke/MethodHandle" ∧ yX7_take.cls ≠ "java/lang/invoke/VarHandle" ∧ (parseMethodDescriptor yX7_take.desc).map (fun d => d.parameters.length) = some 0 := by decide +kernel
set_option maxRecDepth 20000 in
theorem gX7_many {x : Cond} : GoodIn (x :: wG) (wsV RX7 98 RX7 yX7_many wsX7_many) := gW (List.forall_mem_cons.mpr ⟨wG_in (wT3 (List.mem_of_getElem? (i := 91) (by decide +kernel))) rfl, List.forall_mem_cons.mpr ⟨wG_in (wT3 (List.mem_of_getElem? (i := 93) (by decide +kernel))) rfl, List.forall_mem_cons.mpr ⟨wG_sel (List.mem_of_getElem? (i := 25) (by decide +kernel)) rfl, List.forall_mem_cons.mpr ⟨wG_in (wT1 (List.mem_of_getElem? (i := 7) (by decide +kernel))) rfl, List.forall_mem_cons.mpr ⟨kX7_many, fun _ h => h⟩⟩⟩⟩⟩)
theorem hdX7_many : yX7_many.cls = RX7 ∧ yX7_many.cls ≠ "java/lang/invoke/MethodHandle" ∧ yX7_many.cls ≠ "java/lang/invoke/VarHandle" ∧ (parseMethodDescriptor yX7_many.desc).map (fun d => d.parameters.length) = some 1 := by decide +kernel
set_option maxRecDepth 20000 in
theorem gX7_oneConstant {x : Cond} : GoodIn (x :: wG) (wsV RX7 102 RX7 yX7_oneConstant wsX7_oneConstant) := gW (List.forall_mem_cons.mpr ⟨wG_in (wT3 (List.mem_of_getElem? (i := 95) (by decide +kernel))) rfl, List.forall_mem_cons.mpr ⟨wG_in (wT3 (List.mem_of_getElem? (i := 97) (by decide +kernel))) rfl, List.forall_mem_cons.mpr ⟨wG_sel (List.mem_of_getElem? (i := 26) (by decide +kernel)) rfl, List.forall_mem_cons.mpr ⟨wG_in (wT1 (List.mem_of_getElem? (i := 7) (by decide +kernel))) rfl, List.forall_mem_cons.mpr ⟨kX7_oneConstant, fun _ h => h⟩⟩⟩⟩⟩)
theorem hdX7_oneConstant : yX7_oneConstant.cls = RX7 ∧ yX7_oneConstant.cls ≠ "java/lang/invoke/MethodHandle" ∧ yX7_oneConstant.cls ≠ "java/lang/invoke/VarHandle" ∧ (parseMethodDescriptor yX7_oneConstant.desc).map (fun d => d.parameters.length) = some 1 := by decide +kernel
set_option maxRecDepth 20000 in
theorem gX7_constant {x : Cond} : GoodIn (x :: wG) (wsV RX7 106 RX7 yX7_constant wsX7_constant) := gW (List.forall_mem_cons.mpr ⟨wG_in (wT3 (List.mem_of_getElem? (i := 99) (by decide +kernel))) rfl, List.forall_mem_cons.mpr ⟨wG_in (wT3 (List.mem_of_getElem? (i := 101) (by decide +kernel))) rfl, List.forall_mem_cons.mpr ⟨wG_sel (List.mem_of_getElem? (i := 27) (by decide +kernel)) rfl, List.forall_mem_cons.mpr ⟨wG_in (wT1 (List.mem_of_getElem? (i := 7) (by decide +kernel))) rfl, List.forall_mem_cons.mpr ⟨kX7_constant, fun _ h => h⟩⟩⟩⟩⟩)
theorem hdX7_constant : yX7_constant.cls = RX7 ∧ yX7_constant.cls ≠ "java/lang/invoke/MethodHandle" ∧ yX7_constant.cls ≠ "java/lang/invoke/VarHandle" ∧ (parseMethodDescriptor yX7_constant.desc).map (fun d => d.parameters.length) = some 1 := by decide +kernel
set_option maxRecDepth 20000 in
theorem gX7_oneValue {x : Cond} : GoodIn (x :: wG) (wsV RX7 109 RX7 yX7_oneValue wsX7_oneValue) := gW (List.forall_mem_cons.mpr ⟨wG_in (wT3 (List.mem_of_getElem? (i := 123) (by decide +kernel))) rfl, List.forall_mem_cons.mpr ⟨wG_in (wT3 (List.mem_of_getElem? (i := 125) (by decide +kernel))) rfl, List.forall_mem_cons.mpr ⟨wG_sel (List.mem_of_getElem? (i := 33) (by decide +kernel)) rfl, List.forall_mem_cons.mpr ⟨wG_in (wT1 (List.mem_of_getElem? (i := 7) (by decide +kernel))) rfl, List.forall_mem_cons.mpr ⟨kX7_oneValue, fun _ h => h⟩⟩⟩⟩⟩)
theorem hdX7_oneValue : yX7_oneValue.cls = RX7 ∧ yX7_oneValue.cls ≠ "java/lang/invoke/MethodHandle" ∧ yX7_oneValue.cls ≠ "java/lang/invoke/VarHandle" ∧ (parseMethodDescriptor yX7_oneValue.desc).map (fun d => d.parameters.length) = some 1 := by decide +kernel
set_option maxRecDepth 20000 in
theorem gX7_textPlace {x : Cond} : GoodIn (x :: wG) (wsV RX7 113 RX7 yX7_textPlace wsX7_textPlace) := gW (List.forall_mem_cons.mpr ⟨wG_in (wT3 (List.mem_of_getElem? (i := 107) (by decide +kernel))) rfl, List.forall_mem_cons.mpr ⟨wG_in (wT3 (List.mem_of_getElem? (i := 109) (by decide +kernel))) rfl, List.forall_mem_cons.mpr ⟨wG_sel (List.mem_of_getElem? (i := 29) (by decide +kernel)) rfl, List.forall_mem_cons.mpr ⟨wG_in (wT1 (List.mem_of_getElem? (i := 7) (by decide +kernel))) rfl, List.forall_mem_cons.mpr ⟨kX7_textPlace, fun _ h => h⟩⟩⟩⟩⟩)
theorem hdX7_textPlace : yX7_textPlace.cls = RX7 ∧ yX7_textPlace.cls ≠ "java/lang/invoke/MethodHandle" ∧ yX7_textPlace.cls ≠ "java/lang/invoke/VarHandle" ∧ (parseMethodDescriptor yX7_textPlace.desc).map (fun d => d.parameters.length) = some 1 := by decide +kernel
set_option maxRecDepth 20000 in
theorem gX7_sameText {x : Cond} : GoodIn (x :: wG) (wsV RX7 119 RX7 yX7_sameText wsX7_sameText) := gW (List.forall_mem_cons.mpr ⟨wG_in (wT3 (List.mem_of_getElem? (i := 111) (by decide +kernel))) rfl, List.forall_mem_cons.mpr ⟨wG_in (wT3 (List.mem_of_getElem? (i := 113) (by decide +kernel))) rfl, List.forall_mem_cons.mpr ⟨wG_sel (List.mem_of_getElem? (i := 30) (by decide +kernel)) rfl, List.forall_mem_cons.mpr ⟨wG_in (wT1 (List.mem_of_getElem? (i := 7) (by decide +kernel))) rfl, List.forall_mem_cons.mpr ⟨kX7_sameText, fun _ h => h⟩⟩⟩⟩⟩)
theorem hdX7_sameText : yX7_sameText.cls = RX7 ∧ yX7_sameText.cls ≠ "java/lang/invoke/MethodHandle" ∧ yX7_sameText.cls ≠ "java/lang/invoke/VarHandle" ∧ (parseMethodDescriptor yX7_sameText.desc).map (fun d => d.parameters.length) = some 2 := by decide +kernel
set_option maxRecDepth 20000 in
theorem gX7_allConstants {x : Cond} : GoodIn (x :: wG) (wsV RX7 123 RX7 yX7_allConstants wsX7_allConstants) := gW (List.forall_mem_cons.mpr ⟨wG_in (wT3 (List.mem_of_getElem? (i := 87) (by decide +kernel))) rfl, List.forall_mem_cons.mpr ⟨wG_in (wT3 (List.mem_of_getElem? (i := 89) (by decide +kernel))) rfl, List.forall_mem_cons.mpr ⟨wG_sel (List.mem_of_getElem? (i := 24) (by decide +kernel)) rfl, List.forall_mem_cons.mpr ⟨wG_in (wT1 (List.mem_of_getElem? (i := 7) (by decide +kernel))) rfl, List.forall_mem_cons.mpr ⟨kX7_allConstants, fun _ h => h⟩⟩⟩⟩⟩)
theorem hdX7_allConstants : yX7_allConstants.cls = RX7 ∧ yX7_allConstants.cls ≠ "java/lang/invoke/MethodHandle" ∧ yX7_allConstants.cls ≠ "java/lang/invoke/VarHandle" ∧ (parseMethodDescriptor yX7_allConstants.desc).map (fun d => d.parameters.length) = some 0 := by decide +kernel
set_option maxRecDepth 20000 in
theorem gX7_taken {x : Cond} : GoodIn (x :: wG) (wsV RX7 126 RX7 yX7_taken wsX7_taken) := gW (List.forall_mem_cons.mpr ⟨wG_in (wT3 (List.mem_of_getElem? (i := 103) (by decide +kernel))) rfl, List.forall_mem_cons.mpr ⟨wG_in (wT3 (List.mem_of_getElem? (i := 105) (by decide +kernel))) rfl, List.forall_mem_cons.mpr ⟨wG_sel (List.mem_of_getElem? (i := 28) (by decide +kernel)) rfl, List.forall_mem_cons.mpr ⟨wG_in (wT1 (List.mem_of_getElem? (i := 7) (by decide +kernel))) rfl, List.forall_mem_cons.mpr ⟨kX7_taken, fun _ h => h⟩⟩⟩⟩⟩)
theorem hdX7_taken : yX7_taken.cls = RX7 ∧ yX7_taken.cls ≠ "java/lang/invoke/MethodHandle" ∧ yX7_taken.cls ≠ "java/lang/invoke/VarHandle" ∧ (parseMethodDescriptor yX7_taken.desc).map (fun d => d.parameters.length) = some 1 := by decide +kernel
set_option maxRecDepth 20000 in
theorem gX7_classOrNone {x : Cond} : GoodIn (x :: wG) (wsV RX7 129 RX7 yX7_classOrNone wsX7_classOrNone) := gW (List.forall_mem_cons.mpr ⟨wG_in (wT3 (List.mem_of_getElem? (i := 115) (by decide +kernel))) rfl, List.forall_mem_cons.mpr ⟨wG_in (wT3 (List.mem_of_getElem? (i := 117) (by decide +kernel))) rfl, List.forall_mem_cons.mpr ⟨wG_sel (List.mem_of_getElem? (i := 31) (by decide +kernel)) rfl, List.forall_mem_cons.mpr ⟨wG_in (wT1 (List.mem_of_getElem? (i := 7) (by decide +kernel))) rfl, List.forall_mem_cons.mpr ⟨kX7_classOrNone, fun _ h => h⟩⟩⟩⟩⟩)
theorem hdX7_classOrNone : yX7_classOrNone.cls = RX7 ∧ yX7_classOrNone.cls ≠ "java/lang/invoke/MethodHandle" ∧ yX7_classOrNone.cls ≠ "java/lang/invoke/VarHandle" ∧ (parseMethodDescriptor yX7_classOrNone.desc).map (fun d => d.parameters.length) = some 0 := by decide +kernel
set_option maxRecDepth 20000 in
theorem gX7_values {x : Cond} : GoodIn (x :: wG) (wsV RX7 132 RX7 yX7_values wsX7_values) := gW (List.forall_mem_cons.mpr ⟨wG_in (wT3 (List.mem_of_getElem? (i := 119) (by decide +kernel))) rfl, List.forall_mem_cons.mpr ⟨wG_in (wT3 (List.mem_of_getElem? (i := 121) (by decide +kernel))) rfl, List.forall_mem_cons.mpr ⟨wG_sel (List.mem_of_getElem? (i := 32) (by decide +kernel)) rfl, List.forall_mem_cons.mpr ⟨wG_in (wT1 (List.mem_of_getElem? (i := 7) (by decide +kernel))) rfl, List.forall_mem_cons.mpr ⟨kX7_values, fun _ h => h⟩⟩⟩⟩⟩)
theorem hdX7_values : yX7_values.cls = RX7 ∧ yX7_values.cls ≠ "java/lang/invoke/MethodHandle" ∧ yX7_values.cls ≠ "java/lang/invoke/VarHandle" ∧ (parseMethodDescriptor yX7_values.desc).map (fun d => d.parameters.length) = some 1 := by decide +kernel
set_option maxRecDepth 20000 in
theorem gX7_wholeFile {x : Cond} : GoodIn (x :: wG) (wsV RX7 138 RX7 yX7_wholeFile wsX7_wholeFile) := gW (List.forall_mem_cons.mpr ⟨wG_in (wT3 (List.mem_of_getElem? (i := 75) (by decide +kernel))) rfl, List.forall_mem_cons.mpr ⟨wG_in (wT3 (List.mem_of_getElem? (i := 77) (by decide +kernel))) rfl, List.forall_mem_cons.mpr ⟨wG_sel (List.mem_of_getElem? (i := 21) (by decide +kernel)) rfl, List.forall_mem_cons.mpr ⟨wG_in (wT1 (List.mem_of_getElem? (i := 7) (by decide +kernel))) rfl, List.forall_mem_cons.mpr ⟨kX7_wholeFile, fun _ h => h⟩⟩⟩⟩⟩)
theorem hdX7_wholeFile : yX7_wholeFile.cls = RX7 ∧ yX7_wholeFile.cls ≠ "java/lang/invoke/MethodHandle" ∧ yX7_wholeFile.cls ≠ "java/lang/invoke/VarHandle" ∧ (parseMethodDescriptor yX7_wholeFile.desc).map (fun d => d.parameters.length) = some 0 := by decide +kernel
set_option maxRecDepth 20000 in
theorem gX7_number {x : Cond} : GoodIn (x :: wG) (wsV RX7 141 RX7 yX7_number wsX7_number) := gW (List.forall_mem_cons.mpr ⟨wG_in (wT3 (List.mem_of_getElem? (i := 127) (by decide +kernel))) rfl, List.forall_mem_cons.mpr ⟨wG_in (wT3 (List.mem_of_getElem? (i := 129) (by decide +kernel))) rfl, List.forall_mem_cons.mpr ⟨wG_sel (List.mem_of_getElem? (i := 34) (by decide +kernel)) rfl, List.forall_mem_cons.mpr ⟨wG_in (wT1 (List.mem_of_getElem? (i := 7) (by decide +kernel))) rfl, List.forall_mem_cons.mpr ⟨kX7_number, fun _ h => h⟩⟩⟩⟩⟩)
theorem hdX7_number : yX7_number.cls = RX7 ∧ yX7_number.cls ≠ "java/lang/invoke/MethodHandle" ∧ yX7_number.cls ≠ "java/lang/invoke/VarHandle" ∧ (parseMethodDescriptor yX7_number.desc).map (fun d => d.parameters.length) = some 1 := by decide +kernel
set_option maxRecDepth 20000 in
theorem gX7_isText {x : Cond} : GoodIn (x :: wG) (wsV RX7 144 RX7 yX7_isText wsX7_isText) := gW (List.forall_mem_cons.mpr ⟨wG_in (wT3 (List.mem_of_getElem? (i := 143) (by decide +kernel))) rfl, List.forall_mem_cons.mpr ⟨wG_in (wT3 (List.mem_of_getElem? (i := 145) (by decide +kernel))) rfl, List.forall_mem_cons.mpr ⟨wG_sel (List.mem_of_getElem? (i := 35) (by decide +kernel)) rfl, List.forall_mem_cons.mpr ⟨wG_in (wT1 (List.mem_of_getElem? (i := 7) (by decide +kernel))) rfl, List.forall_mem_cons.mpr ⟨kX7_isText, fun _ h => h⟩⟩⟩⟩⟩)
theorem hdX7_isText : yX7_isText.cls = RX7 ∧ yX7_isText.cls ≠ "java/lang/invoke/MethodHandle" ∧ yX7_isText.cls ≠ "java/lang/invoke/VarHandle" ∧ (parseMethodDescriptor yX7_isText.desc).map (fun d => d.parameters.length) = some 1 := by decide +kernel
set_option maxRecDepth 20000 in
theorem gX7_isClass {x : Cond} : GoodIn (x :: wG) (wsV RX7 147 RX7 yX7_isClass wsX7_isClass) := gW (List.forall_mem_cons.mpr ⟨wG_in (wT3 (List.mem_of_getElem? (i := 155) (by decide +kernel))) rfl, List.forall_mem_cons.mpr ⟨wG_in (wT3 (List.mem_of_getElem? (i := 157) (by decide +kernel))) rfl, List.forall_mem_cons.mpr ⟨wG_sel (List.mem_of_getElem? (i := 36) (by decide +kernel)) rfl, List.forall_mem_cons.mpr ⟨wG_in (wT1 (List.mem_of_getElem? (i := 7) (by decide +kernel))) rfl, List.forall_mem_cons.mpr ⟨kX7_isClass, fun _ h => h⟩⟩⟩⟩⟩)
theorem hdX7_isClass : yX7_isClass.cls = RX7 ∧ yX7_isClass.cls ≠ "java/lang/invoke/MethodHandle" ∧ yX7_isClass.cls ≠ "java/lang/invoke/VarHandle" ∧ (parseMethodDescriptor yX7_isClass.desc).map (fun d => d.parameters.length) = some 1 := by decide +kernel
set_option maxRecDepth 20000 in
theorem gX7_typeOf {x : Cond} : GoodIn (x :: wG) (wsV RX7 150 RX7 yX7_typeOf wsX7_typeOf) := gW (List.forall_mem_cons.mpr ⟨wG_in (wT3 (List.mem_of_getElem? (i := 179) (by decide +kernel))) rfl, List.forall_mem_cons.mpr ⟨wG_in (wT3 (List.mem_of_getElem? (i := 181) (by decide +kernel))) rfl, List.forall_mem_cons.mpr ⟨wG_sel (List.mem_of_getElem? (i := 39) (by decide +kernel)) rfl, List.forall_mem_cons.mpr ⟨wG_in (wT1 (List.mem_of_getElem? (i := 7) (by decide +kernel))) rfl, List.forall_mem_cons.mpr ⟨kX7_typeOf, fun _ h => h⟩⟩⟩⟩⟩)
theorem hdX7_typeOf : yX7_typeOf.cls = RX7 ∧ yX7_typeOf.cls ≠ "java/lang/invoke/MethodHandle" ∧ yX7_typeOf.cls ≠ "java/lang/invoke/VarHandle" ∧ (parseMethodDescriptor yX7_typeOf.desc).map (fun d => d.parameters.length) = some 2 := by decide +kernel
set_option maxRecDepth 20000 in
theorem gX7_markAbove {x : Cond} : GoodIn (x :: wG) (wsV RX7 154 RX7 yX7_markAbove wsX7_markAbove) := gW (List.forall_mem_cons.mpr ⟨wG_in (wT3 (List.mem_of_getElem? (i := 175) (by decide +kernel))) rfl, List.forall_mem_cons.mpr ⟨wG_in (wT3 (List.mem_of_getElem? (i := 177) (by decide +kernel))) rfl, List.forall_mem_cons.mpr ⟨wG_sel (List.mem_of_getElem? (i := 38) (by decide +kernel)) rfl, List.forall_mem_cons.mpr ⟨wG_in (wT1 (List.mem_of_getElem? (i := 7) (by decide +kernel))) rfl, List.forall_mem_cons.mpr ⟨kX7_markAbove, fun _ h => h⟩⟩⟩⟩⟩)
theorem hdX7_markAbove : yX7_markAbove.cls = RX7 ∧ yX7_markAbove.cls ≠ "java/lang/invoke/MethodHandle" ∧ yX7_markAbove.cls ≠ "java/lang/invoke/VarHandle" ∧ (parseMethodDescriptor yX7_markAbove.desc).map (fun d => d.parameters.length) = some 2 := by decide +kernel
set_option maxRecDepth 20000 in
theorem gX7_reaches {x : Cond} : GoodIn (x :: wG) (wsV RX7 158 RX7 yX7_reaches wsX7_reaches) := gW (List.forall_mem_cons.mpr ⟨wG_in (wT3 (List.mem_of_getElem? (i := 171) (by decide +kernel))) rfl, List.forall_mem_cons.mpr ⟨wG_in (wT3 (List.mem_of_getElem? (i := 173) (by decide +kernel))) rfl, List.forall_mem_cons.mpr ⟨wG_sel (List.mem_of_getElem? (i := 37) (by decide +kernel)) rfl, List.forall_mem_cons.mpr ⟨wG_in (wT1 (List.mem_of_getElem? (i := 7) (by decide +kernel))) rfl, List.forall_mem_cons.mpr ⟨kX7_reaches, fun _ h => h⟩⟩⟩⟩⟩)
theorem hdX7_reaches : yX7_reaches.cls = RX7 ∧ yX7_reaches.cls ≠ "java/lang/invoke/MethodHandle" ∧ yX7_reaches.cls ≠ "java/lang/invoke/VarHandle" ∧ (parseMethodDescriptor yX7_reaches.desc).map (fun d => d.parameters.length) = some 3 := by decide +kernel
set_option maxRecDepth 20000 in
theorem gX7_find {x : Cond} : GoodIn (x :: wG) (wsV RX7 162 RX7 yX7_find wsX7_find) := gW (List.forall_mem_cons.mpr ⟨wG_in (wT3 (List.mem_of_getElem? (i := 199) (by decide +kernel))) rfl, List.forall_mem_cons.mpr ⟨wG_in (wT3 (List.mem_of_getElem? (i := 148) (by decide +kernel))) rfl, List.forall_mem_cons.mpr ⟨wG_in (wT3 (List.mem_of_getElem? (i := 149) (by decide +kernel))) rfl, List.forall_mem_cons.mpr ⟨wG_in (wT1 (List.mem_of_getElem? (i := 7) (by decide +kernel))) rfl, List.forall_mem_cons.mpr ⟨kX7_find, fun _ h => h⟩⟩⟩⟩⟩)
theorem hdX7_find : yX7_find.cls = RX7 ∧ yX7_find.cls ≠ "java/lang/invoke/MethodHandle" ∧ yX7_find.cls ≠ "java/lang/invoke/VarHandle" ∧ (parseMethodDescriptor yX7_find.desc).map (fun d => d.parameters.length) = some 1 := by decide +kernel
set_option maxRecDepth 20000 in
theorem gX7_inherited {x : Cond} : GoodIn (x :: wG) (wsV RX7 165 RX7 yX7_inherited wsX7_inherited) := gW (List.forall_mem_cons.mpr ⟨wG_in (wT3 (List.mem_of_getElem? (i := 195) (by decide +kernel))) rfl, List.forall_mem_cons.mpr ⟨wG_in (wT3 (List.mem_of_getElem? (i := 197) (by decide +kernel))) rfl, List.forall_mem_cons.mpr ⟨wG_sel (List.mem_of_getElem? (i := 40) (by decide +kernel)) rfl, List.forall_mem_cons.mpr ⟨wG_in (wT1 (List.mem_of_getElem? (i := 7) (by decide +kernel))) rfl, List.forall_mem_cons.mpr ⟨kX7_inherited, fun _ h => h⟩⟩⟩⟩⟩)
theorem hdX7_inherited : yX7_inherited.cls = RX7 ∧ yX7_inherited.cls ≠ "java/lang/invoke/MethodHandle" ∧ yX7_inherited.cls ≠ "java/lang/invoke/VarHandle" ∧ (parseMethodDescriptor yX7_inherited.desc).map (fun d => d.parameters.length) = some 1 := by decide +kernel
set_option maxRecDepth 20000 in
theorem gX7_firstNote {x : Cond} : GoodIn (x :: wG) (wsV RX7 168 RX7 yX7_firstNote wsX7_firstNote) := gW (List.forall_mem_cons.mpr ⟨wG_in (wT3 (List.mem_of_getElem? (i := 200) (by decide +kernel))) rfl, List.forall_mem_cons.mpr ⟨wG_in (wT3 (List.mem_of_getElem? (i := 202) (by decide +kernel))) rfl, List.forall_mem_cons.mpr ⟨wG_sel (List.mem_of_getElem? (i := 41) (by decide +kernel)) rfl, List.forall_mem_cons.mpr ⟨wG_in (wT1 (List.mem_of_getElem? (i := 7) (by decide +kernel))) rfl, List.forall_mem_cons.mpr ⟨kX7_firstNote, fun _ h => h⟩⟩⟩⟩⟩)
theorem hdX7_firstNote : yX7_firstNote.cls = RX7 ∧ yX7_firstNote.cls ≠ "java/lang/invoke/MethodHandle" ∧ yX7_firstNote.cls ≠ "java/lang/invoke/VarHandle" ∧ (parseMethodDescriptor yX7_firstNote.desc).map (fun d => d.parameters.length) = some 2 := by decide +kernel
set_option maxRecDepth 20000 in
theorem gX7_behind {x : Cond} : GoodIn (x :: wG) (wsV RX7 171 RX7 yX7_behind wsX7_behind) := gW (List.forall_mem_cons.mpr ⟨wG_in (wT3 (List.mem_of_getElem? (i := 216) (by decide +kernel))) rfl, List.forall_mem_cons.mpr ⟨wG_in (wT3 (List.mem_of_getElem? (i := 218) (by decide +kernel))) rfl, List.forall_mem_cons.mpr ⟨wG_sel (List.mem_of_getElem? (i := 44) (by decide +kernel)) rfl, List.forall_mem_cons.mpr ⟨wG_in (wT1 (List.mem_of_getElem? (i := 7) (by decide +kernel))) rfl, List.forall_mem_cons.mpr ⟨kX7_behind, fun _ h => h⟩⟩⟩⟩⟩)
theorem hdX7_behind : yX7_behind.cls = RX7 ∧ yX7_behind.cls ≠ "java/lang/invoke/MethodHandle" ∧ yX7_behind.cls ≠ "java/lang/invoke/VarHandle" ∧ (parseMethodDescriptor yX7_behind.desc).map (fun d => d.parameters.length) = some 1 := by decide +kernel
set_option maxRecDepth 20000 in
theorem gX7_inRow {x : Cond} : GoodIn (x :: wG) (wsV RX7 174 RX7 yX7_inRow wsX7_inRow) := gW (List.forall_mem_cons.mpr ⟨wG_in (wT3 (List.mem_of_getElem? (i := 212) (by decide +kernel))) rfl, List.forall_mem_cons.mpr ⟨wG_in (wT3 (List.mem_of_getElem? (i := 214) (by decide +kernel))) rfl, List.forall_mem_cons.mpr ⟨wG_sel (List.mem_of_getElem? (i := 43) (by decide +kernel)) rfl, List.forall_mem_cons.mpr ⟨wG_in (wT1 (List.mem_of_getElem? (i := 7) (by decide +kernel))) rfl, List.forall_mem_cons.mpr ⟨kX7_inRow, fun _ h => h⟩⟩⟩⟩⟩)
theorem hdX7_inRow : yX7_inRow.cls = RX7 ∧ yX7_inRow.cls ≠ "java/lang/invoke/MethodHandle" ∧ yX7_inRow.cls ≠ "java/lang/invoke/VarHandle" ∧ (parseMethodDescriptor yX7_inRow.desc).map (fun d => d.parameters.length) = some 3 := by decide +kernel
set_option maxRecDepth 20000 in
theorem gX7_countAt {x : Cond} : GoodIn (x :: wG) (wsV RX7 178 RX7 yX7_countAt wsX7_countAt) := gW (List.forall_mem_cons.mpr ⟨wG_in (wT3 (List.mem_of_getElem? (i := 208) (by decide +kernel))) rfl, List.forall_mem_cons.mpr ⟨wG_in (wT3 (List.mem_of_getElem? (i := 210) (by decide +kernel))) rfl, List.forall_mem_cons.mpr ⟨wG_sel (List.mem_of_getElem? (i := 42) (by decide +kernel)) rfl, List.forall_mem_cons.mpr ⟨wG_in (wT1 (List.mem_of_getElem? (i := 7) (by decide +kernel))) rfl, List.forall_mem_cons.mpr ⟨kX7_countAt, fun _ h => h⟩⟩⟩⟩⟩)
theorem hdX7_countAt : yX7_countAt.cls = RX7 ∧ yX7_countAt.cls ≠ "java/lang/invoke/MethodHandle" ∧ yX7_countAt.cls ≠ "java/lang/invoke/VarHandle" ∧ (parseMethodDescriptor yX7_countAt.desc).map (fun d => d.parameters.length) = some 2 := by decide +kernel
set_option maxRecDepth 20000 in
theorem gX7_holder {x : Cond} : GoodIn (x :: wG) (wsV RX7 193 RX7 yX7_holder wsX7_holder) := gW (List.forall_mem_cons.mpr ⟨wG_in (wT3 (List.mem_of_getElem? (i := 224) (by decide +kernel))) rfl, List.forall_mem_cons.mpr ⟨wG_in (wT3 (List.mem_of_getElem? (i := 192) (by decide +kernel))) rfl, List.forall_mem_cons.mpr ⟨wG_in (wT3 (List.mem_of_getElem? (i := 193) (by decide +kernel))) rfl, List.forall_mem_cons.mpr ⟨wG_in (wT1 (List.mem_of_getElem? (i := 7) (by decide +kernel))) rfl, List.forall_mem_cons.mpr ⟨kX7_holder, fun _ h => h⟩⟩⟩⟩⟩)
theorem hdX7_holder : yX7_holder.cls = RX7 ∧ yX7_holder.cls ≠ "java/lang/invoke/MethodHandle" ∧ yX7_holder.cls ≠ "java/lang/invoke/VarHandle" ∧ (parseMethodDescriptor yX7_holder.desc).map (fun d => d.parameters.length) = some 2 := by decide +kernel
set_option maxRecDepth 20000 in
theorem gX7_lookUp {x : Cond} : GoodIn (x :: wG) (wsV RX7 198 RX7 yX7_lookUp wsX7_lookUp) := gW (List.forall_mem_cons.mpr ⟨wG_in (wT3 (List.mem_of_getElem? (i := 226) (by decide +kernel))) rfl, List.forall_mem_cons.mpr ⟨wG_in (wT3 (List.mem_of_getElem? (i := 228) (by decide +kernel))) rfl, List.forall_mem_cons.mpr ⟨wG_sel (List.mem_of_getElem? (i := 45) (by decide +kernel)) rfl, List.forall_mem_cons.mpr ⟨wG_in (wT1 (List.mem_of_getElem? (i := 7) (by decide +kernel))) rfl, List.forall_mem_cons.mpr ⟨kX7_lookUp, fun _ h => h⟩⟩⟩⟩⟩)
theorem hdX7_lookUp : yX7_lookUp.cls = RX7 ∧ yX7_lookUp.cls ≠ "java/lang/invoke/MethodHandle" ∧ yX7_lookUp.cls ≠ "java/lang/invoke/VarHandle" ∧ (parseMethodDescriptor yX7_lookUp.desc).map (fun d => d.parameters.length) = some 3 := by decide +kernel
set_option maxRecDepth 20000 in
theorem gX7_inside {x : Cond} : GoodIn (x :: wG) (wsV RX7 201 RX7 yX7_inside wsX7_inside) := gW (List.forall_mem_cons.mpr ⟨wG_in (wT3 (List.mem_of_getElem? (i := 230) (by decide +kernel))) rfl, List.forall_mem_cons.mpr ⟨wG_in (wT3 (List.mem_of_getElem? (i := 232) (by decide +kernel))) rfl, List.forall_mem_cons.mpr ⟨wG_sel (List.mem_of_getElem? (i := 46) (by decide +kernel)) rfl, List.forall_mem_cons.mpr ⟨wG_in (wT1 (List.mem_of_getElem? (i := 7) (by decide +kernel))) rfl, List.forall_mem_cons.mpr ⟨kX7_inside, fun _ h => h⟩⟩⟩⟩⟩)
theorem hdX7_inside : yX7_inside.cls = RX7 ∧ yX7_inside.cls ≠ "java/lang/invoke/MethodHandle" ∧ yX7_inside.cls ≠ "java/lang/invoke/VarHandle" ∧ (parseMethodDescriptor yX7_inside.desc).map (fun d => d.parameters.length) = some 2 := by decide +kernel
set_option maxRecDepth 20000 in
theorem gX7_shown {x : Cond} : GoodIn (x :: wG) (wsV RX7 204 RX7 yX7_shown wsX7_shown) := gW (List.forall_mem_cons.mpr ⟨wG_in (wT3 (List.mem_of_getElem? (i := 234) (by decide +kernel))) rfl, List.forall_mem_cons.mpr ⟨wG_in (wT3 (List.mem_of_getElem? (i := 236) (by decide +kernel))) rfl, List.forall_mem_cons.mpr ⟨wG_sel (List.mem_of_getElem? (i := 47) (by decide +kernel)) rfl, List.forall_mem_cons.mpr ⟨wG_in (wT1 (List.mem_of_getElem? (i := 7) (by decide +kernel))) rfl, List.forall_mem_cons.mpr ⟨kX7_shown, fun _ h => h⟩⟩⟩⟩⟩)
theorem hdX7_shown : yX7_shown.cls = RX7 ∧ yX7_shown.cls ≠ "java/lang/invoke/MethodHandle" ∧ yX7_shown.cls ≠ "java/lang/invoke/VarHandle" ∧ (parseMethodDescriptor yX7_shown.desc).map (fun d => d.parameters.length) = some 2 := by decide +kernel
end
section
theorem dX7_init_0 : decode cX7_init 0 = .ok (.aload_n 0, 1) := by decide +kernel
theorem dX7_init_1 : decode cX7_init 1 = .ok (.invokespecial 1, 3) := by decide +kernel
theorem dX7_init_4 : decode cX7_init 4 = .ok (.aload_n 0, 1) := by decide +kernel
theorem dX7_init_5 : decode cX7_init 5 = .ok (.bipush 120, 2) := by decide +kernel
theorem dX7_init_7 : decode cX7_init 7 = .ok (.newarray .int, 2) := by decide +kernel
theorem dX7_init_9 : decode cX7_init 9 = .ok (.putfield 7, 3) := by decide +kernel
theorem dX7_init_12 : decode cX7_init 12 = .ok (.aload_n 0, 1) := by decide +kernel
theorem dX7_init_13 : decode cX7_init 13 = .ok (.sipush 1920, 3) := by decide +kernel
theorem dX7_init_16 : decode cX7_init 16 = .ok (.newarray .int, 2) := by decide +kernel
theorem dX7_init_18 : decode cX7_init 18 = .ok (.putfield 13, 3) := by decide +kernel
theorem dX7_init_21 : decode cX7_init 21 = .ok (.aload_n 0, 1) := by decide +kernel
theorem dX7_init_22 : decode cX7_init 22 = .ok (.sipush 192, 3) := by decide +kernel
theorem dX7_init_25 : decode cX7_init 25 = .ok (.newarray .int, 2) := by decide +kernel
theorem dX7_init_27 : decode cX7_init 27 = .ok (.putfield 16, 3) := by decide +kernel
theorem dX7_init_30 : decode cX7_init 30 = .ok (.aload_n 0, 1) := by decide +kernel
theorem dX7_init_31 : decode cX7_init 31 = .ok (.sipush 208, 3) := by decide +kernel
theorem dX7_init_34 : decode cX7_init 34 = .ok (.newarray .int, 2) := by decide +kernel
theorem dX7_init_36 : decode cX7_init 36 = .ok (.putfield 19, 3) := by decide +kernel
theorem dX7_init_39 : decode cX7_init 39 = .ok (.aload_n 0, 1) := by decide +kernel
theorem dX7_init_40 : decode cX7_init 40 = .ok (.sipush 208, 3) := by decide +kernel
theorem dX7_init_43 : decode cX7_init 43 = .ok (.newarray .int, 2) := by decide +kernel
theorem dX7_init_45 : decode cX7_init 45 = .ok (.putfield 22, 3) := by decide +kernel
theorem dX7_init_48 : decode cX7_init 48 = .ok (.aload_n 0, 1) := by decide +kernel
theorem dX7_init_49 : decode cX7_init 49 = .ok (.sipush 208, 3) := by decide +kernel
theorem dX7_init_52 : decode cX7_init 52 = .ok (.newarray .int, 2) := by decide +kernel
theorem dX7_init_54 : decode cX7_init 54 = .ok (.putfield 25, 3) := by decide +kernel
theorem dX7_init_57 : decode cX7_init 57 = .ok (.aload_n 0, 1) := by decide +kernel
theorem dX7_init_58 : decode cX7_init 58 = .ok (.bipush 16, 2) := by decide +kernel
theorem dX7_init_60 : decode cX7_init 60 = .ok (.newarray .int, 2) := by decide +kernel
theorem dX7_init_62 : decode cX7_init 62 = .ok (.putfield 28, 3) := by decide +kernel
theorem dX7_init_65 : decode cX7_init 65 = .ok (.aload_n 0, 1) := by decide +kernel
theorem dX7_init_66 : decode cX7_init 66 = .ok (.bipush 16, 2) := by decide +kernel
theorem dX7_init_68 : decode cX7_init 68 = .ok (.newarray .int, 2) := by decide +kernel
theorem dX7_init_70 : decode cX7_init 70 = .ok (.putfield 31, 3) := by decide +kernel
theorem dX7_init_73 : decode cX7_init 73 = .ok (.aload_n 0, 1) := by decide +kernel
theorem dX7_init_74 : decode cX7_init 74 = .ok (.bipush 16, 2) := by decide +kernel
theorem dX7_init_76 : decode cX7_init 76 = .ok (.newarray .int, 2) := by decide +kernel
theorem dX7_init_78 : decode cX7_init 78 = .ok (.putfield 34, 3) := by decide +kernel
theorem dX7_init_81 : decode cX7_init 81 = .ok (.aload_n 0, 1) := by decide +kernel
theorem dX7_init_82 : decode cX7_init 82 = .ok (.bipush 16, 2) := by decide +kernel
theorem dX7_init_84 : decode cX7_init 84 = .ok (.newarray .int, 2) := by decide +kernel
theorem dX7_init_86 : decode cX7_init 86 = .ok (.putfield 37, 3) := by decide +kernel
theorem dX7_init_89 : decode cX7_init 89 = .ok (.aload_n 0, 1) := by decide +kernel
theorem dX7_init_90 : decode cX7_init 90 = .ok (.bipush 16, 2) := by decide +kernel
theorem dX7_init_92 : decode cX7_init 92 = .ok (.newarray .int, 2) := by decide +kernel
theorem dX7_init_94 : decode cX7_init 94 = .ok (.putfield 40, 3) := by decide +kernel
theorem dX7_init_97 : decode cX7_init 97 = .ok (.aload_n 0, 1) := by decide +kernel
theorem dX7_init_98 : decode cX7_init 98 = .ok (.bipush 64, 2) := by decide +kernel
theorem dX7_init_100 : decode cX7_init 100 = .ok (.newarray .int, 2) := by decide +kernel
theorem dX7_init_102 : decode cX7_init 102 = .ok (.putfield 43, 3) := by decide +kernel
theorem dX7_init_105 : decode cX7_init 105 = .ok (.aload_n 0, 1) := by decide +kernel
theorem dX7_init_106 : decode cX7_init 106 = .ok (.bipush 16, 2) := by decide +kernel
theorem dX7_init_108 : decode cX7_init 108 = .ok (.newarray .int, 2) := by decide +kernel
theorem dX7_init_110 : decode cX7_init 110 = .ok (.putfield 46, 3) := by decide +kernel
theorem dX7_init_113 : decode cX7_init 113 = .ok (.aload_n 0, 1) := by decide +kernel
theorem dX7_init_114 : decode cX7_init 114 = .ok (.bipush 64, 2) := by decide +kernel
theorem dX7_init_116 : decode cX7_init 116 = .ok (.newarray .int, 2) := by decide +kernel
theorem dX7_init_118 : decode cX7_init 118 = .ok (.putfield 49, 3) := by decide +kernel
theorem dX7_init_121 : decode cX7_init 121 = .ok (.aload_n 0, 1) := by decide +kernel
theorem dX7_init_122 : decode cX7_init 122 = .ok (.bipush 16, 2) := by decide +kernel
theorem dX7_init_124 : decode cX7_init 124 = .ok (.newarray .int, 2) := by decide +kernel
theorem dX7_init_126 : decode cX7_init 126 = .ok (.putfield 52, 3) := by decide +kernel
theorem dX7_init_129 : decode cX7_init 129 = .ok (.aload_n 0, 1) := by decide +kernel
theorem dX7_init_130 : decode cX7_init 130 = .ok (.bipush 7, 2) := by decide +kernel
theorem dX7_init_132 : decode cX7_init 132 = .ok (.newarray .int, 2) := by decide +kernel
theorem dX7_init_134 : decode cX7_init 134 = .ok (.putfield 55, 3) := by decide +kernel
theorem dX7_init_137 : decode cX7_init 137 = .ok (.aload_n 0, 1) := by decide +kernel
theorem dX7_init_138 : decode cX7_init 138 = .ok (.bipush 7, 2) := by decide +kernel
theorem dX7_init_140 : decode cX7_init 140 = .ok (.newarray .boolean, 2) := by decide +kernel
theorem dX7_init_142 : decode cX7_init 142 = .ok (.putfield 58, 3) := by decide +kernel
theorem dX7_init_145 : decode cX7_init 145 = .ok (.aload_n 0, 1) := by decide +kernel
theorem dX7_init_146 : decode cX7_init 146 = .ok (.sipush 192, 3) := by decide +kernel
theorem dX7_init_149 : decode cX7_init 149 = .ok (.newarray .boolean, 2) := by decide +kernel
theorem dX7_init_151 : decode cX7_init 151 = .ok (.putfield 62, 3) := by decide +kernel
theorem dX7_init_154 : decode cX7_init 154 = .ok (.return_, 1) := by decide +kernel
theorem dX7_put_0 : decode cX7_put 0 = .ok (.iload_n 3, 1) := by decide +kernel
theorem dX7_put_1 : decode cX7_put 1 = .ok (.iconst 1, 1) := by decide +kernel
theorem dX7_put_2 : decode cX7_put 2 = .ok (.if_icmp .lt 20, 3) := by decide +kernel
theorem dX7_put_5 : decode cX7_put 5 = .ok (.iload_n 3, 1) := by decide +kernel
theorem dX7_put_6 : decode cX7_put 6 = .ok (.bipush 8, 2) := by decide +kernel
theorem dX7_put_8 : decode cX7_put 8 = .ok (.if_icmp .gt 14, 3) := by decide +kernel
theorem dX7_put_11 : decode cX7_put 11 = .ok (.aload_n 0, 1) := by decide +kernel
theorem dX7_put_12 : decode cX7_put 12 = .ok (.getfield 65, 3) := by decide +kernel
theorem dX7_put_15 : decode cX7_put 15 = .ok (.iload_n 3, 1) := by decide +kernel
theorem dX7_put_16 : decode cX7_put 16 = .ok (.iadd, 1) := by decide +kernel
theorem dX7_put_17 : decode cX7_put 17 = .ok (.bipush 120, 2) := by decide +kernel
theorem dX7_put_19 : decode cX7_put 19 = .ok (.if_icmp .le 5, 3) := by decide +kernel
theorem dX7_put_22 : decode cX7_put 22 = .ok (.iconst 0, 1) := by decide +kernel
theorem dX7_put_23 : decode cX7_put 23 = .ok (.ireturn, 1) := by decide +kernel
theorem dX7_put_24 : decode cX7_put 24 = .ok (.iload_n 3, 1) := by decide +kernel
theorem dX7_put_25 : decode cX7_put 25 = .ok (.iconst 1, 1) := by decide +kernel
theorem dX7_put_26 : decode cX7_put 26 = .ok (.isub, 1) := by decide +kernel
theorem dX7_put_27 : decode cX7_put 27 = .ok (.istore 4, 2) := by decide +kernel
theorem dX7_put_29 : decode cX7_put 29 = .ok (.iload 4, 2) := by decide +kernel
theorem dX7_put_31 : decode cX7_put 31 = .ok (.ifCond .lt 40, 3) := by decide +kernel
theorem dX7_put_34 : decode cX7_put 34 = .ok (.aload_n 0, 1) := by decide +kernel
theorem dX7_put_35 : decode cX7_put 35 = .ok (.getfield 7, 3) := by decide +kernel
theorem dX7_put_38 : decode cX7_put 38 = .ok (.aload_n 0, 1) := by decide +kernel
theorem dX7_put_39 : decode cX7_put 39 = .ok (.getfield 65, 3) := by decide +kernel
theorem dX7_put_42 : decode cX7_put 42 = .ok (.lload_n 1, 1) := by decide +kernel
theorem dX7_put_43 : decode cX7_put 43 = .ok (.bipush 8, 2) := by decide +kernel
theorem dX7_put_45 : decode cX7_put 45 = .ok (.iload 4, 2) := by decide +kernel
theorem dX7_put_47 : decode cX7_put 47 = .ok (.imul, 1) := by decide +kernel
theorem dX7_put_48 : decode cX7_put 48 = .ok (.lshr, 1) := by decide +kernel
theorem dX7_put_49 : decode cX7_put 49 = .ok (.l2i, 1) := by decide +kernel
theorem dX7_put_50 : decode cX7_put 50 = .ok (.sipush 255, 3) := by decide +kernel
theorem dX7_put_53 : decode cX7_put 53 = .ok (.iand, 1) := by decide +kernel
theorem dX7_put_54 : decode cX7_put 54 = .ok (.iastore, 1) := by decide +kernel
theorem dX7_put_55 : decode cX7_put 55 = .ok (.aload_n 0, 1) := by decide +kernel
theorem dX7_put_56 : decode cX7_put 56 = .ok (.dup, 1) := by decide +kernel
theorem dX7_put_57 : decode cX7_put 57 = .ok (.getfield 65, 3) := by decide +kernel
theorem dX7_put_60 : decode cX7_put 60 = .ok (.iconst 1, 1) := by decide +kernel
theorem dX7_put_61 : decode cX7_put 61 = .ok (.iadd, 1) := by decide +kernel
theorem dX7_put_62 : decode cX7_put 62 = .ok (.putfield 65, 3) := by decide +kernel
theorem dX7_put_65 : decode cX7_put 65 = .ok (.iinc 4 (-1), 3) := by decide +kernel
theorem dX7_put_68 : decode cX7_put 68 = .ok (.goto (-39), 3) := by decide +kernel
theorem dX7_put_71 : decode cX7_put 71 = .ok (.iconst 1, 1) := by decide +kernel
theorem dX7_put_72 : decode cX7_put 72 = .ok (.ireturn, 1) := by decide +kernel
theorem dX7_drop_0 : decode cX7_drop 0 = .ok (.aload_n 0, 1) := by decide +kernel
theorem dX7_drop_1 : decode cX7_drop 1 = .ok (.iconst 0, 1) := by decide +kernel
theorem dX7_drop_2 : decode cX7_drop 2 = .ok (.putfield 65, 3) := by decide +kernel
theorem dX7_drop_5 : decode cX7_drop 5 = .ok (.return_, 1) := by decide +kernel
theorem dX7_length_0 : decode cX7_length 0 = .ok (.aload_n 0, 1) := by decide +kernel
theorem dX7_length_1 : decode cX7_length 1 = .ok (.getfield 65, 3) := by decide +kernel
theorem dX7_length_4 : decode cX7_length 4 = .ok (.ireturn, 1) := by decide +kernel
theorem dX7_fail_0 : decode cX7_fail 0 = .ok (.aload_n 0, 1) := by decide +kernel
theorem dX7_fail_1 : decode cX7_fail 1 = .ok (.getfield 69, 3) := by decide +kernel
theorem dX7_fail_4 : decode cX7_fail 4 = .ok (.ifCond .ne 13, 3) := by decide +kernel
theorem dX7_fail_7 : decode cX7_fail 7 = .ok (.aload_n 0, 1) := by decide +kernel
theorem dX7_fail_8 : decode cX7_fail 8 = .ok (.iload_n 1, 1) := by decide +kernel
theorem dX7_fail_9 : decode cX7_fail 9 = .ok (.putfield 69, 3) := by decide +kernel
theorem dX7_fail_12 : decode cX7_fail 12 = .ok (.aload_n 0, 1) := by decide +kernel
theorem dX7_fail_13 : decode cX7_fail 13 = .ok (.iload_n 2, 1) := by decide +kernel
theorem dX7_fail_14 : decode cX7_fail 14 = .ok (.putfield 72, 3) := by decide +kernel
theorem dX7_fail_17 : decode cX7_fail 17 = .ok (.return_, 1) := by decide +kernel
theorem dX7_take_0 : decode cX7_take 0 = .ok (.aload_n 0, 1) := by decide +kernel
theorem dX7_take_1 : decode cX7_take 1 = .ok (.getfield 69, 3) := by decide +kernel
theorem dX7_take_4 : decode cX7_take 4 = .ok (.ifCond .eq 5, 3) := by decide +kernel
theorem dX7_take_7 : decode cX7_take 7 = .ok (.iconst 0, 1) := by decide +kernel
theorem dX7_take_8 : decode cX7_take 8 = .ok (.ireturn, 1) := by decide +kernel
theorem dX7_take_9 : decode cX7_take 9 = .ok (.aload_n 0, 1) := by decide +kernel
theorem dX7_take_10 : decode cX7_take 10 = .ok (.getfield 75, 3) := by decide +kernel
theorem dX7_take_13 : decode cX7_take 13 = .ok (.aload_n 0, 1) := by decide +kernel
theorem dX7_take_14 : decode cX7_take 14 = .ok (.getfield 78, 3) := by decide +kernel
theorem dX7_take_17 : decode cX7_take 17 = .ok (.if_icmp .lt 14, 3) := by decide +kernel
theorem dX7_take_20 : decode cX7_take 20 = .ok (.aload_n 0, 1) := by decide +kernel
theorem dX7_take_21 : decode cX7_take 21 = .ok (.iconst 1, 1) := by decide +kernel
theorem dX7_take_22 : decode cX7_take 22 = .ok (.aload_n 0, 1) := by decide +kernel
theorem dX7_take_23 : decode cX7_take 23 = .ok (.getfield 78, 3) := by decide +kernel
theorem dX7_take_26 : decode cX7_take 26 = .ok (.invokevirtual 81, 3) := by decide +kernel
theorem dX7_take_29 : decode cX7_take 29 = .ok (.iconst 0, 1) := by decide +kernel
theorem dX7_take_30 : decode cX7_take 30 = .ok (.ireturn, 1) := by decide +kernel
theorem dX7_take_31 : decode cX7_take 31 = .ok (.aload_n 0, 1) := by decide +kernel
theorem dX7_take_32 : decode cX7_take 32 = .ok (.getfield 13, 3) := by decide +kernel
theorem dX7_take_35 : decode cX7_take 35 = .ok (.aload_n 0, 1) := by decide +kernel
theorem dX7_take_36 : decode cX7_take 36 = .ok (.getfield 85, 3) := by decide +kernel
theorem dX7_take_39 : decode cX7_take 39 = .ok (.aload_n 0, 1) := by decide +kernel
theorem dX7_take_40 : decode cX7_take 40 = .ok (.getfield 75, 3) := by decide +kernel
theorem dX7_take_43 : decode cX7_take 43 = .ok (.iadd, 1) := by decide +kernel
theorem dX7_take_44 : decode cX7_take 44 = .ok (.iaload, 1) := by decide +kernel
theorem dX7_take_45 : decode cX7_take 45 = .ok (.istore_n 1, 1) := by decide +kernel
theorem dX7_take_46 : decode cX7_take 46 = .ok (.aload_n 0, 1) := by decide +kernel
theorem dX7_take_47 : decode cX7_take 47 = .ok (.dup, 1) := by decide +kernel
theorem dX7_take_48 : decode cX7_take 48 = .ok (.getfield 75, 3) := by decide +kernel
theorem dX7_take_51 : decode cX7_take 51 = .ok (.iconst 1, 1) := by decide +kernel
theorem dX7_take_52 : decode cX7_take 52 = .ok (.iadd, 1) := by decide +kernel
theorem dX7_take_53 : decode cX7_take 53 = .ok (.putfield 75, 3) := by decide +kernel
theorem dX7_take_56 : decode cX7_take 56 = .ok (.iload_n 1, 1) := by decide +kernel
theorem dX7_take_57 : decode cX7_take 57 = .ok (.ireturn, 1) := by decide +kernel
theorem dX7_many_0 : decode cX7_many 0 = .ok (.aload_n 0, 1) := by decide +kernel
theorem dX7_many_1 : decode cX7_many 1 = .ok (.getfield 75, 3) := by decide +kernel
theorem dX7_many_4 : decode cX7_many 4 = .ok (.istore_n 2, 1) := by decide +kernel
theorem dX7_many_5 : decode cX7_many 5 = .ok (.aload_n 0, 1) := by decide +kernel
theorem dX7_many_6 : decode cX7_many 6 = .ok (.invokevirtual 88, 3) := by decide +kernel
theorem dX7_many_9 : decode cX7_many 9 = .ok (.istore_n 3, 1) := by decide +kernel
theorem dX7_many_10 : decode cX7_many 10 = .ok (.iload_n 3, 1) := by decide +kernel
theorem dX7_many_11 : decode cX7_many 11 = .ok (.iload_n 1, 1) := by decide +kernel
theorem dX7_many_12 : decode cX7_many 12 = .ok (.if_icmp .le 9, 3) := by decide +kernel
theorem dX7_many_15 : decode cX7_many 15 = .ok (.aload_n 0, 1) := by decide +kernel
theorem dX7_many_16 : decode cX7_many 16 = .ok (.iconst 4, 1) := by decide +kernel
theorem dX7_many_17 : decode cX7_many 17 = .ok (.iload_n 2, 1) := by decide +kernel
theorem dX7_many_18 : decode cX7_many 18 = .ok (.invokevirtual 81, 3) := by decide +kernel
theorem dX7_many_21 : decode cX7_many 21 = .ok (.aload_n 0, 1) := by decide +kernel
theorem dX7_many_22 : decode cX7_many 22 = .ok (.getfield 69, 3) := by decide +kernel
theorem dX7_many_25 : decode cX7_many 25 = .ok (.ifCond .ne 7, 3) := by decide +kernel
theorem dX7_many_28 : decode cX7_many 28 = .ok (.iload_n 3, 1) := by decide +kernel
theorem dX7_many_29 : decode cX7_many 29 = .ok (.goto 4, 3) := by decide +kernel
theorem dX7_many_32 : decode cX7_many 32 = .ok (.iconst 0, 1) := by decide +kernel
theorem dX7_many_33 : decode cX7_many 33 = .ok (.ireturn, 1) := by decide +kernel
theorem dX7_constant_0 : decode cX7_constant 0 = .ok (.aload_n 0, 1) := by decide +kernel
theorem dX7_constant_1 : decode cX7_constant 1 = .ok (.getfield 75, 3) := by decide +kernel
theorem dX7_constant_4 : decode cX7_constant 4 = .ok (.istore_n 2, 1) := by decide +kernel
theorem dX7_constant_5 : decode cX7_constant 5 = .ok (.aload_n 0, 1) := by decide +kernel
theorem dX7_constant_6 : decode cX7_constant 6 = .ok (.invokevirtual 88, 3) := by decide +kernel
theorem dX7_constant_9 : decode cX7_constant 9 = .ok (.istore_n 3, 1) := by decide +kernel
theorem dX7_constant_10 : decode cX7_constant 10 = .ok (.aload_n 0, 1) := by decide +kernel
theorem dX7_constant_11 : decode cX7_constant 11 = .ok (.getfield 69, 3) := by decide +kernel
theorem dX7_constant_14 : decode cX7_constant 14 = .ok (.ifCond .ne 41, 3) := by decide +kernel
theorem dX7_constant_17 : decode cX7_constant 17 = .ok (.iload_n 3, 1) := by decide +kernel
theorem dX7_constant_18 : decode cX7_constant 18 = .ok (.iconst 1, 1) := by decide +kernel
theorem dX7_constant_19 : decode cX7_constant 19 = .ok (.if_icmp .lt 29, 3) := by decide +kernel
theorem dX7_constant_22 : decode cX7_constant 22 = .ok (.iload_n 3, 1) := by decide +kernel
theorem dX7_constant_23 : decode cX7_constant 23 = .ok (.aload_n 0, 1) := by decide +kernel
theorem dX7_constant_24 : decode cX7_constant 24 = .ok (.getfield 92, 3) := by decide +kernel
theorem dX7_constant_27 : decode cX7_constant 27 = .ok (.if_icmp .gt 21, 3) := by decide +kernel
theorem dX7_constant_30 : decode cX7_constant 30 = .ok (.aload_n 0, 1) := by decide +kernel
theorem dX7_constant_31 : decode cX7_constant 31 = .ok (.getfield 19, 3) := by decide +kernel
theorem dX7_constant_34 : decode cX7_constant 34 = .ok (.bipush 13, 2) := by decide +kernel
theorem dX7_constant_36 : decode cX7_constant 36 = .ok (.aload_n 0, 1) := by decide +kernel
theorem dX7_constant_37 : decode cX7_constant 37 = .ok (.getfield 95, 3) := by decide +kernel
theorem dX7_constant_40 : decode cX7_constant 40 = .ok (.imul, 1) := by decide +kernel
theorem dX7_constant_41 : decode cX7_constant 41 = .ok (.iload_n 3, 1) := by decide +kernel
theorem dX7_constant_42 : decode cX7_constant 42 = .ok (.iadd, 1) := by decide +kernel
theorem dX7_constant_43 : decode cX7_constant 43 = .ok (.iaload, 1) := by decide +kernel
theorem dX7_constant_44 : decode cX7_constant 44 = .ok (.iload_n 1, 1) := by decide +kernel
theorem dX7_constant_45 : decode cX7_constant 45 = .ok (.if_icmp .eq 10, 3) := by decide +kernel
theorem dX7_constant_48 : decode cX7_constant 48 = .ok (.aload_n 0, 1) := by decide +kernel
theorem dX7_constant_49 : decode cX7_constant 49 = .ok (.bipush 6, 2) := by decide +kernel
theorem dX7_constant_51 : decode cX7_constant 51 = .ok (.iload_n 2, 1) := by decide +kernel
theorem dX7_constant_52 : decode cX7_constant 52 = .ok (.invokevirtual 81, 3) := by decide +kernel
theorem dX7_constant_55 : decode cX7_constant 55 = .ok (.iload_n 3, 1) := by decide +kernel
theorem dX7_constant_56 : decode cX7_constant 56 = .ok (.ireturn, 1) := by decide +kernel
theorem dX7_classOrNone_0 : decode cX7_classOrNone 0 = .ok (.aload_n 0, 1) := by decide +kernel
theorem dX7_classOrNone_1 : decode cX7_classOrNone 1 = .ok (.getfield 75, 3) := by decide +kernel
theorem dX7_classOrNone_4 : decode cX7_classOrNone 4 = .ok (.istore_n 1, 1) := by decide +kernel
theorem dX7_classOrNone_5 : decode cX7_classOrNone 5 = .ok (.aload_n 0, 1) := by decide +kernel
theorem dX7_classOrNone_6 : decode cX7_classOrNone 6 = .ok (.invokevirtual 88, 3) := by decide +kernel
theorem dX7_classOrNone_9 : decode cX7_classOrNone 9 = .ok (.istore_n 2, 1) := by decide +kernel
theorem dX7_classOrNone_10 : decode cX7_classOrNone 10 = .ok (.aload_n 0, 1) := by decide +kernel
theorem dX7_classOrNone_11 : decode cX7_classOrNone 11 = .ok (.getfield 69, 3) := by decide +kernel
theorem dX7_classOrNone_14 : decode cX7_classOrNone 14 = .ok (.ifCond .ne 41, 3) := by decide +kernel
theorem dX7_classOrNone_17 : decode cX7_classOrNone 17 = .ok (.iload_n 2, 1) := by decide +kernel
theorem dX7_classOrNone_18 : decode cX7_classOrNone 18 = .ok (.ifCond .eq 37, 3) := by decide +kernel
theorem dX7_classOrNone_21 : decode cX7_classOrNone 21 = .ok (.iload_n 2, 1) := by decide +kernel
theorem dX7_classOrNone_22 : decode cX7_classOrNone 22 = .ok (.aload_n 0, 1) := by decide +kernel
theorem dX7_classOrNone_23 : decode cX7_classOrNone 23 = .ok (.getfield 92, 3) := by decide +kernel
theorem dX7_classOrNone_26 : decode cX7_classOrNone 26 = .ok (.if_icmp .gt 22, 3) := by decide +kernel
theorem dX7_classOrNone_29 : decode cX7_classOrNone 29 = .ok (.aload_n 0, 1) := by decide +kernel
theorem dX7_classOrNone_30 : decode cX7_classOrNone 30 = .ok (.getfield 19, 3) := by decide +kernel
theorem dX7_classOrNone_33 : decode cX7_classOrNone 33 = .ok (.bipush 13, 2) := by decide +kernel
theorem dX7_classOrNone_35 : decode cX7_classOrNone 35 = .ok (.aload_n 0, 1) := by decide +kernel
theorem dX7_classOrNone_36 : decode cX7_classOrNone 36 = .ok (.getfield 95, 3) := by decide +kernel
theorem dX7_classOrNone_39 : decode cX7_classOrNone 39 = .ok (.imul, 1) := by decide +kernel
theorem dX7_classOrNone_40 : decode cX7_classOrNone 40 = .ok (.iload_n 2, 1) := by decide +kernel
theorem dX7_classOrNone_41 : decode cX7_classOrNone 41 = .ok (.iadd, 1) := by decide +kernel
theorem dX7_classOrNone_42 : decode cX7_classOrNone 42 = .ok (.iaload, 1) := by decide +kernel
theorem dX7_classOrNone_43 : decode cX7_classOrNone 43 = .ok (.bipush 7, 2) := by decide +kernel
theorem dX7_classOrNone_45 : decode cX7_classOrNone 45 = .ok (.if_icmp .eq 10, 3) := by decide +kernel
theorem dX7_classOrNone_48 : decode cX7_classOrNone 48 = .ok (.aload_n 0, 1) := by decide +kernel
theorem dX7_classOrNone_49 : decode cX7_classOrNone 49 = .ok (.bipush 6, 2) := by decide +kernel
theorem dX7_classOrNone_51 : decode cX7_classOrNone 51 = .ok (.iload_n 1, 1) := by decide +kernel
theorem dX7_classOrNone_52 : decode cX7_classOrNone 52 = .ok (.invokevirtual 81, 3) := by decide +kernel
theorem dX7_classOrNone_55 : decode cX7_classOrNone 55 = .ok (.iload_n 2, 1) := by decide +kernel
theorem dX7_classOrNone_56 : decode cX7_classOrNone 56 = .ok (.ireturn, 1) := by decide +kernel
theorem dX7_oneConstant_0 : decode cX7_oneConstant 0 = .ok (.aload_n 0, 1) := by decide +kernel
theorem dX7_oneConstant_1 : decode cX7_oneConstant 1 = .ok (.getfield 75, 3) := by decide +kernel
theorem dX7_oneConstant_4 : decode cX7_oneConstant 4 = .ok (.istore_n 2, 1) := by decide +kernel
theorem dX7_oneConstant_5 : decode cX7_oneConstant 5 = .ok (.aload_n 0, 1) := by decide +kernel
theorem dX7_oneConstant_6 : decode cX7_oneConstant 6 = .ok (.invokevirtual 88, 3) := by decide +kernel
theorem dX7_oneConstant_9 : decode cX7_oneConstant 9 = .ok (.istore_n 3, 1) := by decide +kernel
theorem dX7_oneConstant_10 : decode cX7_oneConstant 10 = .ok (.aload_n 0, 1) := by decide +kernel
theorem dX7_oneConstant_11 : decode cX7_oneConstant 11 = .ok (.getfield 69, 3) := by decide +kernel
theorem dX7_oneConstant_14 : decode cX7_oneConstant 14 = .ok (.ifCond .eq 4, 3) := by decide +kernel
theorem dX7_oneConstant_17 : decode cX7_oneConstant 17 = .ok (.return_, 1) := by decide +kernel
theorem dX7_oneConstant_18 : decode cX7_oneConstant 18 = .ok (.aload_n 0, 1) := by decide +kernel
theorem dX7_oneConstant_19 : decode cX7_oneConstant 19 = .ok (.getfield 19, 3) := by decide +kernel
theorem dX7_oneConstant_22 : decode cX7_oneConstant 22 = .ok (.bipush 13, 2) := by decide +kernel
theorem dX7_oneConstant_24 : decode cX7_oneConstant 24 = .ok (.aload_n 0, 1) := by decide +kernel
theorem dX7_oneConstant_25 : decode cX7_oneConstant 25 = .ok (.getfield 95, 3) := by decide +kernel
theorem dX7_oneConstant_28 : decode cX7_oneConstant 28 = .ok (.imul, 1) := by decide +kernel
theorem dX7_oneConstant_29 : decode cX7_oneConstant 29 = .ok (.iload_n 1, 1) := by decide +kernel
theorem dX7_oneConstant_30 : decode cX7_oneConstant 30 = .ok (.iadd, 1) := by decide +kernel
theorem dX7_oneConstant_31 : decode cX7_oneConstant 31 = .ok (.iload_n 3, 1) := by decide +kernel
theorem dX7_oneConstant_32 : decode cX7_oneConstant 32 = .ok (.iastore, 1) := by decide +kernel
theorem dX7_oneConstant_33 : decode cX7_oneConstant 33 = .ok (.aload_n 0, 1) := by decide +kernel
theorem dX7_oneConstant_34 : decode cX7_oneConstant 34 = .ok (.getfield 22, 3) := by decide +kernel
theorem dX7_oneConstant_37 : decode cX7_oneConstant 37 = .ok (.bipush 13, 2) := by decide +kernel
theorem dX7_oneConstant_39 : decode cX7_oneConstant 39 = .ok (.aload_n 0, 1) := by decide +kernel
theorem dX7_oneConstant_40 : decode cX7_oneConstant 40 = .ok (.getfield 95, 3) := by decide +kernel
theorem dX7_oneConstant_43 : decode cX7_oneConstant 43 = .ok (.imul, 1) := by decide +kernel
theorem dX7_oneConstant_44 : decode cX7_oneConstant 44 = .ok (.iload_n 1, 1) := by decide +kernel
theorem dX7_oneConstant_45 : decode cX7_oneConstant 45 = .ok (.iadd, 1) := by decide +kernel
theorem dX7_oneConstant_46 : decode cX7_oneConstant 46 = .ok (.aload_n 0, 1) := by decide +kernel
theorem dX7_oneConstant_47 : decode cX7_oneConstant 47 = .ok (.getfield 85, 3) := by decide +kernel
theorem dX7_oneConstant_50 : decode cX7_oneConstant 50 = .ok (.iload_n 2, 1) := by decide +kernel
theorem dX7_oneConstant_51 : decode cX7_oneConstant 51 = .ok (.iadd, 1) := by decide +kernel
theorem dX7_oneConstant_52 : decode cX7_oneConstant 52 = .ok (.iastore, 1) := by decide +kernel
theorem dX7_oneConstant_53 : decode cX7_oneConstant 53 = .ok (.iload_n 3, 1) := by decide +kernel
theorem dX7_oneConstant_54 : decode cX7_oneConstant 54 = .ok (.iconst 1, 1) := by decide +kernel
theorem dX7_oneConstant_55 : decode cX7_oneConstant 55 = .ok (.if_icmp .ne 70, 3) := by decide +kernel
theorem dX7_oneConstant_58 : decode cX7_oneConstant 58 = .ok (.aload_n 0, 1) := by decide +kernel
theorem dX7_oneConstant_59 : decode cX7_oneConstant 59 = .ok (.bipush 10, 2) := by decide +kernel
theorem dX7_oneConstant_61 : decode cX7_oneConstant 61 = .ok (.invokevirtual 98, 3) := by decide +kernel
theorem dX7_oneConstant_64 : decode cX7_oneConstant 64 = .ok (.istore 4, 2) := by decide +kernel
theorem dX7_oneConstant_66 : decode cX7_oneConstant 66 = .ok (.iconst 0, 1) := by decide +kernel
theorem dX7_oneConstant_67 : decode cX7_oneConstant 67 = .ok (.istore 5, 2) := by decide +kernel
theorem dX7_oneConstant_69 : decode cX7_oneConstant 69 = .ok (.iload 5, 2) := by decide +kernel
theorem dX7_oneConstant_71 : decode cX7_oneConstant 71 = .ok (.iload 4, 2) := by decide +kernel
theorem dX7_oneConstant_73 : decode cX7_oneConstant 73 = .ok (.if_icmp .ge 49, 3) := by decide +kernel
theorem dX7_oneConstant_76 : decode cX7_oneConstant 76 = .ok (.aload_n 0, 1) := by decide +kernel
theorem dX7_oneConstant_77 : decode cX7_oneConstant 77 = .ok (.getfield 75, 3) := by decide +kernel
theorem dX7_oneConstant_80 : decode cX7_oneConstant 80 = .ok (.istore 6, 2) := by decide +kernel
theorem dX7_oneConstant_82 : decode cX7_oneConstant 82 = .ok (.aload_n 0, 1) := by decide +kernel
theorem dX7_oneConstant_83 : decode cX7_oneConstant 83 = .ok (.invokevirtual 88, 3) := by decide +kernel
theorem dX7_oneConstant_86 : decode cX7_oneConstant 86 = .ok (.istore 7, 2) := by decide +kernel
theorem dX7_oneConstant_88 : decode cX7_oneConstant 88 = .ok (.aload_n 0, 1) := by decide +kernel
theorem dX7_oneConstant_89 : decode cX7_oneConstant 89 = .ok (.getfield 69, 3) := by decide +kernel
theorem dX7_oneConstant_92 : decode cX7_oneConstant 92 = .ok (.ifCond .ne 24, 3) := by decide +kernel
theorem dX7_oneConstant_95 : decode cX7_oneConstant 95 = .ok (.iload 7, 2) := by decide +kernel
theorem dX7_oneConstant_97 : decode cX7_oneConstant 97 = .ok (.bipush 33, 2) := by decide +kernel
theorem dX7_oneConstant_99 : decode cX7_oneConstant 99 = .ok (.if_icmp .lt 10, 3) := by decide +kernel
theorem dX7_oneConstant_102 : decode cX7_oneConstant 102 = .ok (.iload 7, 2) := by decide +kernel
theorem dX7_oneConstant_104 : decode cX7_oneConstant 104 = .ok (.bipush 126, 2) := by decide +kernel
theorem dX7_oneConstant_106 : decode cX7_oneConstant 106 = .ok (.if_icmp .le 10, 3) := by decide +kernel
theorem dX7_oneConstant_109 : decode cX7_oneConstant 109 = .ok (.aload_n 0, 1) := by decide +kernel
theorem dX7_oneConstant_110 : decode cX7_oneConstant 110 = .ok (.iconst 5, 1) := by decide +kernel
theorem dX7_oneConstant_111 : decode cX7_oneConstant 111 = .ok (.iload 6, 2) := by decide +kernel
theorem dX7_oneConstant_113 : decode cX7_oneConstant 113 = .ok (.invokevirtual 81, 3) := by decide +kernel
theorem dX7_oneConstant_116 : decode cX7_oneConstant 116 = .ok (.iinc 5 1, 3) := by decide +kernel
theorem dX7_oneConstant_119 : decode cX7_oneConstant 119 = .ok (.goto (-50), 3) := by decide +kernel
theorem dX7_oneConstant_122 : decode cX7_oneConstant 122 = .ok (.goto 51, 3) := by decide +kernel
theorem dX7_oneConstant_125 : decode cX7_oneConstant 125 = .ok (.iload_n 3, 1) := by decide +kernel
theorem dX7_oneConstant_126 : decode cX7_oneConstant 126 = .ok (.iconst 3, 1) := by decide +kernel
theorem dX7_oneConstant_127 : decode cX7_oneConstant 127 = .ok (.if_icmp .ne 26, 3) := by decide +kernel
theorem dX7_oneConstant_130 : decode cX7_oneConstant 130 = .ok (.iconst 0, 1) := by decide +kernel
theorem dX7_oneConstant_131 : decode cX7_oneConstant 131 = .ok (.istore 4, 2) := by decide +kernel
theorem dX7_oneConstant_133 : decode cX7_oneConstant 133 = .ok (.iload 4, 2) := by decide +kernel
theorem dX7_oneConstant_135 : decode cX7_oneConstant 135 = .ok (.iconst 4, 1) := by decide +kernel
theorem dX7_oneConstant_136 : decode cX7_oneConstant 136 = .ok (.if_icmp .ge 14, 3) := by decide +kernel
theorem dX7_oneConstant_139 : decode cX7_oneConstant 139 = .ok (.aload_n 0, 1) := by decide +kernel
theorem dX7_oneConstant_140 : decode cX7_oneConstant 140 = .ok (.invokevirtual 88, 3) := by decide +kernel
theorem dX7_oneConstant_143 : decode cX7_oneConstant 143 = .ok (.pop, 1) := by decide +kernel
theorem dX7_oneConstant_144 : decode cX7_oneConstant 144 = .ok (.iinc 4 1, 3) := by decide +kernel
theorem dX7_oneConstant_147 : decode cX7_oneConstant 147 = .ok (.goto (-14), 3) := by decide +kernel
theorem dX7_oneConstant_150 : decode cX7_oneConstant 150 = .ok (.goto 23, 3) := by decide +kernel
theorem dX7_oneConstant_153 : decode cX7_oneConstant 153 = .ok (.iload_n 3, 1) := by decide +kernel
theorem dX7_oneConstant_154 : decode cX7_oneConstant 154 = .ok (.bipush 7, 2) := by decide +kernel
theorem dX7_oneConstant_156 : decode cX7_oneConstant 156 = .ok (.if_icmp .ne 11, 3) := by decide +kernel
theorem dX7_oneConstant_159 : decode cX7_oneConstant 159 = .ok (.aload_n 0, 1) := by decide +kernel
theorem dX7_oneConstant_160 : decode cX7_oneConstant 160 = .ok (.invokevirtual 88, 3) := by decide +kernel
theorem dX7_oneConstant_163 : decode cX7_oneConstant 163 = .ok (.pop, 1) := by decide +kernel
theorem dX7_oneConstant_164 : decode cX7_oneConstant 164 = .ok (.goto 9, 3) := by decide +kernel
theorem dX7_oneConstant_167 : decode cX7_oneConstant 167 = .ok (.aload_n 0, 1) := by decide +kernel
theorem dX7_oneConstant_168 : decode cX7_oneConstant 168 = .ok (.iconst 3, 1) := by decide +kernel
theorem dX7_oneConstant_169 : decode cX7_oneConstant 169 = .ok (.iload_n 2, 1) := by decide +kernel
theorem dX7_oneConstant_170 : decode cX7_oneConstant 170 = .ok (.invokevirtual 81, 3) := by decide +kernel
theorem dX7_oneConstant_173 : decode cX7_oneConstant 173 = .ok (.return_, 1) := by decide +kernel
theorem dX7_allConstants_0 : decode cX7_allConstants 0 = .ok (.aload_n 0, 1) := by decide +kernel
theorem dX7_allConstants_1 : decode cX7_allConstants 1 = .ok (.aload_n 0, 1) := by decide +kernel
theorem dX7_allConstants_2 : decode cX7_allConstants 2 = .ok (.bipush 12, 2) := by decide +kernel
theorem dX7_allConstants_4 : decode cX7_allConstants 4 = .ok (.invokevirtual 98, 3) := by decide +kernel
theorem dX7_allConstants_7 : decode cX7_allConstants 7 = .ok (.putfield 92, 3) := by decide +kernel
theorem dX7_allConstants_10 : decode cX7_allConstants 10 = .ok (.iconst 1, 1) := by decide +kernel
theorem dX7_allConstants_11 : decode cX7_allConstants 11 = .ok (.istore_n 1, 1) := by decide +kernel
theorem dX7_allConstants_12 : decode cX7_allConstants 12 = .ok (.iload_n 1, 1) := by decide +kernel
theorem dX7_allConstants_13 : decode cX7_allConstants 13 = .ok (.aload_n 0, 1) := by decide +kernel
theorem dX7_allConstants_14 : decode cX7_allConstants 14 = .ok (.getfield 92, 3) := by decide +kernel
theorem dX7_allConstants_17 : decode cX7_allConstants 17 = .ok (.if_icmp .gt 21, 3) := by decide +kernel
theorem dX7_allConstants_20 : decode cX7_allConstants 20 = .ok (.aload_n 0, 1) := by decide +kernel
theorem dX7_allConstants_21 : decode cX7_allConstants 21 = .ok (.getfield 69, 3) := by decide +kernel
theorem dX7_allConstants_24 : decode cX7_allConstants 24 = .ok (.ifCond .ne 14, 3) := by decide +kernel
theorem dX7_allConstants_27 : decode cX7_allConstants 27 = .ok (.aload_n 0, 1) := by decide +kernel
theorem dX7_allConstants_28 : decode cX7_allConstants 28 = .ok (.iload_n 1, 1) := by decide +kernel
theorem dX7_allConstants_29 : decode cX7_allConstants 29 = .ok (.invokevirtual 102, 3) := by decide +kernel
theorem dX7_allConstants_32 : decode cX7_allConstants 32 = .ok (.iinc 1 1, 3) := by decide +kernel
theorem dX7_allConstants_35 : decode cX7_allConstants 35 = .ok (.goto (-23), 3) := by decide +kernel
theorem dX7_allConstants_38 : decode cX7_allConstants 38 = .ok (.iconst 1, 1) := by decide +kernel
theorem dX7_allConstants_39 : decode cX7_allConstants 39 = .ok (.istore_n 1, 1) := by decide +kernel
theorem dX7_allConstants_40 : decode cX7_allConstants 40 = .ok (.iload_n 1, 1) := by decide +kernel
theorem dX7_allConstants_41 : decode cX7_allConstants 41 = .ok (.aload_n 0, 1) := by decide +kernel
theorem dX7_allConstants_42 : decode cX7_allConstants 42 = .ok (.getfield 92, 3) := by decide +kernel
theorem dX7_allConstants_45 : decode cX7_allConstants 45 = .ok (.if_icmp .gt 140, 3) := by decide +kernel
theorem dX7_allConstants_48 : decode cX7_allConstants 48 = .ok (.aload_n 0, 1) := by decide +kernel
theorem dX7_allConstants_49 : decode cX7_allConstants 49 = .ok (.getfield 69, 3) := by decide +kernel
theorem dX7_allConstants_52 : decode cX7_allConstants 52 = .ok (.ifCond .ne 133, 3) := by decide +kernel
theorem dX7_allConstants_55 : decode cX7_allConstants 55 = .ok (.aload_n 0, 1) := by decide +kernel
theorem dX7_allConstants_56 : decode cX7_allConstants 56 = .ok (.getfield 22, 3) := by decide +kernel
theorem dX7_allConstants_59 : decode cX7_allConstants 59 = .ok (.bipush 13, 2) := by decide +kernel
theorem dX7_allConstants_61 : decode cX7_allConstants 61 = .ok (.aload_n 0, 1) := by decide +kernel
theorem dX7_allConstants_62 : decode cX7_allConstants 62 = .ok (.getfield 95, 3) := by decide +kernel
theorem dX7_allConstants_65 : decode cX7_allConstants 65 = .ok (.imul, 1) := by decide +kernel
theorem dX7_allConstants_66 : decode cX7_allConstants 66 = .ok (.iload_n 1, 1) := by decide +kernel
theorem dX7_allConstants_67 : decode cX7_allConstants 67 = .ok (.iadd, 1) := by decide +kernel
theorem dX7_allConstants_68 : decode cX7_allConstants 68 = .ok (.iaload, 1) := by decide +kernel
theorem dX7_allConstants_69 : decode cX7_allConstants 69 = .ok (.istore_n 2, 1) := by decide +kernel
theorem dX7_allConstants_70 : decode cX7_allConstants 70 = .ok (.aload_n 0, 1) := by decide +kernel
theorem dX7_allConstants_71 : decode cX7_allConstants 71 = .ok (.getfield 19, 3) := by decide +kernel
theorem dX7_allConstants_74 : decode cX7_allConstants 74 = .ok (.bipush 13, 2) := by decide +kernel
theorem dX7_allConstants_76 : decode cX7_allConstants 76 = .ok (.aload_n 0, 1) := by decide +kernel
theorem dX7_allConstants_77 : decode cX7_allConstants 77 = .ok (.getfield 95, 3) := by decide +kernel
theorem dX7_allConstants_80 : decode cX7_allConstants 80 = .ok (.imul, 1) := by decide +kernel
theorem dX7_allConstants_81 : decode cX7_allConstants 81 = .ok (.iload_n 1, 1) := by decide +kernel
theorem dX7_allConstants_82 : decode cX7_allConstants 82 = .ok (.iadd, 1) := by decide +kernel
theorem dX7_allConstants_83 : decode cX7_allConstants 83 = .ok (.iaload, 1) := by decide +kernel
theorem dX7_allConstants_84 : decode cX7_allConstants 84 = .ok (.bipush 7, 2) := by decide +kernel
theorem dX7_allConstants_86 : decode cX7_allConstants 86 = .ok (.if_icmp .ne 93, 3) := by decide +kernel
theorem dX7_allConstants_89 : decode cX7_allConstants 89 = .ok (.aload_n 0, 1) := by decide +kernel
theorem dX7_allConstants_90 : decode cX7_allConstants 90 = .ok (.getfield 13, 3) := by decide +kernel
theorem dX7_allConstants_93 : decode cX7_allConstants 93 = .ok (.iload_n 2, 1) := by decide +kernel
theorem dX7_allConstants_94 : decode cX7_allConstants 94 = .ok (.iconst 1, 1) := by decide +kernel
theorem dX7_allConstants_95 : decode cX7_allConstants 95 = .ok (.iadd, 1) := by decide +kernel
theorem dX7_allConstants_96 : decode cX7_allConstants 96 = .ok (.iaload, 1) := by decide +kernel
theorem dX7_allConstants_97 : decode cX7_allConstants 97 = .ok (.istore_n 3, 1) := by decide +kernel
theorem dX7_allConstants_98 : decode cX7_allConstants 98 = .ok (.iload_n 3, 1) := by decide +kernel
theorem dX7_allConstants_99 : decode cX7_allConstants 99 = .ok (.iconst 1, 1) := by decide +kernel
theorem dX7_allConstants_100 : decode cX7_allConstants 100 = .ok (.if_icmp .lt 57, 3) := by decide +kernel
theorem dX7_allConstants_103 : decode cX7_allConstants 103 = .ok (.iload_n 3, 1) := by decide +kernel
theorem dX7_allConstants_104 : decode cX7_allConstants 104 = .ok (.aload_n 0, 1) := by decide +kernel
theorem dX7_allConstants_105 : decode cX7_allConstants 105 = .ok (.getfield 92, 3) := by decide +kernel
theorem dX7_allConstants_108 : decode cX7_allConstants 108 = .ok (.if_icmp .gt 49, 3) := by decide +kernel
theorem dX7_allConstants_111 : decode cX7_allConstants 111 = .ok (.aload_n 0, 1) := by decide +kernel
theorem dX7_allConstants_112 : decode cX7_allConstants 112 = .ok (.getfield 19, 3) := by decide +kernel
theorem dX7_allConstants_115 : decode cX7_allConstants 115 = .ok (.bipush 13, 2) := by decide +kernel
theorem dX7_allConstants_117 : decode cX7_allConstants 117 = .ok (.aload_n 0, 1) := by decide +kernel
theorem dX7_allConstants_118 : decode cX7_allConstants 118 = .ok (.getfield 95, 3) := by decide +kernel
theorem dX7_allConstants_121 : decode cX7_allConstants 121 = .ok (.imul, 1) := by decide +kernel
theorem dX7_allConstants_122 : decode cX7_allConstants 122 = .ok (.iload_n 3, 1) := by decide +kernel
theorem dX7_allConstants_123 : decode cX7_allConstants 123 = .ok (.iadd, 1) := by decide +kernel
theorem dX7_allConstants_124 : decode cX7_allConstants 124 = .ok (.iaload, 1) := by decide +kernel
theorem dX7_allConstants_125 : decode cX7_allConstants 125 = .ok (.iconst 1, 1) := by decide +kernel
theorem dX7_allConstants_126 : decode cX7_allConstants 126 = .ok (.if_icmp .ne 31, 3) := by decide +kernel
theorem dX7_allConstants_129 : decode cX7_allConstants 129 = .ok (.aload_n 0, 1) := by decide +kernel
theorem dX7_allConstants_130 : decode cX7_allConstants 130 = .ok (.getfield 13, 3) := by decide +kernel
theorem dX7_allConstants_133 : decode cX7_allConstants 133 = .ok (.aload_n 0, 1) := by decide +kernel
theorem dX7_allConstants_134 : decode cX7_allConstants 134 = .ok (.getfield 22, 3) := by decide +kernel
theorem dX7_allConstants_137 : decode cX7_allConstants 137 = .ok (.bipush 13, 2) := by decide +kernel
theorem dX7_allConstants_139 : decode cX7_allConstants 139 = .ok (.aload_n 0, 1) := by decide +kernel
theorem dX7_allConstants_140 : decode cX7_allConstants 140 = .ok (.getfield 95, 3) := by decide +kernel
theorem dX7_allConstants_143 : decode cX7_allConstants 143 = .ok (.imul, 1) := by decide +kernel
theorem dX7_allConstants_144 : decode cX7_allConstants 144 = .ok (.iload_n 3, 1) := by decide +kernel
theorem dX7_allConstants_145 : decode cX7_allConstants 145 = .ok (.iadd, 1) := by decide +kernel
theorem dX7_allConstants_146 : decode cX7_allConstants 146 = .ok (.iaload, 1) := by decide +kernel
theorem dX7_allConstants_147 : decode cX7_allConstants 147 = .ok (.iconst 1, 1) := by decide +kernel
theorem dX7_allConstants_148 : decode cX7_allConstants 148 = .ok (.iadd, 1) := by decide +kernel
theorem dX7_allConstants_149 : decode cX7_allConstants 149 = .ok (.iaload, 1) := by decide +kernel
theorem dX7_allConstants_150 : decode cX7_allConstants 150 = .ok (.ifCond .le 7, 3) := by decide +kernel
theorem dX7_allConstants_153 : decode cX7_allConstants 153 = .ok (.iconst 1, 1) := by decide +kernel
theorem dX7_allConstants_154 : decode cX7_allConstants 154 = .ok (.goto 4, 3) := by decide +kernel
theorem dX7_allConstants_157 : decode cX7_allConstants 157 = .ok (.iconst 0, 1) := by decide +kernel
theorem dX7_allConstants_158 : decode cX7_allConstants 158 = .ok (.istore 4, 2) := by decide +kernel
theorem dX7_allConstants_160 : decode cX7_allConstants 160 = .ok (.iload 4, 2) := by decide +kernel
theorem dX7_allConstants_162 : decode cX7_allConstants 162 = .ok (.ifCond .ne 17, 3) := by decide +kernel
theorem dX7_allConstants_165 : decode cX7_allConstants 165 = .ok (.aload_n 0, 1) := by decide +kernel
theorem dX7_allConstants_166 : decode cX7_allConstants 166 = .ok (.bipush 6, 2) := by decide +kernel
theorem dX7_allConstants_168 : decode cX7_allConstants 168 = .ok (.iload_n 2, 1) := by decide +kernel
theorem dX7_allConstants_169 : decode cX7_allConstants 169 = .ok (.iconst 1, 1) := by decide +kernel
theorem dX7_allConstants_170 : decode cX7_allConstants 170 = .ok (.iadd, 1) := by decide +kernel
theorem dX7_allConstants_171 : decode cX7_allConstants 171 = .ok (.aload_n 0, 1) := by decide +kernel
theorem dX7_allConstants_172 : decode cX7_allConstants 172 = .ok (.getfield 85, 3) := by decide +kernel
theorem dX7_allConstants_175 : decode cX7_allConstants 175 = .ok (.isub, 1) := by decide +kernel
theorem dX7_allConstants_176 : decode cX7_allConstants 176 = .ok (.invokevirtual 81, 3) := by decide +kernel
theorem dX7_allConstants_179 : decode cX7_allConstants 179 = .ok (.iinc 1 1, 3) := by decide +kernel
theorem dX7_allConstants_182 : decode cX7_allConstants 182 = .ok (.goto (-142), 3) := by decide +kernel
theorem dX7_allConstants_185 : decode cX7_allConstants 185 = .ok (.return_, 1) := by decide +kernel
theorem dX7_values_0 : decode cX7_values 0 = .ok (.iconst 1, 1) := by decide +kernel
theorem dX7_values_1 : decode cX7_values 1 = .ok (.istore_n 2, 1) := by decide +kernel
theorem dX7_values_2 : decode cX7_values 2 = .ok (.aload_n 0, 1) := by decide +kernel
theorem dX7_values_3 : decode cX7_values 3 = .ok (.getfield 55, 3) := by decide +kernel
theorem dX7_values_6 : decode cX7_values 6 = .ok (.iconst 1, 1) := by decide +kernel
theorem dX7_values_7 : decode cX7_values 7 = .ok (.iload_n 1, 1) := by decide +kernel
theorem dX7_values_8 : decode cX7_values 8 = .ok (.iastore, 1) := by decide +kernel
theorem dX7_values_9 : decode cX7_values 9 = .ok (.aload_n 0, 1) := by decide +kernel
theorem dX7_values_10 : decode cX7_values 10 = .ok (.getfield 58, 3) := by decide +kernel
theorem dX7_values_13 : decode cX7_values 13 = .ok (.iconst 1, 1) := by decide +kernel
theorem dX7_values_14 : decode cX7_values 14 = .ok (.iconst 1, 1) := by decide +kernel
theorem dX7_values_15 : decode cX7_values 15 = .ok (.bastore, 1) := by decide +kernel
theorem dX7_values_16 : decode cX7_values 16 = .ok (.iload_n 2, 1) := by decide +kernel
theorem dX7_values_17 : decode cX7_values 17 = .ok (.ifCond .le 71, 3) := by decide +kernel
theorem dX7_values_20 : decode cX7_values 20 = .ok (.aload_n 0, 1) := by decide +kernel
theorem dX7_values_21 : decode cX7_values 21 = .ok (.getfield 69, 3) := by decide +kernel
theorem dX7_values_24 : decode cX7_values 24 = .ok (.ifCond .ne 64, 3) := by decide +kernel
theorem dX7_values_27 : decode cX7_values 27 = .ok (.aload_n 0, 1) := by decide +kernel
theorem dX7_values_28 : decode cX7_values 28 = .ok (.getfield 55, 3) := by decide +kernel
theorem dX7_values_31 : decode cX7_values 31 = .ok (.iload_n 2, 1) := by decide +kernel
theorem dX7_values_32 : decode cX7_values 32 = .ok (.iaload, 1) := by decide +kernel
theorem dX7_values_33 : decode cX7_values 33 = .ok (.ifCond .ne 9, 3) := by decide +kernel
theorem dX7_values_36 : decode cX7_values 36 = .ok (.iinc 2 (-1), 3) := by decide +kernel
theorem dX7_values_39 : decode cX7_values 39 = .ok (.goto (-23), 3) := by decide +kernel
theorem dX7_values_42 : decode cX7_values 42 = .ok (.aload_n 0, 1) := by decide +kernel
theorem dX7_values_43 : decode cX7_values 43 = .ok (.getfield 55, 3) := by decide +kernel
theorem dX7_values_46 : decode cX7_values 46 = .ok (.iload_n 2, 1) := by decide +kernel
theorem dX7_values_47 : decode cX7_values 47 = .ok (.dup2, 1) := by decide +kernel
theorem dX7_values_48 : decode cX7_values 48 = .ok (.iaload, 1) := by decide +kernel
theorem dX7_values_49 : decode cX7_values 49 = .ok (.iconst 1, 1) := by decide +kernel
theorem dX7_values_50 : decode cX7_values 50 = .ok (.isub, 1) := by decide +kernel
theorem dX7_values_51 : decode cX7_values 51 = .ok (.iastore, 1) := by decide +kernel
theorem dX7_values_52 : decode cX7_values 52 = .ok (.aload_n 0, 1) := by decide +kernel
theorem dX7_values_53 : decode cX7_values 53 = .ok (.getfield 58, 3) := by decide +kernel
theorem dX7_values_56 : decode cX7_values 56 = .ok (.iload_n 2, 1) := by decide +kernel
theorem dX7_values_57 : decode cX7_values 57 = .ok (.baload, 1) := by decide +kernel
theorem dX7_values_58 : decode cX7_values 58 = .ok (.ifCond .eq 9, 3) := by decide +kernel
theorem dX7_values_61 : decode cX7_values 61 = .ok (.aload_n 0, 1) := by decide +kernel
theorem dX7_values_62 : decode cX7_values 62 = .ok (.iconst 1, 1) := by decide +kernel
theorem dX7_values_63 : decode cX7_values 63 = .ok (.invokevirtual 106, 3) := by decide +kernel
theorem dX7_values_66 : decode cX7_values 66 = .ok (.pop, 1) := by decide +kernel
theorem dX7_values_67 : decode cX7_values 67 = .ok (.aload_n 0, 1) := by decide +kernel
theorem dX7_values_68 : decode cX7_values 68 = .ok (.getfield 69, 3) := by decide +kernel
theorem dX7_values_71 : decode cX7_values 71 = .ok (.ifCond .ne (-55), 3) := by decide +kernel
theorem dX7_values_74 : decode cX7_values 74 = .ok (.aload_n 0, 1) := by decide +kernel
theorem dX7_values_75 : decode cX7_values 75 = .ok (.iload_n 2, 1) := by decide +kernel
theorem dX7_values_76 : decode cX7_values 76 = .ok (.invokevirtual 109, 3) := by decide +kernel
theorem dX7_values_79 : decode cX7_values 79 = .ok (.ifCond .eq (-63), 3) := by decide +kernel
theorem dX7_values_82 : decode cX7_values 82 = .ok (.iinc 2 1, 3) := by decide +kernel
theorem dX7_values_85 : decode cX7_values 85 = .ok (.goto (-69), 3) := by decide +kernel
theorem dX7_values_88 : decode cX7_values 88 = .ok (.return_, 1) := by decide +kernel
theorem dX7_oneValue_0 : decode cX7_oneValue 0 = .ok (.aload_n 0, 1) := by decide +kernel
theorem dX7_oneValue_1 : decode cX7_oneValue 1 = .ok (.getfield 75, 3) := by decide +kernel
theorem dX7_oneValue_4 : decode cX7_oneValue 4 = .ok (.istore_n 2, 1) := by decide +kernel
theorem dX7_oneValue_5 : decode cX7_oneValue 5 = .ok (.aload_n 0, 1) := by decide +kernel
theorem dX7_oneValue_6 : decode cX7_oneValue 6 = .ok (.invokevirtual 88, 3) := by decide +kernel
theorem dX7_oneValue_9 : decode cX7_oneValue 9 = .ok (.istore_n 3, 1) := by decide +kernel
theorem dX7_oneValue_10 : decode cX7_oneValue 10 = .ok (.aload_n 0, 1) := by decide +kernel
theorem dX7_oneValue_11 : decode cX7_oneValue 11 = .ok (.getfield 69, 3) := by decide +kernel
theorem dX7_oneValue_14 : decode cX7_oneValue 14 = .ok (.ifCond .eq 5, 3) := by decide +kernel
theorem dX7_oneValue_17 : decode cX7_oneValue 17 = .ok (.iconst 0, 1) := by decide +kernel
theorem dX7_oneValue_18 : decode cX7_oneValue 18 = .ok (.ireturn, 1) := by decide +kernel
theorem dX7_oneValue_19 : decode cX7_oneValue 19 = .ok (.iload_n 1, 1) := by decide +kernel
theorem dX7_oneValue_20 : decode cX7_oneValue 20 = .ok (.iconst 5, 1) := by decide +kernel
theorem dX7_oneValue_21 : decode cX7_oneValue 21 = .ok (.if_icmp .ne 13, 3) := by decide +kernel
theorem dX7_oneValue_24 : decode cX7_oneValue 24 = .ok (.aload_n 0, 1) := by decide +kernel
theorem dX7_oneValue_25 : decode cX7_oneValue 25 = .ok (.bipush 7, 2) := by decide +kernel
theorem dX7_oneValue_27 : decode cX7_oneValue 27 = .ok (.iload_n 2, 1) := by decide +kernel
theorem dX7_oneValue_28 : decode cX7_oneValue 28 = .ok (.invokevirtual 81, 3) := by decide +kernel
theorem dX7_oneValue_31 : decode cX7_oneValue 31 = .ok (.goto 114, 3) := by decide +kernel
theorem dX7_oneValue_34 : decode cX7_oneValue 34 = .ok (.iload_n 3, 1) := by decide +kernel
theorem dX7_oneValue_35 : decode cX7_oneValue 35 = .ok (.bipush 73, 2) := by decide +kernel
theorem dX7_oneValue_37 : decode cX7_oneValue 37 = .ok (.if_icmp .ne 12, 3) := by decide +kernel
theorem dX7_oneValue_40 : decode cX7_oneValue 40 = .ok (.aload_n 0, 1) := by decide +kernel
theorem dX7_oneValue_41 : decode cX7_oneValue 41 = .ok (.iconst 3, 1) := by decide +kernel
theorem dX7_oneValue_42 : decode cX7_oneValue 42 = .ok (.invokevirtual 106, 3) := by decide +kernel
theorem dX7_oneValue_45 : decode cX7_oneValue 45 = .ok (.pop, 1) := by decide +kernel
theorem dX7_oneValue_46 : decode cX7_oneValue 46 = .ok (.goto 99, 3) := by decide +kernel
theorem dX7_oneValue_49 : decode cX7_oneValue 49 = .ok (.iload_n 3, 1) := by decide +kernel
theorem dX7_oneValue_50 : decode cX7_oneValue 50 = .ok (.bipush 115, 2) := by decide +kernel
theorem dX7_oneValue_52 : decode cX7_oneValue 52 = .ok (.if_icmp .ne 12, 3) := by decide +kernel
theorem dX7_oneValue_55 : decode cX7_oneValue 55 = .ok (.aload_n 0, 1) := by decide +kernel
theorem dX7_oneValue_56 : decode cX7_oneValue 56 = .ok (.iconst 1, 1) := by decide +kernel
theorem dX7_oneValue_57 : decode cX7_oneValue 57 = .ok (.invokevirtual 106, 3) := by decide +kernel
theorem dX7_oneValue_60 : decode cX7_oneValue 60 = .ok (.pop, 1) := by decide +kernel
theorem dX7_oneValue_61 : decode cX7_oneValue 61 = .ok (.goto 84, 3) := by decide +kernel
theorem dX7_oneValue_64 : decode cX7_oneValue 64 = .ok (.iload_n 3, 1) := by decide +kernel
theorem dX7_oneValue_65 : decode cX7_oneValue 65 = .ok (.bipush 99, 2) := by decide +kernel
theorem dX7_oneValue_67 : decode cX7_oneValue 67 = .ok (.if_icmp .ne 13, 3) := by decide +kernel
theorem dX7_oneValue_70 : decode cX7_oneValue 70 = .ok (.aload_n 0, 1) := by decide +kernel
theorem dX7_oneValue_71 : decode cX7_oneValue 71 = .ok (.bipush 7, 2) := by decide +kernel
theorem dX7_oneValue_73 : decode cX7_oneValue 73 = .ok (.invokevirtual 106, 3) := by decide +kernel
theorem dX7_oneValue_76 : decode cX7_oneValue 76 = .ok (.pop, 1) := by decide +kernel
theorem dX7_oneValue_77 : decode cX7_oneValue 77 = .ok (.goto 68, 3) := by decide +kernel
theorem dX7_oneValue_80 : decode cX7_oneValue 80 = .ok (.iload_n 3, 1) := by decide +kernel
theorem dX7_oneValue_81 : decode cX7_oneValue 81 = .ok (.bipush 91, 2) := by decide +kernel
theorem dX7_oneValue_83 : decode cX7_oneValue 83 = .ok (.if_icmp .eq 9, 3) := by decide +kernel
theorem dX7_oneValue_86 : decode cX7_oneValue 86 = .ok (.iload_n 3, 1) := by decide +kernel
theorem dX7_oneValue_87 : decode cX7_oneValue 87 = .ok (.bipush 64, 2) := by decide +kernel
theorem dX7_oneValue_89 : decode cX7_oneValue 89 = .ok (.if_icmp .ne 50, 3) := by decide +kernel
theorem dX7_oneValue_92 : decode cX7_oneValue 92 = .ok (.iload_n 3, 1) := by decide +kernel
theorem dX7_oneValue_93 : decode cX7_oneValue 93 = .ok (.bipush 64, 2) := by decide +kernel
theorem dX7_oneValue_95 : decode cX7_oneValue 95 = .ok (.if_icmp .ne 10, 3) := by decide +kernel
theorem dX7_oneValue_98 : decode cX7_oneValue 98 = .ok (.aload_n 0, 1) := by decide +kernel
theorem dX7_oneValue_99 : decode cX7_oneValue 99 = .ok (.bipush 7, 2) := by decide +kernel
theorem dX7_oneValue_101 : decode cX7_oneValue 101 = .ok (.invokevirtual 106, 3) := by decide +kernel
theorem dX7_oneValue_104 : decode cX7_oneValue 104 = .ok (.pop, 1) := by decide +kernel
theorem dX7_oneValue_105 : decode cX7_oneValue 105 = .ok (.aload_n 0, 1) := by decide +kernel
theorem dX7_oneValue_106 : decode cX7_oneValue 106 = .ok (.getfield 55, 3) := by decide +kernel
theorem dX7_oneValue_109 : decode cX7_oneValue 109 = .ok (.iload_n 1, 1) := by decide +kernel
theorem dX7_oneValue_110 : decode cX7_oneValue 110 = .ok (.iconst 1, 1) := by decide +kernel
theorem dX7_oneValue_111 : decode cX7_oneValue 111 = .ok (.iadd, 1) := by decide +kernel
theorem dX7_oneValue_112 : decode cX7_oneValue 112 = .ok (.aload_n 0, 1) := by decide +kernel
theorem dX7_oneValue_113 : decode cX7_oneValue 113 = .ok (.iconst 4, 1) := by decide +kernel
theorem dX7_oneValue_114 : decode cX7_oneValue 114 = .ok (.invokevirtual 98, 3) := by decide +kernel
theorem dX7_oneValue_117 : decode cX7_oneValue 117 = .ok (.iastore, 1) := by decide +kernel
theorem dX7_oneValue_118 : decode cX7_oneValue 118 = .ok (.aload_n 0, 1) := by decide +kernel
theorem dX7_oneValue_119 : decode cX7_oneValue 119 = .ok (.getfield 58, 3) := by decide +kernel
theorem dX7_oneValue_122 : decode cX7_oneValue 122 = .ok (.iload_n 1, 1) := by decide +kernel
theorem dX7_oneValue_123 : decode cX7_oneValue 123 = .ok (.iconst 1, 1) := by decide +kernel
theorem dX7_oneValue_124 : decode cX7_oneValue 124 = .ok (.iadd, 1) := by decide +kernel
theorem dX7_oneValue_125 : decode cX7_oneValue 125 = .ok (.iload_n 3, 1) := by decide +kernel
theorem dX7_oneValue_126 : decode cX7_oneValue 126 = .ok (.bipush 64, 2) := by decide +kernel
theorem dX7_oneValue_128 : decode cX7_oneValue 128 = .ok (.if_icmp .ne 7, 3) := by decide +kernel
theorem dX7_oneValue_131 : decode cX7_oneValue 131 = .ok (.iconst 1, 1) := by decide +kernel
theorem dX7_oneValue_132 : decode cX7_oneValue 132 = .ok (.goto 4, 3) := by decide +kernel
theorem dX7_oneValue_135 : decode cX7_oneValue 135 = .ok (.iconst 0, 1) := by decide +kernel
theorem dX7_oneValue_136 : decode cX7_oneValue 136 = .ok (.bastore, 1) := by decide +kernel
theorem dX7_oneValue_137 : decode cX7_oneValue 137 = .ok (.iconst 1, 1) := by decide +kernel
theorem dX7_oneValue_138 : decode cX7_oneValue 138 = .ok (.ireturn, 1) := by decide +kernel
theorem dX7_oneValue_139 : decode cX7_oneValue 139 = .ok (.aload_n 0, 1) := by decide +kernel
theorem dX7_oneValue_140 : decode cX7_oneValue 140 = .ok (.iconst 3, 1) := by decide +kernel
theorem dX7_oneValue_141 : decode cX7_oneValue 141 = .ok (.iload_n 2, 1) := by decide +kernel
theorem dX7_oneValue_142 : decode cX7_oneValue 142 = .ok (.invokevirtual 81, 3) := by decide +kernel
theorem dX7_oneValue_145 : decode cX7_oneValue 145 = .ok (.iconst 0, 1) := by decide +kernel
theorem dX7_oneValue_146 : decode cX7_oneValue 146 = .ok (.ireturn, 1) := by decide +kernel
end
section
theorem dX7_sameText_0 : decode cX7_sameText 0 = .ok (.aload_n 0, 1) := by decide +kernel
theorem dX7_sameText_1 : decode cX7_sameText 1 = .ok (.getfield 13, 3) := by decide +kernel
theorem dX7_sameText_4 : decode cX7_sameText 4 = .ok (.iload_n 1, 1) := by decide +kernel
theorem dX7_sameText_5 : decode cX7_sameText 5 = .ok (.iaload, 1) := by decide +kernel
theorem dX7_sameText_6 : decode cX7_sameText 6 = .ok (.aload_n 0, 1) := by decide +kernel
theorem dX7_sameText_7 : decode cX7_sameText 7 = .ok (.getfield 13, 3) := by decide +kernel
theorem dX7_sameText_10 : decode cX7_sameText 10 = .ok (.iload_n 2, 1) := by decide +kernel
theorem dX7_sameText_11 : decode cX7_sameText 11 = .ok (.iaload, 1) := by decide +kernel
theorem dX7_sameText_12 : decode cX7_sameText 12 = .ok (.if_icmp .ne 7, 3) := by decide +kernel
theorem dX7_sameText_15 : decode cX7_sameText 15 = .ok (.iconst 1, 1) := by decide +kernel
theorem dX7_sameText_16 : decode cX7_sameText 16 = .ok (.goto 4, 3) := by decide +kernel
theorem dX7_sameText_19 : decode cX7_sameText 19 = .ok (.iconst 0, 1) := by decide +kernel
theorem dX7_sameText_20 : decode cX7_sameText 20 = .ok (.istore_n 3, 1) := by decide +kernel
theorem dX7_sameText_21 : decode cX7_sameText 21 = .ok (.iconst 1, 1) := by decide +kernel
theorem dX7_sameText_22 : decode cX7_sameText 22 = .ok (.istore 4, 2) := by decide +kernel
theorem dX7_sameText_24 : decode cX7_sameText 24 = .ok (.iload 4, 2) := by decide +kernel
theorem dX7_sameText_26 : decode cX7_sameText 26 = .ok (.aload_n 0, 1) := by decide +kernel
theorem dX7_sameText_27 : decode cX7_sameText 27 = .ok (.getfield 13, 3) := by decide +kernel
theorem dX7_sameText_30 : decode cX7_sameText 30 = .ok (.iload_n 1, 1) := by decide +kernel
theorem dX7_sameText_31 : decode cX7_sameText 31 = .ok (.iaload, 1) := by decide +kernel
theorem dX7_sameText_32 : decode cX7_sameText 32 = .ok (.if_icmp .gt 40, 3) := by decide +kernel
theorem dX7_sameText_35 : decode cX7_sameText 35 = .ok (.iload_n 3, 1) := by decide +kernel
theorem dX7_sameText_36 : decode cX7_sameText 36 = .ok (.ifCond .eq 36, 3) := by decide +kernel
theorem dX7_sameText_39 : decode cX7_sameText 39 = .ok (.aload_n 0, 1) := by decide +kernel
theorem dX7_sameText_40 : decode cX7_sameText 40 = .ok (.getfield 13, 3) := by decide +kernel
theorem dX7_sameText_43 : decode cX7_sameText 43 = .ok (.iload_n 1, 1) := by decide +kernel
theorem dX7_sameText_44 : decode cX7_sameText 44 = .ok (.iload 4, 2) := by decide +kernel
theorem dX7_sameText_46 : decode cX7_sameText 46 = .ok (.iadd, 1) := by decide +kernel
theorem dX7_sameText_47 : decode cX7_sameText 47 = .ok (.iaload, 1) := by decide +kernel
theorem dX7_sameText_48 : decode cX7_sameText 48 = .ok (.aload_n 0, 1) := by decide +kernel
theorem dX7_sameText_49 : decode cX7_sameText 49 = .ok (.getfield 13, 3) := by decide +kernel
theorem dX7_sameText_52 : decode cX7_sameText 52 = .ok (.iload_n 2, 1) := by decide +kernel
theorem dX7_sameText_53 : decode cX7_sameText 53 = .ok (.iload 4, 2) := by decide +kernel
theorem dX7_sameText_55 : decode cX7_sameText 55 = .ok (.iadd, 1) := by decide +kernel
theorem dX7_sameText_56 : decode cX7_sameText 56 = .ok (.iaload, 1) := by decide +kernel
theorem dX7_sameText_57 : decode cX7_sameText 57 = .ok (.if_icmp .ne 7, 3) := by decide +kernel
theorem dX7_sameText_60 : decode cX7_sameText 60 = .ok (.iconst 1, 1) := by decide +kernel
theorem dX7_sameText_61 : decode cX7_sameText 61 = .ok (.goto 4, 3) := by decide +kernel
theorem dX7_sameText_64 : decode cX7_sameText 64 = .ok (.iconst 0, 1) := by decide +kernel
theorem dX7_sameText_65 : decode cX7_sameText 65 = .ok (.istore_n 3, 1) := by decide +kernel
theorem dX7_sameText_66 : decode cX7_sameText 66 = .ok (.iinc 4 1, 3) := by decide +kernel
theorem dX7_sameText_69 : decode cX7_sameText 69 = .ok (.goto (-45), 3) := by decide +kernel
theorem dX7_sameText_72 : decode cX7_sameText 72 = .ok (.iload_n 3, 1) := by decide +kernel
theorem dX7_sameText_73 : decode cX7_sameText 73 = .ok (.ireturn, 1) := by decide +kernel
theorem dX7_textPlace_0 : decode cX7_textPlace 0 = .ok (.aload_n 0, 1) := by decide +kernel
theorem dX7_textPlace_1 : decode cX7_textPlace 1 = .ok (.getfield 22, 3) := by decide +kernel
theorem dX7_textPlace_4 : decode cX7_textPlace 4 = .ok (.bipush 13, 2) := by decide +kernel
theorem dX7_textPlace_6 : decode cX7_textPlace 6 = .ok (.aload_n 0, 1) := by decide +kernel
theorem dX7_textPlace_7 : decode cX7_textPlace 7 = .ok (.getfield 95, 3) := by decide +kernel
theorem dX7_textPlace_10 : decode cX7_textPlace 10 = .ok (.imul, 1) := by decide +kernel
theorem dX7_textPlace_11 : decode cX7_textPlace 11 = .ok (.iload_n 1, 1) := by decide +kernel
theorem dX7_textPlace_12 : decode cX7_textPlace 12 = .ok (.iadd, 1) := by decide +kernel
theorem dX7_textPlace_13 : decode cX7_textPlace 13 = .ok (.iaload, 1) := by decide +kernel
theorem dX7_textPlace_14 : decode cX7_textPlace 14 = .ok (.istore_n 2, 1) := by decide +kernel
theorem dX7_textPlace_15 : decode cX7_textPlace 15 = .ok (.aload_n 0, 1) := by decide +kernel
theorem dX7_textPlace_16 : decode cX7_textPlace 16 = .ok (.getfield 19, 3) := by decide +kernel
theorem dX7_textPlace_19 : decode cX7_textPlace 19 = .ok (.bipush 13, 2) := by decide +kernel
theorem dX7_textPlace_21 : decode cX7_textPlace 21 = .ok (.aload_n 0, 1) := by decide +kernel
theorem dX7_textPlace_22 : decode cX7_textPlace 22 = .ok (.getfield 95, 3) := by decide +kernel
theorem dX7_textPlace_25 : decode cX7_textPlace 25 = .ok (.imul, 1) := by decide +kernel
theorem dX7_textPlace_26 : decode cX7_textPlace 26 = .ok (.iload_n 1, 1) := by decide +kernel
theorem dX7_textPlace_27 : decode cX7_textPlace 27 = .ok (.iadd, 1) := by decide +kernel
theorem dX7_textPlace_28 : decode cX7_textPlace 28 = .ok (.iaload, 1) := by decide +kernel
theorem dX7_textPlace_29 : decode cX7_textPlace 29 = .ok (.iconst 1, 1) := by decide +kernel
theorem dX7_textPlace_30 : decode cX7_textPlace 30 = .ok (.if_icmp .ne 9, 3) := by decide +kernel
theorem dX7_textPlace_33 : decode cX7_textPlace 33 = .ok (.iload_n 2, 1) := by decide +kernel
theorem dX7_textPlace_34 : decode cX7_textPlace 34 = .ok (.iconst 1, 1) := by decide +kernel
theorem dX7_textPlace_35 : decode cX7_textPlace 35 = .ok (.iadd, 1) := by decide +kernel
theorem dX7_textPlace_36 : decode cX7_textPlace 36 = .ok (.goto 26, 3) := by decide +kernel
theorem dX7_textPlace_39 : decode cX7_textPlace 39 = .ok (.aload_n 0, 1) := by decide +kernel
theorem dX7_textPlace_40 : decode cX7_textPlace 40 = .ok (.getfield 22, 3) := by decide +kernel
theorem dX7_textPlace_43 : decode cX7_textPlace 43 = .ok (.bipush 13, 2) := by decide +kernel
theorem dX7_textPlace_45 : decode cX7_textPlace 45 = .ok (.aload_n 0, 1) := by decide +kernel
theorem dX7_textPlace_46 : decode cX7_textPlace 46 = .ok (.getfield 95, 3) := by decide +kernel
theorem dX7_textPlace_49 : decode cX7_textPlace 49 = .ok (.imul, 1) := by decide +kernel
theorem dX7_textPlace_50 : decode cX7_textPlace 50 = .ok (.aload_n 0, 1) := by decide +kernel
theorem dX7_textPlace_51 : decode cX7_textPlace 51 = .ok (.getfield 13, 3) := by decide +kernel
theorem dX7_textPlace_54 : decode cX7_textPlace 54 = .ok (.iload_n 2, 1) := by decide +kernel
theorem dX7_textPlace_55 : decode cX7_textPlace 55 = .ok (.iconst 1, 1) := by decide +kernel
theorem dX7_textPlace_56 : decode cX7_textPlace 56 = .ok (.iadd, 1) := by decide +kernel
theorem dX7_textPlace_57 : decode cX7_textPlace 57 = .ok (.iaload, 1) := by decide +kernel
theorem dX7_textPlace_58 : decode cX7_textPlace 58 = .ok (.iadd, 1) := by decide +kernel
theorem dX7_textPlace_59 : decode cX7_textPlace 59 = .ok (.iaload, 1) := by decide +kernel
theorem dX7_textPlace_60 : decode cX7_textPlace 60 = .ok (.iconst 1, 1) := by decide +kernel
theorem dX7_textPlace_61 : decode cX7_textPlace 61 = .ok (.iadd, 1) := by decide +kernel
theorem dX7_textPlace_62 : decode cX7_textPlace 62 = .ok (.ireturn, 1) := by decide +kernel
theorem dX7_taken_0 : decode cX7_taken 0 = .ok (.aload_n 0, 1) := by decide +kernel
theorem dX7_taken_1 : decode cX7_taken 1 = .ok (.iload_n 1, 1) := by decide +kernel
theorem dX7_taken_2 : decode cX7_taken 2 = .ok (.invokevirtual 113, 3) := by decide +kernel
theorem dX7_taken_5 : decode cX7_taken 5 = .ok (.istore_n 2, 1) := by decide +kernel
theorem dX7_taken_6 : decode cX7_taken 6 = .ok (.iconst 0, 1) := by decide +kernel
theorem dX7_taken_7 : decode cX7_taken 7 = .ok (.istore_n 3, 1) := by decide +kernel
theorem dX7_taken_8 : decode cX7_taken 8 = .ok (.iload_n 3, 1) := by decide +kernel
theorem dX7_taken_9 : decode cX7_taken 9 = .ok (.aload_n 0, 1) := by decide +kernel
theorem dX7_taken_10 : decode cX7_taken 10 = .ok (.getfield 116, 3) := by decide +kernel
theorem dX7_taken_13 : decode cX7_taken 13 = .ok (.if_icmp .ge 30, 3) := by decide +kernel
theorem dX7_taken_16 : decode cX7_taken 16 = .ok (.aload_n 0, 1) := by decide +kernel
theorem dX7_taken_17 : decode cX7_taken 17 = .ok (.aload_n 0, 1) := by decide +kernel
theorem dX7_taken_18 : decode cX7_taken 18 = .ok (.getfield 16, 3) := by decide +kernel
theorem dX7_taken_21 : decode cX7_taken 21 = .ok (.aload_n 0, 1) := by decide +kernel
theorem dX7_taken_22 : decode cX7_taken 22 = .ok (.getfield 31, 3) := by decide +kernel
theorem dX7_taken_25 : decode cX7_taken 25 = .ok (.iload_n 3, 1) := by decide +kernel
theorem dX7_taken_26 : decode cX7_taken 26 = .ok (.iaload, 1) := by decide +kernel
theorem dX7_taken_27 : decode cX7_taken 27 = .ok (.iaload, 1) := by decide +kernel
theorem dX7_taken_28 : decode cX7_taken 28 = .ok (.iload_n 2, 1) := by decide +kernel
theorem dX7_taken_29 : decode cX7_taken 29 = .ok (.invokevirtual 119, 3) := by decide +kernel
theorem dX7_taken_32 : decode cX7_taken 32 = .ok (.ifCond .eq 5, 3) := by decide +kernel
theorem dX7_taken_35 : decode cX7_taken 35 = .ok (.iconst 1, 1) := by decide +kernel
theorem dX7_taken_36 : decode cX7_taken 36 = .ok (.ireturn, 1) := by decide +kernel
theorem dX7_taken_37 : decode cX7_taken 37 = .ok (.iinc 3 1, 3) := by decide +kernel
theorem dX7_taken_40 : decode cX7_taken 40 = .ok (.goto (-32), 3) := by decide +kernel
theorem dX7_taken_43 : decode cX7_taken 43 = .ok (.iconst 0, 1) := by decide +kernel
theorem dX7_taken_44 : decode cX7_taken 44 = .ok (.ireturn, 1) := by decide +kernel
theorem dX7_wholeFile_0 : decode cX7_wholeFile 0 = .ok (.aload_n 0, 1) := by decide +kernel
theorem dX7_wholeFile_1 : decode cX7_wholeFile 1 = .ok (.invokevirtual 88, 3) := by decide +kernel
theorem dX7_wholeFile_4 : decode cX7_wholeFile 4 = .ok (.istore_n 1, 1) := by decide +kernel
theorem dX7_wholeFile_5 : decode cX7_wholeFile 5 = .ok (.aload_n 0, 1) := by decide +kernel
theorem dX7_wholeFile_6 : decode cX7_wholeFile 6 = .ok (.getfield 69, 3) := by decide +kernel
theorem dX7_wholeFile_9 : decode cX7_wholeFile 9 = .ok (.ifCond .ne 16, 3) := by decide +kernel
theorem dX7_wholeFile_12 : decode cX7_wholeFile 12 = .ok (.iload_n 1, 1) := by decide +kernel
theorem dX7_wholeFile_13 : decode cX7_wholeFile 13 = .ok (.sipush 202, 3) := by decide +kernel
theorem dX7_wholeFile_16 : decode cX7_wholeFile 16 = .ok (.if_icmp .eq 9, 3) := by decide +kernel
theorem dX7_wholeFile_19 : decode cX7_wholeFile 19 = .ok (.aload_n 0, 1) := by decide +kernel
theorem dX7_wholeFile_20 : decode cX7_wholeFile 20 = .ok (.iconst 2, 1) := by decide +kernel
theorem dX7_wholeFile_21 : decode cX7_wholeFile 21 = .ok (.iconst 0, 1) := by decide +kernel
theorem dX7_wholeFile_22 : decode cX7_wholeFile 22 = .ok (.invokevirtual 81, 3) := by decide +kernel
theorem dX7_wholeFile_25 : decode cX7_wholeFile 25 = .ok (.aload_n 0, 1) := by decide +kernel
theorem dX7_wholeFile_26 : decode cX7_wholeFile 26 = .ok (.invokevirtual 88, 3) := by decide +kernel
theorem dX7_wholeFile_29 : decode cX7_wholeFile 29 = .ok (.istore_n 2, 1) := by decide +kernel
theorem dX7_wholeFile_30 : decode cX7_wholeFile 30 = .ok (.aload_n 0, 1) := by decide +kernel
theorem dX7_wholeFile_31 : decode cX7_wholeFile 31 = .ok (.getfield 69, 3) := by decide +kernel
theorem dX7_wholeFile_34 : decode cX7_wholeFile 34 = .ok (.ifCond .ne 16, 3) := by decide +kernel
theorem dX7_wholeFile_37 : decode cX7_wholeFile 37 = .ok (.iload_n 2, 1) := by decide +kernel
theorem dX7_wholeFile_38 : decode cX7_wholeFile 38 = .ok (.sipush 254, 3) := by decide +kernel
theorem dX7_wholeFile_41 : decode cX7_wholeFile 41 = .ok (.if_icmp .eq 9, 3) := by decide +kernel
theorem dX7_wholeFile_44 : decode cX7_wholeFile 44 = .ok (.aload_n 0, 1) := by decide +kernel
theorem dX7_wholeFile_45 : decode cX7_wholeFile 45 = .ok (.iconst 2, 1) := by decide +kernel
theorem dX7_wholeFile_46 : decode cX7_wholeFile 46 = .ok (.iconst 1, 1) := by decide +kernel
theorem dX7_wholeFile_47 : decode cX7_wholeFile 47 = .ok (.invokevirtual 81, 3) := by decide +kernel
theorem dX7_wholeFile_50 : decode cX7_wholeFile 50 = .ok (.aload_n 0, 1) := by decide +kernel
theorem dX7_wholeFile_51 : decode cX7_wholeFile 51 = .ok (.invokevirtual 123, 3) := by decide +kernel
theorem dX7_wholeFile_54 : decode cX7_wholeFile 54 = .ok (.aload_n 0, 1) := by decide +kernel
theorem dX7_wholeFile_55 : decode cX7_wholeFile 55 = .ok (.getfield 28, 3) := by decide +kernel
theorem dX7_wholeFile_58 : decode cX7_wholeFile 58 = .ok (.aload_n 0, 1) := by decide +kernel
theorem dX7_wholeFile_59 : decode cX7_wholeFile 59 = .ok (.getfield 95, 3) := by decide +kernel
theorem dX7_wholeFile_62 : decode cX7_wholeFile 62 = .ok (.aload_n 0, 1) := by decide +kernel
theorem dX7_wholeFile_63 : decode cX7_wholeFile 63 = .ok (.iconst 3, 1) := by decide +kernel
theorem dX7_wholeFile_64 : decode cX7_wholeFile 64 = .ok (.invokevirtual 98, 3) := by decide +kernel
theorem dX7_wholeFile_67 : decode cX7_wholeFile 67 = .ok (.iastore, 1) := by decide +kernel
theorem dX7_wholeFile_68 : decode cX7_wholeFile 68 = .ok (.aload_n 0, 1) := by decide +kernel
theorem dX7_wholeFile_69 : decode cX7_wholeFile 69 = .ok (.getfield 75, 3) := by decide +kernel
theorem dX7_wholeFile_72 : decode cX7_wholeFile 72 = .ok (.istore_n 3, 1) := by decide +kernel
theorem dX7_wholeFile_73 : decode cX7_wholeFile 73 = .ok (.aload_n 0, 1) := by decide +kernel
theorem dX7_wholeFile_74 : decode cX7_wholeFile 74 = .ok (.getfield 31, 3) := by decide +kernel
theorem dX7_wholeFile_77 : decode cX7_wholeFile 77 = .ok (.aload_n 0, 1) := by decide +kernel
theorem dX7_wholeFile_78 : decode cX7_wholeFile 78 = .ok (.getfield 95, 3) := by decide +kernel
theorem dX7_wholeFile_81 : decode cX7_wholeFile 81 = .ok (.aload_n 0, 1) := by decide +kernel
theorem dX7_wholeFile_82 : decode cX7_wholeFile 82 = .ok (.bipush 7, 2) := by decide +kernel
theorem dX7_wholeFile_84 : decode cX7_wholeFile 84 = .ok (.invokevirtual 106, 3) := by decide +kernel
theorem dX7_wholeFile_87 : decode cX7_wholeFile 87 = .ok (.iastore, 1) := by decide +kernel
theorem dX7_wholeFile_88 : decode cX7_wholeFile 88 = .ok (.aload_n 0, 1) := by decide +kernel
theorem dX7_wholeFile_89 : decode cX7_wholeFile 89 = .ok (.getfield 69, 3) := by decide +kernel
theorem dX7_wholeFile_92 : decode cX7_wholeFile 92 = .ok (.ifCond .ne 26, 3) := by decide +kernel
theorem dX7_wholeFile_95 : decode cX7_wholeFile 95 = .ok (.aload_n 0, 1) := by decide +kernel
theorem dX7_wholeFile_96 : decode cX7_wholeFile 96 = .ok (.aload_n 0, 1) := by decide +kernel
theorem dX7_wholeFile_97 : decode cX7_wholeFile 97 = .ok (.getfield 31, 3) := by decide +kernel
theorem dX7_wholeFile_100 : decode cX7_wholeFile 100 = .ok (.aload_n 0, 1) := by decide +kernel
theorem dX7_wholeFile_101 : decode cX7_wholeFile 101 = .ok (.getfield 95, 3) := by decide +kernel
theorem dX7_wholeFile_104 : decode cX7_wholeFile 104 = .ok (.iaload, 1) := by decide +kernel
theorem dX7_wholeFile_105 : decode cX7_wholeFile 105 = .ok (.invokevirtual 126, 3) := by decide +kernel
theorem dX7_wholeFile_108 : decode cX7_wholeFile 108 = .ok (.ifCond .eq 10, 3) := by decide +kernel
theorem dX7_wholeFile_111 : decode cX7_wholeFile 111 = .ok (.aload_n 0, 1) := by decide +kernel
theorem dX7_wholeFile_112 : decode cX7_wholeFile 112 = .ok (.bipush 9, 2) := by decide +kernel
theorem dX7_wholeFile_114 : decode cX7_wholeFile 114 = .ok (.iload_n 3, 1) := by decide +kernel
theorem dX7_wholeFile_115 : decode cX7_wholeFile 115 = .ok (.invokevirtual 81, 3) := by decide +kernel
theorem dX7_wholeFile_118 : decode cX7_wholeFile 118 = .ok (.aload_n 0, 1) := by decide +kernel
theorem dX7_wholeFile_119 : decode cX7_wholeFile 119 = .ok (.getfield 34, 3) := by decide +kernel
theorem dX7_wholeFile_122 : decode cX7_wholeFile 122 = .ok (.aload_n 0, 1) := by decide +kernel
theorem dX7_wholeFile_123 : decode cX7_wholeFile 123 = .ok (.getfield 95, 3) := by decide +kernel
theorem dX7_wholeFile_126 : decode cX7_wholeFile 126 = .ok (.aload_n 0, 1) := by decide +kernel
theorem dX7_wholeFile_127 : decode cX7_wholeFile 127 = .ok (.invokevirtual 129, 3) := by decide +kernel
theorem dX7_wholeFile_130 : decode cX7_wholeFile 130 = .ok (.iastore, 1) := by decide +kernel
theorem dX7_wholeFile_131 : decode cX7_wholeFile 131 = .ok (.aload_n 0, 1) := by decide +kernel
theorem dX7_wholeFile_132 : decode cX7_wholeFile 132 = .ok (.getfield 37, 3) := by decide +kernel
theorem dX7_wholeFile_135 : decode cX7_wholeFile 135 = .ok (.aload_n 0, 1) := by decide +kernel
theorem dX7_wholeFile_136 : decode cX7_wholeFile 136 = .ok (.getfield 95, 3) := by decide +kernel
theorem dX7_wholeFile_139 : decode cX7_wholeFile 139 = .ok (.aload_n 0, 1) := by decide +kernel
theorem dX7_wholeFile_140 : decode cX7_wholeFile 140 = .ok (.invokevirtual 129, 3) := by decide +kernel
theorem dX7_wholeFile_143 : decode cX7_wholeFile 143 = .ok (.iastore, 1) := by decide +kernel
theorem dX7_wholeFile_144 : decode cX7_wholeFile 144 = .ok (.aload_n 0, 1) := by decide +kernel
theorem dX7_wholeFile_145 : decode cX7_wholeFile 145 = .ok (.getfield 40, 3) := by decide +kernel
theorem dX7_wholeFile_148 : decode cX7_wholeFile 148 = .ok (.aload_n 0, 1) := by decide +kernel
theorem dX7_wholeFile_149 : decode cX7_wholeFile 149 = .ok (.getfield 95, 3) := by decide +kernel
theorem dX7_wholeFile_152 : decode cX7_wholeFile 152 = .ok (.aload_n 0, 1) := by decide +kernel
theorem dX7_wholeFile_153 : decode cX7_wholeFile 153 = .ok (.iconst 4, 1) := by decide +kernel
theorem dX7_wholeFile_154 : decode cX7_wholeFile 154 = .ok (.invokevirtual 98, 3) := by decide +kernel
theorem dX7_wholeFile_157 : decode cX7_wholeFile 157 = .ok (.iastore, 1) := by decide +kernel
theorem dX7_wholeFile_158 : decode cX7_wholeFile 158 = .ok (.iconst 0, 1) := by decide +kernel
theorem dX7_wholeFile_159 : decode cX7_wholeFile 159 = .ok (.istore 4, 2) := by decide +kernel
theorem dX7_wholeFile_161 : decode cX7_wholeFile 161 = .ok (.iload 4, 2) := by decide +kernel
theorem dX7_wholeFile_163 : decode cX7_wholeFile 163 = .ok (.aload_n 0, 1) := by decide +kernel
theorem dX7_wholeFile_164 : decode cX7_wholeFile 164 = .ok (.getfield 40, 3) := by decide +kernel
theorem dX7_wholeFile_167 : decode cX7_wholeFile 167 = .ok (.aload_n 0, 1) := by decide +kernel
theorem dX7_wholeFile_168 : decode cX7_wholeFile 168 = .ok (.getfield 95, 3) := by decide +kernel
theorem dX7_wholeFile_171 : decode cX7_wholeFile 171 = .ok (.iaload, 1) := by decide +kernel
theorem dX7_wholeFile_172 : decode cX7_wholeFile 172 = .ok (.if_icmp .ge 29, 3) := by decide +kernel
theorem dX7_wholeFile_175 : decode cX7_wholeFile 175 = .ok (.aload_n 0, 1) := by decide +kernel
theorem dX7_wholeFile_176 : decode cX7_wholeFile 176 = .ok (.getfield 43, 3) := by decide +kernel
theorem dX7_wholeFile_179 : decode cX7_wholeFile 179 = .ok (.iconst 4, 1) := by decide +kernel
theorem dX7_wholeFile_180 : decode cX7_wholeFile 180 = .ok (.aload_n 0, 1) := by decide +kernel
theorem dX7_wholeFile_181 : decode cX7_wholeFile 181 = .ok (.getfield 95, 3) := by decide +kernel
theorem dX7_wholeFile_184 : decode cX7_wholeFile 184 = .ok (.imul, 1) := by decide +kernel
theorem dX7_wholeFile_185 : decode cX7_wholeFile 185 = .ok (.iload 4, 2) := by decide +kernel
theorem dX7_wholeFile_187 : decode cX7_wholeFile 187 = .ok (.iadd, 1) := by decide +kernel
theorem dX7_wholeFile_188 : decode cX7_wholeFile 188 = .ok (.aload_n 0, 1) := by decide +kernel
theorem dX7_wholeFile_189 : decode cX7_wholeFile 189 = .ok (.bipush 7, 2) := by decide +kernel
theorem dX7_wholeFile_191 : decode cX7_wholeFile 191 = .ok (.invokevirtual 106, 3) := by decide +kernel
theorem dX7_wholeFile_194 : decode cX7_wholeFile 194 = .ok (.iastore, 1) := by decide +kernel
theorem dX7_wholeFile_195 : decode cX7_wholeFile 195 = .ok (.iinc 4 1, 3) := by decide +kernel
theorem dX7_wholeFile_198 : decode cX7_wholeFile 198 = .ok (.goto (-37), 3) := by decide +kernel
theorem dX7_wholeFile_201 : decode cX7_wholeFile 201 = .ok (.aload_n 0, 1) := by decide +kernel
theorem dX7_wholeFile_202 : decode cX7_wholeFile 202 = .ok (.getfield 46, 3) := by decide +kernel
theorem dX7_wholeFile_205 : decode cX7_wholeFile 205 = .ok (.aload_n 0, 1) := by decide +kernel
theorem dX7_wholeFile_206 : decode cX7_wholeFile 206 = .ok (.getfield 95, 3) := by decide +kernel
theorem dX7_wholeFile_209 : decode cX7_wholeFile 209 = .ok (.aload_n 0, 1) := by decide +kernel
theorem dX7_wholeFile_210 : decode cX7_wholeFile 210 = .ok (.iconst 4, 1) := by decide +kernel
theorem dX7_wholeFile_211 : decode cX7_wholeFile 211 = .ok (.invokevirtual 98, 3) := by decide +kernel
theorem dX7_wholeFile_214 : decode cX7_wholeFile 214 = .ok (.iastore, 1) := by decide +kernel
theorem dX7_wholeFile_215 : decode cX7_wholeFile 215 = .ok (.iconst 0, 1) := by decide +kernel
theorem dX7_wholeFile_216 : decode cX7_wholeFile 216 = .ok (.istore 4, 2) := by decide +kernel
theorem dX7_wholeFile_218 : decode cX7_wholeFile 218 = .ok (.iload 4, 2) := by decide +kernel
theorem dX7_wholeFile_220 : decode cX7_wholeFile 220 = .ok (.aload_n 0, 1) := by decide +kernel
theorem dX7_wholeFile_221 : decode cX7_wholeFile 221 = .ok (.getfield 46, 3) := by decide +kernel
theorem dX7_wholeFile_224 : decode cX7_wholeFile 224 = .ok (.aload_n 0, 1) := by decide +kernel
theorem dX7_wholeFile_225 : decode cX7_wholeFile 225 = .ok (.getfield 95, 3) := by decide +kernel
theorem dX7_wholeFile_228 : decode cX7_wholeFile 228 = .ok (.iaload, 1) := by decide +kernel
theorem dX7_wholeFile_229 : decode cX7_wholeFile 229 = .ok (.if_icmp .ge 52, 3) := by decide +kernel
theorem dX7_wholeFile_232 : decode cX7_wholeFile 232 = .ok (.aload_n 0, 1) := by decide +kernel
theorem dX7_wholeFile_233 : decode cX7_wholeFile 233 = .ok (.getfield 49, 3) := by decide +kernel
theorem dX7_wholeFile_236 : decode cX7_wholeFile 236 = .ok (.iconst 4, 1) := by decide +kernel
theorem dX7_wholeFile_237 : decode cX7_wholeFile 237 = .ok (.aload_n 0, 1) := by decide +kernel
theorem dX7_wholeFile_238 : decode cX7_wholeFile 238 = .ok (.getfield 95, 3) := by decide +kernel
theorem dX7_wholeFile_241 : decode cX7_wholeFile 241 = .ok (.imul, 1) := by decide +kernel
theorem dX7_wholeFile_242 : decode cX7_wholeFile 242 = .ok (.iload 4, 2) := by decide +kernel
theorem dX7_wholeFile_244 : decode cX7_wholeFile 244 = .ok (.iadd, 1) := by decide +kernel
theorem dX7_wholeFile_245 : decode cX7_wholeFile 245 = .ok (.aload_n 0, 1) := by decide +kernel
theorem dX7_wholeFile_246 : decode cX7_wholeFile 246 = .ok (.getfield 85, 3) := by decide +kernel
theorem dX7_wholeFile_249 : decode cX7_wholeFile 249 = .ok (.aload_n 0, 1) := by decide +kernel
theorem dX7_wholeFile_250 : decode cX7_wholeFile 250 = .ok (.getfield 75, 3) := by decide +kernel
theorem dX7_wholeFile_253 : decode cX7_wholeFile 253 = .ok (.iadd, 1) := by decide +kernel
theorem dX7_wholeFile_254 : decode cX7_wholeFile 254 = .ok (.iastore, 1) := by decide +kernel
theorem dX7_wholeFile_255 : decode cX7_wholeFile 255 = .ok (.aload_n 0, 1) := by decide +kernel
theorem dX7_wholeFile_256 : decode cX7_wholeFile 256 = .ok (.bipush 7, 2) := by decide +kernel
theorem dX7_wholeFile_258 : decode cX7_wholeFile 258 = .ok (.invokevirtual 106, 3) := by decide +kernel
theorem dX7_wholeFile_261 : decode cX7_wholeFile 261 = .ok (.pop, 1) := by decide +kernel
theorem dX7_wholeFile_262 : decode cX7_wholeFile 262 = .ok (.aload_n 0, 1) := by decide +kernel
theorem dX7_wholeFile_263 : decode cX7_wholeFile 263 = .ok (.iconst 4, 1) := by decide +kernel
theorem dX7_wholeFile_264 : decode cX7_wholeFile 264 = .ok (.invokevirtual 98, 3) := by decide +kernel
theorem dX7_wholeFile_267 : decode cX7_wholeFile 267 = .ok (.istore 5, 2) := by decide +kernel
theorem dX7_wholeFile_269 : decode cX7_wholeFile 269 = .ok (.aload_n 0, 1) := by decide +kernel
theorem dX7_wholeFile_270 : decode cX7_wholeFile 270 = .ok (.iload 5, 2) := by decide +kernel
theorem dX7_wholeFile_272 : decode cX7_wholeFile 272 = .ok (.invokevirtual 132, 3) := by decide +kernel
theorem dX7_wholeFile_275 : decode cX7_wholeFile 275 = .ok (.iinc 4 1, 3) := by decide +kernel
theorem dX7_wholeFile_278 : decode cX7_wholeFile 278 = .ok (.goto (-60), 3) := by decide +kernel
theorem dX7_wholeFile_281 : decode cX7_wholeFile 281 = .ok (.aload_n 0, 1) := by decide +kernel
theorem dX7_wholeFile_282 : decode cX7_wholeFile 282 = .ok (.getfield 52, 3) := by decide +kernel
theorem dX7_wholeFile_285 : decode cX7_wholeFile 285 = .ok (.aload_n 0, 1) := by decide +kernel
theorem dX7_wholeFile_286 : decode cX7_wholeFile 286 = .ok (.getfield 95, 3) := by decide +kernel
theorem dX7_wholeFile_289 : decode cX7_wholeFile 289 = .ok (.aload_n 0, 1) := by decide +kernel
theorem dX7_wholeFile_290 : decode cX7_wholeFile 290 = .ok (.getfield 85, 3) := by decide +kernel
theorem dX7_wholeFile_293 : decode cX7_wholeFile 293 = .ok (.aload_n 0, 1) := by decide +kernel
theorem dX7_wholeFile_294 : decode cX7_wholeFile 294 = .ok (.getfield 75, 3) := by decide +kernel
theorem dX7_wholeFile_297 : decode cX7_wholeFile 297 = .ok (.iadd, 1) := by decide +kernel
theorem dX7_wholeFile_298 : decode cX7_wholeFile 298 = .ok (.iastore, 1) := by decide +kernel
theorem dX7_wholeFile_299 : decode cX7_wholeFile 299 = .ok (.aload_n 0, 1) := by decide +kernel
theorem dX7_wholeFile_300 : decode cX7_wholeFile 300 = .ok (.iconst 4, 1) := by decide +kernel
theorem dX7_wholeFile_301 : decode cX7_wholeFile 301 = .ok (.invokevirtual 98, 3) := by decide +kernel
theorem dX7_wholeFile_304 : decode cX7_wholeFile 304 = .ok (.istore 4, 2) := by decide +kernel
theorem dX7_wholeFile_306 : decode cX7_wholeFile 306 = .ok (.aload_n 0, 1) := by decide +kernel
theorem dX7_wholeFile_307 : decode cX7_wholeFile 307 = .ok (.iload 4, 2) := by decide +kernel
theorem dX7_wholeFile_309 : decode cX7_wholeFile 309 = .ok (.invokevirtual 132, 3) := by decide +kernel
theorem dX7_wholeFile_312 : decode cX7_wholeFile 312 = .ok (.aload_n 0, 1) := by decide +kernel
theorem dX7_wholeFile_313 : decode cX7_wholeFile 313 = .ok (.getfield 75, 3) := by decide +kernel
theorem dX7_wholeFile_316 : decode cX7_wholeFile 316 = .ok (.aload_n 0, 1) := by decide +kernel
theorem dX7_wholeFile_317 : decode cX7_wholeFile 317 = .ok (.getfield 78, 3) := by decide +kernel
theorem dX7_wholeFile_320 : decode cX7_wholeFile 320 = .ok (.if_icmp .ge 13, 3) := by decide +kernel
theorem dX7_wholeFile_323 : decode cX7_wholeFile 323 = .ok (.aload_n 0, 1) := by decide +kernel
theorem dX7_wholeFile_324 : decode cX7_wholeFile 324 = .ok (.bipush 8, 2) := by decide +kernel
theorem dX7_wholeFile_326 : decode cX7_wholeFile 326 = .ok (.aload_n 0, 1) := by decide +kernel
theorem dX7_wholeFile_327 : decode cX7_wholeFile 327 = .ok (.getfield 75, 3) := by decide +kernel
theorem dX7_wholeFile_330 : decode cX7_wholeFile 330 = .ok (.invokevirtual 81, 3) := by decide +kernel
theorem dX7_wholeFile_333 : decode cX7_wholeFile 333 = .ok (.return_, 1) := by decide +kernel
theorem dX7_number_0 : decode cX7_number 0 = .ok (.iconst 0, 1) := by decide +kernel
theorem dX7_number_1 : decode cX7_number 1 = .ok (.istore_n 2, 1) := by decide +kernel
theorem dX7_number_2 : decode cX7_number 2 = .ok (.iload_n 2, 1) := by decide +kernel
theorem dX7_number_3 : decode cX7_number 3 = .ok (.aload_n 0, 1) := by decide +kernel
theorem dX7_number_4 : decode cX7_number 4 = .ok (.getfield 135, 3) := by decide +kernel
theorem dX7_number_7 : decode cX7_number 7 = .ok (.if_icmp .ge 25, 3) := by decide +kernel
theorem dX7_number_10 : decode cX7_number 10 = .ok (.aload_n 0, 1) := by decide +kernel
theorem dX7_number_11 : decode cX7_number 11 = .ok (.aload_n 0, 1) := by decide +kernel
theorem dX7_number_12 : decode cX7_number 12 = .ok (.getfield 16, 3) := by decide +kernel
theorem dX7_number_15 : decode cX7_number 15 = .ok (.iload_n 2, 1) := by decide +kernel
theorem dX7_number_16 : decode cX7_number 16 = .ok (.iaload, 1) := by decide +kernel
theorem dX7_number_17 : decode cX7_number 17 = .ok (.iload_n 1, 1) := by decide +kernel
theorem dX7_number_18 : decode cX7_number 18 = .ok (.invokevirtual 119, 3) := by decide +kernel
theorem dX7_number_21 : decode cX7_number 21 = .ok (.ifCond .eq 5, 3) := by decide +kernel
theorem dX7_number_24 : decode cX7_number 24 = .ok (.iload_n 2, 1) := by decide +kernel
theorem dX7_number_25 : decode cX7_number 25 = .ok (.ireturn, 1) := by decide +kernel
theorem dX7_number_26 : decode cX7_number 26 = .ok (.iinc 2 1, 3) := by decide +kernel
theorem dX7_number_29 : decode cX7_number 29 = .ok (.goto (-27), 3) := by decide +kernel
theorem dX7_number_32 : decode cX7_number 32 = .ok (.aload_n 0, 1) := by decide +kernel
theorem dX7_number_33 : decode cX7_number 33 = .ok (.getfield 16, 3) := by decide +kernel
theorem dX7_number_36 : decode cX7_number 36 = .ok (.aload_n 0, 1) := by decide +kernel
theorem dX7_number_37 : decode cX7_number 37 = .ok (.getfield 135, 3) := by decide +kernel
theorem dX7_number_40 : decode cX7_number 40 = .ok (.iload_n 1, 1) := by decide +kernel
theorem dX7_number_41 : decode cX7_number 41 = .ok (.iastore, 1) := by decide +kernel
theorem dX7_number_42 : decode cX7_number 42 = .ok (.aload_n 0, 1) := by decide +kernel
theorem dX7_number_43 : decode cX7_number 43 = .ok (.dup, 1) := by decide +kernel
theorem dX7_number_44 : decode cX7_number 44 = .ok (.getfield 135, 3) := by decide +kernel
theorem dX7_number_47 : decode cX7_number 47 = .ok (.iconst 1, 1) := by decide +kernel
theorem dX7_number_48 : decode cX7_number 48 = .ok (.iadd, 1) := by decide +kernel
theorem dX7_number_49 : decode cX7_number 49 = .ok (.putfield 135, 3) := by decide +kernel
theorem dX7_number_52 : decode cX7_number 52 = .ok (.aload_n 0, 1) := by decide +kernel
theorem dX7_number_53 : decode cX7_number 53 = .ok (.getfield 135, 3) := by decide +kernel
theorem dX7_number_56 : decode cX7_number 56 = .ok (.iconst 1, 1) := by decide +kernel
theorem dX7_number_57 : decode cX7_number 57 = .ok (.isub, 1) := by decide +kernel
theorem dX7_number_58 : decode cX7_number 58 = .ok (.ireturn, 1) := by decide +kernel
theorem dX7_read_0 : decode cX7_read 0 = .ok (.aload_n 0, 1) := by decide +kernel
theorem dX7_read_1 : decode cX7_read 1 = .ok (.getfield 116, 3) := by decide +kernel
theorem dX7_read_4 : decode cX7_read 4 = .ok (.bipush 16, 2) := by decide +kernel
theorem dX7_read_6 : decode cX7_read 6 = .ok (.if_icmp .ne 5, 3) := by decide +kernel
theorem dX7_read_9 : decode cX7_read 9 = .ok (.iconst (-1), 1) := by decide +kernel
theorem dX7_read_10 : decode cX7_read 10 = .ok (.ireturn, 1) := by decide +kernel
theorem dX7_read_11 : decode cX7_read 11 = .ok (.aload_n 0, 1) := by decide +kernel
theorem dX7_read_12 : decode cX7_read 12 = .ok (.aload_n 0, 1) := by decide +kernel
theorem dX7_read_13 : decode cX7_read 13 = .ok (.getfield 116, 3) := by decide +kernel
theorem dX7_read_16 : decode cX7_read 16 = .ok (.putfield 95, 3) := by decide +kernel
theorem dX7_read_19 : decode cX7_read 19 = .ok (.aload_n 0, 1) := by decide +kernel
theorem dX7_read_20 : decode cX7_read 20 = .ok (.bipush 120, 2) := by decide +kernel
theorem dX7_read_22 : decode cX7_read 22 = .ok (.aload_n 0, 1) := by decide +kernel
theorem dX7_read_23 : decode cX7_read 23 = .ok (.getfield 95, 3) := by decide +kernel
theorem dX7_read_26 : decode cX7_read 26 = .ok (.imul, 1) := by decide +kernel
theorem dX7_read_27 : decode cX7_read 27 = .ok (.putfield 85, 3) := by decide +kernel
theorem dX7_read_30 : decode cX7_read 30 = .ok (.aload_n 0, 1) := by decide +kernel
theorem dX7_read_31 : decode cX7_read 31 = .ok (.aload_n 0, 1) := by decide +kernel
theorem dX7_read_32 : decode cX7_read 32 = .ok (.getfield 65, 3) := by decide +kernel
theorem dX7_read_35 : decode cX7_read 35 = .ok (.putfield 78, 3) := by decide +kernel
theorem dX7_read_38 : decode cX7_read 38 = .ok (.aload_n 0, 1) := by decide +kernel
theorem dX7_read_39 : decode cX7_read 39 = .ok (.iconst 0, 1) := by decide +kernel
theorem dX7_read_40 : decode cX7_read 40 = .ok (.putfield 75, 3) := by decide +kernel
theorem dX7_read_43 : decode cX7_read 43 = .ok (.aload_n 0, 1) := by decide +kernel
theorem dX7_read_44 : decode cX7_read 44 = .ok (.iconst 0, 1) := by decide +kernel
theorem dX7_read_45 : decode cX7_read 45 = .ok (.putfield 69, 3) := by decide +kernel
theorem dX7_read_48 : decode cX7_read 48 = .ok (.iconst 0, 1) := by decide +kernel
theorem dX7_read_49 : decode cX7_read 49 = .ok (.istore_n 1, 1) := by decide +kernel
theorem dX7_read_50 : decode cX7_read 50 = .ok (.iload_n 1, 1) := by decide +kernel
theorem dX7_read_51 : decode cX7_read 51 = .ok (.aload_n 0, 1) := by decide +kernel
theorem dX7_read_52 : decode cX7_read 52 = .ok (.getfield 65, 3) := by decide +kernel
theorem dX7_read_55 : decode cX7_read 55 = .ok (.if_icmp .ge 26, 3) := by decide +kernel
theorem dX7_read_58 : decode cX7_read 58 = .ok (.aload_n 0, 1) := by decide +kernel
theorem dX7_read_59 : decode cX7_read 59 = .ok (.getfield 13, 3) := by decide +kernel
theorem dX7_read_62 : decode cX7_read 62 = .ok (.aload_n 0, 1) := by decide +kernel
theorem dX7_read_63 : decode cX7_read 63 = .ok (.getfield 85, 3) := by decide +kernel
theorem dX7_read_66 : decode cX7_read 66 = .ok (.iload_n 1, 1) := by decide +kernel
theorem dX7_read_67 : decode cX7_read 67 = .ok (.iadd, 1) := by decide +kernel
theorem dX7_read_68 : decode cX7_read 68 = .ok (.aload_n 0, 1) := by decide +kernel
theorem dX7_read_69 : decode cX7_read 69 = .ok (.getfield 7, 3) := by decide +kernel
theorem dX7_read_72 : decode cX7_read 72 = .ok (.iload_n 1, 1) := by decide +kernel
theorem dX7_read_73 : decode cX7_read 73 = .ok (.iaload, 1) := by decide +kernel
theorem dX7_read_74 : decode cX7_read 74 = .ok (.iastore, 1) := by decide +kernel
theorem dX7_read_75 : decode cX7_read 75 = .ok (.iinc 1 1, 3) := by decide +kernel
theorem dX7_read_78 : decode cX7_read 78 = .ok (.goto (-28), 3) := by decide +kernel
theorem dX7_read_81 : decode cX7_read 81 = .ok (.aload_n 0, 1) := by decide +kernel
theorem dX7_read_82 : decode cX7_read 82 = .ok (.iconst 0, 1) := by decide +kernel
theorem dX7_read_83 : decode cX7_read 83 = .ok (.putfield 65, 3) := by decide +kernel
theorem dX7_read_86 : decode cX7_read 86 = .ok (.aload_n 0, 1) := by decide +kernel
theorem dX7_read_87 : decode cX7_read 87 = .ok (.invokevirtual 138, 3) := by decide +kernel
theorem dX7_read_90 : decode cX7_read 90 = .ok (.aload_n 0, 1) := by decide +kernel
theorem dX7_read_91 : decode cX7_read 91 = .ok (.getfield 69, 3) := by decide +kernel
theorem dX7_read_94 : decode cX7_read 94 = .ok (.ifCond .eq 18, 3) := by decide +kernel
theorem dX7_read_97 : decode cX7_read 97 = .ok (.sipush 1000, 3) := by decide +kernel
theorem dX7_read_100 : decode cX7_read 100 = .ok (.aload_n 0, 1) := by decide +kernel
theorem dX7_read_101 : decode cX7_read 101 = .ok (.getfield 69, 3) := by decide +kernel
theorem dX7_read_104 : decode cX7_read 104 = .ok (.imul, 1) := by decide +kernel
theorem dX7_read_105 : decode cX7_read 105 = .ok (.aload_n 0, 1) := by decide +kernel
theorem dX7_read_106 : decode cX7_read 106 = .ok (.getfield 72, 3) := by decide +kernel
theorem dX7_read_109 : decode cX7_read 109 = .ok (.iadd, 1) := by decide +kernel
theorem dX7_read_110 : decode cX7_read 110 = .ok (.ineg, 1) := by decide +kernel
theorem dX7_read_111 : decode cX7_read 111 = .ok (.ireturn, 1) := by decide +kernel
theorem dX7_read_112 : decode cX7_read 112 = .ok (.iconst 1, 1) := by decide +kernel
theorem dX7_read_113 : decode cX7_read 113 = .ok (.istore_n 1, 1) := by decide +kernel
theorem dX7_read_114 : decode cX7_read 114 = .ok (.iload_n 1, 1) := by decide +kernel
theorem dX7_read_115 : decode cX7_read 115 = .ok (.aload_n 0, 1) := by decide +kernel
theorem dX7_read_116 : decode cX7_read 116 = .ok (.getfield 92, 3) := by decide +kernel
theorem dX7_read_119 : decode cX7_read 119 = .ok (.if_icmp .gt 61, 3) := by decide +kernel
theorem dX7_read_122 : decode cX7_read 122 = .ok (.aload_n 0, 1) := by decide +kernel
theorem dX7_read_123 : decode cX7_read 123 = .ok (.getfield 19, 3) := by decide +kernel
theorem dX7_read_126 : decode cX7_read 126 = .ok (.bipush 13, 2) := by decide +kernel
theorem dX7_read_128 : decode cX7_read 128 = .ok (.aload_n 0, 1) := by decide +kernel
theorem dX7_read_129 : decode cX7_read 129 = .ok (.getfield 95, 3) := by decide +kernel
theorem dX7_read_132 : decode cX7_read 132 = .ok (.imul, 1) := by decide +kernel
theorem dX7_read_133 : decode cX7_read 133 = .ok (.iload_n 1, 1) := by decide +kernel
theorem dX7_read_134 : decode cX7_read 134 = .ok (.iadd, 1) := by decide +kernel
theorem dX7_read_135 : decode cX7_read 135 = .ok (.iaload, 1) := by decide +kernel
theorem dX7_read_136 : decode cX7_read 136 = .ok (.iconst 1, 1) := by decide +kernel
theorem dX7_read_137 : decode cX7_read 137 = .ok (.if_icmp .ne 37, 3) := by decide +kernel
theorem dX7_read_140 : decode cX7_read 140 = .ok (.aload_n 0, 1) := by decide +kernel
theorem dX7_read_141 : decode cX7_read 141 = .ok (.getfield 25, 3) := by decide +kernel
theorem dX7_read_144 : decode cX7_read 144 = .ok (.bipush 13, 2) := by decide +kernel
theorem dX7_read_146 : decode cX7_read 146 = .ok (.aload_n 0, 1) := by decide +kernel
theorem dX7_read_147 : decode cX7_read 147 = .ok (.getfield 95, 3) := by decide +kernel
theorem dX7_read_150 : decode cX7_read 150 = .ok (.imul, 1) := by decide +kernel
theorem dX7_read_151 : decode cX7_read 151 = .ok (.iload_n 1, 1) := by decide +kernel
theorem dX7_read_152 : decode cX7_read 152 = .ok (.iadd, 1) := by decide +kernel
theorem dX7_read_153 : decode cX7_read 153 = .ok (.aload_n 0, 1) := by decide +kernel
theorem dX7_read_154 : decode cX7_read 154 = .ok (.aload_n 0, 1) := by decide +kernel
theorem dX7_read_155 : decode cX7_read 155 = .ok (.getfield 22, 3) := by decide +kernel
theorem dX7_read_158 : decode cX7_read 158 = .ok (.bipush 13, 2) := by decide +kernel
theorem dX7_read_160 : decode cX7_read 160 = .ok (.aload_n 0, 1) := by decide +kernel
theorem dX7_read_161 : decode cX7_read 161 = .ok (.getfield 95, 3) := by decide +kernel
theorem dX7_read_164 : decode cX7_read 164 = .ok (.imul, 1) := by decide +kernel
theorem dX7_read_165 : decode cX7_read 165 = .ok (.iload_n 1, 1) := by decide +kernel
theorem dX7_read_166 : decode cX7_read 166 = .ok (.iadd, 1) := by decide +kernel
theorem dX7_read_167 : decode cX7_read 167 = .ok (.iaload, 1) := by decide +kernel
theorem dX7_read_168 : decode cX7_read 168 = .ok (.iconst 1, 1) := by decide +kernel
theorem dX7_read_169 : decode cX7_read 169 = .ok (.iadd, 1) := by decide +kernel
theorem dX7_read_170 : decode cX7_read 170 = .ok (.invokevirtual 141, 3) := by decide +kernel
theorem dX7_read_173 : decode cX7_read 173 = .ok (.iastore, 1) := by decide +kernel
theorem dX7_read_174 : decode cX7_read 174 = .ok (.iinc 1 1, 3) := by decide +kernel
theorem dX7_read_177 : decode cX7_read 177 = .ok (.goto (-63), 3) := by decide +kernel
theorem dX7_read_180 : decode cX7_read 180 = .ok (.iconst 1, 1) := by decide +kernel
theorem dX7_read_181 : decode cX7_read 181 = .ok (.istore_n 1, 1) := by decide +kernel
theorem dX7_read_182 : decode cX7_read 182 = .ok (.iload_n 1, 1) := by decide +kernel
theorem dX7_read_183 : decode cX7_read 183 = .ok (.aload_n 0, 1) := by decide +kernel
theorem dX7_read_184 : decode cX7_read 184 = .ok (.getfield 92, 3) := by decide +kernel
theorem dX7_read_187 : decode cX7_read 187 = .ok (.if_icmp .gt 76, 3) := by decide +kernel
theorem dX7_read_190 : decode cX7_read 190 = .ok (.aload_n 0, 1) := by decide +kernel
theorem dX7_read_191 : decode cX7_read 191 = .ok (.getfield 19, 3) := by decide +kernel
theorem dX7_read_194 : decode cX7_read 194 = .ok (.bipush 13, 2) := by decide +kernel
theorem dX7_read_196 : decode cX7_read 196 = .ok (.aload_n 0, 1) := by decide +kernel
theorem dX7_read_197 : decode cX7_read 197 = .ok (.getfield 95, 3) := by decide +kernel
theorem dX7_read_200 : decode cX7_read 200 = .ok (.imul, 1) := by decide +kernel
theorem dX7_read_201 : decode cX7_read 201 = .ok (.iload_n 1, 1) := by decide +kernel
theorem dX7_read_202 : decode cX7_read 202 = .ok (.iadd, 1) := by decide +kernel
theorem dX7_read_203 : decode cX7_read 203 = .ok (.iaload, 1) := by decide +kernel
theorem dX7_read_204 : decode cX7_read 204 = .ok (.bipush 7, 2) := by decide +kernel
theorem dX7_read_206 : decode cX7_read 206 = .ok (.if_icmp .ne 51, 3) := by decide +kernel
theorem dX7_read_209 : decode cX7_read 209 = .ok (.aload_n 0, 1) := by decide +kernel
theorem dX7_read_210 : decode cX7_read 210 = .ok (.getfield 25, 3) := by decide +kernel
theorem dX7_read_213 : decode cX7_read 213 = .ok (.bipush 13, 2) := by decide +kernel
theorem dX7_read_215 : decode cX7_read 215 = .ok (.aload_n 0, 1) := by decide +kernel
theorem dX7_read_216 : decode cX7_read 216 = .ok (.getfield 95, 3) := by decide +kernel
theorem dX7_read_219 : decode cX7_read 219 = .ok (.imul, 1) := by decide +kernel
theorem dX7_read_220 : decode cX7_read 220 = .ok (.iload_n 1, 1) := by decide +kernel
theorem dX7_read_221 : decode cX7_read 221 = .ok (.iadd, 1) := by decide +kernel
theorem dX7_read_222 : decode cX7_read 222 = .ok (.aload_n 0, 1) := by decide +kernel
theorem dX7_read_223 : decode cX7_read 223 = .ok (.getfield 25, 3) := by decide +kernel
theorem dX7_read_226 : decode cX7_read 226 = .ok (.bipush 13, 2) := by decide +kernel
theorem dX7_read_228 : decode cX7_read 228 = .ok (.aload_n 0, 1) := by decide +kernel
theorem dX7_read_229 : decode cX7_read 229 = .ok (.getfield 95, 3) := by decide +kernel
theorem dX7_read_232 : decode cX7_read 232 = .ok (.imul, 1) := by decide +kernel
theorem dX7_read_233 : decode cX7_read 233 = .ok (.aload_n 0, 1) := by decide +kernel
theorem dX7_read_234 : decode cX7_read 234 = .ok (.getfield 13, 3) := by decide +kernel
theorem dX7_read_237 : decode cX7_read 237 = .ok (.aload_n 0, 1) := by decide +kernel
theorem dX7_read_238 : decode cX7_read 238 = .ok (.getfield 22, 3) := by decide +kernel
theorem dX7_read_241 : decode cX7_read 241 = .ok (.bipush 13, 2) := by decide +kernel
theorem dX7_read_243 : decode cX7_read 243 = .ok (.aload_n 0, 1) := by decide +kernel
theorem dX7_read_244 : decode cX7_read 244 = .ok (.getfield 95, 3) := by decide +kernel
theorem dX7_read_247 : decode cX7_read 247 = .ok (.imul, 1) := by decide +kernel
theorem dX7_read_248 : decode cX7_read 248 = .ok (.iload_n 1, 1) := by decide +kernel
theorem dX7_read_249 : decode cX7_read 249 = .ok (.iadd, 1) := by decide +kernel
theorem dX7_read_250 : decode cX7_read 250 = .ok (.iaload, 1) := by decide +kernel
theorem dX7_read_251 : decode cX7_read 251 = .ok (.iconst 1, 1) := by decide +kernel
theorem dX7_read_252 : decode cX7_read 252 = .ok (.iadd, 1) := by decide +kernel
theorem dX7_read_253 : decode cX7_read 253 = .ok (.iaload, 1) := by decide +kernel
theorem dX7_read_254 : decode cX7_read 254 = .ok (.iadd, 1) := by decide +kernel
theorem dX7_read_255 : decode cX7_read 255 = .ok (.iaload, 1) := by decide +kernel
theorem dX7_read_256 : decode cX7_read 256 = .ok (.iastore, 1) := by decide +kernel
theorem dX7_read_257 : decode cX7_read 257 = .ok (.iinc 1 1, 3) := by decide +kernel
theorem dX7_read_260 : decode cX7_read 260 = .ok (.goto (-78), 3) := by decide +kernel
theorem dX7_read_263 : decode cX7_read 263 = .ok (.aload_n 0, 1) := by decide +kernel
theorem dX7_read_264 : decode cX7_read 264 = .ok (.getfield 31, 3) := by decide +kernel
theorem dX7_read_267 : decode cX7_read 267 = .ok (.aload_n 0, 1) := by decide +kernel
theorem dX7_read_268 : decode cX7_read 268 = .ok (.getfield 95, 3) := by decide +kernel
theorem dX7_read_271 : decode cX7_read 271 = .ok (.aload_n 0, 1) := by decide +kernel
theorem dX7_read_272 : decode cX7_read 272 = .ok (.getfield 25, 3) := by decide +kernel
theorem dX7_read_275 : decode cX7_read 275 = .ok (.bipush 13, 2) := by decide +kernel
theorem dX7_read_277 : decode cX7_read 277 = .ok (.aload_n 0, 1) := by decide +kernel
theorem dX7_read_278 : decode cX7_read 278 = .ok (.getfield 95, 3) := by decide +kernel
theorem dX7_read_281 : decode cX7_read 281 = .ok (.imul, 1) := by decide +kernel
theorem dX7_read_282 : decode cX7_read 282 = .ok (.aload_n 0, 1) := by decide +kernel
theorem dX7_read_283 : decode cX7_read 283 = .ok (.getfield 31, 3) := by decide +kernel
theorem dX7_read_286 : decode cX7_read 286 = .ok (.aload_n 0, 1) := by decide +kernel
theorem dX7_read_287 : decode cX7_read 287 = .ok (.getfield 95, 3) := by decide +kernel
theorem dX7_read_290 : decode cX7_read 290 = .ok (.iaload, 1) := by decide +kernel
theorem dX7_read_291 : decode cX7_read 291 = .ok (.iadd, 1) := by decide +kernel
theorem dX7_read_292 : decode cX7_read 292 = .ok (.iaload, 1) := by decide +kernel
theorem dX7_read_293 : decode cX7_read 293 = .ok (.iastore, 1) := by decide +kernel
theorem dX7_read_294 : decode cX7_read 294 = .ok (.aload_n 0, 1) := by decide +kernel
theorem dX7_read_295 : decode cX7_read 295 = .ok (.getfield 34, 3) := by decide +kernel
theorem dX7_read_298 : decode cX7_read 298 = .ok (.aload_n 0, 1) := by decide +kernel
theorem dX7_read_299 : decode cX7_read 299 = .ok (.getfield 95, 3) := by decide +kernel
theorem dX7_read_302 : decode cX7_read 302 = .ok (.aload_n 0, 1) := by decide +kernel
theorem dX7_read_303 : decode cX7_read 303 = .ok (.getfield 34, 3) := by decide +kernel
theorem dX7_read_306 : decode cX7_read 306 = .ok (.aload_n 0, 1) := by decide +kernel
theorem dX7_read_307 : decode cX7_read 307 = .ok (.getfield 95, 3) := by decide +kernel
theorem dX7_read_310 : decode cX7_read 310 = .ok (.iaload, 1) := by decide +kernel
theorem dX7_read_311 : decode cX7_read 311 = .ok (.ifCond .ne 7, 3) := by decide +kernel
theorem dX7_read_314 : decode cX7_read 314 = .ok (.iconst (-1), 1) := by decide +kernel
theorem dX7_read_315 : decode cX7_read 315 = .ok (.goto 25, 3) := by decide +kernel
theorem dX7_read_318 : decode cX7_read 318 = .ok (.aload_n 0, 1) := by decide +kernel
theorem dX7_read_319 : decode cX7_read 319 = .ok (.getfield 25, 3) := by decide +kernel
theorem dX7_read_322 : decode cX7_read 322 = .ok (.bipush 13, 2) := by decide +kernel
theorem dX7_read_324 : decode cX7_read 324 = .ok (.aload_n 0, 1) := by decide +kernel
theorem dX7_read_325 : decode cX7_read 325 = .ok (.getfield 95, 3) := by decide +kernel
theorem dX7_read_328 : decode cX7_read 328 = .ok (.imul, 1) := by decide +kernel
theorem dX7_read_329 : decode cX7_read 329 = .ok (.aload_n 0, 1) := by decide +kernel
theorem dX7_read_330 : decode cX7_read 330 = .ok (.getfield 34, 3) := by decide +kernel
theorem dX7_read_333 : decode cX7_read 333 = .ok (.aload_n 0, 1) := by decide +kernel
theorem dX7_read_334 : decode cX7_read 334 = .ok (.getfield 95, 3) := by decide +kernel
theorem dX7_read_337 : decode cX7_read 337 = .ok (.iaload, 1) := by decide +kernel
theorem dX7_read_338 : decode cX7_read 338 = .ok (.iadd, 1) := by decide +kernel
theorem dX7_read_339 : decode cX7_read 339 = .ok (.iaload, 1) := by decide +kernel
theorem dX7_read_340 : decode cX7_read 340 = .ok (.iastore, 1) := by decide +kernel
theorem dX7_read_341 : decode cX7_read 341 = .ok (.aload_n 0, 1) := by decide +kernel
theorem dX7_read_342 : decode cX7_read 342 = .ok (.getfield 37, 3) := by decide +kernel
theorem dX7_read_345 : decode cX7_read 345 = .ok (.aload_n 0, 1) := by decide +kernel
theorem dX7_read_346 : decode cX7_read 346 = .ok (.getfield 95, 3) := by decide +kernel
theorem dX7_read_349 : decode cX7_read 349 = .ok (.aload_n 0, 1) := by decide +kernel
theorem dX7_read_350 : decode cX7_read 350 = .ok (.getfield 37, 3) := by decide +kernel
theorem dX7_read_353 : decode cX7_read 353 = .ok (.aload_n 0, 1) := by decide +kernel
theorem dX7_read_354 : decode cX7_read 354 = .ok (.getfield 95, 3) := by decide +kernel
theorem dX7_read_357 : decode cX7_read 357 = .ok (.iaload, 1) := by decide +kernel
theorem dX7_read_358 : decode cX7_read 358 = .ok (.ifCond .ne 7, 3) := by decide +kernel
theorem dX7_read_361 : decode cX7_read 361 = .ok (.iconst (-1), 1) := by decide +kernel
theorem dX7_read_362 : decode cX7_read 362 = .ok (.goto 25, 3) := by decide +kernel
theorem dX7_read_365 : decode cX7_read 365 = .ok (.aload_n 0, 1) := by decide +kernel
theorem dX7_read_366 : decode cX7_read 366 = .ok (.getfield 25, 3) := by decide +kernel
theorem dX7_read_369 : decode cX7_read 369 = .ok (.bipush 13, 2) := by decide +kernel
theorem dX7_read_371 : decode cX7_read 371 = .ok (.aload_n 0, 1) := by decide +kernel
theorem dX7_read_372 : decode cX7_read 372 = .ok (.getfield 95, 3) := by decide +kernel
theorem dX7_read_375 : decode cX7_read 375 = .ok (.imul, 1) := by decide +kernel
theorem dX7_read_376 : decode cX7_read 376 = .ok (.aload_n 0, 1) := by decide +kernel
theorem dX7_read_377 : decode cX7_read 377 = .ok (.getfield 37, 3) := by decide +kernel
theorem dX7_read_380 : decode cX7_read 380 = .ok (.aload_n 0, 1) := by decide +kernel
theorem dX7_read_381 : decode cX7_read 381 = .ok (.getfield 95, 3) := by decide +kernel
theorem dX7_read_384 : decode cX7_read 384 = .ok (.iaload, 1) := by decide +kernel
theorem dX7_read_385 : decode cX7_read 385 = .ok (.iadd, 1) := by decide +kernel
theorem dX7_read_386 : decode cX7_read 386 = .ok (.iaload, 1) := by decide +kernel
theorem dX7_read_387 : decode cX7_read 387 = .ok (.iastore, 1) := by decide +kernel
theorem dX7_read_388 : decode cX7_read 388 = .ok (.iconst 0, 1) := by decide +kernel
theorem dX7_read_389 : decode cX7_read 389 = .ok (.istore_n 1, 1) := by decide +kernel
theorem dX7_read_390 : decode cX7_read 390 = .ok (.iload_n 1, 1) := by decide +kernel
theorem dX7_read_391 : decode cX7_read 391 = .ok (.aload_n 0, 1) := by decide +kernel
theorem dX7_read_392 : decode cX7_read 392 = .ok (.getfield 40, 3) := by decide +kernel
theorem dX7_read_395 : decode cX7_read 395 = .ok (.aload_n 0, 1) := by decide +kernel
theorem dX7_read_396 : decode cX7_read 396 = .ok (.getfield 95, 3) := by decide +kernel
theorem dX7_read_399 : decode cX7_read 399 = .ok (.iaload, 1) := by decide +kernel
theorem dX7_read_400 : decode cX7_read 400 = .ok (.if_icmp .ge 48, 3) := by decide +kernel
theorem dX7_read_403 : decode cX7_read 403 = .ok (.aload_n 0, 1) := by decide +kernel
theorem dX7_read_404 : decode cX7_read 404 = .ok (.getfield 43, 3) := by decide +kernel
theorem dX7_read_407 : decode cX7_read 407 = .ok (.iconst 4, 1) := by decide +kernel
theorem dX7_read_408 : decode cX7_read 408 = .ok (.aload_n 0, 1) := by decide +kernel
theorem dX7_read_409 : decode cX7_read 409 = .ok (.getfield 95, 3) := by decide +kernel
theorem dX7_read_412 : decode cX7_read 412 = .ok (.imul, 1) := by decide +kernel
theorem dX7_read_413 : decode cX7_read 413 = .ok (.iload_n 1, 1) := by decide +kernel
theorem dX7_read_414 : decode cX7_read 414 = .ok (.iadd, 1) := by decide +kernel
theorem dX7_read_415 : decode cX7_read 415 = .ok (.aload_n 0, 1) := by decide +kernel
theorem dX7_read_416 : decode cX7_read 416 = .ok (.getfield 25, 3) := by decide +kernel
theorem dX7_read_419 : decode cX7_read 419 = .ok (.bipush 13, 2) := by decide +kernel
theorem dX7_read_421 : decode cX7_read 421 = .ok (.aload_n 0, 1) := by decide +kernel
theorem dX7_read_422 : decode cX7_read 422 = .ok (.getfield 95, 3) := by decide +kernel
theorem dX7_read_425 : decode cX7_read 425 = .ok (.imul, 1) := by decide +kernel
theorem dX7_read_426 : decode cX7_read 426 = .ok (.aload_n 0, 1) := by decide +kernel
theorem dX7_read_427 : decode cX7_read 427 = .ok (.getfield 43, 3) := by decide +kernel
theorem dX7_read_430 : decode cX7_read 430 = .ok (.iconst 4, 1) := by decide +kernel
theorem dX7_read_431 : decode cX7_read 431 = .ok (.aload_n 0, 1) := by decide +kernel
theorem dX7_read_432 : decode cX7_read 432 = .ok (.getfield 95, 3) := by decide +kernel
theorem dX7_read_435 : decode cX7_read 435 = .ok (.imul, 1) := by decide +kernel
theorem dX7_read_436 : decode cX7_read 436 = .ok (.iload_n 1, 1) := by decide +kernel
theorem dX7_read_437 : decode cX7_read 437 = .ok (.iadd, 1) := by decide +kernel
theorem dX7_read_438 : decode cX7_read 438 = .ok (.iaload, 1) := by decide +kernel
theorem dX7_read_439 : decode cX7_read 439 = .ok (.iadd, 1) := by decide +kernel
theorem dX7_read_440 : decode cX7_read 440 = .ok (.iaload, 1) := by decide +kernel
theorem dX7_read_441 : decode cX7_read 441 = .ok (.iastore, 1) := by decide +kernel
theorem dX7_read_442 : decode cX7_read 442 = .ok (.iinc 1 1, 3) := by decide +kernel
theorem dX7_read_445 : decode cX7_read 445 = .ok (.goto (-55), 3) := by decide +kernel
theorem dX7_read_448 : decode cX7_read 448 = .ok (.aload_n 0, 1) := by decide +kernel
theorem dX7_read_449 : decode cX7_read 449 = .ok (.dup, 1) := by decide +kernel
theorem dX7_read_450 : decode cX7_read 450 = .ok (.getfield 116, 3) := by decide +kernel
theorem dX7_read_453 : decode cX7_read 453 = .ok (.iconst 1, 1) := by decide +kernel
theorem dX7_read_454 : decode cX7_read 454 = .ok (.iadd, 1) := by decide +kernel
theorem dX7_read_455 : decode cX7_read 455 = .ok (.putfield 116, 3) := by decide +kernel
theorem dX7_read_458 : decode cX7_read 458 = .ok (.aload_n 0, 1) := by decide +kernel
theorem dX7_read_459 : decode cX7_read 459 = .ok (.getfield 95, 3) := by decide +kernel
theorem dX7_read_462 : decode cX7_read 462 = .ok (.ireturn, 1) := by decide +kernel
theorem dX7_isClass_0 : decode cX7_isClass 0 = .ok (.iload_n 1, 1) := by decide +kernel
theorem dX7_isClass_1 : decode cX7_isClass 1 = .ok (.ifCond .lt 15, 3) := by decide +kernel
theorem dX7_isClass_4 : decode cX7_isClass 4 = .ok (.iload_n 1, 1) := by decide +kernel
theorem dX7_isClass_5 : decode cX7_isClass 5 = .ok (.aload_n 0, 1) := by decide +kernel
theorem dX7_isClass_6 : decode cX7_isClass 6 = .ok (.getfield 116, 3) := by decide +kernel
theorem dX7_isClass_9 : decode cX7_isClass 9 = .ok (.if_icmp .ge 7, 3) := by decide +kernel
theorem dX7_isClass_12 : decode cX7_isClass 12 = .ok (.iconst 1, 1) := by decide +kernel
theorem dX7_isClass_13 : decode cX7_isClass 13 = .ok (.goto 4, 3) := by decide +kernel
theorem dX7_isClass_16 : decode cX7_isClass 16 = .ok (.iconst 0, 1) := by decide +kernel
theorem dX7_isClass_17 : decode cX7_isClass 17 = .ok (.ireturn, 1) := by decide +kernel
theorem dX7_isText_0 : decode cX7_isText 0 = .ok (.iload_n 1, 1) := by decide +kernel
theorem dX7_isText_1 : decode cX7_isText 1 = .ok (.ifCond .lt 15, 3) := by decide +kernel
theorem dX7_isText_4 : decode cX7_isText 4 = .ok (.iload_n 1, 1) := by decide +kernel
theorem dX7_isText_5 : decode cX7_isText 5 = .ok (.aload_n 0, 1) := by decide +kernel
theorem dX7_isText_6 : decode cX7_isText 6 = .ok (.getfield 135, 3) := by decide +kernel
theorem dX7_isText_9 : decode cX7_isText 9 = .ok (.if_icmp .ge 7, 3) := by decide +kernel
theorem dX7_isText_12 : decode cX7_isText 12 = .ok (.iconst 1, 1) := by decide +kernel
theorem dX7_isText_13 : decode cX7_isText 13 = .ok (.goto 4, 3) := by decide +kernel
theorem dX7_isText_16 : decode cX7_isText 16 = .ok (.iconst 0, 1) := by decide +kernel
theorem dX7_isText_17 : decode cX7_isText 17 = .ok (.ireturn, 1) := by decide +kernel
theorem dX7_classes_0 : decode cX7_classes 0 = .ok (.aload_n 0, 1) := by decide +kernel
theorem dX7_classes_1 : decode cX7_classes 1 = .ok (.getfield 116, 3) := by decide +kernel
theorem dX7_classes_4 : decode cX7_classes 4 = .ok (.ireturn, 1) := by decide +kernel
end
section
theorem dX7_texts_0 : decode cX7_texts 0 = .ok (.aload_n 0, 1) := by decide +kernel
theorem dX7_texts_1 : decode cX7_texts 1 = .ok (.getfield 135, 3) := by decide +kernel
theorem dX7_texts_4 : decode cX7_texts 4 = .ok (.ireturn, 1) := by decide +kernel
theorem dX7_letter_0 : decode cX7_letter 0 = .ok (.aload_n 0, 1) := by decide +kernel
theorem dX7_letter_1 : decode cX7_letter 1 = .ok (.iload_n 1, 1) := by decide +kernel
theorem dX7_letter_2 : decode cX7_letter 2 = .ok (.invokevirtual 144, 3) := by decide +kernel
theorem dX7_letter_5 : decode cX7_letter 5 = .ok (.ifCond .ne 5, 3) := by decide +kernel
theorem dX7_letter_8 : decode cX7_letter 8 = .ok (.iconst (-1), 1) := by decide +kernel
theorem dX7_letter_9 : decode cX7_letter 9 = .ok (.ireturn, 1) := by decide +kernel
theorem dX7_letter_10 : decode cX7_letter 10 = .ok (.iload_n 2, 1) := by decide +kernel
theorem dX7_letter_11 : decode cX7_letter 11 = .ok (.ifCond .lt 18, 3) := by decide +kernel
theorem dX7_letter_14 : decode cX7_letter 14 = .ok (.iload_n 2, 1) := by decide +kernel
theorem dX7_letter_15 : decode cX7_letter 15 = .ok (.aload_n 0, 1) := by decide +kernel
theorem dX7_letter_16 : decode cX7_letter 16 = .ok (.getfield 13, 3) := by decide +kernel
theorem dX7_letter_19 : decode cX7_letter 19 = .ok (.aload_n 0, 1) := by decide +kernel
theorem dX7_letter_20 : decode cX7_letter 20 = .ok (.getfield 16, 3) := by decide +kernel
theorem dX7_letter_23 : decode cX7_letter 23 = .ok (.iload_n 1, 1) := by decide +kernel
theorem dX7_letter_24 : decode cX7_letter 24 = .ok (.iaload, 1) := by decide +kernel
theorem dX7_letter_25 : decode cX7_letter 25 = .ok (.iaload, 1) := by decide +kernel
theorem dX7_letter_26 : decode cX7_letter 26 = .ok (.if_icmp .lt 7, 3) := by decide +kernel
theorem dX7_letter_29 : decode cX7_letter 29 = .ok (.iconst 0, 1) := by decide +kernel
theorem dX7_letter_30 : decode cX7_letter 30 = .ok (.goto 18, 3) := by decide +kernel
theorem dX7_letter_33 : decode cX7_letter 33 = .ok (.aload_n 0, 1) := by decide +kernel
theorem dX7_letter_34 : decode cX7_letter 34 = .ok (.getfield 13, 3) := by decide +kernel
theorem dX7_letter_37 : decode cX7_letter 37 = .ok (.aload_n 0, 1) := by decide +kernel
theorem dX7_letter_38 : decode cX7_letter 38 = .ok (.getfield 16, 3) := by decide +kernel
theorem dX7_letter_41 : decode cX7_letter 41 = .ok (.iload_n 1, 1) := by decide +kernel
theorem dX7_letter_42 : decode cX7_letter 42 = .ok (.iaload, 1) := by decide +kernel
theorem dX7_letter_43 : decode cX7_letter 43 = .ok (.iconst 1, 1) := by decide +kernel
theorem dX7_letter_44 : decode cX7_letter 44 = .ok (.iadd, 1) := by decide +kernel
theorem dX7_letter_45 : decode cX7_letter 45 = .ok (.iload_n 2, 1) := by decide +kernel
theorem dX7_letter_46 : decode cX7_letter 46 = .ok (.iadd, 1) := by decide +kernel
theorem dX7_letter_47 : decode cX7_letter 47 = .ok (.iaload, 1) := by decide +kernel
theorem dX7_letter_48 : decode cX7_letter 48 = .ok (.ireturn, 1) := by decide +kernel
theorem dX7_find_0 : decode cX7_find 0 = .ok (.iconst 0, 1) := by decide +kernel
theorem dX7_find_1 : decode cX7_find 1 = .ok (.istore_n 2, 1) := by decide +kernel
theorem dX7_find_2 : decode cX7_find 2 = .ok (.iload_n 2, 1) := by decide +kernel
theorem dX7_find_3 : decode cX7_find 3 = .ok (.aload_n 0, 1) := by decide +kernel
theorem dX7_find_4 : decode cX7_find 4 = .ok (.getfield 116, 3) := by decide +kernel
theorem dX7_find_7 : decode cX7_find 7 = .ok (.if_icmp .ge 21, 3) := by decide +kernel
theorem dX7_find_10 : decode cX7_find 10 = .ok (.aload_n 0, 1) := by decide +kernel
theorem dX7_find_11 : decode cX7_find 11 = .ok (.getfield 31, 3) := by decide +kernel
theorem dX7_find_14 : decode cX7_find 14 = .ok (.iload_n 2, 1) := by decide +kernel
theorem dX7_find_15 : decode cX7_find 15 = .ok (.iaload, 1) := by decide +kernel
theorem dX7_find_16 : decode cX7_find 16 = .ok (.iload_n 1, 1) := by decide +kernel
theorem dX7_find_17 : decode cX7_find 17 = .ok (.if_icmp .ne 5, 3) := by decide +kernel
theorem dX7_find_20 : decode cX7_find 20 = .ok (.iload_n 2, 1) := by decide +kernel
theorem dX7_find_21 : decode cX7_find 21 = .ok (.ireturn, 1) := by decide +kernel
theorem dX7_find_22 : decode cX7_find 22 = .ok (.iinc 2 1, 3) := by decide +kernel
theorem dX7_find_25 : decode cX7_find 25 = .ok (.goto (-23), 3) := by decide +kernel
theorem dX7_find_28 : decode cX7_find 28 = .ok (.iconst (-1), 1) := by decide +kernel
theorem dX7_find_29 : decode cX7_find 29 = .ok (.ireturn, 1) := by decide +kernel
theorem dX7_name_0 : decode cX7_name 0 = .ok (.aload_n 0, 1) := by decide +kernel
theorem dX7_name_1 : decode cX7_name 1 = .ok (.iload_n 1, 1) := by decide +kernel
theorem dX7_name_2 : decode cX7_name 2 = .ok (.invokevirtual 147, 3) := by decide +kernel
theorem dX7_name_5 : decode cX7_name 5 = .ok (.ifCond .eq 12, 3) := by decide +kernel
theorem dX7_name_8 : decode cX7_name 8 = .ok (.aload_n 0, 1) := by decide +kernel
theorem dX7_name_9 : decode cX7_name 9 = .ok (.getfield 31, 3) := by decide +kernel
theorem dX7_name_12 : decode cX7_name 12 = .ok (.iload_n 1, 1) := by decide +kernel
theorem dX7_name_13 : decode cX7_name 13 = .ok (.iaload, 1) := by decide +kernel
theorem dX7_name_14 : decode cX7_name 14 = .ok (.goto 4, 3) := by decide +kernel
theorem dX7_name_17 : decode cX7_name 17 = .ok (.iconst (-1), 1) := by decide +kernel
theorem dX7_name_18 : decode cX7_name 18 = .ok (.ireturn, 1) := by decide +kernel
theorem dX7_flags_0 : decode cX7_flags 0 = .ok (.aload_n 0, 1) := by decide +kernel
theorem dX7_flags_1 : decode cX7_flags 1 = .ok (.iload_n 1, 1) := by decide +kernel
theorem dX7_flags_2 : decode cX7_flags 2 = .ok (.invokevirtual 147, 3) := by decide +kernel
theorem dX7_flags_5 : decode cX7_flags 5 = .ok (.ifCond .eq 12, 3) := by decide +kernel
theorem dX7_flags_8 : decode cX7_flags 8 = .ok (.aload_n 0, 1) := by decide +kernel
theorem dX7_flags_9 : decode cX7_flags 9 = .ok (.getfield 28, 3) := by decide +kernel
theorem dX7_flags_12 : decode cX7_flags 12 = .ok (.iload_n 1, 1) := by decide +kernel
theorem dX7_flags_13 : decode cX7_flags 13 = .ok (.iaload, 1) := by decide +kernel
theorem dX7_flags_14 : decode cX7_flags 14 = .ok (.goto 4, 3) := by decide +kernel
theorem dX7_flags_17 : decode cX7_flags 17 = .ok (.iconst (-1), 1) := by decide +kernel
theorem dX7_flags_18 : decode cX7_flags 18 = .ok (.ireturn, 1) := by decide +kernel
theorem dX7_superName_0 : decode cX7_superName 0 = .ok (.aload_n 0, 1) := by decide +kernel
theorem dX7_superName_1 : decode cX7_superName 1 = .ok (.iload_n 1, 1) := by decide +kernel
theorem dX7_superName_2 : decode cX7_superName 2 = .ok (.invokevirtual 147, 3) := by decide +kernel
theorem dX7_superName_5 : decode cX7_superName 5 = .ok (.ifCond .eq 12, 3) := by decide +kernel
theorem dX7_superName_8 : decode cX7_superName 8 = .ok (.aload_n 0, 1) := by decide +kernel
theorem dX7_superName_9 : decode cX7_superName 9 = .ok (.getfield 34, 3) := by decide +kernel
theorem dX7_superName_12 : decode cX7_superName 12 = .ok (.iload_n 1, 1) := by decide +kernel
theorem dX7_superName_13 : decode cX7_superName 13 = .ok (.iaload, 1) := by decide +kernel
theorem dX7_superName_14 : decode cX7_superName 14 = .ok (.goto 4, 3) := by decide +kernel
theorem dX7_superName_17 : decode cX7_superName 17 = .ok (.iconst (-1), 1) := by decide +kernel
theorem dX7_superName_18 : decode cX7_superName 18 = .ok (.ireturn, 1) := by decide +kernel
theorem dX7_typeOf_0 : decode cX7_typeOf 0 = .ok (.aload_n 0, 1) := by decide +kernel
theorem dX7_typeOf_1 : decode cX7_typeOf 1 = .ok (.getfield 25, 3) := by decide +kernel
theorem dX7_typeOf_4 : decode cX7_typeOf 4 = .ok (.bipush 13, 2) := by decide +kernel
theorem dX7_typeOf_6 : decode cX7_typeOf 6 = .ok (.iload_n 1, 1) := by decide +kernel
theorem dX7_typeOf_7 : decode cX7_typeOf 7 = .ok (.imul, 1) := by decide +kernel
theorem dX7_typeOf_8 : decode cX7_typeOf 8 = .ok (.aload_n 0, 1) := by decide +kernel
theorem dX7_typeOf_9 : decode cX7_typeOf 9 = .ok (.getfield 13, 3) := by decide +kernel
theorem dX7_typeOf_12 : decode cX7_typeOf 12 = .ok (.aload_n 0, 1) := by decide +kernel
theorem dX7_typeOf_13 : decode cX7_typeOf 13 = .ok (.getfield 49, 3) := by decide +kernel
theorem dX7_typeOf_16 : decode cX7_typeOf 16 = .ok (.iconst 4, 1) := by decide +kernel
theorem dX7_typeOf_17 : decode cX7_typeOf 17 = .ok (.iload_n 1, 1) := by decide +kernel
theorem dX7_typeOf_18 : decode cX7_typeOf 18 = .ok (.imul, 1) := by decide +kernel
theorem dX7_typeOf_19 : decode cX7_typeOf 19 = .ok (.iload_n 2, 1) := by decide +kernel
theorem dX7_typeOf_20 : decode cX7_typeOf 20 = .ok (.iadd, 1) := by decide +kernel
theorem dX7_typeOf_21 : decode cX7_typeOf 21 = .ok (.iaload, 1) := by decide +kernel
theorem dX7_typeOf_22 : decode cX7_typeOf 22 = .ok (.iaload, 1) := by decide +kernel
theorem dX7_typeOf_23 : decode cX7_typeOf 23 = .ok (.iadd, 1) := by decide +kernel
theorem dX7_typeOf_24 : decode cX7_typeOf 24 = .ok (.iaload, 1) := by decide +kernel
theorem dX7_typeOf_25 : decode cX7_typeOf 25 = .ok (.ireturn, 1) := by decide +kernel
theorem dX7_markAbove_0 : decode cX7_markAbove 0 = .ok (.iconst 0, 1) := by decide +kernel
theorem dX7_markAbove_1 : decode cX7_markAbove 1 = .ok (.istore_n 3, 1) := by decide +kernel
theorem dX7_markAbove_2 : decode cX7_markAbove 2 = .ok (.iload_n 2, 1) := by decide +kernel
theorem dX7_markAbove_3 : decode cX7_markAbove 3 = .ok (.ifCond .eq 12, 3) := by decide +kernel
theorem dX7_markAbove_6 : decode cX7_markAbove 6 = .ok (.aload_n 0, 1) := by decide +kernel
theorem dX7_markAbove_7 : decode cX7_markAbove 7 = .ok (.getfield 46, 3) := by decide +kernel
theorem dX7_markAbove_10 : decode cX7_markAbove 10 = .ok (.iload_n 1, 1) := by decide +kernel
theorem dX7_markAbove_11 : decode cX7_markAbove 11 = .ok (.iaload, 1) := by decide +kernel
theorem dX7_markAbove_12 : decode cX7_markAbove 12 = .ok (.goto 9, 3) := by decide +kernel
theorem dX7_markAbove_15 : decode cX7_markAbove 15 = .ok (.aload_n 0, 1) := by decide +kernel
theorem dX7_markAbove_16 : decode cX7_markAbove 16 = .ok (.getfield 40, 3) := by decide +kernel
theorem dX7_markAbove_19 : decode cX7_markAbove 19 = .ok (.iload_n 1, 1) := by decide +kernel
theorem dX7_markAbove_20 : decode cX7_markAbove 20 = .ok (.iaload, 1) := by decide +kernel
theorem dX7_markAbove_21 : decode cX7_markAbove 21 = .ok (.istore 4, 2) := by decide +kernel
theorem dX7_markAbove_23 : decode cX7_markAbove 23 = .ok (.iconst 0, 1) := by decide +kernel
theorem dX7_markAbove_24 : decode cX7_markAbove 24 = .ok (.istore 5, 2) := by decide +kernel
theorem dX7_markAbove_26 : decode cX7_markAbove 26 = .ok (.iload 5, 2) := by decide +kernel
theorem dX7_markAbove_28 : decode cX7_markAbove 28 = .ok (.iload 4, 2) := by decide +kernel
theorem dX7_markAbove_30 : decode cX7_markAbove 30 = .ok (.if_icmp .ge 64, 3) := by decide +kernel
theorem dX7_markAbove_33 : decode cX7_markAbove 33 = .ok (.iload_n 2, 1) := by decide +kernel
theorem dX7_markAbove_34 : decode cX7_markAbove 34 = .ok (.ifCond .eq 13, 3) := by decide +kernel
theorem dX7_markAbove_37 : decode cX7_markAbove 37 = .ok (.aload_n 0, 1) := by decide +kernel
theorem dX7_markAbove_38 : decode cX7_markAbove 38 = .ok (.iload_n 1, 1) := by decide +kernel
theorem dX7_markAbove_39 : decode cX7_markAbove 39 = .ok (.iload 5, 2) := by decide +kernel
theorem dX7_markAbove_41 : decode cX7_markAbove 41 = .ok (.invokevirtual 150, 3) := by decide +kernel
theorem dX7_markAbove_44 : decode cX7_markAbove 44 = .ok (.goto 14, 3) := by decide +kernel
theorem dX7_markAbove_47 : decode cX7_markAbove 47 = .ok (.aload_n 0, 1) := by decide +kernel
theorem dX7_markAbove_48 : decode cX7_markAbove 48 = .ok (.getfield 43, 3) := by decide +kernel
theorem dX7_markAbove_51 : decode cX7_markAbove 51 = .ok (.iconst 4, 1) := by decide +kernel
theorem dX7_markAbove_52 : decode cX7_markAbove 52 = .ok (.iload_n 1, 1) := by decide +kernel
theorem dX7_markAbove_53 : decode cX7_markAbove 53 = .ok (.imul, 1) := by decide +kernel
theorem dX7_markAbove_54 : decode cX7_markAbove 54 = .ok (.iload 5, 2) := by decide +kernel
theorem dX7_markAbove_56 : decode cX7_markAbove 56 = .ok (.iadd, 1) := by decide +kernel
theorem dX7_markAbove_57 : decode cX7_markAbove 57 = .ok (.iaload, 1) := by decide +kernel
theorem dX7_markAbove_58 : decode cX7_markAbove 58 = .ok (.istore 6, 2) := by decide +kernel
theorem dX7_markAbove_60 : decode cX7_markAbove 60 = .ok (.iload_n 3, 1) := by decide +kernel
theorem dX7_markAbove_61 : decode cX7_markAbove 61 = .ok (.ifCond .ne 13, 3) := by decide +kernel
theorem dX7_markAbove_64 : decode cX7_markAbove 64 = .ok (.aload_n 0, 1) := by decide +kernel
theorem dX7_markAbove_65 : decode cX7_markAbove 65 = .ok (.getfield 62, 3) := by decide +kernel
theorem dX7_markAbove_68 : decode cX7_markAbove 68 = .ok (.iload 6, 2) := by decide +kernel
theorem dX7_markAbove_70 : decode cX7_markAbove 70 = .ok (.baload, 1) := by decide +kernel
theorem dX7_markAbove_71 : decode cX7_markAbove 71 = .ok (.ifCond .ne 7, 3) := by decide +kernel
theorem dX7_markAbove_74 : decode cX7_markAbove 74 = .ok (.iconst 1, 1) := by decide +kernel
theorem dX7_markAbove_75 : decode cX7_markAbove 75 = .ok (.goto 4, 3) := by decide +kernel
theorem dX7_markAbove_78 : decode cX7_markAbove 78 = .ok (.iconst 0, 1) := by decide +kernel
theorem dX7_markAbove_79 : decode cX7_markAbove 79 = .ok (.istore_n 3, 1) := by decide +kernel
theorem dX7_markAbove_80 : decode cX7_markAbove 80 = .ok (.aload_n 0, 1) := by decide +kernel
theorem dX7_markAbove_81 : decode cX7_markAbove 81 = .ok (.getfield 62, 3) := by decide +kernel
theorem dX7_markAbove_84 : decode cX7_markAbove 84 = .ok (.iload 6, 2) := by decide +kernel
theorem dX7_markAbove_86 : decode cX7_markAbove 86 = .ok (.iconst 1, 1) := by decide +kernel
theorem dX7_markAbove_87 : decode cX7_markAbove 87 = .ok (.bastore, 1) := by decide +kernel
theorem dX7_markAbove_88 : decode cX7_markAbove 88 = .ok (.iinc 5 1, 3) := by decide +kernel
theorem dX7_markAbove_91 : decode cX7_markAbove 91 = .ok (.goto (-65), 3) := by decide +kernel
theorem dX7_markAbove_94 : decode cX7_markAbove 94 = .ok (.iload_n 2, 1) := by decide +kernel
theorem dX7_markAbove_95 : decode cX7_markAbove 95 = .ok (.ifCond .ne 48, 3) := by decide +kernel
theorem dX7_markAbove_98 : decode cX7_markAbove 98 = .ok (.aload_n 0, 1) := by decide +kernel
theorem dX7_markAbove_99 : decode cX7_markAbove 99 = .ok (.getfield 34, 3) := by decide +kernel
theorem dX7_markAbove_102 : decode cX7_markAbove 102 = .ok (.iload_n 1, 1) := by decide +kernel
theorem dX7_markAbove_103 : decode cX7_markAbove 103 = .ok (.iaload, 1) := by decide +kernel
theorem dX7_markAbove_104 : decode cX7_markAbove 104 = .ok (.ifCond .lt 39, 3) := by decide +kernel
theorem dX7_markAbove_107 : decode cX7_markAbove 107 = .ok (.iload_n 3, 1) := by decide +kernel
theorem dX7_markAbove_108 : decode cX7_markAbove 108 = .ok (.ifCond .ne 17, 3) := by decide +kernel
theorem dX7_markAbove_111 : decode cX7_markAbove 111 = .ok (.aload_n 0, 1) := by decide +kernel
theorem dX7_markAbove_112 : decode cX7_markAbove 112 = .ok (.getfield 62, 3) := by decide +kernel
theorem dX7_markAbove_115 : decode cX7_markAbove 115 = .ok (.aload_n 0, 1) := by decide +kernel
theorem dX7_markAbove_116 : decode cX7_markAbove 116 = .ok (.getfield 34, 3) := by decide +kernel
theorem dX7_markAbove_119 : decode cX7_markAbove 119 = .ok (.iload_n 1, 1) := by decide +kernel
theorem dX7_markAbove_120 : decode cX7_markAbove 120 = .ok (.iaload, 1) := by decide +kernel
theorem dX7_markAbove_121 : decode cX7_markAbove 121 = .ok (.baload, 1) := by decide +kernel
theorem dX7_markAbove_122 : decode cX7_markAbove 122 = .ok (.ifCond .ne 7, 3) := by decide +kernel
theorem dX7_markAbove_125 : decode cX7_markAbove 125 = .ok (.iconst 1, 1) := by decide +kernel
theorem dX7_markAbove_126 : decode cX7_markAbove 126 = .ok (.goto 4, 3) := by decide +kernel
theorem dX7_markAbove_129 : decode cX7_markAbove 129 = .ok (.iconst 0, 1) := by decide +kernel
theorem dX7_markAbove_130 : decode cX7_markAbove 130 = .ok (.istore_n 3, 1) := by decide +kernel
theorem dX7_markAbove_131 : decode cX7_markAbove 131 = .ok (.aload_n 0, 1) := by decide +kernel
theorem dX7_markAbove_132 : decode cX7_markAbove 132 = .ok (.getfield 62, 3) := by decide +kernel
theorem dX7_markAbove_135 : decode cX7_markAbove 135 = .ok (.aload_n 0, 1) := by decide +kernel
theorem dX7_markAbove_136 : decode cX7_markAbove 136 = .ok (.getfield 34, 3) := by decide +kernel
theorem dX7_markAbove_139 : decode cX7_markAbove 139 = .ok (.iload_n 1, 1) := by decide +kernel
theorem dX7_markAbove_140 : decode cX7_markAbove 140 = .ok (.iaload, 1) := by decide +kernel
theorem dX7_markAbove_141 : decode cX7_markAbove 141 = .ok (.iconst 1, 1) := by decide +kernel
theorem dX7_markAbove_142 : decode cX7_markAbove 142 = .ok (.bastore, 1) := by decide +kernel
theorem dX7_markAbove_143 : decode cX7_markAbove 143 = .ok (.iload_n 3, 1) := by decide +kernel
theorem dX7_markAbove_144 : decode cX7_markAbove 144 = .ok (.ireturn, 1) := by decide +kernel
theorem dX7_reaches_0 : decode cX7_reaches 0 = .ok (.iconst 0, 1) := by decide +kernel
theorem dX7_reaches_1 : decode cX7_reaches 1 = .ok (.istore 4, 2) := by decide +kernel
theorem dX7_reaches_3 : decode cX7_reaches 3 = .ok (.iload 4, 2) := by decide +kernel
theorem dX7_reaches_5 : decode cX7_reaches 5 = .ok (.aload_n 0, 1) := by decide +kernel
theorem dX7_reaches_6 : decode cX7_reaches 6 = .ok (.getfield 135, 3) := by decide +kernel
theorem dX7_reaches_9 : decode cX7_reaches 9 = .ok (.if_icmp .ge 17, 3) := by decide +kernel
theorem dX7_reaches_12 : decode cX7_reaches 12 = .ok (.aload_n 0, 1) := by decide +kernel
theorem dX7_reaches_13 : decode cX7_reaches 13 = .ok (.getfield 62, 3) := by decide +kernel
theorem dX7_reaches_16 : decode cX7_reaches 16 = .ok (.iload 4, 2) := by decide +kernel
theorem dX7_reaches_18 : decode cX7_reaches 18 = .ok (.iconst 0, 1) := by decide +kernel
theorem dX7_reaches_19 : decode cX7_reaches 19 = .ok (.bastore, 1) := by decide +kernel
theorem dX7_reaches_20 : decode cX7_reaches 20 = .ok (.iinc 4 1, 3) := by decide +kernel
theorem dX7_reaches_23 : decode cX7_reaches 23 = .ok (.goto (-20), 3) := by decide +kernel
theorem dX7_reaches_26 : decode cX7_reaches 26 = .ok (.aload_n 0, 1) := by decide +kernel
theorem dX7_reaches_27 : decode cX7_reaches 27 = .ok (.iload_n 1, 1) := by decide +kernel
theorem dX7_reaches_28 : decode cX7_reaches 28 = .ok (.iload_n 3, 1) := by decide +kernel
theorem dX7_reaches_29 : decode cX7_reaches 29 = .ok (.invokevirtual 154, 3) := by decide +kernel
theorem dX7_reaches_32 : decode cX7_reaches 32 = .ok (.istore 4, 2) := by decide +kernel
theorem dX7_reaches_34 : decode cX7_reaches 34 = .ok (.iconst 0, 1) := by decide +kernel
theorem dX7_reaches_35 : decode cX7_reaches 35 = .ok (.istore 5, 2) := by decide +kernel
theorem dX7_reaches_37 : decode cX7_reaches 37 = .ok (.iload 5, 2) := by decide +kernel
theorem dX7_reaches_39 : decode cX7_reaches 39 = .ok (.sipush 192, 3) := by decide +kernel
theorem dX7_reaches_42 : decode cX7_reaches 42 = .ok (.if_icmp .gt 84, 3) := by decide +kernel
theorem dX7_reaches_45 : decode cX7_reaches 45 = .ok (.iload 4, 2) := by decide +kernel
theorem dX7_reaches_47 : decode cX7_reaches 47 = .ok (.ifCond .eq 79, 3) := by decide +kernel
theorem dX7_reaches_50 : decode cX7_reaches 50 = .ok (.iconst 0, 1) := by decide +kernel
theorem dX7_reaches_51 : decode cX7_reaches 51 = .ok (.istore 4, 2) := by decide +kernel
theorem dX7_reaches_53 : decode cX7_reaches 53 = .ok (.iconst 0, 1) := by decide +kernel
theorem dX7_reaches_54 : decode cX7_reaches 54 = .ok (.istore 6, 2) := by decide +kernel
theorem dX7_reaches_56 : decode cX7_reaches 56 = .ok (.iload 6, 2) := by decide +kernel
theorem dX7_reaches_58 : decode cX7_reaches 58 = .ok (.aload_n 0, 1) := by decide +kernel
theorem dX7_reaches_59 : decode cX7_reaches 59 = .ok (.getfield 116, 3) := by decide +kernel
theorem dX7_reaches_62 : decode cX7_reaches 62 = .ok (.if_icmp .ge 58, 3) := by decide +kernel
theorem dX7_reaches_65 : decode cX7_reaches 65 = .ok (.aload_n 0, 1) := by decide +kernel
theorem dX7_reaches_66 : decode cX7_reaches 66 = .ok (.getfield 62, 3) := by decide +kernel
theorem dX7_reaches_69 : decode cX7_reaches 69 = .ok (.aload_n 0, 1) := by decide +kernel
theorem dX7_reaches_70 : decode cX7_reaches 70 = .ok (.getfield 31, 3) := by decide +kernel
theorem dX7_reaches_73 : decode cX7_reaches 73 = .ok (.iload 6, 2) := by decide +kernel
theorem dX7_reaches_75 : decode cX7_reaches 75 = .ok (.iaload, 1) := by decide +kernel
theorem dX7_reaches_76 : decode cX7_reaches 76 = .ok (.baload, 1) := by decide +kernel
theorem dX7_reaches_77 : decode cX7_reaches 77 = .ok (.ifCond .eq 17, 3) := by decide +kernel
theorem dX7_reaches_80 : decode cX7_reaches 80 = .ok (.aload_n 0, 1) := by decide +kernel
theorem dX7_reaches_81 : decode cX7_reaches 81 = .ok (.iload 6, 2) := by decide +kernel
theorem dX7_reaches_83 : decode cX7_reaches 83 = .ok (.iload_n 3, 1) := by decide +kernel
theorem dX7_reaches_84 : decode cX7_reaches 84 = .ok (.invokevirtual 154, 3) := by decide +kernel
theorem dX7_reaches_87 : decode cX7_reaches 87 = .ok (.ifCond .eq 7, 3) := by decide +kernel
theorem dX7_reaches_90 : decode cX7_reaches 90 = .ok (.iconst 1, 1) := by decide +kernel
theorem dX7_reaches_91 : decode cX7_reaches 91 = .ok (.goto 4, 3) := by decide +kernel
theorem dX7_reaches_94 : decode cX7_reaches 94 = .ok (.iconst 0, 1) := by decide +kernel
theorem dX7_reaches_95 : decode cX7_reaches 95 = .ok (.istore 7, 2) := by decide +kernel
theorem dX7_reaches_97 : decode cX7_reaches 97 = .ok (.iload 4, 2) := by decide +kernel
theorem dX7_reaches_99 : decode cX7_reaches 99 = .ok (.ifCond .ne 8, 3) := by decide +kernel
theorem dX7_reaches_102 : decode cX7_reaches 102 = .ok (.iload 7, 2) := by decide +kernel
theorem dX7_reaches_104 : decode cX7_reaches 104 = .ok (.ifCond .eq 7, 3) := by decide +kernel
theorem dX7_reaches_107 : decode cX7_reaches 107 = .ok (.iconst 1, 1) := by decide +kernel
theorem dX7_reaches_108 : decode cX7_reaches 108 = .ok (.goto 4, 3) := by decide +kernel
theorem dX7_reaches_111 : decode cX7_reaches 111 = .ok (.iconst 0, 1) := by decide +kernel
theorem dX7_reaches_112 : decode cX7_reaches 112 = .ok (.istore 4, 2) := by decide +kernel
theorem dX7_reaches_114 : decode cX7_reaches 114 = .ok (.iinc 6 1, 3) := by decide +kernel
theorem dX7_reaches_117 : decode cX7_reaches 117 = .ok (.goto (-61), 3) := by decide +kernel
theorem dX7_reaches_120 : decode cX7_reaches 120 = .ok (.iinc 5 1, 3) := by decide +kernel
theorem dX7_reaches_123 : decode cX7_reaches 123 = .ok (.goto (-86), 3) := by decide +kernel
theorem dX7_reaches_126 : decode cX7_reaches 126 = .ok (.aload_n 0, 1) := by decide +kernel
theorem dX7_reaches_127 : decode cX7_reaches 127 = .ok (.getfield 62, 3) := by decide +kernel
theorem dX7_reaches_130 : decode cX7_reaches 130 = .ok (.iload_n 2, 1) := by decide +kernel
theorem dX7_reaches_131 : decode cX7_reaches 131 = .ok (.baload, 1) := by decide +kernel
theorem dX7_reaches_132 : decode cX7_reaches 132 = .ok (.ireturn, 1) := by decide +kernel
theorem dX7_subtype_0 : decode cX7_subtype 0 = .ok (.aload_n 0, 1) := by decide +kernel
theorem dX7_subtype_1 : decode cX7_subtype 1 = .ok (.iload_n 1, 1) := by decide +kernel
theorem dX7_subtype_2 : decode cX7_subtype 2 = .ok (.invokevirtual 147, 3) := by decide +kernel
theorem dX7_subtype_5 : decode cX7_subtype 5 = .ok (.ifCond .eq 25, 3) := by decide +kernel
theorem dX7_subtype_8 : decode cX7_subtype 8 = .ok (.aload_n 0, 1) := by decide +kernel
theorem dX7_subtype_9 : decode cX7_subtype 9 = .ok (.iload_n 2, 1) := by decide +kernel
theorem dX7_subtype_10 : decode cX7_subtype 10 = .ok (.invokevirtual 144, 3) := by decide +kernel
theorem dX7_subtype_13 : decode cX7_subtype 13 = .ok (.ifCond .eq 17, 3) := by decide +kernel
theorem dX7_subtype_16 : decode cX7_subtype 16 = .ok (.aload_n 0, 1) := by decide +kernel
theorem dX7_subtype_17 : decode cX7_subtype 17 = .ok (.iload_n 1, 1) := by decide +kernel
theorem dX7_subtype_18 : decode cX7_subtype 18 = .ok (.iload_n 2, 1) := by decide +kernel
theorem dX7_subtype_19 : decode cX7_subtype 19 = .ok (.iconst 0, 1) := by decide +kernel
theorem dX7_subtype_20 : decode cX7_subtype 20 = .ok (.invokevirtual 158, 3) := by decide +kernel
theorem dX7_subtype_23 : decode cX7_subtype 23 = .ok (.ifCond .eq 7, 3) := by decide +kernel
theorem dX7_subtype_26 : decode cX7_subtype 26 = .ok (.iconst 1, 1) := by decide +kernel
theorem dX7_subtype_27 : decode cX7_subtype 27 = .ok (.goto 4, 3) := by decide +kernel
theorem dX7_subtype_30 : decode cX7_subtype 30 = .ok (.iconst 0, 1) := by decide +kernel
theorem dX7_subtype_31 : decode cX7_subtype 31 = .ok (.ireturn, 1) := by decide +kernel
theorem dX7_subtypeAt_0 : decode cX7_subtypeAt 0 = .ok (.aload_n 0, 1) := by decide +kernel
theorem dX7_subtypeAt_1 : decode cX7_subtypeAt 1 = .ok (.iload_n 1, 1) := by decide +kernel
theorem dX7_subtypeAt_2 : decode cX7_subtypeAt 2 = .ok (.invokevirtual 144, 3) := by decide +kernel
theorem dX7_subtypeAt_5 : decode cX7_subtypeAt 5 = .ok (.ifCond .eq 7, 3) := by decide +kernel
theorem dX7_subtypeAt_8 : decode cX7_subtypeAt 8 = .ok (.iload_n 2, 1) := by decide +kernel
theorem dX7_subtypeAt_9 : decode cX7_subtypeAt 9 = .ok (.ifCond .ge 5, 3) := by decide +kernel
theorem dX7_subtypeAt_12 : decode cX7_subtypeAt 12 = .ok (.iconst (-1), 1) := by decide +kernel
theorem dX7_subtypeAt_13 : decode cX7_subtypeAt 13 = .ok (.ireturn, 1) := by decide +kernel
theorem dX7_subtypeAt_14 : decode cX7_subtypeAt 14 = .ok (.iconst 0, 1) := by decide +kernel
theorem dX7_subtypeAt_15 : decode cX7_subtypeAt 15 = .ok (.istore_n 3, 1) := by decide +kernel
theorem dX7_subtypeAt_16 : decode cX7_subtypeAt 16 = .ok (.iconst 0, 1) := by decide +kernel
theorem dX7_subtypeAt_17 : decode cX7_subtypeAt 17 = .ok (.istore 4, 2) := by decide +kernel
theorem dX7_subtypeAt_19 : decode cX7_subtypeAt 19 = .ok (.iload 4, 2) := by decide +kernel
theorem dX7_subtypeAt_21 : decode cX7_subtypeAt 21 = .ok (.aload_n 0, 1) := by decide +kernel
theorem dX7_subtypeAt_22 : decode cX7_subtypeAt 22 = .ok (.getfield 116, 3) := by decide +kernel
theorem dX7_subtypeAt_25 : decode cX7_subtypeAt 25 = .ok (.if_icmp .ge 31, 3) := by decide +kernel
theorem dX7_subtypeAt_28 : decode cX7_subtypeAt 28 = .ok (.aload_n 0, 1) := by decide +kernel
theorem dX7_subtypeAt_29 : decode cX7_subtypeAt 29 = .ok (.iload 4, 2) := by decide +kernel
theorem dX7_subtypeAt_31 : decode cX7_subtypeAt 31 = .ok (.iload_n 1, 1) := by decide +kernel
theorem dX7_subtypeAt_32 : decode cX7_subtypeAt 32 = .ok (.iconst 0, 1) := by decide +kernel
theorem dX7_subtypeAt_33 : decode cX7_subtypeAt 33 = .ok (.invokevirtual 158, 3) := by decide +kernel
theorem dX7_subtypeAt_36 : decode cX7_subtypeAt 36 = .ok (.ifCond .eq 14, 3) := by decide +kernel
theorem dX7_subtypeAt_39 : decode cX7_subtypeAt 39 = .ok (.iload_n 3, 1) := by decide +kernel
theorem dX7_subtypeAt_40 : decode cX7_subtypeAt 40 = .ok (.iload_n 2, 1) := by decide +kernel
theorem dX7_subtypeAt_41 : decode cX7_subtypeAt 41 = .ok (.if_icmp .ne 6, 3) := by decide +kernel
theorem dX7_subtypeAt_44 : decode cX7_subtypeAt 44 = .ok (.iload 4, 2) := by decide +kernel
theorem dX7_subtypeAt_46 : decode cX7_subtypeAt 46 = .ok (.ireturn, 1) := by decide +kernel
theorem dX7_subtypeAt_47 : decode cX7_subtypeAt 47 = .ok (.iinc 3 1, 3) := by decide +kernel
theorem dX7_subtypeAt_50 : decode cX7_subtypeAt 50 = .ok (.iinc 4 1, 3) := by decide +kernel
theorem dX7_subtypeAt_53 : decode cX7_subtypeAt 53 = .ok (.goto (-34), 3) := by decide +kernel
theorem dX7_subtypeAt_56 : decode cX7_subtypeAt 56 = .ok (.iconst (-1), 1) := by decide +kernel
theorem dX7_subtypeAt_57 : decode cX7_subtypeAt 57 = .ok (.ireturn, 1) := by decide +kernel
theorem dX7_meta_0 : decode cX7_meta 0 = .ok (.aload_n 0, 1) := by decide +kernel
theorem dX7_meta_1 : decode cX7_meta 1 = .ok (.iload_n 1, 1) := by decide +kernel
theorem dX7_meta_2 : decode cX7_meta 2 = .ok (.invokevirtual 147, 3) := by decide +kernel
theorem dX7_meta_5 : decode cX7_meta 5 = .ok (.ifCond .eq 25, 3) := by decide +kernel
theorem dX7_meta_8 : decode cX7_meta 8 = .ok (.aload_n 0, 1) := by decide +kernel
theorem dX7_meta_9 : decode cX7_meta 9 = .ok (.iload_n 2, 1) := by decide +kernel
theorem dX7_meta_10 : decode cX7_meta 10 = .ok (.invokevirtual 144, 3) := by decide +kernel
theorem dX7_meta_13 : decode cX7_meta 13 = .ok (.ifCond .eq 17, 3) := by decide +kernel
theorem dX7_meta_16 : decode cX7_meta 16 = .ok (.aload_n 0, 1) := by decide +kernel
theorem dX7_meta_17 : decode cX7_meta 17 = .ok (.iload_n 1, 1) := by decide +kernel
theorem dX7_meta_18 : decode cX7_meta 18 = .ok (.iload_n 2, 1) := by decide +kernel
theorem dX7_meta_19 : decode cX7_meta 19 = .ok (.iconst 1, 1) := by decide +kernel
theorem dX7_meta_20 : decode cX7_meta 20 = .ok (.invokevirtual 158, 3) := by decide +kernel
theorem dX7_meta_23 : decode cX7_meta 23 = .ok (.ifCond .eq 7, 3) := by decide +kernel
theorem dX7_meta_26 : decode cX7_meta 26 = .ok (.iconst 1, 1) := by decide +kernel
theorem dX7_meta_27 : decode cX7_meta 27 = .ok (.goto 4, 3) := by decide +kernel
theorem dX7_meta_30 : decode cX7_meta 30 = .ok (.iconst 0, 1) := by decide +kernel
theorem dX7_meta_31 : decode cX7_meta 31 = .ok (.ireturn, 1) := by decide +kernel
theorem dX7_inherited_0 : decode cX7_inherited 0 = .ok (.aload_n 0, 1) := by decide +kernel
theorem dX7_inherited_1 : decode cX7_inherited 1 = .ok (.iload_n 1, 1) := by decide +kernel
theorem dX7_inherited_2 : decode cX7_inherited 2 = .ok (.invokevirtual 162, 3) := by decide +kernel
theorem dX7_inherited_5 : decode cX7_inherited 5 = .ok (.istore_n 2, 1) := by decide +kernel
theorem dX7_inherited_6 : decode cX7_inherited 6 = .ok (.iload_n 2, 1) := by decide +kernel
theorem dX7_inherited_7 : decode cX7_inherited 7 = .ok (.ifCond .lt 18, 3) := by decide +kernel
theorem dX7_inherited_10 : decode cX7_inherited 10 = .ok (.aload_n 0, 1) := by decide +kernel
theorem dX7_inherited_11 : decode cX7_inherited 11 = .ok (.getfield 28, 3) := by decide +kernel
theorem dX7_inherited_14 : decode cX7_inherited 14 = .ok (.iload_n 2, 1) := by decide +kernel
theorem dX7_inherited_15 : decode cX7_inherited 15 = .ok (.iaload, 1) := by decide +kernel
theorem dX7_inherited_16 : decode cX7_inherited 16 = .ok (.iconst 2, 1) := by decide +kernel
theorem dX7_inherited_17 : decode cX7_inherited 17 = .ok (.iand, 1) := by decide +kernel
theorem dX7_inherited_18 : decode cX7_inherited 18 = .ok (.ifCond .eq 7, 3) := by decide +kernel
theorem dX7_inherited_21 : decode cX7_inherited 21 = .ok (.iconst 1, 1) := by decide +kernel
theorem dX7_inherited_22 : decode cX7_inherited 22 = .ok (.goto 4, 3) := by decide +kernel
theorem dX7_inherited_25 : decode cX7_inherited 25 = .ok (.iconst 0, 1) := by decide +kernel
theorem dX7_inherited_26 : decode cX7_inherited 26 = .ok (.ireturn, 1) := by decide +kernel
theorem dX7_firstNote_0 : decode cX7_firstNote 0 = .ok (.iconst 0, 1) := by decide +kernel
theorem dX7_firstNote_1 : decode cX7_firstNote 1 = .ok (.istore_n 3, 1) := by decide +kernel
theorem dX7_firstNote_2 : decode cX7_firstNote 2 = .ok (.iload_n 3, 1) := by decide +kernel
theorem dX7_firstNote_3 : decode cX7_firstNote 3 = .ok (.aload_n 0, 1) := by decide +kernel
theorem dX7_firstNote_4 : decode cX7_firstNote 4 = .ok (.getfield 46, 3) := by decide +kernel
theorem dX7_firstNote_7 : decode cX7_firstNote 7 = .ok (.iload_n 1, 1) := by decide +kernel
theorem dX7_firstNote_8 : decode cX7_firstNote 8 = .ok (.iaload, 1) := by decide +kernel
theorem dX7_firstNote_9 : decode cX7_firstNote 9 = .ok (.if_icmp .ge 21, 3) := by decide +kernel
theorem dX7_firstNote_12 : decode cX7_firstNote 12 = .ok (.aload_n 0, 1) := by decide +kernel
theorem dX7_firstNote_13 : decode cX7_firstNote 13 = .ok (.iload_n 1, 1) := by decide +kernel
theorem dX7_firstNote_14 : decode cX7_firstNote 14 = .ok (.iload_n 3, 1) := by decide +kernel
theorem dX7_firstNote_15 : decode cX7_firstNote 15 = .ok (.invokevirtual 150, 3) := by decide +kernel
theorem dX7_firstNote_18 : decode cX7_firstNote 18 = .ok (.iload_n 2, 1) := by decide +kernel
theorem dX7_firstNote_19 : decode cX7_firstNote 19 = .ok (.if_icmp .ne 5, 3) := by decide +kernel
theorem dX7_firstNote_22 : decode cX7_firstNote 22 = .ok (.iload_n 3, 1) := by decide +kernel
theorem dX7_firstNote_23 : decode cX7_firstNote 23 = .ok (.ireturn, 1) := by decide +kernel
theorem dX7_firstNote_24 : decode cX7_firstNote 24 = .ok (.iinc 3 1, 3) := by decide +kernel
theorem dX7_firstNote_27 : decode cX7_firstNote 27 = .ok (.goto (-25), 3) := by decide +kernel
theorem dX7_firstNote_30 : decode cX7_firstNote 30 = .ok (.iconst (-1), 1) := by decide +kernel
theorem dX7_firstNote_31 : decode cX7_firstNote 31 = .ok (.ireturn, 1) := by decide +kernel
theorem dX7_holder_0 : decode cX7_holder 0 = .ok (.aload_n 0, 1) := by decide +kernel
theorem dX7_holder_1 : decode cX7_holder 1 = .ok (.iload_n 1, 1) := by decide +kernel
theorem dX7_holder_2 : decode cX7_holder 2 = .ok (.invokevirtual 147, 3) := by decide +kernel
theorem dX7_holder_5 : decode cX7_holder 5 = .ok (.ifCond .eq 11, 3) := by decide +kernel
theorem dX7_holder_8 : decode cX7_holder 8 = .ok (.aload_n 0, 1) := by decide +kernel
theorem dX7_holder_9 : decode cX7_holder 9 = .ok (.iload_n 2, 1) := by decide +kernel
theorem dX7_holder_10 : decode cX7_holder 10 = .ok (.invokevirtual 144, 3) := by decide +kernel
theorem dX7_holder_13 : decode cX7_holder 13 = .ok (.ifCond .ne 5, 3) := by decide +kernel
theorem dX7_holder_16 : decode cX7_holder 16 = .ok (.iconst (-1), 1) := by decide +kernel
theorem dX7_holder_17 : decode cX7_holder 17 = .ok (.ireturn, 1) := by decide +kernel
theorem dX7_holder_18 : decode cX7_holder 18 = .ok (.aload_n 0, 1) := by decide +kernel
theorem dX7_holder_19 : decode cX7_holder 19 = .ok (.iload_n 2, 1) := by decide +kernel
theorem dX7_holder_20 : decode cX7_holder 20 = .ok (.invokevirtual 165, 3) := by decide +kernel
theorem dX7_holder_23 : decode cX7_holder 23 = .ok (.istore_n 3, 1) := by decide +kernel
theorem dX7_holder_24 : decode cX7_holder 24 = .ok (.iload_n 1, 1) := by decide +kernel
theorem dX7_holder_25 : decode cX7_holder 25 = .ok (.istore 4, 2) := by decide +kernel
theorem dX7_holder_27 : decode cX7_holder 27 = .ok (.iconst 0, 1) := by decide +kernel
theorem dX7_holder_28 : decode cX7_holder 28 = .ok (.istore 5, 2) := by decide +kernel
theorem dX7_holder_30 : decode cX7_holder 30 = .ok (.iload 5, 2) := by decide +kernel
theorem dX7_holder_32 : decode cX7_holder 32 = .ok (.bipush 16, 2) := by decide +kernel
theorem dX7_holder_34 : decode cX7_holder 34 = .ok (.if_icmp .gt 58, 3) := by decide +kernel
theorem dX7_holder_37 : decode cX7_holder 37 = .ok (.iload 4, 2) := by decide +kernel
theorem dX7_holder_39 : decode cX7_holder 39 = .ok (.ifCond .lt 53, 3) := by decide +kernel
theorem dX7_holder_42 : decode cX7_holder 42 = .ok (.aload_n 0, 1) := by decide +kernel
theorem dX7_holder_43 : decode cX7_holder 43 = .ok (.iload 4, 2) := by decide +kernel
theorem dX7_holder_45 : decode cX7_holder 45 = .ok (.iload_n 2, 1) := by decide +kernel
theorem dX7_holder_46 : decode cX7_holder 46 = .ok (.invokevirtual 168, 3) := by decide +kernel
theorem dX7_holder_49 : decode cX7_holder 49 = .ok (.ifCond .lt 6, 3) := by decide +kernel
theorem dX7_holder_52 : decode cX7_holder 52 = .ok (.iload 4, 2) := by decide +kernel
theorem dX7_holder_54 : decode cX7_holder 54 = .ok (.ireturn, 1) := by decide +kernel
theorem dX7_holder_55 : decode cX7_holder 55 = .ok (.iload_n 3, 1) := by decide +kernel
theorem dX7_holder_56 : decode cX7_holder 56 = .ok (.ifCond .eq 27, 3) := by decide +kernel
theorem dX7_holder_59 : decode cX7_holder 59 = .ok (.aload_n 0, 1) := by decide +kernel
theorem dX7_holder_60 : decode cX7_holder 60 = .ok (.getfield 34, 3) := by decide +kernel
theorem dX7_holder_63 : decode cX7_holder 63 = .ok (.iload 4, 2) := by decide +kernel
theorem dX7_holder_65 : decode cX7_holder 65 = .ok (.iaload, 1) := by decide +kernel
theorem dX7_holder_66 : decode cX7_holder 66 = .ok (.ifCond .lt 17, 3) := by decide +kernel
theorem dX7_holder_69 : decode cX7_holder 69 = .ok (.aload_n 0, 1) := by decide +kernel
theorem dX7_holder_70 : decode cX7_holder 70 = .ok (.aload_n 0, 1) := by decide +kernel
theorem dX7_holder_71 : decode cX7_holder 71 = .ok (.getfield 34, 3) := by decide +kernel
theorem dX7_holder_74 : decode cX7_holder 74 = .ok (.iload 4, 2) := by decide +kernel
theorem dX7_holder_76 : decode cX7_holder 76 = .ok (.iaload, 1) := by decide +kernel
theorem dX7_holder_77 : decode cX7_holder 77 = .ok (.invokevirtual 162, 3) := by decide +kernel
theorem dX7_holder_80 : decode cX7_holder 80 = .ok (.goto 4, 3) := by decide +kernel
theorem dX7_holder_83 : decode cX7_holder 83 = .ok (.iconst (-1), 1) := by decide +kernel
theorem dX7_holder_84 : decode cX7_holder 84 = .ok (.istore 4, 2) := by decide +kernel
theorem dX7_holder_86 : decode cX7_holder 86 = .ok (.iinc 5 1, 3) := by decide +kernel
theorem dX7_holder_89 : decode cX7_holder 89 = .ok (.goto (-59), 3) := by decide +kernel
theorem dX7_holder_92 : decode cX7_holder 92 = .ok (.iconst (-1), 1) := by decide +kernel
theorem dX7_holder_93 : decode cX7_holder 93 = .ok (.ireturn, 1) := by decide +kernel
theorem dX7_behind_0 : decode cX7_behind 0 = .ok (.iload_n 1, 1) := by decide +kernel
theorem dX7_behind_1 : decode cX7_behind 1 = .ok (.istore_n 2, 1) := by decide +kernel
theorem dX7_behind_2 : decode cX7_behind 2 = .ok (.iconst 1, 1) := by decide +kernel
theorem dX7_behind_3 : decode cX7_behind 3 = .ok (.istore_n 3, 1) := by decide +kernel
theorem dX7_behind_4 : decode cX7_behind 4 = .ok (.aload_n 0, 1) := by decide +kernel
theorem dX7_behind_5 : decode cX7_behind 5 = .ok (.getfield 55, 3) := by decide +kernel
theorem dX7_behind_8 : decode cX7_behind 8 = .ok (.iconst 1, 1) := by decide +kernel
theorem dX7_behind_9 : decode cX7_behind 9 = .ok (.iconst 1, 1) := by decide +kernel
theorem dX7_behind_10 : decode cX7_behind 10 = .ok (.iastore, 1) := by decide +kernel
theorem dX7_behind_11 : decode cX7_behind 11 = .ok (.aload_n 0, 1) := by decide +kernel
theorem dX7_behind_12 : decode cX7_behind 12 = .ok (.getfield 58, 3) := by decide +kernel
theorem dX7_behind_15 : decode cX7_behind 15 = .ok (.iconst 1, 1) := by decide +kernel
theorem dX7_behind_16 : decode cX7_behind 16 = .ok (.iconst 0, 1) := by decide +kernel
theorem dX7_behind_17 : decode cX7_behind 17 = .ok (.bastore, 1) := by decide +kernel
theorem dX7_behind_18 : decode cX7_behind 18 = .ok (.iload_n 3, 1) := by decide +kernel
theorem dX7_behind_19 : decode cX7_behind 19 = .ok (.ifCond .le 129, 3) := by decide +kernel
theorem dX7_behind_22 : decode cX7_behind 22 = .ok (.aload_n 0, 1) := by decide +kernel
theorem dX7_behind_23 : decode cX7_behind 23 = .ok (.getfield 55, 3) := by decide +kernel
theorem dX7_behind_26 : decode cX7_behind 26 = .ok (.iload_n 3, 1) := by decide +kernel
theorem dX7_behind_27 : decode cX7_behind 27 = .ok (.iaload, 1) := by decide +kernel
theorem dX7_behind_28 : decode cX7_behind 28 = .ok (.ifCond .ne 9, 3) := by decide +kernel
theorem dX7_behind_31 : decode cX7_behind 31 = .ok (.iinc 3 (-1), 3) := by decide +kernel
theorem dX7_behind_34 : decode cX7_behind 34 = .ok (.goto (-16), 3) := by decide +kernel
theorem dX7_behind_37 : decode cX7_behind 37 = .ok (.aload_n 0, 1) := by decide +kernel
theorem dX7_behind_38 : decode cX7_behind 38 = .ok (.getfield 55, 3) := by decide +kernel
theorem dX7_behind_41 : decode cX7_behind 41 = .ok (.iload_n 3, 1) := by decide +kernel
theorem dX7_behind_42 : decode cX7_behind 42 = .ok (.dup2, 1) := by decide +kernel
theorem dX7_behind_43 : decode cX7_behind 43 = .ok (.iaload, 1) := by decide +kernel
theorem dX7_behind_44 : decode cX7_behind 44 = .ok (.iconst 1, 1) := by decide +kernel
theorem dX7_behind_45 : decode cX7_behind 45 = .ok (.isub, 1) := by decide +kernel
theorem dX7_behind_46 : decode cX7_behind 46 = .ok (.iastore, 1) := by decide +kernel
theorem dX7_behind_47 : decode cX7_behind 47 = .ok (.aload_n 0, 1) := by decide +kernel
theorem dX7_behind_48 : decode cX7_behind 48 = .ok (.getfield 58, 3) := by decide +kernel
theorem dX7_behind_51 : decode cX7_behind 51 = .ok (.iload_n 3, 1) := by decide +kernel
theorem dX7_behind_52 : decode cX7_behind 52 = .ok (.baload, 1) := by decide +kernel
theorem dX7_behind_53 : decode cX7_behind 53 = .ok (.ifCond .eq 9, 3) := by decide +kernel
theorem dX7_behind_56 : decode cX7_behind 56 = .ok (.iload_n 2, 1) := by decide +kernel
theorem dX7_behind_57 : decode cX7_behind 57 = .ok (.iconst 1, 1) := by decide +kernel
theorem dX7_behind_58 : decode cX7_behind 58 = .ok (.iadd, 1) := by decide +kernel
theorem dX7_behind_59 : decode cX7_behind 59 = .ok (.goto 4, 3) := by decide +kernel
theorem dX7_behind_62 : decode cX7_behind 62 = .ok (.iload_n 2, 1) := by decide +kernel
theorem dX7_behind_63 : decode cX7_behind 63 = .ok (.istore_n 2, 1) := by decide +kernel
theorem dX7_behind_64 : decode cX7_behind 64 = .ok (.aload_n 0, 1) := by decide +kernel
theorem dX7_behind_65 : decode cX7_behind 65 = .ok (.getfield 13, 3) := by decide +kernel
theorem dX7_behind_68 : decode cX7_behind 68 = .ok (.iload_n 2, 1) := by decide +kernel
theorem dX7_behind_69 : decode cX7_behind 69 = .ok (.iaload, 1) := by decide +kernel
theorem dX7_behind_70 : decode cX7_behind 70 = .ok (.istore 4, 2) := by decide +kernel
theorem dX7_behind_72 : decode cX7_behind 72 = .ok (.iload 4, 2) := by decide +kernel
theorem dX7_behind_74 : decode cX7_behind 74 = .ok (.bipush 91, 2) := by decide +kernel
theorem dX7_behind_76 : decode cX7_behind 76 = .ok (.if_icmp .eq 10, 3) := by decide +kernel
theorem dX7_behind_79 : decode cX7_behind 79 = .ok (.iload 4, 2) := by decide +kernel
theorem dX7_behind_81 : decode cX7_behind 81 = .ok (.bipush 64, 2) := by decide +kernel
theorem dX7_behind_83 : decode cX7_behind 83 = .ok (.if_icmp .ne 59, 3) := by decide +kernel
theorem dX7_behind_86 : decode cX7_behind 86 = .ok (.iload 4, 2) := by decide +kernel
theorem dX7_behind_88 : decode cX7_behind 88 = .ok (.bipush 64, 2) := by decide +kernel
theorem dX7_behind_90 : decode cX7_behind 90 = .ok (.if_icmp .ne 9, 3) := by decide +kernel
theorem dX7_behind_93 : decode cX7_behind 93 = .ok (.iload_n 2, 1) := by decide +kernel
theorem dX7_behind_94 : decode cX7_behind 94 = .ok (.iconst 2, 1) := by decide +kernel
theorem dX7_behind_95 : decode cX7_behind 95 = .ok (.iadd, 1) := by decide +kernel
theorem dX7_behind_96 : decode cX7_behind 96 = .ok (.goto 6, 3) := by decide +kernel
theorem dX7_behind_99 : decode cX7_behind 99 = .ok (.iload_n 2, 1) := by decide +kernel
theorem dX7_behind_100 : decode cX7_behind 100 = .ok (.iconst 1, 1) := by decide +kernel
theorem dX7_behind_101 : decode cX7_behind 101 = .ok (.iadd, 1) := by decide +kernel
theorem dX7_behind_102 : decode cX7_behind 102 = .ok (.istore_n 2, 1) := by decide +kernel
theorem dX7_behind_103 : decode cX7_behind 103 = .ok (.iinc 3 1, 3) := by decide +kernel
theorem dX7_behind_106 : decode cX7_behind 106 = .ok (.aload_n 0, 1) := by decide +kernel
theorem dX7_behind_107 : decode cX7_behind 107 = .ok (.getfield 55, 3) := by decide +kernel
theorem dX7_behind_110 : decode cX7_behind 110 = .ok (.iload_n 3, 1) := by decide +kernel
theorem dX7_behind_111 : decode cX7_behind 111 = .ok (.aload_n 0, 1) := by decide +kernel
theorem dX7_behind_112 : decode cX7_behind 112 = .ok (.getfield 13, 3) := by decide +kernel
theorem dX7_behind_115 : decode cX7_behind 115 = .ok (.iload_n 2, 1) := by decide +kernel
theorem dX7_behind_116 : decode cX7_behind 116 = .ok (.iaload, 1) := by decide +kernel
theorem dX7_behind_117 : decode cX7_behind 117 = .ok (.iastore, 1) := by decide +kernel
theorem dX7_behind_118 : decode cX7_behind 118 = .ok (.aload_n 0, 1) := by decide +kernel
theorem dX7_behind_119 : decode cX7_behind 119 = .ok (.getfield 58, 3) := by decide +kernel
theorem dX7_behind_122 : decode cX7_behind 122 = .ok (.iload_n 3, 1) := by decide +kernel
theorem dX7_behind_123 : decode cX7_behind 123 = .ok (.iload 4, 2) := by decide +kernel
theorem dX7_behind_125 : decode cX7_behind 125 = .ok (.bipush 64, 2) := by decide +kernel
theorem dX7_behind_127 : decode cX7_behind 127 = .ok (.if_icmp .ne 7, 3) := by decide +kernel
theorem dX7_behind_130 : decode cX7_behind 130 = .ok (.iconst 1, 1) := by decide +kernel
theorem dX7_behind_131 : decode cX7_behind 131 = .ok (.goto 4, 3) := by decide +kernel
theorem dX7_behind_134 : decode cX7_behind 134 = .ok (.iconst 0, 1) := by decide +kernel
theorem dX7_behind_135 : decode cX7_behind 135 = .ok (.bastore, 1) := by decide +kernel
theorem dX7_behind_136 : decode cX7_behind 136 = .ok (.iinc 2 1, 3) := by decide +kernel
theorem dX7_behind_139 : decode cX7_behind 139 = .ok (.goto 6, 3) := by decide +kernel
theorem dX7_behind_142 : decode cX7_behind 142 = .ok (.iinc 2 2, 3) := by decide +kernel
theorem dX7_behind_145 : decode cX7_behind 145 = .ok (.goto (-127), 3) := by decide +kernel
theorem dX7_behind_148 : decode cX7_behind 148 = .ok (.iload_n 2, 1) := by decide +kernel
theorem dX7_behind_149 : decode cX7_behind 149 = .ok (.ireturn, 1) := by decide +kernel
theorem dX7_inRow_0 : decode cX7_inRow 0 = .ok (.aload_n 0, 1) := by decide +kernel
theorem dX7_inRow_1 : decode cX7_inRow 1 = .ok (.getfield 49, 3) := by decide +kernel
theorem dX7_inRow_4 : decode cX7_inRow 4 = .ok (.iconst 4, 1) := by decide +kernel
theorem dX7_inRow_5 : decode cX7_inRow 5 = .ok (.iload_n 1, 1) := by decide +kernel
theorem dX7_inRow_6 : decode cX7_inRow 6 = .ok (.imul, 1) := by decide +kernel
theorem dX7_inRow_7 : decode cX7_inRow 7 = .ok (.iload_n 2, 1) := by decide +kernel
theorem dX7_inRow_8 : decode cX7_inRow 8 = .ok (.iadd, 1) := by decide +kernel
theorem dX7_inRow_9 : decode cX7_inRow 9 = .ok (.iaload, 1) := by decide +kernel
theorem dX7_inRow_10 : decode cX7_inRow 10 = .ok (.istore 4, 2) := by decide +kernel
theorem dX7_inRow_12 : decode cX7_inRow 12 = .ok (.aload_n 0, 1) := by decide +kernel
theorem dX7_inRow_13 : decode cX7_inRow 13 = .ok (.getfield 13, 3) := by decide +kernel
theorem dX7_inRow_16 : decode cX7_inRow 16 = .ok (.iload 4, 2) := by decide +kernel
theorem dX7_inRow_18 : decode cX7_inRow 18 = .ok (.iconst 1, 1) := by decide +kernel
theorem dX7_inRow_19 : decode cX7_inRow 19 = .ok (.iadd, 1) := by decide +kernel
theorem dX7_inRow_20 : decode cX7_inRow 20 = .ok (.iaload, 1) := by decide +kernel
theorem dX7_inRow_21 : decode cX7_inRow 21 = .ok (.ifCond .eq 17, 3) := by decide +kernel
theorem dX7_inRow_24 : decode cX7_inRow 24 = .ok (.aload_n 0, 1) := by decide +kernel
theorem dX7_inRow_25 : decode cX7_inRow 25 = .ok (.getfield 13, 3) := by decide +kernel
theorem dX7_inRow_28 : decode cX7_inRow 28 = .ok (.iload 4, 2) := by decide +kernel
theorem dX7_inRow_30 : decode cX7_inRow 30 = .ok (.iconst 3, 1) := by decide +kernel
theorem dX7_inRow_31 : decode cX7_inRow 31 = .ok (.iadd, 1) := by decide +kernel
theorem dX7_inRow_32 : decode cX7_inRow 32 = .ok (.iaload, 1) := by decide +kernel
theorem dX7_inRow_33 : decode cX7_inRow 33 = .ok (.bipush 91, 2) := by decide +kernel
theorem dX7_inRow_35 : decode cX7_inRow 35 = .ok (.if_icmp .eq 5, 3) := by decide +kernel
theorem dX7_inRow_38 : decode cX7_inRow 38 = .ok (.iconst 0, 1) := by decide +kernel
theorem dX7_inRow_39 : decode cX7_inRow 39 = .ok (.ireturn, 1) := by decide +kernel
theorem dX7_inRow_40 : decode cX7_inRow 40 = .ok (.iconst 0, 1) := by decide +kernel
theorem dX7_inRow_41 : decode cX7_inRow 41 = .ok (.istore 5, 2) := by decide +kernel
theorem dX7_inRow_43 : decode cX7_inRow 43 = .ok (.iload 4, 2) := by decide +kernel
theorem dX7_inRow_45 : decode cX7_inRow 45 = .ok (.iconst 5, 1) := by decide +kernel
theorem dX7_inRow_46 : decode cX7_inRow 46 = .ok (.iadd, 1) := by decide +kernel
theorem dX7_inRow_47 : decode cX7_inRow 47 = .ok (.istore 6, 2) := by decide +kernel
theorem dX7_inRow_49 : decode cX7_inRow 49 = .ok (.iconst 0, 1) := by decide +kernel
theorem dX7_inRow_50 : decode cX7_inRow 50 = .ok (.istore 7, 2) := by decide +kernel
theorem dX7_inRow_52 : decode cX7_inRow 52 = .ok (.iload 7, 2) := by decide +kernel
theorem dX7_inRow_54 : decode cX7_inRow 54 = .ok (.aload_n 0, 1) := by decide +kernel
theorem dX7_inRow_55 : decode cX7_inRow 55 = .ok (.getfield 13, 3) := by decide +kernel
theorem dX7_inRow_58 : decode cX7_inRow 58 = .ok (.iload 4, 2) := by decide +kernel
theorem dX7_inRow_60 : decode cX7_inRow 60 = .ok (.iconst 4, 1) := by decide +kernel
theorem dX7_inRow_61 : decode cX7_inRow 61 = .ok (.iadd, 1) := by decide +kernel
theorem dX7_inRow_62 : decode cX7_inRow 62 = .ok (.iaload, 1) := by decide +kernel
theorem dX7_inRow_63 : decode cX7_inRow 63 = .ok (.if_icmp .ge 55, 3) := by decide +kernel
theorem dX7_inRow_66 : decode cX7_inRow 66 = .ok (.aload_n 0, 1) := by decide +kernel
theorem dX7_inRow_67 : decode cX7_inRow 67 = .ok (.getfield 13, 3) := by decide +kernel
theorem dX7_inRow_70 : decode cX7_inRow 70 = .ok (.iload 6, 2) := by decide +kernel
theorem dX7_inRow_72 : decode cX7_inRow 72 = .ok (.iaload, 1) := by decide +kernel
theorem dX7_inRow_73 : decode cX7_inRow 73 = .ok (.bipush 64, 2) := by decide +kernel
theorem dX7_inRow_75 : decode cX7_inRow 75 = .ok (.if_icmp .ne 29, 3) := by decide +kernel
theorem dX7_inRow_78 : decode cX7_inRow 78 = .ok (.aload_n 0, 1) := by decide +kernel
theorem dX7_inRow_79 : decode cX7_inRow 79 = .ok (.getfield 25, 3) := by decide +kernel
theorem dX7_inRow_82 : decode cX7_inRow 82 = .ok (.bipush 13, 2) := by decide +kernel
theorem dX7_inRow_84 : decode cX7_inRow 84 = .ok (.iload_n 1, 1) := by decide +kernel
theorem dX7_inRow_85 : decode cX7_inRow 85 = .ok (.imul, 1) := by decide +kernel
theorem dX7_inRow_86 : decode cX7_inRow 86 = .ok (.aload_n 0, 1) := by decide +kernel
theorem dX7_inRow_87 : decode cX7_inRow 87 = .ok (.getfield 13, 3) := by decide +kernel
theorem dX7_inRow_90 : decode cX7_inRow 90 = .ok (.iload 6, 2) := by decide +kernel
theorem dX7_inRow_92 : decode cX7_inRow 92 = .ok (.iconst 1, 1) := by decide +kernel
theorem dX7_inRow_93 : decode cX7_inRow 93 = .ok (.iadd, 1) := by decide +kernel
theorem dX7_inRow_94 : decode cX7_inRow 94 = .ok (.iaload, 1) := by decide +kernel
theorem dX7_inRow_95 : decode cX7_inRow 95 = .ok (.iadd, 1) := by decide +kernel
theorem dX7_inRow_96 : decode cX7_inRow 96 = .ok (.iaload, 1) := by decide +kernel
theorem dX7_inRow_97 : decode cX7_inRow 97 = .ok (.iload_n 3, 1) := by decide +kernel
theorem dX7_inRow_98 : decode cX7_inRow 98 = .ok (.if_icmp .ne 6, 3) := by decide +kernel
theorem dX7_inRow_101 : decode cX7_inRow 101 = .ok (.iinc 5 1, 3) := by decide +kernel
theorem dX7_inRow_104 : decode cX7_inRow 104 = .ok (.aload_n 0, 1) := by decide +kernel
theorem dX7_inRow_105 : decode cX7_inRow 105 = .ok (.iload 6, 2) := by decide +kernel
theorem dX7_inRow_107 : decode cX7_inRow 107 = .ok (.invokevirtual 171, 3) := by decide +kernel
theorem dX7_inRow_110 : decode cX7_inRow 110 = .ok (.istore 6, 2) := by decide +kernel
theorem dX7_inRow_112 : decode cX7_inRow 112 = .ok (.iinc 7 1, 3) := by decide +kernel
theorem dX7_inRow_115 : decode cX7_inRow 115 = .ok (.goto (-63), 3) := by decide +kernel
theorem dX7_inRow_118 : decode cX7_inRow 118 = .ok (.iload 5, 2) := by decide +kernel
theorem dX7_inRow_120 : decode cX7_inRow 120 = .ok (.ireturn, 1) := by decide +kernel
theorem dX7_countAt_0 : decode cX7_countAt 0 = .ok (.aload_n 0, 1) := by decide +kernel
theorem dX7_countAt_1 : decode cX7_countAt 1 = .ok (.iload_n 2, 1) := by decide +kernel
theorem dX7_countAt_2 : decode cX7_countAt 2 = .ok (.invokevirtual 162, 3) := by decide +kernel
theorem dX7_countAt_5 : decode cX7_countAt 5 = .ok (.istore_n 3, 1) := by decide +kernel
theorem dX7_countAt_6 : decode cX7_countAt 6 = .ok (.iconst 0, 1) := by decide +kernel
theorem dX7_countAt_7 : decode cX7_countAt 7 = .ok (.istore 4, 2) := by decide +kernel
theorem dX7_countAt_9 : decode cX7_countAt 9 = .ok (.iconst 0, 1) := by decide +kernel
theorem dX7_countAt_10 : decode cX7_countAt 10 = .ok (.istore 5, 2) := by decide +kernel
theorem dX7_countAt_12 : decode cX7_countAt 12 = .ok (.iload 5, 2) := by decide +kernel
theorem dX7_countAt_14 : decode cX7_countAt 14 = .ok (.aload_n 0, 1) := by decide +kernel
theorem dX7_countAt_15 : decode cX7_countAt 15 = .ok (.getfield 46, 3) := by decide +kernel
theorem dX7_countAt_18 : decode cX7_countAt 18 = .ok (.iload_n 1, 1) := by decide +kernel
theorem dX7_countAt_19 : decode cX7_countAt 19 = .ok (.iaload, 1) := by decide +kernel
theorem dX7_countAt_20 : decode cX7_countAt 20 = .ok (.if_icmp .ge 55, 3) := by decide +kernel
theorem dX7_countAt_23 : decode cX7_countAt 23 = .ok (.aload_n 0, 1) := by decide +kernel
theorem dX7_countAt_24 : decode cX7_countAt 24 = .ok (.iload_n 1, 1) := by decide +kernel
theorem dX7_countAt_25 : decode cX7_countAt 25 = .ok (.iload 5, 2) := by decide +kernel
theorem dX7_countAt_27 : decode cX7_countAt 27 = .ok (.invokevirtual 150, 3) := by decide +kernel
theorem dX7_countAt_30 : decode cX7_countAt 30 = .ok (.istore 6, 2) := by decide +kernel
theorem dX7_countAt_32 : decode cX7_countAt 32 = .ok (.iload 6, 2) := by decide +kernel
theorem dX7_countAt_34 : decode cX7_countAt 34 = .ok (.iload_n 2, 1) := by decide +kernel
theorem dX7_countAt_35 : decode cX7_countAt 35 = .ok (.if_icmp .ne 6, 3) := by decide +kernel
theorem dX7_countAt_38 : decode cX7_countAt 38 = .ok (.iinc 4 1, 3) := by decide +kernel
theorem dX7_countAt_41 : decode cX7_countAt 41 = .ok (.iload_n 3, 1) := by decide +kernel
theorem dX7_countAt_42 : decode cX7_countAt 42 = .ok (.ifCond .lt 27, 3) := by decide +kernel
theorem dX7_countAt_45 : decode cX7_countAt 45 = .ok (.aload_n 0, 1) := by decide +kernel
theorem dX7_countAt_46 : decode cX7_countAt 46 = .ok (.getfield 37, 3) := by decide +kernel
theorem dX7_countAt_49 : decode cX7_countAt 49 = .ok (.iload_n 3, 1) := by decide +kernel
theorem dX7_countAt_50 : decode cX7_countAt 50 = .ok (.iaload, 1) := by decide +kernel
theorem dX7_countAt_51 : decode cX7_countAt 51 = .ok (.iload 6, 2) := by decide +kernel
theorem dX7_countAt_53 : decode cX7_countAt 53 = .ok (.if_icmp .ne 16, 3) := by decide +kernel
theorem dX7_countAt_56 : decode cX7_countAt 56 = .ok (.iload 4, 2) := by decide +kernel
theorem dX7_countAt_58 : decode cX7_countAt 58 = .ok (.aload_n 0, 1) := by decide +kernel
theorem dX7_countAt_59 : decode cX7_countAt 59 = .ok (.iload_n 1, 1) := by decide +kernel
theorem dX7_countAt_60 : decode cX7_countAt 60 = .ok (.iload 5, 2) := by decide +kernel
theorem dX7_countAt_62 : decode cX7_countAt 62 = .ok (.iload_n 2, 1) := by decide +kernel
theorem dX7_countAt_63 : decode cX7_countAt 63 = .ok (.invokevirtual 174, 3) := by decide +kernel
theorem dX7_countAt_66 : decode cX7_countAt 66 = .ok (.iadd, 1) := by decide +kernel
theorem dX7_countAt_67 : decode cX7_countAt 67 = .ok (.istore 4, 2) := by decide +kernel
theorem dX7_countAt_69 : decode cX7_countAt 69 = .ok (.iinc 5 1, 3) := by decide +kernel
theorem dX7_countAt_72 : decode cX7_countAt 72 = .ok (.goto (-60), 3) := by decide +kernel
theorem dX7_countAt_75 : decode cX7_countAt 75 = .ok (.iload 4, 2) := by decide +kernel
theorem dX7_countAt_77 : decode cX7_countAt 77 = .ok (.ireturn, 1) := by decide +kernel
end
section
theorem dX7_count_0 : decode cX7_count 0 = .ok (.aload_n 0, 1) := by decide +kernel
theorem dX7_count_1 : decode cX7_count 1 = .ok (.iload_n 1, 1) := by decide +kernel
theorem dX7_count_2 : decode cX7_count 2 = .ok (.invokevirtual 147, 3) := by decide +kernel
theorem dX7_count_5 : decode cX7_count 5 = .ok (.ifCond .eq 11, 3) := by decide +kernel
theorem dX7_count_8 : decode cX7_count 8 = .ok (.aload_n 0, 1) := by decide +kernel
theorem dX7_count_9 : decode cX7_count 9 = .ok (.iload_n 2, 1) := by decide +kernel
theorem dX7_count_10 : decode cX7_count 10 = .ok (.invokevirtual 144, 3) := by decide +kernel
theorem dX7_count_13 : decode cX7_count 13 = .ok (.ifCond .ne 5, 3) := by decide +kernel
theorem dX7_count_16 : decode cX7_count 16 = .ok (.iconst 0, 1) := by decide +kernel
theorem dX7_count_17 : decode cX7_count 17 = .ok (.ireturn, 1) := by decide +kernel
theorem dX7_count_18 : decode cX7_count 18 = .ok (.aload_n 0, 1) := by decide +kernel
theorem dX7_count_19 : decode cX7_count 19 = .ok (.iload_n 2, 1) := by decide +kernel
theorem dX7_count_20 : decode cX7_count 20 = .ok (.invokevirtual 165, 3) := by decide +kernel
theorem dX7_count_23 : decode cX7_count 23 = .ok (.istore_n 3, 1) := by decide +kernel
theorem dX7_count_24 : decode cX7_count 24 = .ok (.iload_n 1, 1) := by decide +kernel
theorem dX7_count_25 : decode cX7_count 25 = .ok (.istore 4, 2) := by decide +kernel
theorem dX7_count_27 : decode cX7_count 27 = .ok (.iconst 0, 1) := by decide +kernel
theorem dX7_count_28 : decode cX7_count 28 = .ok (.istore 5, 2) := by decide +kernel
theorem dX7_count_30 : decode cX7_count 30 = .ok (.iconst 0, 1) := by decide +kernel
theorem dX7_count_31 : decode cX7_count 31 = .ok (.istore 6, 2) := by decide +kernel
theorem dX7_count_33 : decode cX7_count 33 = .ok (.iload 6, 2) := by decide +kernel
theorem dX7_count_35 : decode cX7_count 35 = .ok (.bipush 16, 2) := by decide +kernel
theorem dX7_count_37 : decode cX7_count 37 = .ok (.if_icmp .gt 59, 3) := by decide +kernel
theorem dX7_count_40 : decode cX7_count 40 = .ok (.iload 4, 2) := by decide +kernel
theorem dX7_count_42 : decode cX7_count 42 = .ok (.ifCond .lt 54, 3) := by decide +kernel
theorem dX7_count_45 : decode cX7_count 45 = .ok (.iload 5, 2) := by decide +kernel
theorem dX7_count_47 : decode cX7_count 47 = .ok (.ifCond .ne 49, 3) := by decide +kernel
theorem dX7_count_50 : decode cX7_count 50 = .ok (.aload_n 0, 1) := by decide +kernel
theorem dX7_count_51 : decode cX7_count 51 = .ok (.iload 4, 2) := by decide +kernel
theorem dX7_count_53 : decode cX7_count 53 = .ok (.iload_n 2, 1) := by decide +kernel
theorem dX7_count_54 : decode cX7_count 54 = .ok (.invokevirtual 178, 3) := by decide +kernel
theorem dX7_count_57 : decode cX7_count 57 = .ok (.istore 5, 2) := by decide +kernel
theorem dX7_count_59 : decode cX7_count 59 = .ok (.iload_n 3, 1) := by decide +kernel
theorem dX7_count_60 : decode cX7_count 60 = .ok (.ifCond .eq 27, 3) := by decide +kernel
theorem dX7_count_63 : decode cX7_count 63 = .ok (.aload_n 0, 1) := by decide +kernel
theorem dX7_count_64 : decode cX7_count 64 = .ok (.getfield 34, 3) := by decide +kernel
theorem dX7_count_67 : decode cX7_count 67 = .ok (.iload 4, 2) := by decide +kernel
theorem dX7_count_69 : decode cX7_count 69 = .ok (.iaload, 1) := by decide +kernel
theorem dX7_count_70 : decode cX7_count 70 = .ok (.ifCond .lt 17, 3) := by decide +kernel
theorem dX7_count_73 : decode cX7_count 73 = .ok (.aload_n 0, 1) := by decide +kernel
theorem dX7_count_74 : decode cX7_count 74 = .ok (.aload_n 0, 1) := by decide +kernel
theorem dX7_count_75 : decode cX7_count 75 = .ok (.getfield 34, 3) := by decide +kernel
theorem dX7_count_78 : decode cX7_count 78 = .ok (.iload 4, 2) := by decide +kernel
theorem dX7_count_80 : decode cX7_count 80 = .ok (.iaload, 1) := by decide +kernel
theorem dX7_count_81 : decode cX7_count 81 = .ok (.invokevirtual 162, 3) := by decide +kernel
theorem dX7_count_84 : decode cX7_count 84 = .ok (.goto 4, 3) := by decide +kernel
theorem dX7_count_87 : decode cX7_count 87 = .ok (.iconst (-1), 1) := by decide +kernel
theorem dX7_count_88 : decode cX7_count 88 = .ok (.istore 4, 2) := by decide +kernel
theorem dX7_count_90 : decode cX7_count 90 = .ok (.iinc 6 1, 3) := by decide +kernel
theorem dX7_count_93 : decode cX7_count 93 = .ok (.goto (-60), 3) := by decide +kernel
theorem dX7_count_96 : decode cX7_count 96 = .ok (.iload 5, 2) := by decide +kernel
theorem dX7_count_98 : decode cX7_count 98 = .ok (.ireturn, 1) := by decide +kernel
theorem dX7_lookUp_0 : decode cX7_lookUp 0 = .ok (.iload_n 2, 1) := by decide +kernel
theorem dX7_lookUp_1 : decode cX7_lookUp 1 = .ok (.iconst 1, 1) := by decide +kernel
theorem dX7_lookUp_2 : decode cX7_lookUp 2 = .ok (.iadd, 1) := by decide +kernel
theorem dX7_lookUp_3 : decode cX7_lookUp 3 = .ok (.istore 4, 2) := by decide +kernel
theorem dX7_lookUp_5 : decode cX7_lookUp 5 = .ok (.iconst 0, 1) := by decide +kernel
theorem dX7_lookUp_6 : decode cX7_lookUp 6 = .ok (.istore 5, 2) := by decide +kernel
theorem dX7_lookUp_8 : decode cX7_lookUp 8 = .ok (.iload 5, 2) := by decide +kernel
theorem dX7_lookUp_10 : decode cX7_lookUp 10 = .ok (.aload_n 0, 1) := by decide +kernel
theorem dX7_lookUp_11 : decode cX7_lookUp 11 = .ok (.getfield 13, 3) := by decide +kernel
theorem dX7_lookUp_14 : decode cX7_lookUp 14 = .ok (.iload_n 2, 1) := by decide +kernel
theorem dX7_lookUp_15 : decode cX7_lookUp 15 = .ok (.iaload, 1) := by decide +kernel
theorem dX7_lookUp_16 : decode cX7_lookUp 16 = .ok (.if_icmp .ge 45, 3) := by decide +kernel
theorem dX7_lookUp_19 : decode cX7_lookUp 19 = .ok (.aload_n 0, 1) := by decide +kernel
theorem dX7_lookUp_20 : decode cX7_lookUp 20 = .ok (.getfield 25, 3) := by decide +kernel
theorem dX7_lookUp_23 : decode cX7_lookUp 23 = .ok (.bipush 13, 2) := by decide +kernel
theorem dX7_lookUp_25 : decode cX7_lookUp 25 = .ok (.iload_n 1, 1) := by decide +kernel
theorem dX7_lookUp_26 : decode cX7_lookUp 26 = .ok (.imul, 1) := by decide +kernel
theorem dX7_lookUp_27 : decode cX7_lookUp 27 = .ok (.aload_n 0, 1) := by decide +kernel
theorem dX7_lookUp_28 : decode cX7_lookUp 28 = .ok (.getfield 13, 3) := by decide +kernel
theorem dX7_lookUp_31 : decode cX7_lookUp 31 = .ok (.iload 4, 2) := by decide +kernel
theorem dX7_lookUp_33 : decode cX7_lookUp 33 = .ok (.iaload, 1) := by decide +kernel
theorem dX7_lookUp_34 : decode cX7_lookUp 34 = .ok (.iadd, 1) := by decide +kernel
theorem dX7_lookUp_35 : decode cX7_lookUp 35 = .ok (.iaload, 1) := by decide +kernel
theorem dX7_lookUp_36 : decode cX7_lookUp 36 = .ok (.iload_n 3, 1) := by decide +kernel
theorem dX7_lookUp_37 : decode cX7_lookUp 37 = .ok (.if_icmp .ne 8, 3) := by decide +kernel
theorem dX7_lookUp_40 : decode cX7_lookUp 40 = .ok (.iload 4, 2) := by decide +kernel
theorem dX7_lookUp_42 : decode cX7_lookUp 42 = .ok (.iconst 1, 1) := by decide +kernel
theorem dX7_lookUp_43 : decode cX7_lookUp 43 = .ok (.iadd, 1) := by decide +kernel
theorem dX7_lookUp_44 : decode cX7_lookUp 44 = .ok (.ireturn, 1) := by decide +kernel
theorem dX7_lookUp_45 : decode cX7_lookUp 45 = .ok (.aload_n 0, 1) := by decide +kernel
theorem dX7_lookUp_46 : decode cX7_lookUp 46 = .ok (.iload 4, 2) := by decide +kernel
theorem dX7_lookUp_48 : decode cX7_lookUp 48 = .ok (.iconst 1, 1) := by decide +kernel
theorem dX7_lookUp_49 : decode cX7_lookUp 49 = .ok (.iadd, 1) := by decide +kernel
theorem dX7_lookUp_50 : decode cX7_lookUp 50 = .ok (.invokevirtual 171, 3) := by decide +kernel
theorem dX7_lookUp_53 : decode cX7_lookUp 53 = .ok (.istore 4, 2) := by decide +kernel
theorem dX7_lookUp_55 : decode cX7_lookUp 55 = .ok (.iinc 5 1, 3) := by decide +kernel
theorem dX7_lookUp_58 : decode cX7_lookUp 58 = .ok (.goto (-50), 3) := by decide +kernel
theorem dX7_lookUp_61 : decode cX7_lookUp 61 = .ok (.iconst (-1), 1) := by decide +kernel
theorem dX7_lookUp_62 : decode cX7_lookUp 62 = .ok (.ireturn, 1) := by decide +kernel
theorem dX7_inside_0 : decode cX7_inside 0 = .ok (.aload_n 0, 1) := by decide +kernel
theorem dX7_inside_1 : decode cX7_inside 1 = .ok (.getfield 13, 3) := by decide +kernel
theorem dX7_inside_4 : decode cX7_inside 4 = .ok (.iload_n 1, 1) := by decide +kernel
theorem dX7_inside_5 : decode cX7_inside 5 = .ok (.iaload, 1) := by decide +kernel
theorem dX7_inside_6 : decode cX7_inside 6 = .ok (.istore_n 3, 1) := by decide +kernel
theorem dX7_inside_7 : decode cX7_inside 7 = .ok (.iload_n 3, 1) := by decide +kernel
theorem dX7_inside_8 : decode cX7_inside 8 = .ok (.bipush 91, 2) := by decide +kernel
theorem dX7_inside_10 : decode cX7_inside 10 = .ok (.if_icmp .eq 11, 3) := by decide +kernel
theorem dX7_inside_13 : decode cX7_inside 13 = .ok (.iload_n 3, 1) := by decide +kernel
theorem dX7_inside_14 : decode cX7_inside 14 = .ok (.bipush 64, 2) := by decide +kernel
theorem dX7_inside_16 : decode cX7_inside 16 = .ok (.if_icmp .eq 5, 3) := by decide +kernel
theorem dX7_inside_19 : decode cX7_inside 19 = .ok (.iconst (-1), 1) := by decide +kernel
theorem dX7_inside_20 : decode cX7_inside 20 = .ok (.ireturn, 1) := by decide +kernel
theorem dX7_inside_21 : decode cX7_inside 21 = .ok (.iload_n 3, 1) := by decide +kernel
theorem dX7_inside_22 : decode cX7_inside 22 = .ok (.bipush 64, 2) := by decide +kernel
theorem dX7_inside_24 : decode cX7_inside 24 = .ok (.if_icmp .ne 9, 3) := by decide +kernel
theorem dX7_inside_27 : decode cX7_inside 27 = .ok (.iload_n 1, 1) := by decide +kernel
theorem dX7_inside_28 : decode cX7_inside 28 = .ok (.iconst 2, 1) := by decide +kernel
theorem dX7_inside_29 : decode cX7_inside 29 = .ok (.iadd, 1) := by decide +kernel
theorem dX7_inside_30 : decode cX7_inside 30 = .ok (.goto 6, 3) := by decide +kernel
theorem dX7_inside_33 : decode cX7_inside 33 = .ok (.iload_n 1, 1) := by decide +kernel
theorem dX7_inside_34 : decode cX7_inside 34 = .ok (.iconst 1, 1) := by decide +kernel
theorem dX7_inside_35 : decode cX7_inside 35 = .ok (.iadd, 1) := by decide +kernel
theorem dX7_inside_36 : decode cX7_inside 36 = .ok (.istore 4, 2) := by decide +kernel
theorem dX7_inside_38 : decode cX7_inside 38 = .ok (.iload_n 2, 1) := by decide +kernel
theorem dX7_inside_39 : decode cX7_inside 39 = .ok (.iconst 1, 1) := by decide +kernel
theorem dX7_inside_40 : decode cX7_inside 40 = .ok (.if_icmp .lt 14, 3) := by decide +kernel
theorem dX7_inside_43 : decode cX7_inside 43 = .ok (.iload_n 2, 1) := by decide +kernel
theorem dX7_inside_44 : decode cX7_inside 44 = .ok (.aload_n 0, 1) := by decide +kernel
theorem dX7_inside_45 : decode cX7_inside 45 = .ok (.getfield 13, 3) := by decide +kernel
theorem dX7_inside_48 : decode cX7_inside 48 = .ok (.iload 4, 2) := by decide +kernel
theorem dX7_inside_50 : decode cX7_inside 50 = .ok (.iaload, 1) := by decide +kernel
theorem dX7_inside_51 : decode cX7_inside 51 = .ok (.if_icmp .le 5, 3) := by decide +kernel
theorem dX7_inside_54 : decode cX7_inside 54 = .ok (.iconst (-1), 1) := by decide +kernel
theorem dX7_inside_55 : decode cX7_inside 55 = .ok (.ireturn, 1) := by decide +kernel
theorem dX7_inside_56 : decode cX7_inside 56 = .ok (.iload_n 3, 1) := by decide +kernel
theorem dX7_inside_57 : decode cX7_inside 57 = .ok (.bipush 64, 2) := by decide +kernel
theorem dX7_inside_59 : decode cX7_inside 59 = .ok (.if_icmp .ne 10, 3) := by decide +kernel
theorem dX7_inside_62 : decode cX7_inside 62 = .ok (.iload 4, 2) := by decide +kernel
theorem dX7_inside_64 : decode cX7_inside 64 = .ok (.iconst 2, 1) := by decide +kernel
theorem dX7_inside_65 : decode cX7_inside 65 = .ok (.iadd, 1) := by decide +kernel
theorem dX7_inside_66 : decode cX7_inside 66 = .ok (.goto 7, 3) := by decide +kernel
theorem dX7_inside_69 : decode cX7_inside 69 = .ok (.iload 4, 2) := by decide +kernel
theorem dX7_inside_71 : decode cX7_inside 71 = .ok (.iconst 1, 1) := by decide +kernel
theorem dX7_inside_72 : decode cX7_inside 72 = .ok (.iadd, 1) := by decide +kernel
theorem dX7_inside_73 : decode cX7_inside 73 = .ok (.istore 4, 2) := by decide +kernel
theorem dX7_inside_75 : decode cX7_inside 75 = .ok (.iconst 1, 1) := by decide +kernel
theorem dX7_inside_76 : decode cX7_inside 76 = .ok (.istore 5, 2) := by decide +kernel
theorem dX7_inside_78 : decode cX7_inside 78 = .ok (.iload 5, 2) := by decide +kernel
theorem dX7_inside_80 : decode cX7_inside 80 = .ok (.iload_n 2, 1) := by decide +kernel
theorem dX7_inside_81 : decode cX7_inside 81 = .ok (.if_icmp .ge 34, 3) := by decide +kernel
theorem dX7_inside_84 : decode cX7_inside 84 = .ok (.aload_n 0, 1) := by decide +kernel
theorem dX7_inside_85 : decode cX7_inside 85 = .ok (.iload 4, 2) := by decide +kernel
theorem dX7_inside_87 : decode cX7_inside 87 = .ok (.invokevirtual 171, 3) := by decide +kernel
theorem dX7_inside_90 : decode cX7_inside 90 = .ok (.istore 4, 2) := by decide +kernel
theorem dX7_inside_92 : decode cX7_inside 92 = .ok (.iload_n 3, 1) := by decide +kernel
theorem dX7_inside_93 : decode cX7_inside 93 = .ok (.bipush 64, 2) := by decide +kernel
theorem dX7_inside_95 : decode cX7_inside 95 = .ok (.if_icmp .ne 10, 3) := by decide +kernel
theorem dX7_inside_98 : decode cX7_inside 98 = .ok (.iload 4, 2) := by decide +kernel
theorem dX7_inside_100 : decode cX7_inside 100 = .ok (.iconst 1, 1) := by decide +kernel
theorem dX7_inside_101 : decode cX7_inside 101 = .ok (.iadd, 1) := by decide +kernel
theorem dX7_inside_102 : decode cX7_inside 102 = .ok (.goto 5, 3) := by decide +kernel
theorem dX7_inside_105 : decode cX7_inside 105 = .ok (.iload 4, 2) := by decide +kernel
theorem dX7_inside_107 : decode cX7_inside 107 = .ok (.istore 4, 2) := by decide +kernel
theorem dX7_inside_109 : decode cX7_inside 109 = .ok (.iinc 5 1, 3) := by decide +kernel
theorem dX7_inside_112 : decode cX7_inside 112 = .ok (.goto (-34), 3) := by decide +kernel
theorem dX7_inside_115 : decode cX7_inside 115 = .ok (.iload 4, 2) := by decide +kernel
theorem dX7_inside_117 : decode cX7_inside 117 = .ok (.ireturn, 1) := by decide +kernel
theorem dX7_shown_0 : decode cX7_shown 0 = .ok (.aload_n 0, 1) := by decide +kernel
theorem dX7_shown_1 : decode cX7_shown 1 = .ok (.getfield 13, 3) := by decide +kernel
theorem dX7_shown_4 : decode cX7_shown 4 = .ok (.iload_n 2, 1) := by decide +kernel
theorem dX7_shown_5 : decode cX7_shown 5 = .ok (.iaload, 1) := by decide +kernel
theorem dX7_shown_6 : decode cX7_shown 6 = .ok (.istore_n 3, 1) := by decide +kernel
theorem dX7_shown_7 : decode cX7_shown 7 = .ok (.aload_n 0, 1) := by decide +kernel
theorem dX7_shown_8 : decode cX7_shown 8 = .ok (.getfield 13, 3) := by decide +kernel
theorem dX7_shown_11 : decode cX7_shown 11 = .ok (.iload_n 2, 1) := by decide +kernel
theorem dX7_shown_12 : decode cX7_shown 12 = .ok (.iconst 1, 1) := by decide +kernel
theorem dX7_shown_13 : decode cX7_shown 13 = .ok (.iadd, 1) := by decide +kernel
theorem dX7_shown_14 : decode cX7_shown 14 = .ok (.iaload, 1) := by decide +kernel
theorem dX7_shown_15 : decode cX7_shown 15 = .ok (.istore 4, 2) := by decide +kernel
theorem dX7_shown_17 : decode cX7_shown 17 = .ok (.iload_n 3, 1) := by decide +kernel
theorem dX7_shown_18 : decode cX7_shown 18 = .ok (.bipush 91, 2) := by decide +kernel
theorem dX7_shown_20 : decode cX7_shown 20 = .ok (.if_icmp .ne 11, 3) := by decide +kernel
theorem dX7_shown_23 : decode cX7_shown 23 = .ok (.ldc2_w 181, 3) := by decide +kernel
theorem dX7_shown_26 : decode cX7_shown 26 = .ok (.iload 4, 2) := by decide +kernel
theorem dX7_shown_28 : decode cX7_shown 28 = .ok (.i2l, 1) := by decide +kernel
theorem dX7_shown_29 : decode cX7_shown 29 = .ok (.ladd, 1) := by decide +kernel
theorem dX7_shown_30 : decode cX7_shown 30 = .ok (.lreturn, 1) := by decide +kernel
theorem dX7_shown_31 : decode cX7_shown 31 = .ok (.iload_n 3, 1) := by decide +kernel
theorem dX7_shown_32 : decode cX7_shown 32 = .ok (.bipush 73, 2) := by decide +kernel
theorem dX7_shown_34 : decode cX7_shown 34 = .ok (.if_icmp .ne 58, 3) := by decide +kernel
theorem dX7_shown_37 : decode cX7_shown 37 = .ok (.lconst 0, 1) := by decide +kernel
theorem dX7_shown_38 : decode cX7_shown 38 = .ok (.lstore 5, 2) := by decide +kernel
theorem dX7_shown_40 : decode cX7_shown 40 = .ok (.iconst 1, 1) := by decide +kernel
theorem dX7_shown_41 : decode cX7_shown 41 = .ok (.istore 7, 2) := by decide +kernel
theorem dX7_shown_43 : decode cX7_shown 43 = .ok (.iload 7, 2) := by decide +kernel
theorem dX7_shown_45 : decode cX7_shown 45 = .ok (.iconst 4, 1) := by decide +kernel
theorem dX7_shown_46 : decode cX7_shown 46 = .ok (.if_icmp .gt 39, 3) := by decide +kernel
theorem dX7_shown_49 : decode cX7_shown 49 = .ok (.ldc2_w 183, 3) := by decide +kernel
theorem dX7_shown_52 : decode cX7_shown 52 = .ok (.lload 5, 2) := by decide +kernel
theorem dX7_shown_54 : decode cX7_shown 54 = .ok (.lmul, 1) := by decide +kernel
theorem dX7_shown_55 : decode cX7_shown 55 = .ok (.aload_n 0, 1) := by decide +kernel
theorem dX7_shown_56 : decode cX7_shown 56 = .ok (.getfield 13, 3) := by decide +kernel
theorem dX7_shown_59 : decode cX7_shown 59 = .ok (.aload_n 0, 1) := by decide +kernel
theorem dX7_shown_60 : decode cX7_shown 60 = .ok (.getfield 22, 3) := by decide +kernel
theorem dX7_shown_63 : decode cX7_shown 63 = .ok (.bipush 13, 2) := by decide +kernel
theorem dX7_shown_65 : decode cX7_shown 65 = .ok (.iload_n 1, 1) := by decide +kernel
theorem dX7_shown_66 : decode cX7_shown 66 = .ok (.imul, 1) := by decide +kernel
theorem dX7_shown_67 : decode cX7_shown 67 = .ok (.iload 4, 2) := by decide +kernel
theorem dX7_shown_69 : decode cX7_shown 69 = .ok (.iadd, 1) := by decide +kernel
theorem dX7_shown_70 : decode cX7_shown 70 = .ok (.iaload, 1) := by decide +kernel
theorem dX7_shown_71 : decode cX7_shown 71 = .ok (.iload 7, 2) := by decide +kernel
theorem dX7_shown_73 : decode cX7_shown 73 = .ok (.iadd, 1) := by decide +kernel
theorem dX7_shown_74 : decode cX7_shown 74 = .ok (.iaload, 1) := by decide +kernel
theorem dX7_shown_75 : decode cX7_shown 75 = .ok (.i2l, 1) := by decide +kernel
theorem dX7_shown_76 : decode cX7_shown 76 = .ok (.ladd, 1) := by decide +kernel
theorem dX7_shown_77 : decode cX7_shown 77 = .ok (.lstore 5, 2) := by decide +kernel
theorem dX7_shown_79 : decode cX7_shown 79 = .ok (.iinc 7 1, 3) := by decide +kernel
theorem dX7_shown_82 : decode cX7_shown 82 = .ok (.goto (-39), 3) := by decide +kernel
theorem dX7_shown_85 : decode cX7_shown 85 = .ok (.ldc2_w 185, 3) := by decide +kernel
theorem dX7_shown_88 : decode cX7_shown 88 = .ok (.lload 5, 2) := by decide +kernel
theorem dX7_shown_90 : decode cX7_shown 90 = .ok (.ladd, 1) := by decide +kernel
theorem dX7_shown_91 : decode cX7_shown 91 = .ok (.lreturn, 1) := by decide +kernel
theorem dX7_shown_92 : decode cX7_shown 92 = .ok (.iload_n 3, 1) := by decide +kernel
theorem dX7_shown_93 : decode cX7_shown 93 = .ok (.bipush 115, 2) := by decide +kernel
theorem dX7_shown_95 : decode cX7_shown 95 = .ok (.if_icmp .ne 9, 3) := by decide +kernel
theorem dX7_shown_98 : decode cX7_shown 98 = .ok (.ldc2_w 187, 3) := by decide +kernel
theorem dX7_shown_101 : decode cX7_shown 101 = .ok (.goto 18, 3) := by decide +kernel
theorem dX7_shown_104 : decode cX7_shown 104 = .ok (.iload_n 3, 1) := by decide +kernel
theorem dX7_shown_105 : decode cX7_shown 105 = .ok (.bipush 99, 2) := by decide +kernel
theorem dX7_shown_107 : decode cX7_shown 107 = .ok (.if_icmp .ne 9, 3) := by decide +kernel
theorem dX7_shown_110 : decode cX7_shown 110 = .ok (.ldc2_w 189, 3) := by decide +kernel
theorem dX7_shown_113 : decode cX7_shown 113 = .ok (.goto 6, 3) := by decide +kernel
theorem dX7_shown_116 : decode cX7_shown 116 = .ok (.ldc2_w 191, 3) := by decide +kernel
theorem dX7_shown_119 : decode cX7_shown 119 = .ok (.lstore 5, 2) := by decide +kernel
theorem dX7_shown_121 : decode cX7_shown 121 = .ok (.lload 5, 2) := by decide +kernel
theorem dX7_shown_123 : decode cX7_shown 123 = .ok (.ldc2_w 185, 3) := by decide +kernel
theorem dX7_shown_126 : decode cX7_shown 126 = .ok (.lmul, 1) := by decide +kernel
theorem dX7_shown_127 : decode cX7_shown 127 = .ok (.aload_n 0, 1) := by decide +kernel
theorem dX7_shown_128 : decode cX7_shown 128 = .ok (.getfield 25, 3) := by decide +kernel
theorem dX7_shown_131 : decode cX7_shown 131 = .ok (.bipush 13, 2) := by decide +kernel
theorem dX7_shown_133 : decode cX7_shown 133 = .ok (.iload_n 1, 1) := by decide +kernel
theorem dX7_shown_134 : decode cX7_shown 134 = .ok (.imul, 1) := by decide +kernel
theorem dX7_shown_135 : decode cX7_shown 135 = .ok (.iload 4, 2) := by decide +kernel
theorem dX7_shown_137 : decode cX7_shown 137 = .ok (.iadd, 1) := by decide +kernel
theorem dX7_shown_138 : decode cX7_shown 138 = .ok (.iaload, 1) := by decide +kernel
theorem dX7_shown_139 : decode cX7_shown 139 = .ok (.i2l, 1) := by decide +kernel
theorem dX7_shown_140 : decode cX7_shown 140 = .ok (.ladd, 1) := by decide +kernel
theorem dX7_shown_141 : decode cX7_shown 141 = .ok (.lreturn, 1) := by decide +kernel
theorem dX7_value_0 : decode cX7_value 0 = .ok (.aload_n 0, 1) := by decide +kernel
theorem dX7_value_1 : decode cX7_value 1 = .ok (.iload_n 1, 1) := by decide +kernel
theorem dX7_value_2 : decode cX7_value 2 = .ok (.iload_n 2, 1) := by decide +kernel
theorem dX7_value_3 : decode cX7_value 3 = .ok (.invokevirtual 193, 3) := by decide +kernel
theorem dX7_value_6 : decode cX7_value 6 = .ok (.istore 5, 2) := by decide +kernel
theorem dX7_value_8 : decode cX7_value 8 = .ok (.iload 5, 2) := by decide +kernel
theorem dX7_value_10 : decode cX7_value 10 = .ok (.ifCond .lt 16, 3) := by decide +kernel
theorem dX7_value_13 : decode cX7_value 13 = .ok (.iload 4, 2) := by decide +kernel
theorem dX7_value_15 : decode cX7_value 15 = .ok (.ifCond .lt 11, 3) := by decide +kernel
theorem dX7_value_18 : decode cX7_value 18 = .ok (.aload_n 0, 1) := by decide +kernel
theorem dX7_value_19 : decode cX7_value 19 = .ok (.iload_n 3, 1) := by decide +kernel
theorem dX7_value_20 : decode cX7_value 20 = .ok (.invokevirtual 144, 3) := by decide +kernel
theorem dX7_value_23 : decode cX7_value 23 = .ok (.ifCond .ne 7, 3) := by decide +kernel
theorem dX7_value_26 : decode cX7_value 26 = .ok (.ldc2_w 196, 3) := by decide +kernel
theorem dX7_value_29 : decode cX7_value 29 = .ok (.lreturn, 1) := by decide +kernel
theorem dX7_value_30 : decode cX7_value 30 = .ok (.aload_n 0, 1) := by decide +kernel
theorem dX7_value_31 : decode cX7_value 31 = .ok (.iload 5, 2) := by decide +kernel
theorem dX7_value_33 : decode cX7_value 33 = .ok (.iload_n 2, 1) := by decide +kernel
theorem dX7_value_34 : decode cX7_value 34 = .ok (.invokevirtual 168, 3) := by decide +kernel
theorem dX7_value_37 : decode cX7_value 37 = .ok (.istore 6, 2) := by decide +kernel
theorem dX7_value_39 : decode cX7_value 39 = .ok (.aload_n 0, 1) := by decide +kernel
theorem dX7_value_40 : decode cX7_value 40 = .ok (.iload 5, 2) := by decide +kernel
theorem dX7_value_42 : decode cX7_value 42 = .ok (.aload_n 0, 1) := by decide +kernel
theorem dX7_value_43 : decode cX7_value 43 = .ok (.getfield 49, 3) := by decide +kernel
theorem dX7_value_46 : decode cX7_value 46 = .ok (.iconst 4, 1) := by decide +kernel
theorem dX7_value_47 : decode cX7_value 47 = .ok (.iload 5, 2) := by decide +kernel
theorem dX7_value_49 : decode cX7_value 49 = .ok (.imul, 1) := by decide +kernel
theorem dX7_value_50 : decode cX7_value 50 = .ok (.iload 6, 2) := by decide +kernel
theorem dX7_value_52 : decode cX7_value 52 = .ok (.iadd, 1) := by decide +kernel
theorem dX7_value_53 : decode cX7_value 53 = .ok (.iaload, 1) := by decide +kernel
theorem dX7_value_54 : decode cX7_value 54 = .ok (.iconst 1, 1) := by decide +kernel
theorem dX7_value_55 : decode cX7_value 55 = .ok (.iadd, 1) := by decide +kernel
theorem dX7_value_56 : decode cX7_value 56 = .ok (.iload_n 3, 1) := by decide +kernel
theorem dX7_value_57 : decode cX7_value 57 = .ok (.invokevirtual 198, 3) := by decide +kernel
theorem dX7_value_60 : decode cX7_value 60 = .ok (.istore 7, 2) := by decide +kernel
theorem dX7_value_62 : decode cX7_value 62 = .ok (.iload 7, 2) := by decide +kernel
theorem dX7_value_64 : decode cX7_value 64 = .ok (.ifCond .ge 35, 3) := by decide +kernel
theorem dX7_value_67 : decode cX7_value 67 = .ok (.aload_n 0, 1) := by decide +kernel
theorem dX7_value_68 : decode cX7_value 68 = .ok (.iload_n 2, 1) := by decide +kernel
theorem dX7_value_69 : decode cX7_value 69 = .ok (.invokevirtual 162, 3) := by decide +kernel
theorem dX7_value_72 : decode cX7_value 72 = .ok (.istore 5, 2) := by decide +kernel
theorem dX7_value_74 : decode cX7_value 74 = .ok (.iload 5, 2) := by decide +kernel
theorem dX7_value_76 : decode cX7_value 76 = .ok (.ifCond .ge 7, 3) := by decide +kernel
theorem dX7_value_79 : decode cX7_value 79 = .ok (.iconst (-1), 1) := by decide +kernel
theorem dX7_value_80 : decode cX7_value 80 = .ok (.goto 17, 3) := by decide +kernel
theorem dX7_value_83 : decode cX7_value 83 = .ok (.aload_n 0, 1) := by decide +kernel
theorem dX7_value_84 : decode cX7_value 84 = .ok (.iload 5, 2) := by decide +kernel
theorem dX7_value_86 : decode cX7_value 86 = .ok (.aload_n 0, 1) := by decide +kernel
theorem dX7_value_87 : decode cX7_value 87 = .ok (.getfield 52, 3) := by decide +kernel
theorem dX7_value_90 : decode cX7_value 90 = .ok (.iload 5, 2) := by decide +kernel
theorem dX7_value_92 : decode cX7_value 92 = .ok (.iaload, 1) := by decide +kernel
theorem dX7_value_93 : decode cX7_value 93 = .ok (.iload_n 3, 1) := by decide +kernel
theorem dX7_value_94 : decode cX7_value 94 = .ok (.invokevirtual 198, 3) := by decide +kernel
theorem dX7_value_97 : decode cX7_value 97 = .ok (.istore 7, 2) := by decide +kernel
theorem dX7_value_99 : decode cX7_value 99 = .ok (.iload 4, 2) := by decide +kernel
theorem dX7_value_101 : decode cX7_value 101 = .ok (.istore 8, 2) := by decide +kernel
theorem dX7_value_103 : decode cX7_value 103 = .ok (.iconst 0, 1) := by decide +kernel
theorem dX7_value_104 : decode cX7_value 104 = .ok (.istore 9, 2) := by decide +kernel
theorem dX7_value_106 : decode cX7_value 106 = .ok (.iload 9, 2) := by decide +kernel
theorem dX7_value_108 : decode cX7_value 108 = .ok (.bipush 11, 2) := by decide +kernel
theorem dX7_value_110 : decode cX7_value 110 = .ok (.if_icmp .ge 39, 3) := by decide +kernel
theorem dX7_value_113 : decode cX7_value 113 = .ok (.iload 8, 2) := by decide +kernel
theorem dX7_value_115 : decode cX7_value 115 = .ok (.ifCond .eq 34, 3) := by decide +kernel
theorem dX7_value_118 : decode cX7_value 118 = .ok (.iload 7, 2) := by decide +kernel
theorem dX7_value_120 : decode cX7_value 120 = .ok (.ifCond .lt 29, 3) := by decide +kernel
theorem dX7_value_123 : decode cX7_value 123 = .ok (.aload_n 0, 1) := by decide +kernel
theorem dX7_value_124 : decode cX7_value 124 = .ok (.iload 7, 2) := by decide +kernel
theorem dX7_value_126 : decode cX7_value 126 = .ok (.iload 8, 2) := by decide +kernel
theorem dX7_value_128 : decode cX7_value 128 = .ok (.bipush 8, 2) := by decide +kernel
theorem dX7_value_130 : decode cX7_value 130 = .ok (.irem, 1) := by decide +kernel
theorem dX7_value_131 : decode cX7_value 131 = .ok (.invokevirtual 201, 3) := by decide +kernel
theorem dX7_value_134 : decode cX7_value 134 = .ok (.istore 7, 2) := by decide +kernel
theorem dX7_value_136 : decode cX7_value 136 = .ok (.iload 8, 2) := by decide +kernel
theorem dX7_value_138 : decode cX7_value 138 = .ok (.bipush 8, 2) := by decide +kernel
theorem dX7_value_140 : decode cX7_value 140 = .ok (.idiv, 1) := by decide +kernel
theorem dX7_value_141 : decode cX7_value 141 = .ok (.istore 8, 2) := by decide +kernel
theorem dX7_value_143 : decode cX7_value 143 = .ok (.iinc 9 1, 3) := by decide +kernel
theorem dX7_value_146 : decode cX7_value 146 = .ok (.goto (-40), 3) := by decide +kernel
theorem dX7_value_149 : decode cX7_value 149 = .ok (.iload 7, 2) := by decide +kernel
theorem dX7_value_151 : decode cX7_value 151 = .ok (.ifCond .ge 9, 3) := by decide +kernel
theorem dX7_value_154 : decode cX7_value 154 = .ok (.ldc2_w 196, 3) := by decide +kernel
theorem dX7_value_157 : decode cX7_value 157 = .ok (.goto 11, 3) := by decide +kernel
theorem dX7_value_160 : decode cX7_value 160 = .ok (.aload_n 0, 1) := by decide +kernel
theorem dX7_value_161 : decode cX7_value 161 = .ok (.iload 5, 2) := by decide +kernel
theorem dX7_value_163 : decode cX7_value 163 = .ok (.iload 7, 2) := by decide +kernel
theorem dX7_value_165 : decode cX7_value 165 = .ok (.invokevirtual 204, 3) := by decide +kernel
theorem dX7_value_168 : decode cX7_value 168 = .ok (.lreturn, 1) := by decide +kernel
end
section
/-- a loop's predicate: at most n rounds -/
def fx {α : Type} (Φ : (α → Prop) → α → Prop) : Nat → α → Prop
  | 0, _ => False
  | n + 1, z => Φ (fx Φ n) z
theorem fx_lp {α : Type} (Φ : (α → Prop) → α → Prop) (I : α → Prop) (μ : α → Nat) (hs : ∀ (K : α → Prop) (z : α), I z → (∀ y, I y → μ y < μ z → K y) → Φ K z) : ∀ (n : Nat) (z : α), I z → μ z < n → fx Φ n z := by
  intro n
  induction n with
  | zero => intro z _ h; exact absurd h (Nat.not_lt_zero _)
  | succ n ih =>
    intro z hz hn
    exact hs (fx Φ n) z hz (fun y hy hm => ih y hy (by omega))
theorem fx_ex {α : Type} (Φ : (α → Prop) → α → Prop) (I : α → Prop) (μ : α → Nat) (hs : ∀ (K : α → Prop) (z : α), I z → (∀ y, I y → μ y < μ z → K y) → Φ K z) (z : α) (hz : I z) : ∃ n, fx Φ n z := ⟨μ z + 1, fx_lp Φ I μ hs _ z hz (Nat.lt_succ_self _)⟩
/-- an int that is a boolean -/
def zb (v : Int32) : Prop := narrow .boolean (.int v) = .int v
theorem va_freeAll {A0 : Nat → Prop} {ws : va_W} {H0 H : Heap} {locs : List Loc} (hD : va_D A0 ws) (hS : va_S A0 H0 H locs) (hA : ∀ q, H0.size ≤ q → A0 q) : ∀ q, va_A ws H.size q → A0 q := by
  intro q hq
  rcases hq with ⟨k, e, hk⟩ | hq
  · exact hD.2 k (q, e) hk
  · exact hA q (Nat.le_trans hS.1 hq)
/-- the reference: int fields by slot, arrays by slot -/
abbrev rS : Type := (Nat → Int32) × (Nat → Nat → Int32)
def rI (σ : rS) (k : Nat) (x : Int32) : rS := (va_up σ.1 k x, σ.2)
def rA (σ : rS) (k : Nat) (i x : Int32) : rS := (σ.1, va_up σ.2 k (upd (σ.2 k) i.toNatClampNeg x))
def rF (a : Nat → Nat) (σ : rS) : List Value := [.ref (a 0), .int (σ.1 1), .ref (a 2), .int (σ.1 3), .ref (a 4), .int (σ.1 5), .ref (a 6), .ref (a 7), .ref (a 8), .ref (a 9), .ref (a 10), .ref (a 11), .ref (a 12), .ref (a 13), .ref (a 14), .ref (a 15), .ref (a 16), .ref (a 17), .int (σ.1 18), .int (σ.1 19), .int (σ.1 20), .int (σ.1 21), .int (σ.1 22), .int (σ.1 23), .int (σ.1 24), .ref (a 25), .ref (a 26), .ref (a 27)]
def rCells (h : Nat) (a : Nat → Nat) (cI cZ : ClassId) (σ : rS) : va_W := [(h, .inr (7, rF a σ)), (a 0, .inl (cI, 120, .inl (σ.2 0))), (a 2, .inl (cI, 1920, .inl (σ.2 2))), (a 4, .inl (cI, 192, .inl (σ.2 4))), (a 6, .inl (cI, 208, .inl (σ.2 6))), (a 7, .inl (cI, 208, .inl (σ.2 7))), (a 8, .inl (cI, 208, .inl (σ.2 8))), (a 9, .inl (cI, 16, .inl (σ.2 9))), (a 10, .inl (cI, 16, .inl (σ.2 10))), (a 11, .inl (cI, 16, .inl (σ.2 11))), (a 12, .inl (cI, 16, .inl (σ.2 12))), (a 13, .inl (cI, 16, .inl (σ.2 13))), (a 14, .inl (cI, 64, .inl (σ.2 14))), (a 15, .inl (cI, 16, .inl (σ.2 15))), (a 16, .inl (cI, 64, .inl (σ.2 16))), (a 17, .inl (cI, 16, .inl (σ.2 17))), (a 25, .inl (cI, 7, .inl (σ.2 25))), (a 26, .inl (cZ, 7, .inl (σ.2 26))), (a 27, .inl (cZ, 192, .inl (σ.2 27)))]
def rO (dC : Nat → ClassId) (dI : Nat → Nat → Nat) (h : Nat) (a : Nat → Nat) (cI cZ : ClassId) (A : Nat → Prop) (H0 : Heap) (σ : rS) (H : Heap) (locs : List Loc) : Prop := va_P (dC, dI) vwCl (rCells h a cI cZ σ) H ∧ va_D A (rCells h a cI cZ σ) ∧ va_S A H0 H locs
def rAt (dC : Nat → ClassId) (dI : Nat → Nat → Nat) (A : Nat → Prop) (h : Nat) (a : Nat → Nat) (cI cZ : ClassId) (σ : rS) (t : State) : Prop := va_P (dC, dI) vwCl (rCells h a cI cZ σ) t.heap ∧ va_K (dC, dI) vwCl [(cI, .int), (cZ, .boolean)] t ∧ va_D A (rCells h a cI cZ σ)
def rPc (dC : Nat → ClassId) (dI : Nat → Nat → Nat) (h : Nat) (a : Nat → Nat) (cI cZ : ClassId) (sz : Nat) (σ : rS) (av : List Value) : Array Value → State → Prop := va_Pc av (fun U => U.heap.size = sz ∧ va_P (dC, dI) vwCl (rCells h a cI cZ σ) U.heap ∧ va_K (dC, dI) vwCl [(cI, .int), (cZ, .boolean)] U ∧ va_D (fun _ => True) (rCells h a cI cZ σ))
section
variable {p : Program} {l : Launch} {e : Env} {R : Room} {s : State} {m : MethodId} {args : Array Value} {below : List Frame} {meth : Method} {c : Code}
variable {dC : Nat → ClassId} {dI : Nat → Nat → Nat} {h : Nat} {a : Nat → Nat} {cI cZ : ClassId} {A : Nat → Prop}
variable {H : Heap} {locs : List Loc} {cells slots : Nat} {QF : State → Prop} {cc : ByteArray} {nL pc : Nat} {ls : Array Slot} {rest : List Value} {Ts : List Cond} {cw : Cond} {H0 : Heap} {σ : rS}
theorem rO_end {t : State} (hO : rO dC dI h a cI cZ A H0 σ H locs) (hK : va_K (dC, dI) vwCl [(cI, .int), (cZ, .boolean)] s) (ht : t.heap = H) (hW : s.WarmedH t.vm) : rAt dC dI A h a cI cZ σ t := ⟨by rw [ht]; exact hO.1, va_K.moved hW.alike hK, hO.2.1⟩
theorem rPc_blind {sz : Nat} {av : List Value} : FrameBlind (rPc dC dI h a cI cZ sz σ av) := fun v U g mk q => by
  obtain ⟨q0, q1, qP, qK, qD⟩ := q
  exact ⟨q0, q1, qP, va_K.moved (u := U) (U := U.calling g mk v) (Vm.Alike.refl U.vm) qK, qD⟩
theorem rPc_pre {av : List Value} (hK : va_K (dC, dI) vwCl [(cI, .int), (cZ, .boolean)] s) (hO : rO dC dI h a cI cZ A H0 σ H locs) : ∀ U : State, U.heap = H → s.WarmedH U.vm → rPc dC dI h a cI cZ H.size σ av av.toArray U := fun U hU hW => ⟨rfl, by rw [hU], by rw [hU]; exact hO.1, va_K.moved hW.alike hK, hO.2.1.weaken (fun _ _ _ _ => trivial)⟩
set_option maxRecDepth 100000 in
theorem rf_buffer (X : CallFix p m c cc nL s args (cw :: wG) RX7) (hK : va_K (dC, dI) vwCl [(cI, .int), (cZ, .boolean)] s) (hO : rO dC dI h a cI cZ A H0 σ H locs) (hdg : decode cc pc = .ok (.getfield 7, 3)) (kk : W p l e R s m args below meth c H locs cells slots QF (F0 m (pc + 3) ls (.ref (a 0) :: rest))) : W p l e R s m args below meth c H locs cells slots QF (F0 m pc ls (.ref h :: rest)) :=
  va_get (D := (dC, dI)) (ci := 7) (v := .ref (a 0)) (C := RX7) (T := TX7) (N := 28) X.1 X.2.1 X.2.2.2.2 (fun w h => List.mem_cons_of_mem _ (wlX7 w h)) X.2.2.2.1 hK hO.1 0 rfl rfl 0 (by decide) (X.2.2.2.2 _ (List.mem_cons_of_mem _ fX7_buffer)) (fun _ h9 => h9) rfl hdg kk
set_option maxRecDepth 100000 in
theorem ra_buffer (hx : p.tables.exec = Jvm.exec) (hb : c.code = cc) (hK : va_K (dC, dI) vwCl [(cI, .int), (cZ, .boolean)] s) (hO : rO dC dI h a cI cZ A H0 σ H locs) {i : Int32} (hi : vp_in i 120) (hdg : decode cc pc = .ok (.iaload, 1)) (kk : W p l e R s m args below meth c H locs cells slots QF (F0 m (pc + 1) ls (.int (σ.2 0 i.toNatClampNeg) :: rest))) : W p l e R s m args below meth c H locs cells slots QF (F0 m pc ls (.int i :: .ref (a 0) :: rest)) :=
  va_iald hx hb hK hO.1 1 0 rfl rfl hi hdg kk
set_option maxRecDepth 100000 in
theorem rs_buffer (hx : p.tables.exec = Jvm.exec) (hb : c.code = cc) (hK : va_K (dC, dI) vwCl [(cI, .int), (cZ, .boolean)] s) (hO : rO dC dI h a cI cZ A H0 σ H locs) {i x : Int32} (hi : vp_in i 120) (hdg : decode cc pc = .ok (.iastore, 1)) (kk : ∀ (H1 : Heap) (locs1 : List Loc), rO dC dI h a cI cZ A H0 (rA σ 0 i x) H1 locs1 → W p l e R s m args below meth c H1 locs1 cells slots QF (F0 m (pc + 1) ls rest)) : W p l e R s m args below meth c H locs cells slots QF (F0 m pc ls (.int x :: .int i :: .ref (a 0) :: rest)) :=
  va_iast hx hb hK hO.1 hO.2.1 hO.2.2 1 0 rfl rfl hi hdg (fun H1 locs1 hP hD hS => kk H1 locs1 ⟨hP, hD, hS⟩)
set_option maxRecDepth 100000 in
theorem rf_held (X : CallFix p m c cc nL s args (cw :: wG) RX7) (hK : va_K (dC, dI) vwCl [(cI, .int), (cZ, .boolean)] s) (hO : rO dC dI h a cI cZ A H0 σ H locs) (hdg : decode cc pc = .ok (.getfield 65, 3)) (kk : W p l e R s m args below meth c H locs cells slots QF (F0 m (pc + 3) ls (.int (σ.1 1) :: rest))) : W p l e R s m args below meth c H locs cells slots QF (F0 m pc ls (.ref h :: rest)) :=
  va_get (D := (dC, dI)) (ci := 7) (v := .int (σ.1 1)) (C := RX7) (T := TX7) (N := 28) X.1 X.2.1 X.2.2.2.2 (fun w h => List.mem_cons_of_mem _ (wlX7 w h)) X.2.2.2.1 hK hO.1 0 rfl rfl 1 (by decide) (X.2.2.2.2 _ (List.mem_cons_of_mem _ fX7_held)) (fun _ h9 => h9) rfl hdg kk
set_option maxRecDepth 100000 in
theorem rp_held (X : CallFix p m c cc nL s args (cw :: wG) RX7) (hK : va_K (dC, dI) vwCl [(cI, .int), (cZ, .boolean)] s) (hO : rO dC dI h a cI cZ A H0 σ H locs) {x : Int32} (hdg : decode cc pc = .ok (.putfield 65, 3)) (kk : ∀ (H1 : Heap) (locs1 : List Loc), rO dC dI h a cI cZ A H0 (rI σ 1 x) H1 locs1 → W p l e R s m args below meth c H1 locs1 cells slots QF (F0 m (pc + 3) ls rest)) : W p l e R s m args below meth c H locs cells slots QF (F0 m pc ls (.int x :: .ref h :: rest)) :=
  va_put (D := (dC, dI)) (ci := 7) (v := .int x) (ty := .int) (C := RX7) (T := TX7) (N := 28) X.1 X.2.1 X.2.2.2.2 (fun w h => List.mem_cons_of_mem _ (wlX7 w h)) tyX7 tyX7_ok nmX7 X.2.2.2.1 hK hO.1 hO.2.1 hO.2.2 0 rfl rfl 1 (by decide) (X.2.2.2.2 _ (List.mem_cons_of_mem _ fX7_held)) (fun _ h9 => h9) rfl (by decide +kernel) rfl rfl (Nat.le_of_ble_eq_true rfl) hdg (fun H1 locs1 hP hD hS => kk H1 locs1 ⟨hP, hD, hS⟩)
set_option maxRecDepth 100000 in
theorem rf_bytes (X : CallFix p m c cc nL s args (cw :: wG) RX7) (hK : va_K (dC, dI) vwCl [(cI, .int), (cZ, .boolean)] s) (hO : rO dC dI h a cI cZ A H0 σ H locs) (hdg : decode cc pc = .ok (.getfield 13, 3)) (kk : W p l e R s m args below meth c H locs cells slots QF (F0 m (pc + 3) ls (.ref (a 2) :: rest))) : W p l e R s m args below meth c H locs cells slots QF (F0 m pc ls (.ref h :: rest)) :=
  va_get (D := (dC, dI)) (ci := 7) (v := .ref (a 2)) (C := RX7) (T := TX7) (N := 28) X.1 X.2.1 X.2.2.2.2 (fun w h => List.mem_cons_of_mem _ (wlX7 w h)) X.2.2.2.1 hK hO.1 0 rfl rfl 2 (by decide) (X.2.2.2.2 _ (List.mem_cons_of_mem _ fX7_bytes)) (fun _ h9 => h9) rfl hdg kk
set_option maxRecDepth 100000 in
theorem ra_bytes (hx : p.tables.exec = Jvm.exec) (hb : c.code = cc) (hK : va_K (dC, dI) vwCl [(cI, .int), (cZ, .boolean)] s) (hO : rO dC dI h a cI cZ A H0 σ H locs) {i : Int32} (hi : vp_in i 1920) (hdg : decode cc pc = .ok (.iaload, 1)) (kk : W p l e R s m args below meth c H locs cells slots QF (F0 m (pc + 1) ls (.int (σ.2 2 i.toNatClampNeg) :: rest))) : W p l e R s m args below meth c H locs cells slots QF (F0 m pc ls (.int i :: .ref (a 2) :: rest)) :=
  va_iald hx hb hK hO.1 2 0 rfl rfl hi hdg kk
set_option maxRecDepth 100000 in
theorem rs_bytes (hx : p.tables.exec = Jvm.exec) (hb : c.code = cc) (hK : va_K (dC, dI) vwCl [(cI, .int), (cZ, .boolean)] s) (hO : rO dC dI h a cI cZ A H0 σ H locs) {i x : Int32} (hi : vp_in i 1920) (hdg : decode cc pc = .ok (.iastore, 1)) (kk : ∀ (H1 : Heap) (locs1 : List Loc), rO dC dI h a cI cZ A H0 (rA σ 2 i x) H1 locs1 → W p l e R s m args below meth c H1 locs1 cells slots QF (F0 m (pc + 1) ls rest)) : W p l e R s m args below meth c H locs cells slots QF (F0 m pc ls (.int x :: .int i :: .ref (a 2) :: rest)) :=
  va_iast hx hb hK hO.1 hO.2.1 hO.2.2 2 0 rfl rfl hi hdg (fun H1 locs1 hP hD hS => kk H1 locs1 ⟨hP, hD, hS⟩)
set_option maxRecDepth 100000 in
theorem rf_classes (X : CallFix p m c cc nL s args (cw :: wG) RX7) (hK : va_K (dC, dI) vwCl [(cI, .int), (cZ, .boolean)] s) (hO : rO dC dI h a cI cZ A H0 σ H locs) (hdg : decode cc pc = .ok (.getfield 116, 3)) (kk : W p l e R s m args below meth c H locs cells slots QF (F0 m (pc + 3) ls (.int (σ.1 3) :: rest))) : W p l e R s m args below meth c H locs cells slots QF (F0 m pc ls (.ref h :: rest)) :=
  va_get (D := (dC, dI)) (ci := 7) (v := .int (σ.1 3)) (C := RX7) (T := TX7) (N := 28) X.1 X.2.1 X.2.2.2.2 (fun w h => List.mem_cons_of_mem _ (wlX7 w h)) X.2.2.2.1 hK hO.1 0 rfl rfl 3 (by decide) (X.2.2.2.2 _ (List.mem_cons_of_mem _ fX7_classes)) (fun _ h9 => h9) rfl hdg kk
set_option maxRecDepth 100000 in
theorem rp_classes (X : CallFix p m c cc nL s args (cw :: wG) RX7) (hK : va_K (dC, dI) vwCl [(cI, .int), (cZ, .boolean)] s) (hO : rO dC dI h a cI cZ A H0 σ H locs) {x : Int32} (hdg : decode cc pc = .ok (.putfield 116, 3)) (kk : ∀ (H1 : Heap) (locs1 : List Loc), rO dC dI h a cI cZ A H0 (rI σ 3 x) H1 locs1 → W p l e R s m args below meth c H1 locs1 cells slots QF (F0 m (pc + 3) ls rest)) : W p l e R s m args below meth c H locs cells slots QF (F0 m pc ls (.int x :: .ref h :: rest)) :=
  va_put (D := (dC, dI)) (ci := 7) (v := .int x) (ty := .int) (C := RX7) (T := TX7) (N := 28) X.1 X.2.1 X.2.2.2.2 (fun w h => List.mem_cons_of_mem _ (wlX7 w h)) tyX7 tyX7_ok nmX7 X.2.2.2.1 hK hO.1 hO.2.1 hO.2.2 0 rfl rfl 3 (by decide) (X.2.2.2.2 _ (List.mem_cons_of_mem _ fX7_classes)) (fun _ h9 => h9) rfl (by decide +kernel) rfl rfl (Nat.le_of_ble_eq_true rfl) hdg (fun H1 locs1 hP hD hS => kk H1 locs1 ⟨hP, hD, hS⟩)
set_option maxRecDepth 100000 in
theorem rf_textAt (X : CallFix p m c cc nL s args (cw :: wG) RX7) (hK : va_K (dC, dI) vwCl [(cI, .int), (cZ, .boolean)] s) (hO : rO dC dI h a cI cZ A H0 σ H locs) (hdg : decode cc pc = .ok (.getfield 16, 3)) (kk : W p l e R s m args below meth c H locs cells slots QF (F0 m (pc + 3) ls (.ref (a 4) :: rest))) : W p l e R s m args below meth c H locs cells slots QF (F0 m pc ls (.ref h :: rest)) :=
  va_get (D := (dC, dI)) (ci := 7) (v := .ref (a 4)) (C := RX7) (T := TX7) (N := 28) X.1 X.2.1 X.2.2.2.2 (fun w h => List.mem_cons_of_mem _ (wlX7 w h)) X.2.2.2.1 hK hO.1 0 rfl rfl 4 (by decide) (X.2.2.2.2 _ (List.mem_cons_of_mem _ fX7_textAt)) (fun _ h9 => h9) rfl hdg kk
set_option maxRecDepth 100000 in
theorem ra_textAt (hx : p.tables.exec = Jvm.exec) (hb : c.code = cc) (hK : va_K (dC, dI) vwCl [(cI, .int), (cZ, .boolean)] s) (hO : rO dC dI h a cI cZ A H0 σ H locs) {i : Int32} (hi : vp_in i 192) (hdg : decode cc pc = .ok (.iaload, 1)) (kk : W p l e R s m args below meth c H locs cells slots QF (F0 m (pc + 1) ls (.int (σ.2 4 i.toNatClampNeg) :: rest))) : W p l e R s m args below meth c H locs cells slots QF (F0 m pc ls (.int i :: .ref (a 4) :: rest)) :=
  va_iald hx hb hK hO.1 3 0 rfl rfl hi hdg kk
set_option maxRecDepth 100000 in
theorem rs_textAt (hx : p.tables.exec = Jvm.exec) (hb : c.code = cc) (hK : va_K (dC, dI) vwCl [(cI, .int), (cZ, .boolean)] s) (hO : rO dC dI h a cI cZ A H0 σ H locs) {i x : Int32} (hi : vp_in i 192) (hdg : decode cc pc = .ok (.iastore, 1)) (kk : ∀ (H1 : Heap) (locs1 : List Loc), rO dC dI h a cI cZ A H0 (rA σ 4 i x) H1 locs1 → W p l e R s m args below meth c H1 locs1 cells slots QF (F0 m (pc + 1) ls rest)) : W p l e R s m args below meth c H locs cells slots QF (F0 m pc ls (.int x :: .int i :: .ref (a 4) :: rest)) :=
  va_iast hx hb hK hO.1 hO.2.1 hO.2.2 3 0 rfl rfl hi hdg (fun H1 locs1 hP hD hS => kk H1 locs1 ⟨hP, hD, hS⟩)
set_option maxRecDepth 100000 in
theorem rf_texts (X : CallFix p m c cc nL s args (cw :: wG) RX7) (hK : va_K (dC, dI) vwCl [(cI, .int), (cZ, .boolean)] s) (hO : rO dC dI h a cI cZ A H0 σ H locs) (hdg : decode cc pc = .ok (.getfield 135, 3)) (kk : W p l e R s m args below meth c H locs cells slots QF (F0 m (pc + 3) ls (.int (σ.1 5) :: rest))) : W p l e R s m args below meth c H locs cells slots QF (F0 m pc ls (.ref h :: rest)) :=
  va_get (D := (dC, dI)) (ci := 7) (v := .int (σ.1 5)) (C := RX7) (T := TX7) (N := 28) X.1 X.2.1 X.2.2.2.2 (fun w h => List.mem_cons_of_mem _ (wlX7 w h)) X.2.2.2.1 hK hO.1 0 rfl rfl 5 (by decide) (X.2.2.2.2 _ (List.mem_cons_of_mem _ fX7_texts)) (fun _ h9 => h9) rfl hdg kk
set_option maxRecDepth 100000 in
theorem rp_texts (X : CallFix p m c cc nL s args (cw :: wG) RX7) (hK : va_K (dC, dI) vwCl [(cI, .int), (cZ, .boolean)] s) (hO : rO dC dI h a cI cZ A H0 σ H locs) {x : Int32} (hdg : decode cc pc = .ok (.putfield 135, 3)) (kk : ∀ (H1 : Heap) (locs1 : List Loc), rO dC dI h a cI cZ A H0 (rI σ 5 x) H1 locs1 → W p l e R s m args below meth c H1 locs1 cells slots QF (F0 m (pc + 3) ls rest)) : W p l e R s m args below meth c H locs cells slots QF (F0 m pc ls (.int x :: .ref h :: rest)) :=
  va_put (D := (dC, dI)) (ci := 7) (v := .int x) (ty := .int) (C := RX7) (T := TX7) (N := 28) X.1 X.2.1 X.2.2.2.2 (fun w h => List.mem_cons_of_mem _ (wlX7 w h)) tyX7 tyX7_ok nmX7 X.2.2.2.1 hK hO.1 hO.2.1 hO.2.2 0 rfl rfl 5 (by decide) (X.2.2.2.2 _ (List.mem_cons_of_mem _ fX7_texts)) (fun _ h9 => h9) rfl (by decide +kernel) rfl rfl (Nat.le_of_ble_eq_true rfl) hdg (fun H1 locs1 hP hD hS => kk H1 locs1 ⟨hP, hD, hS⟩)
set_option maxRecDepth 100000 in
theorem rf_sort (X : CallFix p m c cc nL s args (cw :: wG) RX7) (hK : va_K (dC, dI) vwCl [(cI, .int), (cZ, .boolean)] s) (hO : rO dC dI h a cI cZ A H0 σ H locs) (hdg : decode cc pc = .ok (.getfield 19, 3)) (kk : W p l e R s m args below meth c H locs cells slots QF (F0 m (pc + 3) ls (.ref (a 6) :: rest))) : W p l e R s m args below meth c H locs cells slots QF (F0 m pc ls (.ref h :: rest)) :=
  va_get (D := (dC, dI)) (ci := 7) (v := .ref (a 6)) (C := RX7) (T := TX7) (N := 28) X.1 X.2.1 X.2.2.2.2 (fun w h => List.mem_cons_of_mem _ (wlX7 w h)) X.2.2.2.1 hK hO.1 0 rfl rfl 6 (by decide) (X.2.2.2.2 _ (List.mem_cons_of_mem _ fX7_sort)) (fun _ h9 => h9) rfl hdg kk
set_option maxRecDepth 100000 in
theorem ra_sort (hx : p.tables.exec = Jvm.exec) (hb : c.code = cc) (hK : va_K (dC, dI) vwCl [(cI, .int), (cZ, .boolean)] s) (hO : rO dC dI h a cI cZ A H0 σ H locs) {i : Int32} (hi : vp_in i 208) (hdg : decode cc pc = .ok (.iaload, 1)) (kk : W p l e R s m args below meth c H locs cells slots QF (F0 m (pc + 1) ls (.int (σ.2 6 i.toNatClampNeg) :: rest))) : W p l e R s m args below meth c H locs cells slots QF (F0 m pc ls (.int i :: .ref (a 6) :: rest)) :=
  va_iald hx hb hK hO.1 4 0 rfl rfl hi hdg kk
set_option maxRecDepth 100000 in
theorem rs_sort (hx : p.tables.exec = Jvm.exec) (hb : c.code = cc) (hK : va_K (dC, dI) vwCl [(cI, .int), (cZ, .boolean)] s) (hO : rO dC dI h a cI cZ A H0 σ H locs) {i x : Int32} (hi : vp_in i 208) (hdg : decode cc pc = .ok (.iastore, 1)) (kk : ∀ (H1 : Heap) (locs1 : List Loc), rO dC dI h a cI cZ A H0 (rA σ 6 i x) H1 locs1 → W p l e R s m args below meth c H1 locs1 cells slots QF (F0 m (pc + 1) ls rest)) : W p l e R s m args below meth c H locs cells slots QF (F0 m pc ls (.int x :: .int i :: .ref (a 6) :: rest)) :=
  va_iast hx hb hK hO.1 hO.2.1 hO.2.2 4 0 rfl rfl hi hdg (fun H1 locs1 hP hD hS => kk H1 locs1 ⟨hP, hD, hS⟩)
set_option maxRecDepth 100000 in
theorem rf_place (X : CallFix p m c cc nL s args (cw :: wG) RX7) (hK : va_K (dC, dI) vwCl [(cI, .int), (cZ, .boolean)] s) (hO : rO dC dI h a cI cZ A H0 σ H locs) (hdg : decode cc pc = .ok (.getfield 22, 3)) (kk : W p l e R s m args below meth c H locs cells slots QF (F0 m (pc + 3) ls (.ref (a 7) :: rest))) : W p l e R s m args below meth c H locs cells slots QF (F0 m pc ls (.ref h :: rest)) :=
  va_get (D := (dC, dI)) (ci := 7) (v := .ref (a 7)) (C := RX7) (T := TX7) (N := 28) X.1 X.2.1 X.2.2.2.2 (fun w h => List.mem_cons_of_mem _ (wlX7 w h)) X.2.2.2.1 hK hO.1 0 rfl rfl 7 (by decide) (X.2.2.2.2 _ (List.mem_cons_of_mem _ fX7_place)) (fun _ h9 => h9) rfl hdg kk
set_option maxRecDepth 100000 in
theorem ra_place (hx : p.tables.exec = Jvm.exec) (hb : c.code = cc) (hK : va_K (dC, dI) vwCl [(cI, .int), (cZ, .boolean)] s) (hO : rO dC dI h a cI cZ A H0 σ H locs) {i : Int32} (hi : vp_in i 208) (hdg : decode cc pc = .ok (.iaload, 1)) (kk : W p l e R s m args below meth c H locs cells slots QF (F0 m (pc + 1) ls (.int (σ.2 7 i.toNatClampNeg) :: rest))) : W p l e R s m args below meth c H locs cells slots QF (F0 m pc ls (.int i :: .ref (a 7) :: rest)) :=
  va_iald hx hb hK hO.1 5 0 rfl rfl hi hdg kk
set_option maxRecDepth 100000 in
theorem rs_place (hx : p.tables.exec = Jvm.exec) (hb : c.code = cc) (hK : va_K (dC, dI) vwCl [(cI, .int), (cZ, .boolean)] s) (hO : rO dC dI h a cI cZ A H0 σ H locs) {i x : Int32} (hi : vp_in i 208) (hdg : decode cc pc = .ok (.iastore, 1)) (kk : ∀ (H1 : Heap) (locs1 : List Loc), rO dC dI h a cI cZ A H0 (rA σ 7 i x) H1 locs1 → W p l e R s m args below meth c H1 locs1 cells slots QF (F0 m (pc + 1) ls rest)) : W p l e R s m args below meth c H locs cells slots QF (F0 m pc ls (.int x :: .int i :: .ref (a 7) :: rest)) :=
  va_iast hx hb hK hO.1 hO.2.1 hO.2.2 5 0 rfl rfl hi hdg (fun H1 locs1 hP hD hS => kk H1 locs1 ⟨hP, hD, hS⟩)
set_option maxRecDepth 100000 in
theorem rf_text (X : CallFix p m c cc nL s args (cw :: wG) RX7) (hK : va_K (dC, dI) vwCl [(cI, .int), (cZ, .boolean)] s) (hO : rO dC dI h a cI cZ A H0 σ H locs) (hdg : decode cc pc = .ok (.getfield 25, 3)) (kk : W p l e R s m args below meth c H locs cells slots QF (F0 m (pc + 3) ls (.ref (a 8) :: rest))) : W p l e R s m args below meth c H locs cells slots QF (F0 m pc ls (.ref h :: rest)) :=
  va_get (D := (dC, dI)) (ci := 7) (v := .ref (a 8)) (C := RX7) (T := TX7) (N := 28) X.1 X.2.1 X.2.2.2.2 (fun w h => List.mem_cons_of_mem _ (wlX7 w h)) X.2.2.2.1 hK hO.1 0 rfl rfl 8 (by decide) (X.2.2.2.2 _ (List.mem_cons_of_mem _ fX7_text)) (fun _ h9 => h9) rfl hdg kk
set_option maxRecDepth 100000 in
theorem ra_text (hx : p.tables.exec = Jvm.exec) (hb : c.code = cc) (hK : va_K (dC, dI) vwCl [(cI, .int), (cZ, .boolean)] s) (hO : rO dC dI h a cI cZ A H0 σ H locs) {i : Int32} (hi : vp_in i 208) (hdg : decode cc pc = .ok (.iaload, 1)) (kk : W p l e R s m args below meth c H locs cells slots QF (F0 m (pc + 1) ls (.int (σ.2 8 i.toNatClampNeg) :: rest))) : W p l e R s m args below meth c H locs cells slots QF (F0 m pc ls (.int i :: .ref (a 8) :: rest)) :=
  va_iald hx hb hK hO.1 6 0 rfl rfl hi hdg kk
set_option maxRecDepth 100000 in
theorem rs_text (hx : p.tables.exec = Jvm.exec) (hb : c.code = cc) (hK : va_K (dC, dI) vwCl [(cI, .int), (cZ, .boolean)] s) (hO : rO dC dI h a cI cZ A H0 σ H locs) {i x : Int32} (hi : vp_in i 208) (hdg : decode cc pc = .ok (.iastore, 1)) (kk : ∀ (H1 : Heap) (locs1 : List Loc), rO dC dI h a cI cZ A H0 (rA σ 8 i x) H1 locs1 → W p l e R s m args below meth c H1 locs1 cells slots QF (F0 m (pc + 1) ls rest)) : W p l e R s m args below meth c H locs cells slots QF (F0 m pc ls (.int x :: .int i :: .ref (a 8) :: rest)) :=
  va_iast hx hb hK hO.1 hO.2.1 hO.2.2 6 0 rfl rfl hi hdg (fun H1 locs1 hP hD hS => kk H1 locs1 ⟨hP, hD, hS⟩)
set_option maxRecDepth 100000 in
theorem rf_flag (X : CallFix p m c cc nL s args (cw :: wG) RX7) (hK : va_K (dC, dI) vwCl [(cI, .int), (cZ, .boolean)] s) (hO : rO dC dI h a cI cZ A H0 σ H locs) (hdg : decode cc pc = .ok (.getfield 28, 3)) (kk : W p l e R s m args below meth c H locs cells slots QF (F0 m (pc + 3) ls (.ref (a 9) :: rest))) : W p l e R s m args below meth c H locs cells slots QF (F0 m pc ls (.ref h :: rest)) :=
  va_get (D := (dC, dI)) (ci := 7) (v := .ref (a 9)) (C := RX7) (T := TX7) (N := 28) X.1 X.2.1 X.2.2.2.2 (fun w h => List.mem_cons_of_mem _ (wlX7 w h)) X.2.2.2.1 hK hO.1 0 rfl rfl 9 (by decide) (X.2.2.2.2 _ (List.mem_cons_of_mem _ fX7_flag)) (fun _ h9 => h9) rfl hdg kk
set_option maxRecDepth 100000 in
theorem ra_flag (hx : p.tables.exec = Jvm.exec) (hb : c.code = cc) (hK : va_K (dC, dI) vwCl [(cI, .int), (cZ, .boolean)] s) (hO : rO dC dI h a cI cZ A H0 σ H locs) {i : Int32} (hi : vp_in i 16) (hdg : decode cc pc = .ok (.iaload, 1)) (kk : W p l e R s m args below meth c H locs cells slots QF (F0 m (pc + 1) ls (.int (σ.2 9 i.toNatClampNeg) :: rest))) : W p l e R s m args below meth c H locs cells slots QF (F0 m pc ls (.int i :: .ref (a 9) :: rest)) :=
  va_iald hx hb hK hO.1 7 0 rfl rfl hi hdg kk
set_option maxRecDepth 100000 in
theorem rs_flag (hx : p.tables.exec = Jvm.exec) (hb : c.code = cc) (hK : va_K (dC, dI) vwCl [(cI, .int), (cZ, .boolean)] s) (hO : rO dC dI h a cI cZ A H0 σ H locs) {i x : Int32} (hi : vp_in i 16) (hdg : decode cc pc = .ok (.iastore, 1)) (kk : ∀ (H1 : Heap) (locs1 : List Loc), rO dC dI h a cI cZ A H0 (rA σ 9 i x) H1 locs1 → W p l e R s m args below meth c H1 locs1 cells slots QF (F0 m (pc + 1) ls rest)) : W p l e R s m args below meth c H locs cells slots QF (F0 m pc ls (.int x :: .int i :: .ref (a 9) :: rest)) :=
  va_iast hx hb hK hO.1 hO.2.1 hO.2.2 7 0 rfl rfl hi hdg (fun H1 locs1 hP hD hS => kk H1 locs1 ⟨hP, hD, hS⟩)
set_option maxRecDepth 100000 in
theorem rf_self (X : CallFix p m c cc nL s args (cw :: wG) RX7) (hK : va_K (dC, dI) vwCl [(cI, .int), (cZ, .boolean)] s) (hO : rO dC dI h a cI cZ A H0 σ H locs) (hdg : decode cc pc = .ok (.getfield 31, 3)) (kk : W p l e R s m args below meth c H locs cells slots QF (F0 m (pc + 3) ls (.ref (a 10) :: rest))) : W p l e R s m args below meth c H locs cells slots QF (F0 m pc ls (.ref h :: rest)) :=
  va_get (D := (dC, dI)) (ci := 7) (v := .ref (a 10)) (C := RX7) (T := TX7) (N := 28) X.1 X.2.1 X.2.2.2.2 (fun w h => List.mem_cons_of_mem _ (wlX7 w h)) X.2.2.2.1 hK hO.1 0 rfl rfl 10 (by decide) (X.2.2.2.2 _ (List.mem_cons_of_mem _ fX7_self)) (fun _ h9 => h9) rfl hdg kk
set_option maxRecDepth 100000 in
theorem ra_self (hx : p.tables.exec = Jvm.exec) (hb : c.code = cc) (hK : va_K (dC, dI) vwCl [(cI, .int), (cZ, .boolean)] s) (hO : rO dC dI h a cI cZ A H0 σ H locs) {i : Int32} (hi : vp_in i 16) (hdg : decode cc pc = .ok (.iaload, 1)) (kk : W p l e R s m args below meth c H locs cells slots QF (F0 m (pc + 1) ls (.int (σ.2 10 i.toNatClampNeg) :: rest))) : W p l e R s m args below meth c H locs cells slots QF (F0 m pc ls (.int i :: .ref (a 10) :: rest)) :=
  va_iald hx hb hK hO.1 8 0 rfl rfl hi hdg kk
set_option maxRecDepth 100000 in
theorem rs_self (hx : p.tables.exec = Jvm.exec) (hb : c.code = cc) (hK : va_K (dC, dI) vwCl [(cI, .int), (cZ, .boolean)] s) (hO : rO dC dI h a cI cZ A H0 σ H locs) {i x : Int32} (hi : vp_in i 16) (hdg : decode cc pc = .ok (.iastore, 1)) (kk : ∀ (H1 : Heap) (locs1 : List Loc), rO dC dI h a cI cZ A H0 (rA σ 10 i x) H1 locs1 → W p l e R s m args below meth c H1 locs1 cells slots QF (F0 m (pc + 1) ls rest)) : W p l e R s m args below meth c H locs cells slots QF (F0 m pc ls (.int x :: .int i :: .ref (a 10) :: rest)) :=
  va_iast hx hb hK hO.1 hO.2.1 hO.2.2 8 0 rfl rfl hi hdg (fun H1 locs1 hP hD hS => kk H1 locs1 ⟨hP, hD, hS⟩)
set_option maxRecDepth 100000 in
theorem rf_above (X : CallFix p m c cc nL s args (cw :: wG) RX7) (hK : va_K (dC, dI) vwCl [(cI, .int), (cZ, .boolean)] s) (hO : rO dC dI h a cI cZ A H0 σ H locs) (hdg : decode cc pc = .ok (.getfield 34, 3)) (kk : W p l e R s m args below meth c H locs cells slots QF (F0 m (pc + 3) ls (.ref (a 11) :: rest))) : W p l e R s m args below meth c H locs cells slots QF (F0 m pc ls (.ref h :: rest)) :=
  va_get (D := (dC, dI)) (ci := 7) (v := .ref (a 11)) (C := RX7) (T := TX7) (N := 28) X.1 X.2.1 X.2.2.2.2 (fun w h => List.mem_cons_of_mem _ (wlX7 w h)) X.2.2.2.1 hK hO.1 0 rfl rfl 11 (by decide) (X.2.2.2.2 _ (List.mem_cons_of_mem _ fX7_above)) (fun _ h9 => h9) rfl hdg kk
set_option maxRecDepth 100000 in
theorem ra_above (hx : p.tables.exec = Jvm.exec) (hb : c.code = cc) (hK : va_K (dC, dI) vwCl [(cI, .int), (cZ, .boolean)] s) (hO : rO dC dI h a cI cZ A H0 σ H locs) {i : Int32} (hi : vp_in i 16) (hdg : decode cc pc = .ok (.iaload, 1)) (kk : W p l e R s m args below meth c H locs cells slots QF (F0 m (pc + 1) ls (.int (σ.2 11 i.toNatClampNeg) :: rest))) : W p l e R s m args below meth c H locs cells slots QF (F0 m pc ls (.int i :: .ref (a 11) :: rest)) :=
  va_iald hx hb hK hO.1 9 0 rfl rfl hi hdg kk
set_option maxRecDepth 100000 in
theorem rs_above (hx : p.tables.exec = Jvm.exec) (hb : c.code = cc) (hK : va_K (dC, dI) vwCl [(cI, .int), (cZ, .boolean)] s) (hO : rO dC dI h a cI cZ A H0 σ H locs) {i x : Int32} (hi : vp_in i 16) (hdg : decode cc pc = .ok (.iastore, 1)) (kk : ∀ (H1 : Heap) (locs1 : List Loc), rO dC dI h a cI cZ A H0 (rA σ 11 i x) H1 locs1 → W p l e R s m args below meth c H1 locs1 cells slots QF (F0 m (pc + 1) ls rest)) : W p l e R s m args below meth c H locs cells slots QF (F0 m pc ls (.int x :: .int i :: .ref (a 11) :: rest)) :=
  va_iast hx hb hK hO.1 hO.2.1 hO.2.2 9 0 rfl rfl hi hdg (fun H1 locs1 hP hD hS => kk H1 locs1 ⟨hP, hD, hS⟩)
set_option maxRecDepth 100000 in
theorem rf_box (X : CallFix p m c cc nL s args (cw :: wG) RX7) (hK : va_K (dC, dI) vwCl [(cI, .int), (cZ, .boolean)] s) (hO : rO dC dI h a cI cZ A H0 σ H locs) (hdg : decode cc pc = .ok (.getfield 37, 3)) (kk : W p l e R s m args below meth c H locs cells slots QF (F0 m (pc + 3) ls (.ref (a 12) :: rest))) : W p l e R s m args below meth c H locs cells slots QF (F0 m pc ls (.ref h :: rest)) :=
  va_get (D := (dC, dI)) (ci := 7) (v := .ref (a 12)) (C := RX7) (T := TX7) (N := 28) X.1 X.2.1 X.2.2.2.2 (fun w h => List.mem_cons_of_mem _ (wlX7 w h)) X.2.2.2.1 hK hO.1 0 rfl rfl 12 (by decide) (X.2.2.2.2 _ (List.mem_cons_of_mem _ fX7_box)) (fun _ h9 => h9) rfl hdg kk
set_option maxRecDepth 100000 in
theorem ra_box (hx : p.tables.exec = Jvm.exec) (hb : c.code = cc) (hK : va_K (dC, dI) vwCl [(cI, .int), (cZ, .boolean)] s) (hO : rO dC dI h a cI cZ A H0 σ H locs) {i : Int32} (hi : vp_in i 16) (hdg : decode cc pc = .ok (.iaload, 1)) (kk : W p l e R s m args below meth c H locs cells slots QF (F0 m (pc + 1) ls (.int (σ.2 12 i.toNatClampNeg) :: rest))) : W p l e R s m args below meth c H locs cells slots QF (F0 m pc ls (.int i :: .ref (a 12) :: rest)) :=
  va_iald hx hb hK hO.1 10 0 rfl rfl hi hdg kk
set_option maxRecDepth 100000 in
theorem rs_box (hx : p.tables.exec = Jvm.exec) (hb : c.code = cc) (hK : va_K (dC, dI) vwCl [(cI, .int), (cZ, .boolean)] s) (hO : rO dC dI h a cI cZ A H0 σ H locs) {i x : Int32} (hi : vp_in i 16) (hdg : decode cc pc = .ok (.iastore, 1)) (kk : ∀ (H1 : Heap) (locs1 : List Loc), rO dC dI h a cI cZ A H0 (rA σ 12 i x) H1 locs1 → W p l e R s m args below meth c H1 locs1 cells slots QF (F0 m (pc + 1) ls rest)) : W p l e R s m args below meth c H locs cells slots QF (F0 m pc ls (.int x :: .int i :: .ref (a 12) :: rest)) :=
  va_iast hx hb hK hO.1 hO.2.1 hO.2.2 10 0 rfl rfl hi hdg (fun H1 locs1 hP hD hS => kk H1 locs1 ⟨hP, hD, hS⟩)
set_option maxRecDepth 100000 in
theorem rf_faceCount (X : CallFix p m c cc nL s args (cw :: wG) RX7) (hK : va_K (dC, dI) vwCl [(cI, .int), (cZ, .boolean)] s) (hO : rO dC dI h a cI cZ A H0 σ H locs) (hdg : decode cc pc = .ok (.getfield 40, 3)) (kk : W p l e R s m args below meth c H locs cells slots QF (F0 m (pc + 3) ls (.ref (a 13) :: rest))) : W p l e R s m args below meth c H locs cells slots QF (F0 m pc ls (.ref h :: rest)) :=
  va_get (D := (dC, dI)) (ci := 7) (v := .ref (a 13)) (C := RX7) (T := TX7) (N := 28) X.1 X.2.1 X.2.2.2.2 (fun w h => List.mem_cons_of_mem _ (wlX7 w h)) X.2.2.2.1 hK hO.1 0 rfl rfl 13 (by decide) (X.2.2.2.2 _ (List.mem_cons_of_mem _ fX7_faceCount)) (fun _ h9 => h9) rfl hdg kk
set_option maxRecDepth 100000 in
theorem ra_faceCount (hx : p.tables.exec = Jvm.exec) (hb : c.code = cc) (hK : va_K (dC, dI) vwCl [(cI, .int), (cZ, .boolean)] s) (hO : rO dC dI h a cI cZ A H0 σ H locs) {i : Int32} (hi : vp_in i 16) (hdg : decode cc pc = .ok (.iaload, 1)) (kk : W p l e R s m args below meth c H locs cells slots QF (F0 m (pc + 1) ls (.int (σ.2 13 i.toNatClampNeg) :: rest))) : W p l e R s m args below meth c H locs cells slots QF (F0 m pc ls (.int i :: .ref (a 13) :: rest)) :=
  va_iald hx hb hK hO.1 11 0 rfl rfl hi hdg kk
set_option maxRecDepth 100000 in
theorem rs_faceCount (hx : p.tables.exec = Jvm.exec) (hb : c.code = cc) (hK : va_K (dC, dI) vwCl [(cI, .int), (cZ, .boolean)] s) (hO : rO dC dI h a cI cZ A H0 σ H locs) {i x : Int32} (hi : vp_in i 16) (hdg : decode cc pc = .ok (.iastore, 1)) (kk : ∀ (H1 : Heap) (locs1 : List Loc), rO dC dI h a cI cZ A H0 (rA σ 13 i x) H1 locs1 → W p l e R s m args below meth c H1 locs1 cells slots QF (F0 m (pc + 1) ls rest)) : W p l e R s m args below meth c H locs cells slots QF (F0 m pc ls (.int x :: .int i :: .ref (a 13) :: rest)) :=
  va_iast hx hb hK hO.1 hO.2.1 hO.2.2 11 0 rfl rfl hi hdg (fun H1 locs1 hP hD hS => kk H1 locs1 ⟨hP, hD, hS⟩)
set_option maxRecDepth 100000 in
theorem rf_face (X : CallFix p m c cc nL s args (cw :: wG) RX7) (hK : va_K (dC, dI) vwCl [(cI, .int), (cZ, .boolean)] s) (hO : rO dC dI h a cI cZ A H0 σ H locs) (hdg : decode cc pc = .ok (.getfield 43, 3)) (kk : W p l e R s m args below meth c H locs cells slots QF (F0 m (pc + 3) ls (.ref (a 14) :: rest))) : W p l e R s m args below meth c H locs cells slots QF (F0 m pc ls (.ref h :: rest)) :=
  va_get (D := (dC, dI)) (ci := 7) (v := .ref (a 14)) (C := RX7) (T := TX7) (N := 28) X.1 X.2.1 X.2.2.2.2 (fun w h => List.mem_cons_of_mem _ (wlX7 w h)) X.2.2.2.1 hK hO.1 0 rfl rfl 14 (by decide) (X.2.2.2.2 _ (List.mem_cons_of_mem _ fX7_face)) (fun _ h9 => h9) rfl hdg kk
set_option maxRecDepth 100000 in
theorem ra_face (hx : p.tables.exec = Jvm.exec) (hb : c.code = cc) (hK : va_K (dC, dI) vwCl [(cI, .int), (cZ, .boolean)] s) (hO : rO dC dI h a cI cZ A H0 σ H locs) {i : Int32} (hi : vp_in i 64) (hdg : decode cc pc = .ok (.iaload, 1)) (kk : W p l e R s m args below meth c H locs cells slots QF (F0 m (pc + 1) ls (.int (σ.2 14 i.toNatClampNeg) :: rest))) : W p l e R s m args below meth c H locs cells slots QF (F0 m pc ls (.int i :: .ref (a 14) :: rest)) :=
  va_iald hx hb hK hO.1 12 0 rfl rfl hi hdg kk
set_option maxRecDepth 100000 in
theorem rs_face (hx : p.tables.exec = Jvm.exec) (hb : c.code = cc) (hK : va_K (dC, dI) vwCl [(cI, .int), (cZ, .boolean)] s) (hO : rO dC dI h a cI cZ A H0 σ H locs) {i x : Int32} (hi : vp_in i 64) (hdg : decode cc pc = .ok (.iastore, 1)) (kk : ∀ (H1 : Heap) (locs1 : List Loc), rO dC dI h a cI cZ A H0 (rA σ 14 i x) H1 locs1 → W p l e R s m args below meth c H1 locs1 cells slots QF (F0 m (pc + 1) ls rest)) : W p l e R s m args below meth c H locs cells slots QF (F0 m pc ls (.int x :: .int i :: .ref (a 14) :: rest)) :=
  va_iast hx hb hK hO.1 hO.2.1 hO.2.2 12 0 rfl rfl hi hdg (fun H1 locs1 hP hD hS => kk H1 locs1 ⟨hP, hD, hS⟩)
set_option maxRecDepth 100000 in
theorem rf_noteCount (X : CallFix p m c cc nL s args (cw :: wG) RX7) (hK : va_K (dC, dI) vwCl [(cI, .int), (cZ, .boolean)] s) (hO : rO dC dI h a cI cZ A H0 σ H locs) (hdg : decode cc pc = .ok (.getfield 46, 3)) (kk : W p l e R s m args below meth c H locs cells slots QF (F0 m (pc + 3) ls (.ref (a 15) :: rest))) : W p l e R s m args below meth c H locs cells slots QF (F0 m pc ls (.ref h :: rest)) :=
  va_get (D := (dC, dI)) (ci := 7) (v := .ref (a 15)) (C := RX7) (T := TX7) (N := 28) X.1 X.2.1 X.2.2.2.2 (fun w h => List.mem_cons_of_mem _ (wlX7 w h)) X.2.2.2.1 hK hO.1 0 rfl rfl 15 (by decide) (X.2.2.2.2 _ (List.mem_cons_of_mem _ fX7_noteCount)) (fun _ h9 => h9) rfl hdg kk
set_option maxRecDepth 100000 in
theorem ra_noteCount (hx : p.tables.exec = Jvm.exec) (hb : c.code = cc) (hK : va_K (dC, dI) vwCl [(cI, .int), (cZ, .boolean)] s) (hO : rO dC dI h a cI cZ A H0 σ H locs) {i : Int32} (hi : vp_in i 16) (hdg : decode cc pc = .ok (.iaload, 1)) (kk : W p l e R s m args below meth c H locs cells slots QF (F0 m (pc + 1) ls (.int (σ.2 15 i.toNatClampNeg) :: rest))) : W p l e R s m args below meth c H locs cells slots QF (F0 m pc ls (.int i :: .ref (a 15) :: rest)) :=
  va_iald hx hb hK hO.1 13 0 rfl rfl hi hdg kk
set_option maxRecDepth 100000 in
theorem rs_noteCount (hx : p.tables.exec = Jvm.exec) (hb : c.code = cc) (hK : va_K (dC, dI) vwCl [(cI, .int), (cZ, .boolean)] s) (hO : rO dC dI h a cI cZ A H0 σ H locs) {i x : Int32} (hi : vp_in i 16) (hdg : decode cc pc = .ok (.iastore, 1)) (kk : ∀ (H1 : Heap) (locs1 : List Loc), rO dC dI h a cI cZ A H0 (rA σ 15 i x) H1 locs1 → W p l e R s m args below meth c H1 locs1 cells slots QF (F0 m (pc + 1) ls rest)) : W p l e R s m args below meth c H locs cells slots QF (F0 m pc ls (.int x :: .int i :: .ref (a 15) :: rest)) :=
  va_iast hx hb hK hO.1 hO.2.1 hO.2.2 13 0 rfl rfl hi hdg (fun H1 locs1 hP hD hS => kk H1 locs1 ⟨hP, hD, hS⟩)
set_option maxRecDepth 100000 in
theorem rf_note (X : CallFix p m c cc nL s args (cw :: wG) RX7) (hK : va_K (dC, dI) vwCl [(cI, .int), (cZ, .boolean)] s) (hO : rO dC dI h a cI cZ A H0 σ H locs) (hdg : decode cc pc = .ok (.getfield 49, 3)) (kk : W p l e R s m args below meth c H locs cells slots QF (F0 m (pc + 3) ls (.ref (a 16) :: rest))) : W p l e R s m args below meth c H locs cells slots QF (F0 m pc ls (.ref h :: rest)) :=
  va_get (D := (dC, dI)) (ci := 7) (v := .ref (a 16)) (C := RX7) (T := TX7) (N := 28) X.1 X.2.1 X.2.2.2.2 (fun w h => List.mem_cons_of_mem _ (wlX7 w h)) X.2.2.2.1 hK hO.1 0 rfl rfl 16 (by decide) (X.2.2.2.2 _ (List.mem_cons_of_mem _ fX7_note)) (fun _ h9 => h9) rfl hdg kk
set_option maxRecDepth 100000 in
theorem ra_note (hx : p.tables.exec = Jvm.exec) (hb : c.code = cc) (hK : va_K (dC, dI) vwCl [(cI, .int), (cZ, .boolean)] s) (hO : rO dC dI h a cI cZ A H0 σ H locs) {i : Int32} (hi : vp_in i 64) (hdg : decode cc pc = .ok (.iaload, 1)) (kk : W p l e R s m args below meth c H locs cells slots QF (F0 m (pc + 1) ls (.int (σ.2 16 i.toNatClampNeg) :: rest))) : W p l e R s m args below meth c H locs cells slots QF (F0 m pc ls (.int i :: .ref (a 16) :: rest)) :=
  va_iald hx hb hK hO.1 14 0 rfl rfl hi hdg kk
set_option maxRecDepth 100000 in
theorem rs_note (hx : p.tables.exec = Jvm.exec) (hb : c.code = cc) (hK : va_K (dC, dI) vwCl [(cI, .int), (cZ, .boolean)] s) (hO : rO dC dI h a cI cZ A H0 σ H locs) {i x : Int32} (hi : vp_in i 64) (hdg : decode cc pc = .ok (.iastore, 1)) (kk : ∀ (H1 : Heap) (locs1 : List Loc), rO dC dI h a cI cZ A H0 (rA σ 16 i x) H1 locs1 → W p l e R s m args below meth c H1 locs1 cells slots QF (F0 m (pc + 1) ls rest)) : W p l e R s m args below meth c H locs cells slots QF (F0 m pc ls (.int x :: .int i :: .ref (a 16) :: rest)) :=
  va_iast hx hb hK hO.1 hO.2.1 hO.2.2 14 0 rfl rfl hi hdg (fun H1 locs1 hP hD hS => kk H1 locs1 ⟨hP, hD, hS⟩)
set_option maxRecDepth 100000 in
theorem rf_rest (X : CallFix p m c cc nL s args (cw :: wG) RX7) (hK : va_K (dC, dI) vwCl [(cI, .int), (cZ, .boolean)] s) (hO : rO dC dI h a cI cZ A H0 σ H locs) (hdg : decode cc pc = .ok (.getfield 52, 3)) (kk : W p l e R s m args below meth c H locs cells slots QF (F0 m (pc + 3) ls (.ref (a 17) :: rest))) : W p l e R s m args below meth c H locs cells slots QF (F0 m pc ls (.ref h :: rest)) :=
  va_get (D := (dC, dI)) (ci := 7) (v := .ref (a 17)) (C := RX7) (T := TX7) (N := 28) X.1 X.2.1 X.2.2.2.2 (fun w h => List.mem_cons_of_mem _ (wlX7 w h)) X.2.2.2.1 hK hO.1 0 rfl rfl 17 (by decide) (X.2.2.2.2 _ (List.mem_cons_of_mem _ fX7_rest)) (fun _ h9 => h9) rfl hdg kk
set_option maxRecDepth 100000 in
theorem ra_rest (hx : p.tables.exec = Jvm.exec) (hb : c.code = cc) (hK : va_K (dC, dI) vwCl [(cI, .int), (cZ, .boolean)] s) (hO : rO dC dI h a cI cZ A H0 σ H locs) {i : Int32} (hi : vp_in i 16) (hdg : decode cc pc = .ok (.iaload, 1)) (kk : W p l e R s m args below meth c H locs cells slots QF (F0 m (pc + 1) ls (.int (σ.2 17 i.toNatClampNeg) :: rest))) : W p l e R s m args below meth c H locs cells slots QF (F0 m pc ls (.int i :: .ref (a 17) :: rest)) :=
  va_iald hx hb hK hO.1 15 0 rfl rfl hi hdg kk
set_option maxRecDepth 100000 in
theorem rs_rest (hx : p.tables.exec = Jvm.exec) (hb : c.code = cc) (hK : va_K (dC, dI) vwCl [(cI, .int), (cZ, .boolean)] s) (hO : rO dC dI h a cI cZ A H0 σ H locs) {i x : Int32} (hi : vp_in i 16) (hdg : decode cc pc = .ok (.iastore, 1)) (kk : ∀ (H1 : Heap) (locs1 : List Loc), rO dC dI h a cI cZ A H0 (rA σ 17 i x) H1 locs1 → W p l e R s m args below meth c H1 locs1 cells slots QF (F0 m (pc + 1) ls rest)) : W p l e R s m args below meth c H locs cells slots QF (F0 m pc ls (.int x :: .int i :: .ref (a 17) :: rest)) :=
  va_iast hx hb hK hO.1 hO.2.1 hO.2.2 15 0 rfl rfl hi hdg (fun H1 locs1 hP hD hS => kk H1 locs1 ⟨hP, hD, hS⟩)
set_option maxRecDepth 100000 in
theorem rf_now (X : CallFix p m c cc nL s args (cw :: wG) RX7) (hK : va_K (dC, dI) vwCl [(cI, .int), (cZ, .boolean)] s) (hO : rO dC dI h a cI cZ A H0 σ H locs) (hdg : decode cc pc = .ok (.getfield 95, 3)) (kk : W p l e R s m args below meth c H locs cells slots QF (F0 m (pc + 3) ls (.int (σ.1 18) :: rest))) : W p l e R s m args below meth c H locs cells slots QF (F0 m pc ls (.ref h :: rest)) :=
  va_get (D := (dC, dI)) (ci := 7) (v := .int (σ.1 18)) (C := RX7) (T := TX7) (N := 28) X.1 X.2.1 X.2.2.2.2 (fun w h => List.mem_cons_of_mem _ (wlX7 w h)) X.2.2.2.1 hK hO.1 0 rfl rfl 18 (by decide) (X.2.2.2.2 _ (List.mem_cons_of_mem _ fX7_now)) (fun _ h9 => h9) rfl hdg kk
set_option maxRecDepth 100000 in
theorem rp_now (X : CallFix p m c cc nL s args (cw :: wG) RX7) (hK : va_K (dC, dI) vwCl [(cI, .int), (cZ, .boolean)] s) (hO : rO dC dI h a cI cZ A H0 σ H locs) {x : Int32} (hdg : decode cc pc = .ok (.putfield 95, 3)) (kk : ∀ (H1 : Heap) (locs1 : List Loc), rO dC dI h a cI cZ A H0 (rI σ 18 x) H1 locs1 → W p l e R s m args below meth c H1 locs1 cells slots QF (F0 m (pc + 3) ls rest)) : W p l e R s m args below meth c H locs cells slots QF (F0 m pc ls (.int x :: .ref h :: rest)) :=
  va_put (D := (dC, dI)) (ci := 7) (v := .int x) (ty := .int) (C := RX7) (T := TX7) (N := 28) X.1 X.2.1 X.2.2.2.2 (fun w h => List.mem_cons_of_mem _ (wlX7 w h)) tyX7 tyX7_ok nmX7 X.2.2.2.1 hK hO.1 hO.2.1 hO.2.2 0 rfl rfl 18 (by decide) (X.2.2.2.2 _ (List.mem_cons_of_mem _ fX7_now)) (fun _ h9 => h9) rfl (by decide +kernel) rfl rfl (Nat.le_of_ble_eq_true rfl) hdg (fun H1 locs1 hP hD hS => kk H1 locs1 ⟨hP, hD, hS⟩)
set_option maxRecDepth 100000 in
theorem rf_base (X : CallFix p m c cc nL s args (cw :: wG) RX7) (hK : va_K (dC, dI) vwCl [(cI, .int), (cZ, .boolean)] s) (hO : rO dC dI h a cI cZ A H0 σ H locs) (hdg : decode cc pc = .ok (.getfield 85, 3)) (kk : W p l e R s m args below meth c H locs cells slots QF (F0 m (pc + 3) ls (.int (σ.1 19) :: rest))) : W p l e R s m args below meth c H locs cells slots QF (F0 m pc ls (.ref h :: rest)) :=
  va_get (D := (dC, dI)) (ci := 7) (v := .int (σ.1 19)) (C := RX7) (T := TX7) (N := 28) X.1 X.2.1 X.2.2.2.2 (fun w h => List.mem_cons_of_mem _ (wlX7 w h)) X.2.2.2.1 hK hO.1 0 rfl rfl 19 (by decide) (X.2.2.2.2 _ (List.mem_cons_of_mem _ fX7_base)) (fun _ h9 => h9) rfl hdg kk
set_option maxRecDepth 100000 in
theorem rp_base (X : CallFix p m c cc nL s args (cw :: wG) RX7) (hK : va_K (dC, dI) vwCl [(cI, .int), (cZ, .boolean)] s) (hO : rO dC dI h a cI cZ A H0 σ H locs) {x : Int32} (hdg : decode cc pc = .ok (.putfield 85, 3)) (kk : ∀ (H1 : Heap) (locs1 : List Loc), rO dC dI h a cI cZ A H0 (rI σ 19 x) H1 locs1 → W p l e R s m args below meth c H1 locs1 cells slots QF (F0 m (pc + 3) ls rest)) : W p l e R s m args below meth c H locs cells slots QF (F0 m pc ls (.int x :: .ref h :: rest)) :=
  va_put (D := (dC, dI)) (ci := 7) (v := .int x) (ty := .int) (C := RX7) (T := TX7) (N := 28) X.1 X.2.1 X.2.2.2.2 (fun w h => List.mem_cons_of_mem _ (wlX7 w h)) tyX7 tyX7_ok nmX7 X.2.2.2.1 hK hO.1 hO.2.1 hO.2.2 0 rfl rfl 19 (by decide) (X.2.2.2.2 _ (List.mem_cons_of_mem _ fX7_base)) (fun _ h9 => h9) rfl (by decide +kernel) rfl rfl (Nat.le_of_ble_eq_true rfl) hdg (fun H1 locs1 hP hD hS => kk H1 locs1 ⟨hP, hD, hS⟩)
set_option maxRecDepth 100000 in
theorem rf_end (X : CallFix p m c cc nL s args (cw :: wG) RX7) (hK : va_K (dC, dI) vwCl [(cI, .int), (cZ, .boolean)] s) (hO : rO dC dI h a cI cZ A H0 σ H locs) (hdg : decode cc pc = .ok (.getfield 78, 3)) (kk : W p l e R s m args below meth c H locs cells slots QF (F0 m (pc + 3) ls (.int (σ.1 20) :: rest))) : W p l e R s m args below meth c H locs cells slots QF (F0 m pc ls (.ref h :: rest)) :=
  va_get (D := (dC, dI)) (ci := 7) (v := .int (σ.1 20)) (C := RX7) (T := TX7) (N := 28) X.1 X.2.1 X.2.2.2.2 (fun w h => List.mem_cons_of_mem _ (wlX7 w h)) X.2.2.2.1 hK hO.1 0 rfl rfl 20 (by decide) (X.2.2.2.2 _ (List.mem_cons_of_mem _ fX7_end)) (fun _ h9 => h9) rfl hdg kk
set_option maxRecDepth 100000 in
theorem rp_end (X : CallFix p m c cc nL s args (cw :: wG) RX7) (hK : va_K (dC, dI) vwCl [(cI, .int), (cZ, .boolean)] s) (hO : rO dC dI h a cI cZ A H0 σ H locs) {x : Int32} (hdg : decode cc pc = .ok (.putfield 78, 3)) (kk : ∀ (H1 : Heap) (locs1 : List Loc), rO dC dI h a cI cZ A H0 (rI σ 20 x) H1 locs1 → W p l e R s m args below meth c H1 locs1 cells slots QF (F0 m (pc + 3) ls rest)) : W p l e R s m args below meth c H locs cells slots QF (F0 m pc ls (.int x :: .ref h :: rest)) :=
  va_put (D := (dC, dI)) (ci := 7) (v := .int x) (ty := .int) (C := RX7) (T := TX7) (N := 28) X.1 X.2.1 X.2.2.2.2 (fun w h => List.mem_cons_of_mem _ (wlX7 w h)) tyX7 tyX7_ok nmX7 X.2.2.2.1 hK hO.1 hO.2.1 hO.2.2 0 rfl rfl 20 (by decide) (X.2.2.2.2 _ (List.mem_cons_of_mem _ fX7_end)) (fun _ h9 => h9) rfl (by decide +kernel) rfl rfl (Nat.le_of_ble_eq_true rfl) hdg (fun H1 locs1 hP hD hS => kk H1 locs1 ⟨hP, hD, hS⟩)
set_option maxRecDepth 100000 in
theorem rf_at (X : CallFix p m c cc nL s args (cw :: wG) RX7) (hK : va_K (dC, dI) vwCl [(cI, .int), (cZ, .boolean)] s) (hO : rO dC dI h a cI cZ A H0 σ H locs) (hdg : decode cc pc = .ok (.getfield 75, 3)) (kk : W p l e R s m args below meth c H locs cells slots QF (F0 m (pc + 3) ls (.int (σ.1 21) :: rest))) : W p l e R s m args below meth c H locs cells slots QF (F0 m pc ls (.ref h :: rest)) :=
  va_get (D := (dC, dI)) (ci := 7) (v := .int (σ.1 21)) (C := RX7) (T := TX7) (N := 28) X.1 X.2.1 X.2.2.2.2 (fun w h => List.mem_cons_of_mem _ (wlX7 w h)) X.2.2.2.1 hK hO.1 0 rfl rfl 21 (by decide) (X.2.2.2.2 _ (List.mem_cons_of_mem _ fX7_at)) (fun _ h9 => h9) rfl hdg kk
set_option maxRecDepth 100000 in
theorem rp_at (X : CallFix p m c cc nL s args (cw :: wG) RX7) (hK : va_K (dC, dI) vwCl [(cI, .int), (cZ, .boolean)] s) (hO : rO dC dI h a cI cZ A H0 σ H locs) {x : Int32} (hdg : decode cc pc = .ok (.putfield 75, 3)) (kk : ∀ (H1 : Heap) (locs1 : List Loc), rO dC dI h a cI cZ A H0 (rI σ 21 x) H1 locs1 → W p l e R s m args below meth c H1 locs1 cells slots QF (F0 m (pc + 3) ls rest)) : W p l e R s m args below meth c H locs cells slots QF (F0 m pc ls (.int x :: .ref h :: rest)) :=
  va_put (D := (dC, dI)) (ci := 7) (v := .int x) (ty := .int) (C := RX7) (T := TX7) (N := 28) X.1 X.2.1 X.2.2.2.2 (fun w h => List.mem_cons_of_mem _ (wlX7 w h)) tyX7 tyX7_ok nmX7 X.2.2.2.1 hK hO.1 hO.2.1 hO.2.2 0 rfl rfl 21 (by decide) (X.2.2.2.2 _ (List.mem_cons_of_mem _ fX7_at)) (fun _ h9 => h9) rfl (by decide +kernel) rfl rfl (Nat.le_of_ble_eq_true rfl) hdg (fun H1 locs1 hP hD hS => kk H1 locs1 ⟨hP, hD, hS⟩)
set_option maxRecDepth 100000 in
theorem rf_constants (X : CallFix p m c cc nL s args (cw :: wG) RX7) (hK : va_K (dC, dI) vwCl [(cI, .int), (cZ, .boolean)] s) (hO : rO dC dI h a cI cZ A H0 σ H locs) (hdg : decode cc pc = .ok (.getfield 92, 3)) (kk : W p l e R s m args below meth c H locs cells slots QF (F0 m (pc + 3) ls (.int (σ.1 22) :: rest))) : W p l e R s m args below meth c H locs cells slots QF (F0 m pc ls (.ref h :: rest)) :=
  va_get (D := (dC, dI)) (ci := 7) (v := .int (σ.1 22)) (C := RX7) (T := TX7) (N := 28) X.1 X.2.1 X.2.2.2.2 (fun w h => List.mem_cons_of_mem _ (wlX7 w h)) X.2.2.2.1 hK hO.1 0 rfl rfl 22 (by decide) (X.2.2.2.2 _ (List.mem_cons_of_mem _ fX7_constants)) (fun _ h9 => h9) rfl hdg kk
set_option maxRecDepth 100000 in
theorem rp_constants (X : CallFix p m c cc nL s args (cw :: wG) RX7) (hK : va_K (dC, dI) vwCl [(cI, .int), (cZ, .boolean)] s) (hO : rO dC dI h a cI cZ A H0 σ H locs) {x : Int32} (hdg : decode cc pc = .ok (.putfield 92, 3)) (kk : ∀ (H1 : Heap) (locs1 : List Loc), rO dC dI h a cI cZ A H0 (rI σ 22 x) H1 locs1 → W p l e R s m args below meth c H1 locs1 cells slots QF (F0 m (pc + 3) ls rest)) : W p l e R s m args below meth c H locs cells slots QF (F0 m pc ls (.int x :: .ref h :: rest)) :=
  va_put (D := (dC, dI)) (ci := 7) (v := .int x) (ty := .int) (C := RX7) (T := TX7) (N := 28) X.1 X.2.1 X.2.2.2.2 (fun w h => List.mem_cons_of_mem _ (wlX7 w h)) tyX7 tyX7_ok nmX7 X.2.2.2.1 hK hO.1 hO.2.1 hO.2.2 0 rfl rfl 22 (by decide) (X.2.2.2.2 _ (List.mem_cons_of_mem _ fX7_constants)) (fun _ h9 => h9) rfl (by decide +kernel) rfl rfl (Nat.le_of_ble_eq_true rfl) hdg (fun H1 locs1 hP hD hS => kk H1 locs1 ⟨hP, hD, hS⟩)
set_option maxRecDepth 100000 in
theorem rf_reason (X : CallFix p m c cc nL s args (cw :: wG) RX7) (hK : va_K (dC, dI) vwCl [(cI, .int), (cZ, .boolean)] s) (hO : rO dC dI h a cI cZ A H0 σ H locs) (hdg : decode cc pc = .ok (.getfield 69, 3)) (kk : W p l e R s m args below meth c H locs cells slots QF (F0 m (pc + 3) ls (.int (σ.1 23) :: rest))) : W p l e R s m args below meth c H locs cells slots QF (F0 m pc ls (.ref h :: rest)) :=
  va_get (D := (dC, dI)) (ci := 7) (v := .int (σ.1 23)) (C := RX7) (T := TX7) (N := 28) X.1 X.2.1 X.2.2.2.2 (fun w h => List.mem_cons_of_mem _ (wlX7 w h)) X.2.2.2.1 hK hO.1 0 rfl rfl 23 (by decide) (X.2.2.2.2 _ (List.mem_cons_of_mem _ fX7_reason)) (fun _ h9 => h9) rfl hdg kk
set_option maxRecDepth 100000 in
theorem rp_reason (X : CallFix p m c cc nL s args (cw :: wG) RX7) (hK : va_K (dC, dI) vwCl [(cI, .int), (cZ, .boolean)] s) (hO : rO dC dI h a cI cZ A H0 σ H locs) {x : Int32} (hdg : decode cc pc = .ok (.putfield 69, 3)) (kk : ∀ (H1 : Heap) (locs1 : List Loc), rO dC dI h a cI cZ A H0 (rI σ 23 x) H1 locs1 → W p l e R s m args below meth c H1 locs1 cells slots QF (F0 m (pc + 3) ls rest)) : W p l e R s m args below meth c H locs cells slots QF (F0 m pc ls (.int x :: .ref h :: rest)) :=
  va_put (D := (dC, dI)) (ci := 7) (v := .int x) (ty := .int) (C := RX7) (T := TX7) (N := 28) X.1 X.2.1 X.2.2.2.2 (fun w h => List.mem_cons_of_mem _ (wlX7 w h)) tyX7 tyX7_ok nmX7 X.2.2.2.1 hK hO.1 hO.2.1 hO.2.2 0 rfl rfl 23 (by decide) (X.2.2.2.2 _ (List.mem_cons_of_mem _ fX7_reason)) (fun _ h9 => h9) rfl (by decide +kernel) rfl rfl (Nat.le_of_ble_eq_true rfl) hdg (fun H1 locs1 hP hD hS => kk H1 locs1 ⟨hP, hD, hS⟩)
set_option maxRecDepth 100000 in
theorem rf_spot (X : CallFix p m c cc nL s args (cw :: wG) RX7) (hK : va_K (dC, dI) vwCl [(cI, .int), (cZ, .boolean)] s) (hO : rO dC dI h a cI cZ A H0 σ H locs) (hdg : decode cc pc = .ok (.getfield 72, 3)) (kk : W p l e R s m args below meth c H locs cells slots QF (F0 m (pc + 3) ls (.int (σ.1 24) :: rest))) : W p l e R s m args below meth c H locs cells slots QF (F0 m pc ls (.ref h :: rest)) :=
  va_get (D := (dC, dI)) (ci := 7) (v := .int (σ.1 24)) (C := RX7) (T := TX7) (N := 28) X.1 X.2.1 X.2.2.2.2 (fun w h => List.mem_cons_of_mem _ (wlX7 w h)) X.2.2.2.1 hK hO.1 0 rfl rfl 24 (by decide) (X.2.2.2.2 _ (List.mem_cons_of_mem _ fX7_spot)) (fun _ h9 => h9) rfl hdg kk
set_option maxRecDepth 100000 in
theorem rp_spot (X : CallFix p m c cc nL s args (cw :: wG) RX7) (hK : va_K (dC, dI) vwCl [(cI, .int), (cZ, .boolean)] s) (hO : rO dC dI h a cI cZ A H0 σ H locs) {x : Int32} (hdg : decode cc pc = .ok (.putfield 72, 3)) (kk : ∀ (H1 : Heap) (locs1 : List Loc), rO dC dI h a cI cZ A H0 (rI σ 24 x) H1 locs1 → W p l e R s m args below meth c H1 locs1 cells slots QF (F0 m (pc + 3) ls rest)) : W p l e R s m args below meth c H locs cells slots QF (F0 m pc ls (.int x :: .ref h :: rest)) :=
  va_put (D := (dC, dI)) (ci := 7) (v := .int x) (ty := .int) (C := RX7) (T := TX7) (N := 28) X.1 X.2.1 X.2.2.2.2 (fun w h => List.mem_cons_of_mem _ (wlX7 w h)) tyX7 tyX7_ok nmX7 X.2.2.2.1 hK hO.1 hO.2.1 hO.2.2 0 rfl rfl 24 (by decide) (X.2.2.2.2 _ (List.mem_cons_of_mem _ fX7_spot)) (fun _ h9 => h9) rfl (by decide +kernel) rfl rfl (Nat.le_of_ble_eq_true rfl) hdg (fun H1 locs1 hP hD hS => kk H1 locs1 ⟨hP, hD, hS⟩)
set_option maxRecDepth 100000 in
theorem rf_left (X : CallFix p m c cc nL s args (cw :: wG) RX7) (hK : va_K (dC, dI) vwCl [(cI, .int), (cZ, .boolean)] s) (hO : rO dC dI h a cI cZ A H0 σ H locs) (hdg : decode cc pc = .ok (.getfield 55, 3)) (kk : W p l e R s m args below meth c H locs cells slots QF (F0 m (pc + 3) ls (.ref (a 25) :: rest))) : W p l e R s m args below meth c H locs cells slots QF (F0 m pc ls (.ref h :: rest)) :=
  va_get (D := (dC, dI)) (ci := 7) (v := .ref (a 25)) (C := RX7) (T := TX7) (N := 28) X.1 X.2.1 X.2.2.2.2 (fun w h => List.mem_cons_of_mem _ (wlX7 w h)) X.2.2.2.1 hK hO.1 0 rfl rfl 25 (by decide) (X.2.2.2.2 _ (List.mem_cons_of_mem _ fX7_left)) (fun _ h9 => h9) rfl hdg kk
set_option maxRecDepth 100000 in
theorem ra_left (hx : p.tables.exec = Jvm.exec) (hb : c.code = cc) (hK : va_K (dC, dI) vwCl [(cI, .int), (cZ, .boolean)] s) (hO : rO dC dI h a cI cZ A H0 σ H locs) {i : Int32} (hi : vp_in i 7) (hdg : decode cc pc = .ok (.iaload, 1)) (kk : W p l e R s m args below meth c H locs cells slots QF (F0 m (pc + 1) ls (.int (σ.2 25 i.toNatClampNeg) :: rest))) : W p l e R s m args below meth c H locs cells slots QF (F0 m pc ls (.int i :: .ref (a 25) :: rest)) :=
  va_iald hx hb hK hO.1 16 0 rfl rfl hi hdg kk
set_option maxRecDepth 100000 in
theorem rs_left (hx : p.tables.exec = Jvm.exec) (hb : c.code = cc) (hK : va_K (dC, dI) vwCl [(cI, .int), (cZ, .boolean)] s) (hO : rO dC dI h a cI cZ A H0 σ H locs) {i x : Int32} (hi : vp_in i 7) (hdg : decode cc pc = .ok (.iastore, 1)) (kk : ∀ (H1 : Heap) (locs1 : List Loc), rO dC dI h a cI cZ A H0 (rA σ 25 i x) H1 locs1 → W p l e R s m args below meth c H1 locs1 cells slots QF (F0 m (pc + 1) ls rest)) : W p l e R s m args below meth c H locs cells slots QF (F0 m pc ls (.int x :: .int i :: .ref (a 25) :: rest)) :=
  va_iast hx hb hK hO.1 hO.2.1 hO.2.2 16 0 rfl rfl hi hdg (fun H1 locs1 hP hD hS => kk H1 locs1 ⟨hP, hD, hS⟩)
set_option maxRecDepth 100000 in
theorem rf_named (X : CallFix p m c cc nL s args (cw :: wG) RX7) (hK : va_K (dC, dI) vwCl [(cI, .int), (cZ, .boolean)] s) (hO : rO dC dI h a cI cZ A H0 σ H locs) (hdg : decode cc pc = .ok (.getfield 58, 3)) (kk : W p l e R s m args below meth c H locs cells slots QF (F0 m (pc + 3) ls (.ref (a 26) :: rest))) : W p l e R s m args below meth c H locs cells slots QF (F0 m pc ls (.ref h :: rest)) :=
  va_get (D := (dC, dI)) (ci := 7) (v := .ref (a 26)) (C := RX7) (T := TX7) (N := 28) X.1 X.2.1 X.2.2.2.2 (fun w h => List.mem_cons_of_mem _ (wlX7 w h)) X.2.2.2.1 hK hO.1 0 rfl rfl 26 (by decide) (X.2.2.2.2 _ (List.mem_cons_of_mem _ fX7_named)) (fun _ h9 => h9) rfl hdg kk
set_option maxRecDepth 100000 in
theorem ra_named (hx : p.tables.exec = Jvm.exec) (hb : c.code = cc) (hK : va_K (dC, dI) vwCl [(cI, .int), (cZ, .boolean)] s) (hO : rO dC dI h a cI cZ A H0 σ H locs) {i : Int32} (hi : vp_in i 7) (hdg : decode cc pc = .ok (.baload, 1)) (kk : W p l e R s m args below meth c H locs cells slots QF (F0 m (pc + 1) ls (.int (σ.2 26 i.toNatClampNeg) :: rest))) : W p l e R s m args below meth c H locs cells slots QF (F0 m pc ls (.int i :: .ref (a 26) :: rest)) :=
  va_zald hx hb hK hO.1 17 1 rfl rfl hi hdg kk
set_option maxRecDepth 100000 in
theorem rs_named (hx : p.tables.exec = Jvm.exec) (hb : c.code = cc) (hK : va_K (dC, dI) vwCl [(cI, .int), (cZ, .boolean)] s) (hO : rO dC dI h a cI cZ A H0 σ H locs) {i x : Int32} (hi : vp_in i 7) (hdg : decode cc pc = .ok (.bastore, 1)) (kk : ∀ (H1 : Heap) (locs1 : List Loc), rO dC dI h a cI cZ A H0 (rA σ 26 i (vp_nar .boolean x)) H1 locs1 → W p l e R s m args below meth c H1 locs1 cells slots QF (F0 m (pc + 1) ls rest)) : W p l e R s m args below meth c H locs cells slots QF (F0 m pc ls (.int x :: .int i :: .ref (a 26) :: rest)) :=
  va_zast hx hb hK hO.1 hO.2.1 hO.2.2 17 1 rfl rfl hi hdg (fun H1 locs1 hP hD hS => kk H1 locs1 ⟨hP, hD, hS⟩)
set_option maxRecDepth 100000 in
theorem rf_marked (X : CallFix p m c cc nL s args (cw :: wG) RX7) (hK : va_K (dC, dI) vwCl [(cI, .int), (cZ, .boolean)] s) (hO : rO dC dI h a cI cZ A H0 σ H locs) (hdg : decode cc pc = .ok (.getfield 62, 3)) (kk : W p l e R s m args below meth c H locs cells slots QF (F0 m (pc + 3) ls (.ref (a 27) :: rest))) : W p l e R s m args below meth c H locs cells slots QF (F0 m pc ls (.ref h :: rest)) :=
  va_get (D := (dC, dI)) (ci := 7) (v := .ref (a 27)) (C := RX7) (T := TX7) (N := 28) X.1 X.2.1 X.2.2.2.2 (fun w h => List.mem_cons_of_mem _ (wlX7 w h)) X.2.2.2.1 hK hO.1 0 rfl rfl 27 (by decide) (X.2.2.2.2 _ (List.mem_cons_of_mem _ fX7_marked)) (fun _ h9 => h9) rfl hdg kk
set_option maxRecDepth 100000 in
theorem ra_marked (hx : p.tables.exec = Jvm.exec) (hb : c.code = cc) (hK : va_K (dC, dI) vwCl [(cI, .int), (cZ, .boolean)] s) (hO : rO dC dI h a cI cZ A H0 σ H locs) {i : Int32} (hi : vp_in i 192) (hdg : decode cc pc = .ok (.baload, 1)) (kk : W p l e R s m args below meth c H locs cells slots QF (F0 m (pc + 1) ls (.int (σ.2 27 i.toNatClampNeg) :: rest))) : W p l e R s m args below meth c H locs cells slots QF (F0 m pc ls (.int i :: .ref (a 27) :: rest)) :=
  va_zald hx hb hK hO.1 18 1 rfl rfl hi hdg kk
set_option maxRecDepth 100000 in
theorem rs_marked (hx : p.tables.exec = Jvm.exec) (hb : c.code = cc) (hK : va_K (dC, dI) vwCl [(cI, .int), (cZ, .boolean)] s) (hO : rO dC dI h a cI cZ A H0 σ H locs) {i x : Int32} (hi : vp_in i 192) (hdg : decode cc pc = .ok (.bastore, 1)) (kk : ∀ (H1 : Heap) (locs1 : List Loc), rO dC dI h a cI cZ A H0 (rA σ 27 i (vp_nar .boolean x)) H1 locs1 → W p l e R s m args below meth c H1 locs1 cells slots QF (F0 m (pc + 1) ls rest)) : W p l e R s m args below meth c H locs cells slots QF (F0 m pc ls (.int x :: .int i :: .ref (a 27) :: rest)) :=
  va_zast hx hb hK hO.1 hO.2.1 hO.2.2 18 1 rfl rfl hi hdg (fun H1 locs1 hP hD hS => kk H1 locs1 ⟨hP, hD, hS⟩)
set_option maxRecDepth 100000 in
theorem r_calli {As st0 : List Value} {y : MethodName} {ws : List Cond} {rm : Room} {index n maxL : Nat} {bytes : ByteArray} {ret : Option FieldType} {Q' : Int32 → rS → Prop} (X : CallFix p m c cc nL s args Ts RX7)
    (hM : Met l y ws rm (rPc dC dI h a cI cZ H.size σ (.ref h :: As)) (va_Qi Q' (rAt dC dI (va_A (rCells h a cI cZ σ) H.size) h a cI cZ) (va_A (rCells h a cI cZ σ) H.size)) 0 0 (va_A (rCells h a cI cZ σ) H.size))
    (cw : CallW R s args RX7 RX7 index y bytes maxL ret ws rm 0 0 n) (hK : va_K (dC, dI) vwCl [(cI, .int), (cZ, .boolean)] s) (hA : ∀ q, s.heap.size ≤ q → A q) (hO : rO dC dI h a cI cZ A s.heap σ H locs)
    (hn : As.length = n) (hls : ls.size = nL) (hst : st0 = As.reverse ++ .ref h :: rest) (hcat : (rest.map fun v => v.category).sum ≤ 8) (hdg : decode cc pc = .ok (.invokevirtual index, 3))
    (kk : ∀ (r : Int32) (σ' : rS) (H1 : Heap) (locs1 : List Loc), rO dC dI h a cI cZ A s.heap σ' H1 locs1 → Q' r σ' → W p l e R s m args below meth c H1 locs1 0 0 QF (F0 m (pc + 3) ls (.int r :: rest))) : W p l e R s m args below meth c H locs 0 0 QF (F0 m pc ls st0) := by
  have hFc := va_freeAll hO.2.1 hO.2.2 hA
  obtain ⟨cell, g1, g2, g3⟩ := va_recv hK hO.1 (ci := 7) (q0 := 0) rfl rfl
  refine va_calli (va_runV (rest := rest) X hM cw ⟨rPc_blind, ⟨cell, g1, g2, g3⟩, rPc_pre hK hO⟩ rfl hn hls hst (lv_room hcat) hdg ⟨Nat.zero_le _, Nat.zero_le _⟩) hO.2.2 (fun q _ h => hFc q h) hFc (fun r σ' t H1 locs1 ht hvm hq hB hz1 hk1 hS => ?_)
  obtain ⟨hP1, hK1, hD1⟩ := hB
  rw [ht] at hP1
  exact kk r σ' H1 locs1 ⟨hP1, hD1.weaken (fun _ q _ hq => hFc q.1 hq), hS⟩ hq
set_option maxRecDepth 100000 in
theorem r_calll {As st0 : List Value} {y : MethodName} {ws : List Cond} {rm : Room} {index n maxL : Nat} {bytes : ByteArray} {ret : Option FieldType} {Q' : Int64 → rS → Prop} (X : CallFix p m c cc nL s args Ts RX7)
    (hM : Met l y ws rm (rPc dC dI h a cI cZ H.size σ (.ref h :: As)) (va_Ql Q' (rAt dC dI (va_A (rCells h a cI cZ σ) H.size) h a cI cZ) (va_A (rCells h a cI cZ σ) H.size)) 0 0 (va_A (rCells h a cI cZ σ) H.size))
    (cw : CallW R s args RX7 RX7 index y bytes maxL ret ws rm 0 0 n) (hK : va_K (dC, dI) vwCl [(cI, .int), (cZ, .boolean)] s) (hA : ∀ q, s.heap.size ≤ q → A q) (hO : rO dC dI h a cI cZ A s.heap σ H locs)
    (hn : As.length = n) (hls : ls.size = nL) (hst : st0 = As.reverse ++ .ref h :: rest) (hcat : (rest.map fun v => v.category).sum ≤ 8) (hdg : decode cc pc = .ok (.invokevirtual index, 3))
    (kk : ∀ (r : Int64) (σ' : rS) (H1 : Heap) (locs1 : List Loc), rO dC dI h a cI cZ A s.heap σ' H1 locs1 → Q' r σ' → W p l e R s m args below meth c H1 locs1 0 0 QF (F0 m (pc + 3) ls (.long r :: rest))) : W p l e R s m args below meth c H locs 0 0 QF (F0 m pc ls st0) := by
  have hFc := va_freeAll hO.2.1 hO.2.2 hA
  obtain ⟨cell, g1, g2, g3⟩ := va_recv hK hO.1 (ci := 7) (q0 := 0) rfl rfl
  refine va_calll (va_runV (rest := rest) X hM cw ⟨rPc_blind, ⟨cell, g1, g2, g3⟩, rPc_pre hK hO⟩ rfl hn hls hst (lv_room hcat) hdg ⟨Nat.zero_le _, Nat.zero_le _⟩) hO.2.2 (fun q _ h => hFc q h) hFc (fun r σ' t H1 locs1 ht hvm hq hB hz1 hk1 hS => ?_)
  obtain ⟨hP1, hK1, hD1⟩ := hB
  rw [ht] at hP1
  exact kk r σ' H1 locs1 ⟨hP1, hD1.weaken (fun _ q _ hq => hFc q.1 hq), hS⟩ hq
set_option maxRecDepth 100000 in
theorem r_callv {As st0 : List Value} {y : MethodName} {ws : List Cond} {rm : Room} {index n maxL : Nat} {bytes : ByteArray} {ret : Option FieldType} {Q' : rS → Prop} (X : CallFix p m c cc nL s args Ts RX7)
    (hM : Met l y ws rm (rPc dC dI h a cI cZ H.size σ (.ref h :: As)) (va_Qv Q' (rAt dC dI (va_A (rCells h a cI cZ σ) H.size) h a cI cZ) (va_A (rCells h a cI cZ σ) H.size)) 0 0 (va_A (rCells h a cI cZ σ) H.size))
    (cw : CallW R s args RX7 RX7 index y bytes maxL ret ws rm 0 0 n) (hK : va_K (dC, dI) vwCl [(cI, .int), (cZ, .boolean)] s) (hA : ∀ q, s.heap.size ≤ q → A q) (hO : rO dC dI h a cI cZ A s.heap σ H locs)
    (hn : As.length = n) (hls : ls.size = nL) (hst : st0 = As.reverse ++ .ref h :: rest) (hcat : (rest.map fun v => v.category).sum ≤ 8) (hdg : decode cc pc = .ok (.invokevirtual index, 3))
    (kk : ∀ (σ' : rS) (H1 : Heap) (locs1 : List Loc), rO dC dI h a cI cZ A s.heap σ' H1 locs1 → Q' σ' → W p l e R s m args below meth c H1 locs1 0 0 QF (F0 m (pc + 3) ls (rest))) : W p l e R s m args below meth c H locs 0 0 QF (F0 m pc ls st0) := by
  have hFc := va_freeAll hO.2.1 hO.2.2 hA
  obtain ⟨cell, g1, g2, g3⟩ := va_recv hK hO.1 (ci := 7) (q0 := 0) rfl rfl
  refine va_callv (va_runV (rest := rest) X hM cw ⟨rPc_blind, ⟨cell, g1, g2, g3⟩, rPc_pre hK hO⟩ rfl hn hls hst (lv_room hcat) hdg ⟨Nat.zero_le _, Nat.zero_le _⟩) hO.2.2 (fun q _ h => hFc q h) hFc (fun σ' t H1 locs1 ht hvm hq hB hz1 hk1 hS => ?_)
  obtain ⟨hP1, hK1, hD1⟩ := hB
  rw [ht] at hP1
  exact kk σ' H1 locs1 ⟨hP1, hD1.weaken (fun _ q _ hq => hFc q.1 hq), hS⟩ hq
end
end
section
section
variable {p : Program} {l : Launch} {e : Env} {R : Room} {s : State} {m : MethodId} {args : Array Value} {below : List Frame} {meth : Method} {c : Code}
variable {dC : Nat → ClassId} {dI : Nat → Nat → Nat} {h : Nat} {a : Nat → Nat} {cI cZ : ClassId} {A : Nat → Prop}
def R_put_b22 (Q : Int32 → rS → Prop) (σ : rS) : Prop :=
 Q (0 : Int32) σ
set_option maxHeartbeats 4000000 in
set_option maxRecDepth 100000 in
theorem rB_put_22 {Q : Int32 → rS → Prop} (X : CallFix p m c cX7_put 5 s args wsX7_put RX7) (hr : meth.sig.returnType = (some .boolean)) (hlk : meth.locks = false) (hR : 0 ≤ R.frames ∧ 0 ≤ R.locals) (hK : va_K (dC, dI) vwCl [(cI, .int), (cZ, .boolean)] s) (hA : ∀ q, s.heap.size ≤ q → A q) (σ : rS) (H : Heap) (locs : List Loc) (ls : Array Slot) (hl : lv_has ls 5 [(0, .ref h)]) (hO : rO dC dI h a cI cZ A s.heap σ H locs) (hw : R_put_b22 Q σ) : W p l e R s m args below meth c H locs 0 0 (MQ below (va_Qi Q (rAt dC dI A h a cI cZ) A) args s 0 0 A) (F0 m 22 ls []) := by
  unfold R_put_b22 at hw
  refine lv_iconst (v := 0) X.1 X.2.1 dX7_put_22 (by decide) ?_
  exact W.zret (v := (0 : Int32)) X.1 X.2.1 hr rfl (fun t ht hW => ⟨⟨(0 : Int32), σ, rfl, hw, rO_end hO hK ht hW⟩, hO.2.2.F ht⟩) hO.2.2.2.2 dX7_put_23 hlk
def R_put_b29_s (Q : Int32 → rS → Prop) (K29 : Int64 → Int32 → rS → Prop) (x1 : Int64) (x4 : Int32) (σ : rS) : Prop :=
 (x4 < 0 → Q (1 : Int32) σ) ∧ (¬ x4 < 0 → vp_in (σ.1 1) 120 ∧ ∀ t54 : rS, t54 = rA σ 0 (σ.1 1) (((x1 >>> (((8 : Int32) * x4).toInt64 &&& 63)).toInt32) &&& (255 : Int32)) → ∀ t62 : rS, t62 = rI t54 1 ((t54.1 1) + (1 : Int32)) → ∀ v65 : Int32, v65 = x4 + (-1 : Int32) → K29 x1 v65 t62)
def R_put_b29_f (Q : Int32 → rS → Prop) : (Int64 × Int32 × rS → Prop) → Int64 × Int32 × rS → Prop :=
 fun K z => R_put_b29_s Q (fun x1 x4 σ => K (x1, x4, σ)) z.1 z.2.1 z.2.2
def R_put_b29 (Q : Int32 → rS → Prop) (x1 : Int64) (x4 : Int32) (σ : rS) : Prop := ∃ n, fx (R_put_b29_f Q ) n (x1, x4, σ)
set_option maxHeartbeats 4000000 in
set_option maxRecDepth 100000 in
theorem rB_put_29 {Q : Int32 → rS → Prop} (X : CallFix p m c cX7_put 5 s args wsX7_put RX7) (hr : meth.sig.returnType = (some .boolean)) (hlk : meth.locks = false) (hR : 0 ≤ R.frames ∧ 0 ≤ R.locals) (hK : va_K (dC, dI) vwCl [(cI, .int), (cZ, .boolean)] s) (hA : ∀ q, s.heap.size ≤ q → A q) : ∀ (n : Nat) (x1 : Int64) (x4 : Int32) (σ : rS) (H : Heap) (locs : List Loc) (ls : Array Slot), lv_has ls 5 [(0, .ref h), (1, .long x1), (4, .int x4)] → rO dC dI h a cI cZ A s.heap σ H locs → fx (R_put_b29_f Q ) n (x1, x4, σ) → W p l e R s m args below meth c H locs 0 0 (MQ below (va_Qi Q (rAt dC dI A h a cI cZ) A) args s 0 0 A) (F0 m 29 ls []) := by
  intro n
  induction n with
  | zero => intro x1 x4 σ H locs ls hl hO hw; exact False.elim hw
  | succ n k29 =>
    intro x1 x4 σ H locs ls hl hO hw
    have hw : R_put_b29_s Q (fun x1 x4 σ => fx (R_put_b29_f Q ) n (x1, x4, σ)) x1 x4 σ := hw
    unfold R_put_b29_s at hw
    refine lv_iload X.1 X.2.1 dX7_put_29 (lv_at hl 2 rfl) ?_
    refine lv_if_lt (tgt := 71) X.1 X.2.1 dX7_put_31 rfl (fun hc9 => ?_) (fun hc9 => ?_)
    · have hw := hw.1 hc9
      refine lv_iconst (v := 1) X.1 X.2.1 dX7_put_71 (by decide) ?_
      exact W.zret (v := (1 : Int32)) X.1 X.2.1 hr rfl (fun t ht hW => ⟨⟨(1 : Int32), σ, rfl, hw, rO_end hO hK ht hW⟩, hO.2.2.F ht⟩) hO.2.2.2.2 dX7_put_72 hlk
    · have hw := hw.2 hc9
      refine lv_aload_n X.1 X.2.1 dX7_put_34 rfl (lv_at hl 0 rfl) ?_
      refine rf_buffer X hK hO dX7_put_35 ?_
      refine lv_aload_n X.1 X.2.1 dX7_put_38 rfl (lv_at hl 0 rfl) ?_
      refine rf_held X hK hO dX7_put_39 ?_
      refine lv_lload_n X.1 X.2.1 dX7_put_42 rfl (lv_at hl 1 rfl) ?_
      refine lv_bipush (v := 8) X.1 X.2.1 dX7_put_43 (by decide) ?_
      refine lv_iload X.1 X.2.1 dX7_put_45 (lv_at hl 2 rfl) ?_
      refine lv_imul X.1 X.2.1 dX7_put_47 ?_
      refine lv_lshr X.1 X.2.1 dX7_put_48 rfl ?_
      refine lv_l2i X.1 X.2.1 dX7_put_49 rfl ?_
      refine lv_sipush (v := 255) X.1 X.2.1 dX7_put_50 (by decide) ?_
      refine lv_iand X.1 X.2.1 dX7_put_53 ?_
      obtain ⟨g54, hw⟩ := hw
      refine rs_buffer X.1 X.2.1 hK hO g54 dX7_put_54 (fun H locs hO => ?_)
      obtain ⟨t54, e54⟩ : ∃ z, z = rA σ 0 (σ.1 1) (((x1 >>> (((8 : Int32) * x4).toInt64 &&& 63)).toInt32) &&& (255 : Int32)) := ⟨_, rfl⟩
      have hw := hw t54 e54
      rw [← e54] at hO
      refine lv_aload_n X.1 X.2.1 dX7_put_55 rfl (lv_at hl 0 rfl) ?_
      refine lv_dup X.1 X.2.1 dX7_put_56 rfl ?_
      refine rf_held X hK hO dX7_put_57 ?_
      refine lv_iconst (v := 1) X.1 X.2.1 dX7_put_60 (by decide) ?_
      refine lv_iadd X.1 X.2.1 dX7_put_61 ?_
      refine rp_held X hK hO dX7_put_62 (fun H locs hO => ?_)
      obtain ⟨t62, e62⟩ : ∃ z, z = rI t54 1 ((t54.1 1) + (1 : Int32)) := ⟨_, rfl⟩
      have hw := hw t62 e62
      rw [← e62] at hO
      obtain ⟨v65, e65⟩ : ∃ z, z = x4 + (-1 : Int32) := ⟨_, rfl⟩
      have hw := hw v65 e65
      refine lv_iinc (lv' := [(4, .int v65), (0, .ref h), (1, .long x1)]) (k := 2) (v := v65) X.1 X.2.1 dX7_put_65 hl rfl (by rw [e65]; rfl) (by decide) rfl (fun ls hl => ?_)
      refine lv_goto (tgt := 29) X.1 X.2.1 dX7_put_68 rfl ?_
      exact k29 x1 v65 t62 H locs ls (lv_sub hl [1, 2, 0] rfl) hO hw
def R_put_b0 (Q : Int32 → rS → Prop) (x1 : Int64) (x3 : Int32) (σ : rS) : Prop :=
 (x3 < (1 : Int32) → R_put_b22 Q σ) ∧ (¬ x3 < (1 : Int32) → ((8 : Int32) < x3 → R_put_b22 Q σ) ∧ (¬ (8 : Int32) < x3 → (((σ.1 1) + x3) ≤ (120 : Int32) → ∀ v27 : Int32, v27 = (x3 - (1 : Int32)) → R_put_b29 Q x1 v27 σ) ∧ (¬ ((σ.1 1) + x3) ≤ (120 : Int32) → R_put_b22 Q σ)))
set_option maxHeartbeats 4000000 in
set_option maxRecDepth 100000 in
theorem rB_put_0 {Q : Int32 → rS → Prop} (X : CallFix p m c cX7_put 5 s args wsX7_put RX7) (hr : meth.sig.returnType = (some .boolean)) (hlk : meth.locks = false) (hR : 0 ≤ R.frames ∧ 0 ≤ R.locals) (hK : va_K (dC, dI) vwCl [(cI, .int), (cZ, .boolean)] s) (hA : ∀ q, s.heap.size ≤ q → A q) (x1 : Int64) (x3 : Int32) (σ : rS) (H : Heap) (locs : List Loc) (ls : Array Slot) (hl : lv_has ls 5 [(0, .ref h), (1, .long x1), (3, .int x3)]) (hO : rO dC dI h a cI cZ A s.heap σ H locs) (hw : R_put_b0 Q x1 x3 σ) : W p l e R s m args below meth c H locs 0 0 (MQ below (va_Qi Q (rAt dC dI A h a cI cZ) A) args s 0 0 A) (F0 m 0 ls []) := by
  unfold R_put_b0 at hw
  refine lv_iload_n X.1 X.2.1 dX7_put_0 rfl (lv_at hl 2 rfl) ?_
  refine lv_iconst (v := 1) X.1 X.2.1 dX7_put_1 (by decide) ?_
  refine lv_icmp_lt (tgt := 22) X.1 X.2.1 dX7_put_2 rfl (fun hc9 => ?_) (fun hc9 => ?_)
  · have hw := hw.1 hc9
    exact rB_put_22 X hr hlk hR hK hA σ H locs ls (lv_sub hl [0] rfl) hO hw
  · have hw := hw.2 hc9
    refine lv_iload_n X.1 X.2.1 dX7_put_5 rfl (lv_at hl 2 rfl) ?_
    refine lv_bipush (v := 8) X.1 X.2.1 dX7_put_6 (by decide) ?_
    refine lv_icmp_gt (tgt := 22) X.1 X.2.1 dX7_put_8 rfl (fun hc9 => ?_) (fun hc9 => ?_)
    · have hw := hw.1 hc9
      exact rB_put_22 X hr hlk hR hK hA σ H locs ls (lv_sub hl [0] rfl) hO hw
    · have hw := hw.2 hc9
      refine lv_aload_n X.1 X.2.1 dX7_put_11 rfl (lv_at hl 0 rfl) ?_
      refine rf_held X hK hO dX7_put_12 ?_
      refine lv_iload_n X.1 X.2.1 dX7_put_15 rfl (lv_at hl 2 rfl) ?_
      refine lv_iadd X.1 X.2.1 dX7_put_16 ?_
      refine lv_bipush (v := 120) X.1 X.2.1 dX7_put_17 (by decide) ?_
      refine lv_icmp_le (tgt := 24) X.1 X.2.1 dX7_put_19 rfl (fun hc9 => ?_) (fun hc9 => ?_)
      · have hw := hw.1 hc9
        refine lv_iload_n X.1 X.2.1 dX7_put_24 rfl (lv_at hl 2 rfl) ?_
        refine lv_iconst (v := 1) X.1 X.2.1 dX7_put_25 (by decide) ?_
        refine lv_isub X.1 X.2.1 dX7_put_26 ?_
        refine lv_topi (fun v27 e27 => ?_)
        have hw := hw v27 e27
        refine lv_istore (lv' := [(4, .int v27), (0, .ref h), (1, .long x1), (3, .int x3)]) X.1 X.2.1 dX7_put_27 hl (by decide) rfl (fun ls hl => ?_)
        obtain ⟨n, hw⟩ := hw
        exact rB_put_29 X hr hlk hR hK hA n x1 v27 σ H locs ls (lv_sub hl [1, 2, 0] rfl) hO hw
      · have hw := hw.2 hc9
        exact rB_put_22 X hr hlk hR hK hA σ H locs ls (lv_sub hl [0] rfl) hO hw
def R_put_w (Q : Int32 → rS → Prop) (x1 : Int64) (x3 : Int32) (σ : rS) : Prop := R_put_b0 Q x1 x3 σ
abbrev rmX7_put : Room := { frames := 0, cells := 0, slots := 0, locals := 0 }
set_option maxHeartbeats 4000000 in
set_option maxRecDepth 100000 in
theorem rC_put (l : Launch) (dC : Nat → ClassId) (dI : Nat → Nat → Nat) (h : Nat) (a : Nat → Nat) (cI cZ : ClassId) (σ : rS) (sz : Nat) (x1 : Int64) (x3 : Int32) (Q : Int32 → rS → Prop) (hw : R_put_w Q x1 x3 σ) : Met l yX7_put wsX7_put rmX7_put (rPc dC dI h a cI cZ sz σ [.ref h, .long x1, .int x3]) (va_Qi Q (rAt dC dI (va_A (rCells h a cI cZ σ) sz) h a cI cZ) (va_A (rCells h a cI cZ σ) sz)) 0 0 (va_A (rCells h a cI cZ σ) sz) := by
  refine Met.ofW (cc := cX7_put) (maxL := 5) (ret := (some .boolean)) (by decide) rfl ?_
  intro p e s m args below meth c s₁ B hml hv
  obtain ⟨hargs, hsz, hP, hK, hD0⟩ := hv
  have hts := atoms_spec (ws := wsX7_put) B.pre
  have hown : s.vm.findClass RX7 = some m.cls := findClass_of_methodNamed B.named
  subst hsz
  subst hargs
  have hD := hD0.self (sz := s.heap.size)
  generalize hAe : va_A (rCells h a cI cZ σ) s.heap.size = A at hD ⊢
  have hA : ∀ q : Nat, s.heap.size ≤ q → A q := fun q h => by rw [← hAe]; exact Or.inr h
  have hl := lv_entry ([.ref h, .long x1, .int x3]) (n := 5) (Nat.le_of_ble_eq_true rfl)
  rw [lg_entry_eq]
  generalize (lg_sl ([.ref h, .long x1, .int x3]) ++ List.replicate (5 - (lg_sl ([.ref h, .long x1, .int x3])).length) Slot.unset).toArray = ls at hl ⊢
  have hl : lv_has ls 5 [(0, .ref h), (1, .long x1), (3, .int x3)] := hl
  unfold R_put_w at hw
  exact rB_put_0 ⟨B.exec, B.bytes, hml, hown, hts⟩ B.returns B.notSynchronized ⟨Nat.le_of_ble_eq_true rfl, Nat.le_of_ble_eq_true rfl⟩ hK hA x1 x3 σ s.heap [] ls (lv_sub hl [0, 1, 2] rfl) ⟨hP, hD, va_S.rf⟩ hw
def R_drop_b0 (Q : rS → Prop) (σ : rS) : Prop :=
 ∀ t2 : rS, t2 = rI σ 1 (0 : Int32) → Q t2
set_option maxHeartbeats 4000000 in
set_option maxRecDepth 100000 in
theorem rB_drop_0 {Q : rS → Prop} (X : CallFix p m c cX7_drop 1 s args wsX7_drop RX7) (hr : meth.sig.returnType = none) (hlk : meth.locks = false) (hR : 0 ≤ R.frames ∧ 0 ≤ R.locals) (hK : va_K (dC, dI) vwCl [(cI, .int), (cZ, .boolean)] s) (hA : ∀ q, s.heap.size ≤ q → A q) (σ : rS) (H : Heap) (locs : List Loc) (ls : Array Slot) (hl : lv_has ls 1 [(0, .ref h)]) (hO : rO dC dI h a cI cZ A s.heap σ H locs) (hw : R_drop_b0 Q σ) : W p l e R s m args below meth c H locs 0 0 (MQ below (va_Qv Q (rAt dC dI A h a cI cZ) A) args s 0 0 A) (F0 m 0 ls []) := by
  unfold R_drop_b0 at hw
  refine lv_aload_n X.1 X.2.1 dX7_drop_0 rfl (lv_at hl 0 rfl) ?_
  refine lv_iconst (v := 0) X.1 X.2.1 dX7_drop_1 (by decide) ?_
  refine rp_held X hK hO dX7_drop_2 (fun H locs hO => ?_)
  obtain ⟨t2, e2⟩ : ∃ z, z = rI σ 1 (0 : Int32) := ⟨_, rfl⟩
  have hw := hw t2 e2
  rw [← e2] at hO
  exact W.vret X.1 X.2.1 hr (fun t ht hW => ⟨⟨t2, rfl, hw, rO_end hO hK ht hW⟩, hO.2.2.F ht⟩) hO.2.2.2.2 dX7_drop_5 hlk
def R_drop_w (Q : rS → Prop) (σ : rS) : Prop := R_drop_b0 Q σ
abbrev rmX7_drop : Room := { frames := 0, cells := 0, slots := 0, locals := 0 }
set_option maxHeartbeats 4000000 in
set_option maxRecDepth 100000 in
theorem rC_drop (l : Launch) (dC : Nat → ClassId) (dI : Nat → Nat → Nat) (h : Nat) (a : Nat → Nat) (cI cZ : ClassId) (σ : rS) (sz : Nat) (Q : rS → Prop) (hw : R_drop_w Q σ) : Met l yX7_drop wsX7_drop rmX7_drop (rPc dC dI h a cI cZ sz σ [.ref h]) (va_Qv Q (rAt dC dI (va_A (rCells h a cI cZ σ) sz) h a cI cZ) (va_A (rCells h a cI cZ σ) sz)) 0 0 (va_A (rCells h a cI cZ σ) sz) := by
  refine Met.ofW (cc := cX7_drop) (maxL := 1) (ret := none) (by decide) rfl ?_
  intro p e s m args below meth c s₁ B hml hv
  obtain ⟨hargs, hsz, hP, hK, hD0⟩ := hv
  have hts := atoms_spec (ws := wsX7_drop) B.pre
  have hown : s.vm.findClass RX7 = some m.cls := findClass_of_methodNamed B.named
  subst hsz
  subst hargs
  have hD := hD0.self (sz := s.heap.size)
  generalize hAe : va_A (rCells h a cI cZ σ) s.heap.size = A at hD ⊢
  have hA : ∀ q : Nat, s.heap.size ≤ q → A q := fun q h => by rw [← hAe]; exact Or.inr h
  have hl := lv_entry ([.ref h]) (n := 1) (Nat.le_of_ble_eq_true rfl)
  rw [lg_entry_eq]
  generalize (lg_sl ([.ref h]) ++ List.replicate (1 - (lg_sl ([.ref h])).length) Slot.unset).toArray = ls at hl ⊢
  have hl : lv_has ls 1 [(0, .ref h)] := hl
  unfold R_drop_w at hw
  exact rB_drop_0 ⟨B.exec, B.bytes, hml, hown, hts⟩ B.returns B.notSynchronized ⟨Nat.le_of_ble_eq_true rfl, Nat.le_of_ble_eq_true rfl⟩ hK hA σ s.heap [] ls (lv_sub hl [0] rfl) ⟨hP, hD, va_S.rf⟩ hw
def R_length_b0 (Q : Int32 → rS → Prop) (σ : rS) : Prop :=
 Q (σ.1 1) σ
set_option maxHeartbeats 4000000 in
set_option maxRecDepth 100000 in
theorem rB_length_0 {Q : Int32 → rS → Prop} (X : CallFix p m c cX7_length 1 s args wsX7_length RX7) (hr : meth.sig.returnType = (some .int)) (hlk : meth.locks = false) (hR : 0 ≤ R.frames ∧ 0 ≤ R.locals) (hK : va_K (dC, dI) vwCl [(cI, .int), (cZ, .boolean)] s) (hA : ∀ q, s.heap.size ≤ q → A q) (σ : rS) (H : Heap) (locs : List Loc) (ls : Array Slot) (hl : lv_has ls 1 [(0, .ref h)]) (hO : rO dC dI h a cI cZ A s.heap σ H locs) (hw : R_length_b0 Q σ) : W p l e R s m args below meth c H locs 0 0 (MQ below (va_Qi Q (rAt dC dI A h a cI cZ) A) args s 0 0 A) (F0 m 0 ls []) := by
  unfold R_length_b0 at hw
  refine lv_aload_n X.1 X.2.1 dX7_length_0 rfl (lv_at hl 0 rfl) ?_
  refine rf_held X hK hO dX7_length_1 ?_
  exact W.iret (v := (σ.1 1)) X.1 X.2.1 hr (fun t ht hW => ⟨⟨(σ.1 1), σ, rfl, hw, rO_end hO hK ht hW⟩, hO.2.2.F ht⟩) hO.2.2.2.2 dX7_length_4 hlk
def R_length_w (Q : Int32 → rS → Prop) (σ : rS) : Prop := R_length_b0 Q σ
abbrev rmX7_length : Room := { frames := 0, cells := 0, slots := 0, locals := 0 }
set_option maxHeartbeats 4000000 in
set_option maxRecDepth 100000 in
theorem rC_length (l : Launch) (dC : Nat → ClassId) (dI : Nat → Nat → Nat) (h : Nat) (a : Nat → Nat) (cI cZ : ClassId) (σ : rS) (sz : Nat) (Q : Int32 → rS → Prop) (hw : R_length_w Q σ) : Met l yX7_length wsX7_length rmX7_length (rPc dC dI h a cI cZ sz σ [.ref h]) (va_Qi Q (rAt dC dI (va_A (rCells h a cI cZ σ) sz) h a cI cZ) (va_A (rCells h a cI cZ σ) sz)) 0 0 (va_A (rCells h a cI cZ σ) sz) := by
  refine Met.ofW (cc := cX7_length) (maxL := 1) (ret := (some .int)) (by decide) rfl ?_
  intro p e s m args below meth c s₁ B hml hv
  obtain ⟨hargs, hsz, hP, hK, hD0⟩ := hv
  have hts := atoms_spec (ws := wsX7_length) B.pre
  have hown : s.vm.findClass RX7 = some m.cls := findClass_of_methodNamed B.named
  subst hsz
  subst hargs
  have hD := hD0.self (sz := s.heap.size)
  generalize hAe : va_A (rCells h a cI cZ σ) s.heap.size = A at hD ⊢
  have hA : ∀ q : Nat, s.heap.size ≤ q → A q := fun q h => by rw [← hAe]; exact Or.inr h
  have hl := lv_entry ([.ref h]) (n := 1) (Nat.le_of_ble_eq_true rfl)
  rw [lg_entry_eq]
  generalize (lg_sl ([.ref h]) ++ List.replicate (1 - (lg_sl ([.ref h])).length) Slot.unset).toArray = ls at hl ⊢
  have hl : lv_has ls 1 [(0, .ref h)] := hl
  unfold R_length_w at hw
  exact rB_length_0 ⟨B.exec, B.bytes, hml, hown, hts⟩ B.returns B.notSynchronized ⟨Nat.le_of_ble_eq_true rfl, Nat.le_of_ble_eq_true rfl⟩ hK hA σ s.heap [] ls (lv_sub hl [0] rfl) ⟨hP, hD, va_S.rf⟩ hw
def R_fail_b17 (Q : rS → Prop) (σ : rS) : Prop :=
 Q σ
set_option maxHeartbeats 4000000 in
set_option maxRecDepth 100000 in
theorem rB_fail_17 {Q : rS → Prop} (X : CallFix p m c cX7_fail 3 s args wsX7_fail RX7) (hr : meth.sig.returnType = none) (hlk : meth.locks = false) (hR : 0 ≤ R.frames ∧ 0 ≤ R.locals) (hK : va_K (dC, dI) vwCl [(cI, .int), (cZ, .boolean)] s) (hA : ∀ q, s.heap.size ≤ q → A q) (σ : rS) (H : Heap) (locs : List Loc) (ls : Array Slot) (hl : lv_has ls 3 [(0, .ref h)]) (hO : rO dC dI h a cI cZ A s.heap σ H locs) (hw : R_fail_b17 Q σ) : W p l e R s m args below meth c H locs 0 0 (MQ below (va_Qv Q (rAt dC dI A h a cI cZ) A) args s 0 0 A) (F0 m 17 ls []) := by
  unfold R_fail_b17 at hw
  exact W.vret X.1 X.2.1 hr (fun t ht hW => ⟨⟨σ, rfl, hw, rO_end hO hK ht hW⟩, hO.2.2.F ht⟩) hO.2.2.2.2 dX7_fail_17 hlk
def R_fail_b0 (Q : rS → Prop) (x1 : Int32) (x2 : Int32) (σ : rS) : Prop :=
 (¬ (σ.1 23) = 0 → R_fail_b17 Q σ) ∧ ((σ.1 23) = 0 → ∀ t9 : rS, t9 = rI σ 23 x1 → ∀ t14 : rS, t14 = rI t9 24 x2 → R_fail_b17 Q t14)
set_option maxHeartbeats 4000000 in
set_option maxRecDepth 100000 in
theorem rB_fail_0 {Q : rS → Prop} (X : CallFix p m c cX7_fail 3 s args wsX7_fail RX7) (hr : meth.sig.returnType = none) (hlk : meth.locks = false) (hR : 0 ≤ R.frames ∧ 0 ≤ R.locals) (hK : va_K (dC, dI) vwCl [(cI, .int), (cZ, .boolean)] s) (hA : ∀ q, s.heap.size ≤ q → A q) (x1 : Int32) (x2 : Int32) (σ : rS) (H : Heap) (locs : List Loc) (ls : Array Slot) (hl : lv_has ls 3 [(0, .ref h), (1, .int x1), (2, .int x2)]) (hO : rO dC dI h a cI cZ A s.heap σ H locs) (hw : R_fail_b0 Q x1 x2 σ) : W p l e R s m args below meth c H locs 0 0 (MQ below (va_Qv Q (rAt dC dI A h a cI cZ) A) args s 0 0 A) (F0 m 0 ls []) := by
  unfold R_fail_b0 at hw
  refine lv_aload_n X.1 X.2.1 dX7_fail_0 rfl (lv_at hl 0 rfl) ?_
  refine rf_reason X hK hO dX7_fail_1 ?_
  refine lv_if_ne (tgt := 17) X.1 X.2.1 dX7_fail_4 rfl (fun hc9 => ?_) (fun hc9 => ?_)
  · have hw := hw.1 hc9
    exact rB_fail_17 X hr hlk hR hK hA σ H locs ls (lv_sub hl [0] rfl) hO hw
  · have hw := hw.2 hc9
    refine lv_aload_n X.1 X.2.1 dX7_fail_7 rfl (lv_at hl 0 rfl) ?_
    refine lv_iload_n X.1 X.2.1 dX7_fail_8 rfl (lv_at hl 1 rfl) ?_
    refine rp_reason X hK hO dX7_fail_9 (fun H locs hO => ?_)
    obtain ⟨t9, e9⟩ : ∃ z, z = rI σ 23 x1 := ⟨_, rfl⟩
    have hw := hw t9 e9
    rw [← e9] at hO
    refine lv_aload_n X.1 X.2.1 dX7_fail_12 rfl (lv_at hl 0 rfl) ?_
    refine lv_iload_n X.1 X.2.1 dX7_fail_13 rfl (lv_at hl 2 rfl) ?_
    refine rp_spot X hK hO dX7_fail_14 (fun H locs hO => ?_)
    obtain ⟨t14, e14⟩ : ∃ z, z = rI t9 24 x2 := ⟨_, rfl⟩
    have hw := hw t14 e14
    rw [← e14] at hO
    exact rB_fail_17 X hr hlk hR hK hA t14 H locs ls (lv_sub hl [0] rfl) hO hw
def R_fail_w (Q : rS → Prop) (x1 : Int32) (x2 : Int32) (σ : rS) : Prop := R_fail_b0 Q x1 x2 σ
abbrev rmX7_fail : Room := { frames := 0, cells := 0, slots := 0, locals := 0 }
set_option maxHeartbeats 4000000 in
set_option maxRecDepth 100000 in
theorem rC_fail (l : Launch) (dC : Nat → ClassId) (dI : Nat → Nat → Nat) (h : Nat) (a : Nat → Nat) (cI cZ : ClassId) (σ : rS) (sz : Nat) (x1 : Int32) (x2 : Int32) (Q : rS → Prop) (hw : R_fail_w Q x1 x2 σ) : Met l yX7_fail wsX7_fail rmX7_fail (rPc dC dI h a cI cZ sz σ [.ref h, .int x1, .int x2]) (va_Qv Q (rAt dC dI (va_A (rCells h a cI cZ σ) sz) h a cI cZ) (va_A (rCells h a cI cZ σ) sz)) 0 0 (va_A (rCells h a cI cZ σ) sz) := by
  refine Met.ofW (cc := cX7_fail) (maxL := 3) (ret := none) (by decide) rfl ?_
  intro p e s m args below meth c s₁ B hml hv
  obtain ⟨hargs, hsz, hP, hK, hD0⟩ := hv
  have hts := atoms_spec (ws := wsX7_fail) B.pre
  have hown : s.vm.findClass RX7 = some m.cls := findClass_of_methodNamed B.named
  subst hsz
  subst hargs
  have hD := hD0.self (sz := s.heap.size)
  generalize hAe : va_A (rCells h a cI cZ σ) s.heap.size = A at hD ⊢
  have hA : ∀ q : Nat, s.heap.size ≤ q → A q := fun q h => by rw [← hAe]; exact Or.inr h
  have hl := lv_entry ([.ref h, .int x1, .int x2]) (n := 3) (Nat.le_of_ble_eq_true rfl)
  rw [lg_entry_eq]
  generalize (lg_sl ([.ref h, .int x1, .int x2]) ++ List.replicate (3 - (lg_sl ([.ref h, .int x1, .int x2])).length) Slot.unset).toArray = ls at hl ⊢
  have hl : lv_has ls 3 [(0, .ref h), (1, .int x1), (2, .int x2)] := hl
  unfold R_fail_w at hw
  exact rB_fail_0 ⟨B.exec, B.bytes, hml, hown, hts⟩ B.returns B.notSynchronized ⟨Nat.le_of_ble_eq_true rfl, Nat.le_of_ble_eq_true rfl⟩ hK hA x1 x2 σ s.heap [] ls (lv_sub hl [0, 1, 2] rfl) ⟨hP, hD, va_S.rf⟩ hw
def R_take_b0 (Q : Int32 → rS → Prop) (σ : rS) : Prop :=
 ((σ.1 23) = 0 → ((σ.1 21) < (σ.1 20) → vp_in ((σ.1 19) + (σ.1 21)) 1920 ∧ ∀ v45 : Int32, v45 = (σ.2 2 ((σ.1 19) + (σ.1 21)).toNatClampNeg) → ∀ t53 : rS, t53 = rI σ 21 ((σ.1 21) + (1 : Int32)) → Q v45 t53) ∧ (¬ (σ.1 21) < (σ.1 20) → R_fail_w (fun t26 => Q (0 : Int32) t26) (1 : Int32) (σ.1 20) σ)) ∧ (¬ (σ.1 23) = 0 → Q (0 : Int32) σ)
set_option maxHeartbeats 4000000 in
set_option maxRecDepth 100000 in
theorem rB_take_0 {Q : Int32 → rS → Prop} (X : CallFix p m c cX7_take 2 s args wsX7_take RX7) (hr : meth.sig.returnType = (some .int)) (hlk : meth.locks = false) (hR : 1 ≤ R.frames ∧ 22 ≤ R.locals) (hK : va_K (dC, dI) vwCl [(cI, .int), (cZ, .boolean)] s) (hA : ∀ q, s.heap.size ≤ q → A q) (σ : rS) (H : Heap) (locs : List Loc) (ls : Array Slot) (hl : lv_has ls 2 [(0, .ref h)]) (hO : rO dC dI h a cI cZ A s.heap σ H locs) (hw : R_take_b0 Q σ) : W p l e R s m args below meth c H locs 0 0 (MQ below (va_Qi Q (rAt dC dI A h a cI cZ) A) args s 0 0 A) (F0 m 0 ls []) := by
  unfold R_take_b0 at hw
  refine lv_aload_n X.1 X.2.1 dX7_take_0 rfl (lv_at hl 0 rfl) ?_
  refine rf_reason X hK hO dX7_take_1 ?_
  refine lv_if_eq (tgt := 9) X.1 X.2.1 dX7_take_4 rfl (fun hc9 => ?_) (fun hc9 => ?_)
  · have hw := hw.1 hc9
    refine lv_aload_n X.1 X.2.1 dX7_take_9 rfl (lv_at hl 0 rfl) ?_
    refine rf_at X hK hO dX7_take_10 ?_
    refine lv_aload_n X.1 X.2.1 dX7_take_13 rfl (lv_at hl 0 rfl) ?_
    refine rf_end X hK hO dX7_take_14 ?_
    refine lv_icmp_lt (tgt := 31) X.1 X.2.1 dX7_take_17 rfl (fun hc9 => ?_) (fun hc9 => ?_)
    · have hw := hw.1 hc9
      refine lv_aload_n X.1 X.2.1 dX7_take_31 rfl (lv_at hl 0 rfl) ?_
      refine rf_bytes X hK hO dX7_take_32 ?_
      refine lv_aload_n X.1 X.2.1 dX7_take_35 rfl (lv_at hl 0 rfl) ?_
      refine rf_base X hK hO dX7_take_36 ?_
      refine lv_aload_n X.1 X.2.1 dX7_take_39 rfl (lv_at hl 0 rfl) ?_
      refine rf_at X hK hO dX7_take_40 ?_
      refine lv_iadd X.1 X.2.1 dX7_take_43 ?_
      obtain ⟨g44, hw⟩ := hw
      refine ra_bytes X.1 X.2.1 hK hO g44 dX7_take_44 ?_
      refine lv_topi (fun v45 e45 => ?_)
      have hw := hw v45 e45
      refine lv_istore_n (lv' := [(1, .int v45), (0, .ref h)]) X.1 X.2.1 dX7_take_45 rfl hl (by decide) rfl (fun ls hl => ?_)
      refine lv_aload_n X.1 X.2.1 dX7_take_46 rfl (lv_at hl 1 rfl) ?_
      refine lv_dup X.1 X.2.1 dX7_take_47 rfl ?_
      refine rf_at X hK hO dX7_take_48 ?_
      refine lv_iconst (v := 1) X.1 X.2.1 dX7_take_51 (by decide) ?_
      refine lv_iadd X.1 X.2.1 dX7_take_52 ?_
      refine rp_at X hK hO dX7_take_53 (fun H locs hO => ?_)
      obtain ⟨t53, e53⟩ : ∃ z, z = rI σ 21 ((σ.1 21) + (1 : Int32)) := ⟨_, rfl⟩
      have hw := hw t53 e53
      rw [← e53] at hO
      refine lv_iload_n X.1 X.2.1 dX7_take_56 rfl (lv_at hl 0 rfl) ?_
      exact W.iret (v := v45) X.1 X.2.1 hr (fun t ht hW => ⟨⟨v45, t53, rfl, hw, rO_end hO hK ht hW⟩, hO.2.2.F ht⟩) hO.2.2.2.2 dX7_take_57 hlk
    · have hw := hw.2 hc9
      refine lv_aload_n X.1 X.2.1 dX7_take_20 rfl (lv_at hl 0 rfl) ?_
      refine lv_iconst (v := 1) X.1 X.2.1 dX7_take_21 (by decide) ?_
      refine lv_aload_n X.1 X.2.1 dX7_take_22 rfl (lv_at hl 0 rfl) ?_
      refine rf_end X hK hO dX7_take_23 ?_
      refine r_callv (rest := []) (As := [.int (1 : Int32), .int (σ.1 20)]) X (rC_fail l dC dI h a cI cZ σ H.size (1 : Int32) (σ.1 20) _ hw) (cwV 2 X.2.2.2.2 gX7_fail rfl rfl rfl hdX7_fail ⟨Nat.le_trans (by decide) hR.1, Nat.le_trans (by decide) hR.2⟩) hK hA hO rfl hl.1 rfl (Nat.le_of_ble_eq_true rfl) dX7_take_26 (fun t26 H locs hO hw => ?_)
      refine lv_iconst (v := 0) X.1 X.2.1 dX7_take_29 (by decide) ?_
      exact W.iret (v := (0 : Int32)) X.1 X.2.1 hr (fun t ht hW => ⟨⟨(0 : Int32), t26, rfl, hw, rO_end hO hK ht hW⟩, hO.2.2.F ht⟩) hO.2.2.2.2 dX7_take_30 hlk
  · have hw := hw.2 hc9
    refine lv_iconst (v := 0) X.1 X.2.1 dX7_take_7 (by decide) ?_
    exact W.iret (v := (0 : Int32)) X.1 X.2.1 hr (fun t ht hW => ⟨⟨(0 : Int32), σ, rfl, hw, rO_end hO hK ht hW⟩, hO.2.2.F ht⟩) hO.2.2.2.2 dX7_take_8 hlk
def R_take_w (Q : Int32 → rS → Prop) (σ : rS) : Prop := R_take_b0 Q σ
abbrev rmX7_take : Room := { frames := 1, cells := 0, slots := 0, locals := 22 }
set_option maxHeartbeats 4000000 in
set_option maxRecDepth 100000 in
theorem rC_take (l : Launch) (dC : Nat → ClassId) (dI : Nat → Nat → Nat) (h : Nat) (a : Nat → Nat) (cI cZ : ClassId) (σ : rS) (sz : Nat) (Q : Int32 → rS → Prop) (hw : R_take_w Q σ) : Met l yX7_take wsX7_take rmX7_take (rPc dC dI h a cI cZ sz σ [.ref h]) (va_Qi Q (rAt dC dI (va_A (rCells h a cI cZ σ) sz) h a cI cZ) (va_A (rCells h a cI cZ σ) sz)) 0 0 (va_A (rCells h a cI cZ σ) sz) := by
  refine Met.ofW (cc := cX7_take) (maxL := 2) (ret := (some .int)) (by decide) rfl ?_
  intro p e s m args below meth c s₁ B hml hv
  obtain ⟨hargs, hsz, hP, hK, hD0⟩ := hv
  have hts := atoms_spec (ws := wsX7_take) B.pre
  have hown : s.vm.findClass RX7 = some m.cls := findClass_of_methodNamed B.named
  subst hsz
  subst hargs
  have hD := hD0.self (sz := s.heap.size)
  generalize hAe : va_A (rCells h a cI cZ σ) s.heap.size = A at hD ⊢
  have hA : ∀ q : Nat, s.heap.size ≤ q → A q := fun q h => by rw [← hAe]; exact Or.inr h
  have hl := lv_entry ([.ref h]) (n := 2) (Nat.le_of_ble_eq_true rfl)
  rw [lg_entry_eq]
  generalize (lg_sl ([.ref h]) ++ List.replicate (2 - (lg_sl ([.ref h])).length) Slot.unset).toArray = ls at hl ⊢
  have hl : lv_has ls 2 [(0, .ref h)] := hl
  unfold R_take_w at hw
  exact rB_take_0 ⟨B.exec, B.bytes, hml, hown, hts⟩ B.returns B.notSynchronized ⟨Nat.le_of_ble_eq_true rfl, Nat.le_of_ble_eq_true rfl⟩ hK hA σ s.heap [] ls (lv_sub hl [0] rfl) ⟨hP, hD, va_S.rf⟩ hw
def R_many_b33 (Q : Int32 → rS → Prop) (y0 : Int32) (σ : rS) : Prop :=
 Q y0 σ
set_option maxHeartbeats 4000000 in
set_option maxRecDepth 100000 in
theorem rB_many_33 {Q : Int32 → rS → Prop} (X : CallFix p m c cX7_many 4 s args wsX7_many RX7) (hr : meth.sig.returnType = (some .int)) (hlk : meth.locks = false) (hR : 2 ≤ R.frames ∧ 43 ≤ R.locals) (hK : va_K (dC, dI) vwCl [(cI, .int), (cZ, .boolean)] s) (hA : ∀ q, s.heap.size ≤ q → A q) (y0 : Int32) (σ : rS) (H : Heap) (locs : List Loc) (ls : Array Slot) (hl : lv_has ls 4 [(0, .ref h)]) (hO : rO dC dI h a cI cZ A s.heap σ H locs) (hw : R_many_b33 Q y0 σ) : W p l e R s m args below meth c H locs 0 0 (MQ below (va_Qi Q (rAt dC dI A h a cI cZ) A) args s 0 0 A) (F0 m 33 ls [.int y0]) := by
  unfold R_many_b33 at hw
  exact W.iret (v := y0) X.1 X.2.1 hr (fun t ht hW => ⟨⟨y0, σ, rfl, hw, rO_end hO hK ht hW⟩, hO.2.2.F ht⟩) hO.2.2.2.2 dX7_many_33 hlk
def R_many_b21 (Q : Int32 → rS → Prop) (x3 : Int32) (σ : rS) : Prop :=
 (¬ (σ.1 23) = 0 → R_many_b33 Q (0 : Int32) σ) ∧ ((σ.1 23) = 0 → R_many_b33 Q x3 σ)
set_option maxHeartbeats 4000000 in
set_option maxRecDepth 100000 in
theorem rB_many_21 {Q : Int32 → rS → Prop} (X : CallFix p m c cX7_many 4 s args wsX7_many RX7) (hr : meth.sig.returnType = (some .int)) (hlk : meth.locks = false) (hR : 2 ≤ R.frames ∧ 43 ≤ R.locals) (hK : va_K (dC, dI) vwCl [(cI, .int), (cZ, .boolean)] s) (hA : ∀ q, s.heap.size ≤ q → A q) (x3 : Int32) (σ : rS) (H : Heap) (locs : List Loc) (ls : Array Slot) (hl : lv_has ls 4 [(0, .ref h), (3, .int x3)]) (hO : rO dC dI h a cI cZ A s.heap σ H locs) (hw : R_many_b21 Q x3 σ) : W p l e R s m args below meth c H locs 0 0 (MQ below (va_Qi Q (rAt dC dI A h a cI cZ) A) args s 0 0 A) (F0 m 21 ls []) := by
  unfold R_many_b21 at hw
  refine lv_aload_n X.1 X.2.1 dX7_many_21 rfl (lv_at hl 0 rfl) ?_
  refine rf_reason X hK hO dX7_many_22 ?_
  refine lv_if_ne (tgt := 32) X.1 X.2.1 dX7_many_25 rfl (fun hc9 => ?_) (fun hc9 => ?_)
  · have hw := hw.1 hc9
    refine lv_iconst (v := 0) X.1 X.2.1 dX7_many_32 (by decide) ?_
    exact rB_many_33 X hr hlk hR hK hA (0 : Int32) σ H locs ls (lv_sub hl [0] rfl) hO hw
  · have hw := hw.2 hc9
    refine lv_iload_n X.1 X.2.1 dX7_many_28 rfl (lv_at hl 1 rfl) ?_
    refine lv_goto (tgt := 33) X.1 X.2.1 dX7_many_29 rfl ?_
    exact rB_many_33 X hr hlk hR hK hA x3 σ H locs ls (lv_sub hl [0] rfl) hO hw
def R_many_b0 (Q : Int32 → rS → Prop) (x1 : Int32) (σ : rS) : Prop :=
 ∀ v4 : Int32, v4 = (σ.1 21) → R_take_w (fun r6 t6 => (r6 ≤ x1 → R_many_b21 Q r6 t6) ∧ (¬ r6 ≤ x1 → R_fail_w (fun t18 => R_many_b21 Q r6 t18) (4 : Int32) v4 t6)) σ
set_option maxHeartbeats 4000000 in
set_option maxRecDepth 100000 in
theorem rB_many_0 {Q : Int32 → rS → Prop} (X : CallFix p m c cX7_many 4 s args wsX7_many RX7) (hr : meth.sig.returnType = (some .int)) (hlk : meth.locks = false) (hR : 2 ≤ R.frames ∧ 43 ≤ R.locals) (hK : va_K (dC, dI) vwCl [(cI, .int), (cZ, .boolean)] s) (hA : ∀ q, s.heap.size ≤ q → A q) (x1 : Int32) (σ : rS) (H : Heap) (locs : List Loc) (ls : Array Slot) (hl : lv_has ls 4 [(0, .ref h), (1, .int x1)]) (hO : rO dC dI h a cI cZ A s.heap σ H locs) (hw : R_many_b0 Q x1 σ) : W p l e R s m args below meth c H locs 0 0 (MQ below (va_Qi Q (rAt dC dI A h a cI cZ) A) args s 0 0 A) (F0 m 0 ls []) := by
  unfold R_many_b0 at hw
  refine lv_aload_n X.1 X.2.1 dX7_many_0 rfl (lv_at hl 0 rfl) ?_
  refine rf_at X hK hO dX7_many_1 ?_
  refine lv_topi (fun v4 e4 => ?_)
  have hw := hw v4 e4
  refine lv_istore_n (lv' := [(2, .int v4), (0, .ref h), (1, .int x1)]) X.1 X.2.1 dX7_many_4 rfl hl (by decide) rfl (fun ls hl => ?_)
  refine lv_aload_n X.1 X.2.1 dX7_many_5 rfl (lv_at hl 1 rfl) ?_
  refine r_calli (rest := []) (As := []) X (rC_take l dC dI h a cI cZ σ H.size _ hw) (cwV 0 X.2.2.2.2 gX7_take rfl rfl rfl hdX7_take ⟨Nat.le_trans (by decide) hR.1, Nat.le_trans (by decide) hR.2⟩) hK hA hO rfl hl.1 rfl (Nat.le_of_ble_eq_true rfl) dX7_many_6 (fun r6 t6 H locs hO hw => ?_)
  refine lv_istore_n (lv' := [(3, .int r6), (2, .int v4), (0, .ref h), (1, .int x1)]) X.1 X.2.1 dX7_many_9 rfl hl (by decide) rfl (fun ls hl => ?_)
  refine lv_iload_n X.1 X.2.1 dX7_many_10 rfl (lv_at hl 0 rfl) ?_
  refine lv_iload_n X.1 X.2.1 dX7_many_11 rfl (lv_at hl 3 rfl) ?_
  refine lv_icmp_le (tgt := 21) X.1 X.2.1 dX7_many_12 rfl (fun hc9 => ?_) (fun hc9 => ?_)
  · have hw := hw.1 hc9
    exact rB_many_21 X hr hlk hR hK hA r6 t6 H locs ls (lv_sub hl [2, 0] rfl) hO hw
  · have hw := hw.2 hc9
    refine lv_aload_n X.1 X.2.1 dX7_many_15 rfl (lv_at hl 2 rfl) ?_
    refine lv_iconst (v := 4) X.1 X.2.1 dX7_many_16 (by decide) ?_
    refine lv_iload_n X.1 X.2.1 dX7_many_17 rfl (lv_at hl 1 rfl) ?_
    refine r_callv (rest := []) (As := [.int (4 : Int32), .int v4]) X (rC_fail l dC dI h a cI cZ t6 H.size (4 : Int32) v4 _ hw) (cwV 2 X.2.2.2.2 gX7_fail rfl rfl rfl hdX7_fail ⟨Nat.le_trans (by decide) hR.1, Nat.le_trans (by decide) hR.2⟩) hK hA hO rfl hl.1 rfl (Nat.le_of_ble_eq_true rfl) dX7_many_18 (fun t18 H locs hO hw => ?_)
    exact rB_many_21 X hr hlk hR hK hA r6 t18 H locs ls (lv_sub hl [2, 0] rfl) hO hw
def R_many_w (Q : Int32 → rS → Prop) (x1 : Int32) (σ : rS) : Prop := R_many_b0 Q x1 σ
abbrev rmX7_many : Room := { frames := 2, cells := 0, slots := 0, locals := 43 }
set_option maxHeartbeats 4000000 in
set_option maxRecDepth 100000 in
theorem rC_many (l : Launch) (dC : Nat → ClassId) (dI : Nat → Nat → Nat) (h : Nat) (a : Nat → Nat) (cI cZ : ClassId) (σ : rS) (sz : Nat) (x1 : Int32) (Q : Int32 → rS → Prop) (hw : R_many_w Q x1 σ) : Met l yX7_many wsX7_many rmX7_many (rPc dC dI h a cI cZ sz σ [.ref h, .int x1]) (va_Qi Q (rAt dC dI (va_A (rCells h a cI cZ σ) sz) h a cI cZ) (va_A (rCells h a cI cZ σ) sz)) 0 0 (va_A (rCells h a cI cZ σ) sz) := by
  refine Met.ofW (cc := cX7_many) (maxL := 4) (ret := (some .int)) (by decide) rfl ?_
  intro p e s m args below meth c s₁ B hml hv
  obtain ⟨hargs, hsz, hP, hK, hD0⟩ := hv
  have hts := atoms_spec (ws := wsX7_many) B.pre
  have hown : s.vm.findClass RX7 = some m.cls := findClass_of_methodNamed B.named
  subst hsz
  subst hargs
  have hD := hD0.self (sz := s.heap.size)
  generalize hAe : va_A (rCells h a cI cZ σ) s.heap.size = A at hD ⊢
  have hA : ∀ q : Nat, s.heap.size ≤ q → A q := fun q h => by rw [← hAe]; exact Or.inr h
  have hl := lv_entry ([.ref h, .int x1]) (n := 4) (Nat.le_of_ble_eq_true rfl)
  rw [lg_entry_eq]
  generalize (lg_sl ([.ref h, .int x1]) ++ List.replicate (4 - (lg_sl ([.ref h, .int x1])).length) Slot.unset).toArray = ls at hl ⊢
  have hl : lv_has ls 4 [(0, .ref h), (1, .int x1)] := hl
  unfold R_many_w at hw
  exact rB_many_0 ⟨B.exec, B.bytes, hml, hown, hts⟩ B.returns B.notSynchronized ⟨Nat.le_of_ble_eq_true rfl, Nat.le_of_ble_eq_true rfl⟩ hK hA x1 σ s.heap [] ls (lv_sub hl [0, 1] rfl) ⟨hP, hD, va_S.rf⟩ hw
def R_constant_b55 (Q : Int32 → rS → Prop) (x3 : Int32) (σ : rS) : Prop :=
 Q x3 σ
set_option maxHeartbeats 4000000 in
set_option maxRecDepth 100000 in
theorem rB_constant_55 {Q : Int32 → rS → Prop} (X : CallFix p m c cX7_constant 4 s args wsX7_constant RX7) (hr : meth.sig.returnType = (some .int)) (hlk : meth.locks = false) (hR : 2 ≤ R.frames ∧ 43 ≤ R.locals) (hK : va_K (dC, dI) vwCl [(cI, .int), (cZ, .boolean)] s) (hA : ∀ q, s.heap.size ≤ q → A q) (x3 : Int32) (σ : rS) (H : Heap) (locs : List Loc) (ls : Array Slot) (hl : lv_has ls 4 [(0, .ref h), (3, .int x3)]) (hO : rO dC dI h a cI cZ A s.heap σ H locs) (hw : R_constant_b55 Q x3 σ) : W p l e R s m args below meth c H locs 0 0 (MQ below (va_Qi Q (rAt dC dI A h a cI cZ) A) args s 0 0 A) (F0 m 55 ls []) := by
  unfold R_constant_b55 at hw
  refine lv_iload_n X.1 X.2.1 dX7_constant_55 rfl (lv_at hl 1 rfl) ?_
  exact W.iret (v := x3) X.1 X.2.1 hr (fun t ht hW => ⟨⟨x3, σ, rfl, hw, rO_end hO hK ht hW⟩, hO.2.2.F ht⟩) hO.2.2.2.2 dX7_constant_56 hlk
def R_constant_b48 (Q : Int32 → rS → Prop) (x2 : Int32) (x3 : Int32) (σ : rS) : Prop :=
 R_fail_w (fun t52 => R_constant_b55 Q x3 t52) (6 : Int32) x2 σ
set_option maxHeartbeats 4000000 in
set_option maxRecDepth 100000 in
theorem rB_constant_48 {Q : Int32 → rS → Prop} (X : CallFix p m c cX7_constant 4 s args wsX7_constant RX7) (hr : meth.sig.returnType = (some .int)) (hlk : meth.locks = false) (hR : 2 ≤ R.frames ∧ 43 ≤ R.locals) (hK : va_K (dC, dI) vwCl [(cI, .int), (cZ, .boolean)] s) (hA : ∀ q, s.heap.size ≤ q → A q) (x2 : Int32) (x3 : Int32) (σ : rS) (H : Heap) (locs : List Loc) (ls : Array Slot) (hl : lv_has ls 4 [(0, .ref h), (2, .int x2), (3, .int x3)]) (hO : rO dC dI h a cI cZ A s.heap σ H locs) (hw : R_constant_b48 Q x2 x3 σ) : W p l e R s m args below meth c H locs 0 0 (MQ below (va_Qi Q (rAt dC dI A h a cI cZ) A) args s 0 0 A) (F0 m 48 ls []) := by
  unfold R_constant_b48 at hw
  refine lv_aload_n X.1 X.2.1 dX7_constant_48 rfl (lv_at hl 0 rfl) ?_
  refine lv_bipush (v := 6) X.1 X.2.1 dX7_constant_49 (by decide) ?_
  refine lv_iload_n X.1 X.2.1 dX7_constant_51 rfl (lv_at hl 1 rfl) ?_
  refine r_callv (rest := []) (As := [.int (6 : Int32), .int x2]) X (rC_fail l dC dI h a cI cZ σ H.size (6 : Int32) x2 _ hw) (cwV 2 X.2.2.2.2 gX7_fail rfl rfl rfl hdX7_fail ⟨Nat.le_trans (by decide) hR.1, Nat.le_trans (by decide) hR.2⟩) hK hA hO rfl hl.1 rfl (Nat.le_of_ble_eq_true rfl) dX7_constant_52 (fun t52 H locs hO hw => ?_)
  exact rB_constant_55 X hr hlk hR hK hA x3 t52 H locs ls (lv_sub hl [0, 2] rfl) hO hw
def R_constant_b0 (Q : Int32 → rS → Prop) (x1 : Int32) (σ : rS) : Prop :=
 ∀ v4 : Int32, v4 = (σ.1 21) → R_take_w (fun r6 t6 => (¬ (t6.1 23) = 0 → R_constant_b55 Q r6 t6) ∧ ((t6.1 23) = 0 → (r6 < (1 : Int32) → R_constant_b48 Q v4 r6 t6) ∧ (¬ r6 < (1 : Int32) → ((t6.1 22) < r6 → R_constant_b48 Q v4 r6 t6) ∧ (¬ (t6.1 22) < r6 → vp_in (((13 : Int32) * (t6.1 18)) + r6) 208 ∧ ((t6.2 6 (((13 : Int32) * (t6.1 18)) + r6).toNatClampNeg) = x1 → R_constant_b55 Q r6 t6) ∧ (¬ (t6.2 6 (((13 : Int32) * (t6.1 18)) + r6).toNatClampNeg) = x1 → R_constant_b48 Q v4 r6 t6))))) σ
set_option maxHeartbeats 4000000 in
set_option maxRecDepth 100000 in
theorem rB_constant_0 {Q : Int32 → rS → Prop} (X : CallFix p m c cX7_constant 4 s args wsX7_constant RX7) (hr : meth.sig.returnType = (some .int)) (hlk : meth.locks = false) (hR : 2 ≤ R.frames ∧ 43 ≤ R.locals) (hK : va_K (dC, dI) vwCl [(cI, .int), (cZ, .boolean)] s) (hA : ∀ q, s.heap.size ≤ q → A q) (x1 : Int32) (σ : rS) (H : Heap) (locs : List Loc) (ls : Array Slot) (hl : lv_has ls 4 [(0, .ref h), (1, .int x1)]) (hO : rO dC dI h a cI cZ A s.heap σ H locs) (hw : R_constant_b0 Q x1 σ) : W p l e R s m args below meth c H locs 0 0 (MQ below (va_Qi Q (rAt dC dI A h a cI cZ) A) args s 0 0 A) (F0 m 0 ls []) := by
  unfold R_constant_b0 at hw
  refine lv_aload_n X.1 X.2.1 dX7_constant_0 rfl (lv_at hl 0 rfl) ?_
  refine rf_at X hK hO dX7_constant_1 ?_
  refine lv_topi (fun v4 e4 => ?_)
  have hw := hw v4 e4
  refine lv_istore_n (lv' := [(2, .int v4), (0, .ref h), (1, .int x1)]) X.1 X.2.1 dX7_constant_4 rfl hl (by decide) rfl (fun ls hl => ?_)
  refine lv_aload_n X.1 X.2.1 dX7_constant_5 rfl (lv_at hl 1 rfl) ?_
  refine r_calli (rest := []) (As := []) X (rC_take l dC dI h a cI cZ σ H.size _ hw) (cwV 0 X.2.2.2.2 gX7_take rfl rfl rfl hdX7_take ⟨Nat.le_trans (by decide) hR.1, Nat.le_trans (by decide) hR.2⟩) hK hA hO rfl hl.1 rfl (Nat.le_of_ble_eq_true rfl) dX7_constant_6 (fun r6 t6 H locs hO hw => ?_)
  refine lv_istore_n (lv' := [(3, .int r6), (2, .int v4), (0, .ref h), (1, .int x1)]) X.1 X.2.1 dX7_constant_9 rfl hl (by decide) rfl (fun ls hl => ?_)
  refine lv_aload_n X.1 X.2.1 dX7_constant_10 rfl (lv_at hl 2 rfl) ?_
  refine rf_reason X hK hO dX7_constant_11 ?_
  refine lv_if_ne (tgt := 55) X.1 X.2.1 dX7_constant_14 rfl (fun hc9 => ?_) (fun hc9 => ?_)
  · have hw := hw.1 hc9
    exact rB_constant_55 X hr hlk hR hK hA r6 t6 H locs ls (lv_sub hl [2, 0] rfl) hO hw
  · have hw := hw.2 hc9
    refine lv_iload_n X.1 X.2.1 dX7_constant_17 rfl (lv_at hl 0 rfl) ?_
    refine lv_iconst (v := 1) X.1 X.2.1 dX7_constant_18 (by decide) ?_
    refine lv_icmp_lt (tgt := 48) X.1 X.2.1 dX7_constant_19 rfl (fun hc9 => ?_) (fun hc9 => ?_)
    · have hw := hw.1 hc9
      exact rB_constant_48 X hr hlk hR hK hA v4 r6 t6 H locs ls (lv_sub hl [2, 1, 0] rfl) hO hw
    · have hw := hw.2 hc9
      refine lv_iload_n X.1 X.2.1 dX7_constant_22 rfl (lv_at hl 0 rfl) ?_
      refine lv_aload_n X.1 X.2.1 dX7_constant_23 rfl (lv_at hl 2 rfl) ?_
      refine rf_constants X hK hO dX7_constant_24 ?_
      refine lv_icmp_gt (tgt := 48) X.1 X.2.1 dX7_constant_27 rfl (fun hc9 => ?_) (fun hc9 => ?_)
      · have hw := hw.1 hc9
        exact rB_constant_48 X hr hlk hR hK hA v4 r6 t6 H locs ls (lv_sub hl [2, 1, 0] rfl) hO hw
      · have hw := hw.2 hc9
        refine lv_aload_n X.1 X.2.1 dX7_constant_30 rfl (lv_at hl 2 rfl) ?_
        refine rf_sort X hK hO dX7_constant_31 ?_
        refine lv_bipush (v := 13) X.1 X.2.1 dX7_constant_34 (by decide) ?_
        refine lv_aload_n X.1 X.2.1 dX7_constant_36 rfl (lv_at hl 2 rfl) ?_
        refine rf_now X hK hO dX7_constant_37 ?_
        refine lv_imul X.1 X.2.1 dX7_constant_40 ?_
        refine lv_iload_n X.1 X.2.1 dX7_constant_41 rfl (lv_at hl 0 rfl) ?_
        refine lv_iadd X.1 X.2.1 dX7_constant_42 ?_
        obtain ⟨g43, hw⟩ := hw
        refine ra_sort X.1 X.2.1 hK hO g43 dX7_constant_43 ?_
        refine lv_iload_n X.1 X.2.1 dX7_constant_44 rfl (lv_at hl 3 rfl) ?_
        refine lv_icmp_eq (tgt := 55) X.1 X.2.1 dX7_constant_45 rfl (fun hc9 => ?_) (fun hc9 => ?_)
        · have hw := hw.1 hc9
          exact rB_constant_55 X hr hlk hR hK hA r6 t6 H locs ls (lv_sub hl [2, 0] rfl) hO hw
        · have hw := hw.2 hc9
          exact rB_constant_48 X hr hlk hR hK hA v4 r6 t6 H locs ls (lv_sub hl [2, 1, 0] rfl) hO hw
def R_constant_w (Q : Int32 → rS → Prop) (x1 : Int32) (σ : rS) : Prop := R_constant_b0 Q x1 σ
abbrev rmX7_constant : Room := { frames := 2, cells := 0, slots := 0, locals := 43 }
set_option maxHeartbeats 4000000 in
set_option maxRecDepth 100000 in
theorem rC_constant (l : Launch) (dC : Nat → ClassId) (dI : Nat → Nat → Nat) (h : Nat) (a : Nat → Nat) (cI cZ : ClassId) (σ : rS) (sz : Nat) (x1 : Int32) (Q : Int32 → rS → Prop) (hw : R_constant_w Q x1 σ) : Met l yX7_constant wsX7_constant rmX7_constant (rPc dC dI h a cI cZ sz σ [.ref h, .int x1]) (va_Qi Q (rAt dC dI (va_A (rCells h a cI cZ σ) sz) h a cI cZ) (va_A (rCells h a cI cZ σ) sz)) 0 0 (va_A (rCells h a cI cZ σ) sz) := by
  refine Met.ofW (cc := cX7_constant) (maxL := 4) (ret := (some .int)) (by decide) rfl ?_
  intro p e s m args below meth c s₁ B hml hv
  obtain ⟨hargs, hsz, hP, hK, hD0⟩ := hv
  have hts := atoms_spec (ws := wsX7_constant) B.pre
  have hown : s.vm.findClass RX7 = some m.cls := findClass_of_methodNamed B.named
  subst hsz
  subst hargs
  have hD := hD0.self (sz := s.heap.size)
  generalize hAe : va_A (rCells h a cI cZ σ) s.heap.size = A at hD ⊢
  have hA : ∀ q : Nat, s.heap.size ≤ q → A q := fun q h => by rw [← hAe]; exact Or.inr h
  have hl := lv_entry ([.ref h, .int x1]) (n := 4) (Nat.le_of_ble_eq_true rfl)
  rw [lg_entry_eq]
  generalize (lg_sl ([.ref h, .int x1]) ++ List.replicate (4 - (lg_sl ([.ref h, .int x1])).length) Slot.unset).toArray = ls at hl ⊢
  have hl : lv_has ls 4 [(0, .ref h), (1, .int x1)] := hl
  unfold R_constant_w at hw
  exact rB_constant_0 ⟨B.exec, B.bytes, hml, hown, hts⟩ B.returns B.notSynchronized ⟨Nat.le_of_ble_eq_true rfl, Nat.le_of_ble_eq_true rfl⟩ hK hA x1 σ s.heap [] ls (lv_sub hl [0, 1] rfl) ⟨hP, hD, va_S.rf⟩ hw
def R_classOrNone_b55 (Q : Int32 → rS → Prop) (x2 : Int32) (σ : rS) : Prop :=
 Q x2 σ
set_option maxHeartbeats 4000000 in
set_option maxRecDepth 100000 in
theorem rB_classOrNone_55 {Q : Int32 → rS → Prop} (X : CallFix p m c cX7_classOrNone 3 s args wsX7_classOrNone RX7) (hr : meth.sig.returnType = (some .int)) (hlk : meth.locks = false) (hR : 2 ≤ R.frames ∧ 43 ≤ R.locals) (hK : va_K (dC, dI) vwCl [(cI, .int), (cZ, .boolean)] s) (hA : ∀ q, s.heap.size ≤ q → A q) (x2 : Int32) (σ : rS) (H : Heap) (locs : List Loc) (ls : Array Slot) (hl : lv_has ls 3 [(0, .ref h), (2, .int x2)]) (hO : rO dC dI h a cI cZ A s.heap σ H locs) (hw : R_classOrNone_b55 Q x2 σ) : W p l e R s m args below meth c H locs 0 0 (MQ below (va_Qi Q (rAt dC dI A h a cI cZ) A) args s 0 0 A) (F0 m 55 ls []) := by
  unfold R_classOrNone_b55 at hw
  refine lv_iload_n X.1 X.2.1 dX7_classOrNone_55 rfl (lv_at hl 1 rfl) ?_
  exact W.iret (v := x2) X.1 X.2.1 hr (fun t ht hW => ⟨⟨x2, σ, rfl, hw, rO_end hO hK ht hW⟩, hO.2.2.F ht⟩) hO.2.2.2.2 dX7_classOrNone_56 hlk
def R_classOrNone_b48 (Q : Int32 → rS → Prop) (x1 : Int32) (x2 : Int32) (σ : rS) : Prop :=
 R_fail_w (fun t52 => R_classOrNone_b55 Q x2 t52) (6 : Int32) x1 σ
set_option maxHeartbeats 4000000 in
set_option maxRecDepth 100000 in
theorem rB_classOrNone_48 {Q : Int32 → rS → Prop} (X : CallFix p m c cX7_classOrNone 3 s args wsX7_classOrNone RX7) (hr : meth.sig.returnType = (some .int)) (hlk : meth.locks = false) (hR : 2 ≤ R.frames ∧ 43 ≤ R.locals) (hK : va_K (dC, dI) vwCl [(cI, .int), (cZ, .boolean)] s) (hA : ∀ q, s.heap.size ≤ q → A q) (x1 : Int32) (x2 : Int32) (σ : rS) (H : Heap) (locs : List Loc) (ls : Array Slot) (hl : lv_has ls 3 [(0, .ref h), (1, .int x1), (2, .int x2)]) (hO : rO dC dI h a cI cZ A s.heap σ H locs) (hw : R_classOrNone_b48 Q x1 x2 σ) : W p l e R s m args below meth c H locs 0 0 (MQ below (va_Qi Q (rAt dC dI A h a cI cZ) A) args s 0 0 A) (F0 m 48 ls []) := by
  unfold R_classOrNone_b48 at hw
  refine lv_aload_n X.1 X.2.1 dX7_classOrNone_48 rfl (lv_at hl 0 rfl) ?_
  refine lv_bipush (v := 6) X.1 X.2.1 dX7_classOrNone_49 (by decide) ?_
  refine lv_iload_n X.1 X.2.1 dX7_classOrNone_51 rfl (lv_at hl 1 rfl) ?_
  refine r_callv (rest := []) (As := [.int (6 : Int32), .int x1]) X (rC_fail l dC dI h a cI cZ σ H.size (6 : Int32) x1 _ hw) (cwV 2 X.2.2.2.2 gX7_fail rfl rfl rfl hdX7_fail ⟨Nat.le_trans (by decide) hR.1, Nat.le_trans (by decide) hR.2⟩) hK hA hO rfl hl.1 rfl (Nat.le_of_ble_eq_true rfl) dX7_classOrNone_52 (fun t52 H locs hO hw => ?_)
  exact rB_classOrNone_55 X hr hlk hR hK hA x2 t52 H locs ls (lv_sub hl [0, 2] rfl) hO hw
def R_classOrNone_b0 (Q : Int32 → rS → Prop) (σ : rS) : Prop :=
 ∀ v4 : Int32, v4 = (σ.1 21) → R_take_w (fun r6 t6 => (¬ (t6.1 23) = 0 → R_classOrNone_b55 Q r6 t6) ∧ ((t6.1 23) = 0 → (r6 = 0 → R_classOrNone_b55 Q r6 t6) ∧ (¬ r6 = 0 → ((t6.1 22) < r6 → R_classOrNone_b48 Q v4 r6 t6) ∧ (¬ (t6.1 22) < r6 → vp_in (((13 : Int32) * (t6.1 18)) + r6) 208 ∧ ((t6.2 6 (((13 : Int32) * (t6.1 18)) + r6).toNatClampNeg) = (7 : Int32) → R_classOrNone_b55 Q r6 t6) ∧ (¬ (t6.2 6 (((13 : Int32) * (t6.1 18)) + r6).toNatClampNeg) = (7 : Int32) → R_classOrNone_b48 Q v4 r6 t6))))) σ
set_option maxHeartbeats 4000000 in
set_option maxRecDepth 100000 in
theorem rB_classOrNone_0 {Q : Int32 → rS → Prop} (X : CallFix p m c cX7_classOrNone 3 s args wsX7_classOrNone RX7) (hr : meth.sig.returnType = (some .int)) (hlk : meth.locks = false) (hR : 2 ≤ R.frames ∧ 43 ≤ R.locals) (hK : va_K (dC, dI) vwCl [(cI, .int), (cZ, .boolean)] s) (hA : ∀ q, s.heap.size ≤ q → A q) (σ : rS) (H : Heap) (locs : List Loc) (ls : Array Slot) (hl : lv_has ls 3 [(0, .ref h)]) (hO : rO dC dI h a cI cZ A s.heap σ H locs) (hw : R_classOrNone_b0 Q σ) : W p l e R s m args below meth c H locs 0 0 (MQ below (va_Qi Q (rAt dC dI A h a cI cZ) A) args s 0 0 A) (F0 m 0 ls []) := by
  unfold R_classOrNone_b0 at hw
  refine lv_aload_n X.1 X.2.1 dX7_classOrNone_0 rfl (lv_at hl 0 rfl) ?_
  refine rf_at X hK hO dX7_classOrNone_1 ?_
  refine lv_topi (fun v4 e4 => ?_)
  have hw := hw v4 e4
  refine lv_istore_n (lv' := [(1, .int v4), (0, .ref h)]) X.1 X.2.1 dX7_classOrNone_4 rfl hl (by decide) rfl (fun ls hl => ?_)
  refine lv_aload_n X.1 X.2.1 dX7_classOrNone_5 rfl (lv_at hl 1 rfl) ?_
  refine r_calli (rest := []) (As := []) X (rC_take l dC dI h a cI cZ σ H.size _ hw) (cwV 0 X.2.2.2.2 gX7_take rfl rfl rfl hdX7_take ⟨Nat.le_trans (by decide) hR.1, Nat.le_trans (by decide) hR.2⟩) hK hA hO rfl hl.1 rfl (Nat.le_of_ble_eq_true rfl) dX7_classOrNone_6 (fun r6 t6 H locs hO hw => ?_)
  refine lv_istore_n (lv' := [(2, .int r6), (1, .int v4), (0, .ref h)]) X.1 X.2.1 dX7_classOrNone_9 rfl hl (by decide) rfl (fun ls hl => ?_)
  refine lv_aload_n X.1 X.2.1 dX7_classOrNone_10 rfl (lv_at hl 2 rfl) ?_
  refine rf_reason X hK hO dX7_classOrNone_11 ?_
  refine lv_if_ne (tgt := 55) X.1 X.2.1 dX7_classOrNone_14 rfl (fun hc9 => ?_) (fun hc9 => ?_)
  · have hw := hw.1 hc9
    exact rB_classOrNone_55 X hr hlk hR hK hA r6 t6 H locs ls (lv_sub hl [2, 0] rfl) hO hw
  · have hw := hw.2 hc9
    refine lv_iload_n X.1 X.2.1 dX7_classOrNone_17 rfl (lv_at hl 0 rfl) ?_
    refine lv_if_eq (tgt := 55) X.1 X.2.1 dX7_classOrNone_18 rfl (fun hc9 => ?_) (fun hc9 => ?_)
    · have hw := hw.1 hc9
      exact rB_classOrNone_55 X hr hlk hR hK hA r6 t6 H locs ls (lv_sub hl [2, 0] rfl) hO hw
    · have hw := hw.2 hc9
      refine lv_iload_n X.1 X.2.1 dX7_classOrNone_21 rfl (lv_at hl 0 rfl) ?_
      refine lv_aload_n X.1 X.2.1 dX7_classOrNone_22 rfl (lv_at hl 2 rfl) ?_
      refine rf_constants X hK hO dX7_classOrNone_23 ?_
      refine lv_icmp_gt (tgt := 48) X.1 X.2.1 dX7_classOrNone_26 rfl (fun hc9 => ?_) (fun hc9 => ?_)
      · have hw := hw.1 hc9
        exact rB_classOrNone_48 X hr hlk hR hK hA v4 r6 t6 H locs ls (lv_sub hl [2, 1, 0] rfl) hO hw
      · have hw := hw.2 hc9
        refine lv_aload_n X.1 X.2.1 dX7_classOrNone_29 rfl (lv_at hl 2 rfl) ?_
        refine rf_sort X hK hO dX7_classOrNone_30 ?_
        refine lv_bipush (v := 13) X.1 X.2.1 dX7_classOrNone_33 (by decide) ?_
        refine lv_aload_n X.1 X.2.1 dX7_classOrNone_35 rfl (lv_at hl 2 rfl) ?_
        refine rf_now X hK hO dX7_classOrNone_36 ?_
        refine lv_imul X.1 X.2.1 dX7_classOrNone_39 ?_
        refine lv_iload_n X.1 X.2.1 dX7_classOrNone_40 rfl (lv_at hl 0 rfl) ?_
        refine lv_iadd X.1 X.2.1 dX7_classOrNone_41 ?_
        obtain ⟨g42, hw⟩ := hw
        refine ra_sort X.1 X.2.1 hK hO g42 dX7_classOrNone_42 ?_
        refine lv_bipush (v := 7) X.1 X.2.1 dX7_classOrNone_43 (by decide) ?_
        refine lv_icmp_eq (tgt := 55) X.1 X.2.1 dX7_classOrNone_45 rfl (fun hc9 => ?_) (fun hc9 => ?_)
        · have hw := hw.1 hc9
          exact rB_classOrNone_55 X hr hlk hR hK hA r6 t6 H locs ls (lv_sub hl [2, 0] rfl) hO hw
        · have hw := hw.2 hc9
          exact rB_classOrNone_48 X hr hlk hR hK hA v4 r6 t6 H locs ls (lv_sub hl [2, 1, 0] rfl) hO hw
def R_classOrNone_w (Q : Int32 → rS → Prop) (σ : rS) : Prop := R_classOrNone_b0 Q σ
abbrev rmX7_classOrNone : Room := { frames := 2, cells := 0, slots := 0, locals := 43 }
set_option maxHeartbeats 4000000 in
set_option maxRecDepth 100000 in
theorem rC_classOrNone (l : Launch) (dC : Nat → ClassId) (dI : Nat → Nat → Nat) (h : Nat) (a : Nat → Nat) (cI cZ : ClassId) (σ : rS) (sz : Nat) (Q : Int32 → rS → Prop) (hw : R_classOrNone_w Q σ) : Met l yX7_classOrNone wsX7_classOrNone rmX7_classOrNone (rPc dC dI h a cI cZ sz σ [.ref h]) (va_Qi Q (rAt dC dI (va_A (rCells h a cI cZ σ) sz) h a cI cZ) (va_A (rCells h a cI cZ σ) sz)) 0 0 (va_A (rCells h a cI cZ σ) sz) := by
  refine Met.ofW (cc := cX7_classOrNone) (maxL := 3) (ret := (some .int)) (by decide) rfl ?_
  intro p e s m args below meth c s₁ B hml hv
  obtain ⟨hargs, hsz, hP, hK, hD0⟩ := hv
  have hts := atoms_spec (ws := wsX7_classOrNone) B.pre
  have hown : s.vm.findClass RX7 = some m.cls := findClass_of_methodNamed B.named
  subst hsz
  subst hargs
  have hD := hD0.self (sz := s.heap.size)
  generalize hAe : va_A (rCells h a cI cZ σ) s.heap.size = A at hD ⊢
  have hA : ∀ q : Nat, s.heap.size ≤ q → A q := fun q h => by rw [← hAe]; exact Or.inr h
  have hl := lv_entry ([.ref h]) (n := 3) (Nat.le_of_ble_eq_true rfl)
  rw [lg_entry_eq]
  generalize (lg_sl ([.ref h]) ++ List.replicate (3 - (lg_sl ([.ref h])).length) Slot.unset).toArray = ls at hl ⊢
  have hl : lv_has ls 3 [(0, .ref h)] := hl
  unfold R_classOrNone_w at hw
  exact rB_classOrNone_0 ⟨B.exec, B.bytes, hml, hown, hts⟩ B.returns B.notSynchronized ⟨Nat.le_of_ble_eq_true rfl, Nat.le_of_ble_eq_true rfl⟩ hK hA σ s.heap [] ls (lv_sub hl [0] rfl) ⟨hP, hD, va_S.rf⟩ hw
end
end
section
section
variable {p : Program} {l : Launch} {e : Env} {R : Room} {s : State} {m : MethodId} {args : Array Value} {below : List Frame} {meth : Method} {c : Code}
variable {dC : Nat → ClassId} {dI : Nat → Nat → Nat} {h : Nat} {a : Nat → Nat} {cI cZ : ClassId} {A : Nat → Prop}
def R_oneConstant_b173 (Q : rS → Prop) (σ : rS) : Prop :=
 Q σ
set_option maxHeartbeats 4000000 in
set_option maxRecDepth 100000 in
theorem rB_oneConstant_173 {Q : rS → Prop} (X : CallFix p m c cX7_oneConstant 8 s args wsX7_oneConstant RX7) (hr : meth.sig.returnType = none) (hlk : meth.locks = false) (hR : 3 ≤ R.frames ∧ 66 ≤ R.locals) (hK : va_K (dC, dI) vwCl [(cI, .int), (cZ, .boolean)] s) (hA : ∀ q, s.heap.size ≤ q → A q) (σ : rS) (H : Heap) (locs : List Loc) (ls : Array Slot) (hl : lv_has ls 8 [(0, .ref h)]) (hO : rO dC dI h a cI cZ A s.heap σ H locs) (hw : R_oneConstant_b173 Q σ) : W p l e R s m args below meth c H locs 0 0 (MQ below (va_Qv Q (rAt dC dI A h a cI cZ) A) args s 0 0 A) (F0 m 173 ls []) := by
  unfold R_oneConstant_b173 at hw
  exact W.vret X.1 X.2.1 hr (fun t ht hW => ⟨⟨σ, rfl, hw, rO_end hO hK ht hW⟩, hO.2.2.F ht⟩) hO.2.2.2.2 dX7_oneConstant_173 hlk
def R_oneConstant_b133_s (Q : rS → Prop) (K133 : Int32 → rS → Prop) (x4 : Int32) (σ : rS) : Prop :=
 ((4 : Int32) ≤ x4 → R_oneConstant_b173 Q σ) ∧ (¬ (4 : Int32) ≤ x4 → R_take_w (fun r140 t140 => ∀ v144 : Int32, v144 = x4 + (1 : Int32) → K133 v144 t140) σ)
def R_oneConstant_b133_f (Q : rS → Prop) : (Int32 × rS → Prop) → Int32 × rS → Prop :=
 fun K z => R_oneConstant_b133_s Q (fun x4 σ => K (x4, σ)) z.1 z.2
def R_oneConstant_b133 (Q : rS → Prop) (x4 : Int32) (σ : rS) : Prop := ∃ n, fx (R_oneConstant_b133_f Q ) n (x4, σ)
set_option maxHeartbeats 4000000 in
set_option maxRecDepth 100000 in
theorem rB_oneConstant_133 {Q : rS → Prop} (X : CallFix p m c cX7_oneConstant 8 s args wsX7_oneConstant RX7) (hr : meth.sig.returnType = none) (hlk : meth.locks = false) (hR : 3 ≤ R.frames ∧ 66 ≤ R.locals) (hK : va_K (dC, dI) vwCl [(cI, .int), (cZ, .boolean)] s) (hA : ∀ q, s.heap.size ≤ q → A q) : ∀ (n : Nat) (x4 : Int32) (σ : rS) (H : Heap) (locs : List Loc) (ls : Array Slot), lv_has ls 8 [(0, .ref h), (4, .int x4)] → rO dC dI h a cI cZ A s.heap σ H locs → fx (R_oneConstant_b133_f Q ) n (x4, σ) → W p l e R s m args below meth c H locs 0 0 (MQ below (va_Qv Q (rAt dC dI A h a cI cZ) A) args s 0 0 A) (F0 m 133 ls []) := by
  intro n
  induction n with
  | zero => intro x4 σ H locs ls hl hO hw; exact False.elim hw
  | succ n k133 =>
    intro x4 σ H locs ls hl hO hw
    have hw : R_oneConstant_b133_s Q (fun x4 σ => fx (R_oneConstant_b133_f Q ) n (x4, σ)) x4 σ := hw
    unfold R_oneConstant_b133_s at hw
    refine lv_iload X.1 X.2.1 dX7_oneConstant_133 (lv_at hl 1 rfl) ?_
    refine lv_iconst (v := 4) X.1 X.2.1 dX7_oneConstant_135 (by decide) ?_
    refine lv_icmp_ge (tgt := 150) X.1 X.2.1 dX7_oneConstant_136 rfl (fun hc9 => ?_) (fun hc9 => ?_)
    · have hw := hw.1 hc9
      refine lv_goto (tgt := 173) X.1 X.2.1 dX7_oneConstant_150 rfl ?_
      exact rB_oneConstant_173 X hr hlk hR hK hA σ H locs ls (lv_sub hl [0] rfl) hO hw
    · have hw := hw.2 hc9
      refine lv_aload_n X.1 X.2.1 dX7_oneConstant_139 rfl (lv_at hl 0 rfl) ?_
      refine r_calli (rest := []) (As := []) X (rC_take l dC dI h a cI cZ σ H.size _ hw) (cwV 0 X.2.2.2.2 gX7_take rfl rfl rfl hdX7_take ⟨Nat.le_trans (by decide) hR.1, Nat.le_trans (by decide) hR.2⟩) hK hA hO rfl hl.1 rfl (Nat.le_of_ble_eq_true rfl) dX7_oneConstant_140 (fun r140 t140 H locs hO hw => ?_)
      refine lv_pop X.1 X.2.1 dX7_oneConstant_143 rfl ?_
      obtain ⟨v144, e144⟩ : ∃ z, z = x4 + (1 : Int32) := ⟨_, rfl⟩
      have hw := hw v144 e144
      refine lv_iinc (lv' := [(4, .int v144), (0, .ref h)]) (k := 1) (v := v144) X.1 X.2.1 dX7_oneConstant_144 hl rfl (by rw [e144]; rfl) (by decide) rfl (fun ls hl => ?_)
      refine lv_goto (tgt := 133) X.1 X.2.1 dX7_oneConstant_147 rfl ?_
      exact k133 v144 t140 H locs ls (lv_sub hl [1, 0] rfl) hO hw
def R_oneConstant_b116 (Q : rS → Prop) (K69 : Int32 → Int32 → rS → Prop) (x4 : Int32) (x5 : Int32) (σ : rS) : Prop :=
 ∀ v116 : Int32, v116 = x5 + (1 : Int32) → K69 x4 v116 σ
set_option maxHeartbeats 4000000 in
set_option maxRecDepth 100000 in
theorem rB_oneConstant_116 {Q : rS → Prop} {K69 : Int32 → Int32 → rS → Prop} (X : CallFix p m c cX7_oneConstant 8 s args wsX7_oneConstant RX7) (hr : meth.sig.returnType = none) (hlk : meth.locks = false) (hR : 3 ≤ R.frames ∧ 66 ≤ R.locals) (hK : va_K (dC, dI) vwCl [(cI, .int), (cZ, .boolean)] s) (hA : ∀ q, s.heap.size ≤ q → A q) (k69 : ∀ (x4 : Int32) (x5 : Int32) (σ : rS) (H : Heap) (locs : List Loc) (ls : Array Slot), lv_has ls 8 [(0, .ref h), (4, .int x4), (5, .int x5)] → rO dC dI h a cI cZ A s.heap σ H locs → K69 x4 x5 σ → W p l e R s m args below meth c H locs 0 0 (MQ below (va_Qv Q (rAt dC dI A h a cI cZ) A) args s 0 0 A) (F0 m 69 ls [])) (x4 : Int32) (x5 : Int32) (σ : rS) (H : Heap) (locs : List Loc) (ls : Array Slot) (hl : lv_has ls 8 [(0, .ref h), (4, .int x4), (5, .int x5)]) (hO : rO dC dI h a cI cZ A s.heap σ H locs) (hw : R_oneConstant_b116 Q K69 x4 x5 σ) : W p l e R s m args below meth c H locs 0 0 (MQ below (va_Qv Q (rAt dC dI A h a cI cZ) A) args s 0 0 A) (F0 m 116 ls []) := by
  unfold R_oneConstant_b116 at hw
  obtain ⟨v116, e116⟩ : ∃ z, z = x5 + (1 : Int32) := ⟨_, rfl⟩
  have hw := hw v116 e116
  refine lv_iinc (lv' := [(5, .int v116), (0, .ref h), (4, .int x4)]) (k := 2) (v := v116) X.1 X.2.1 dX7_oneConstant_116 hl rfl (by rw [e116]; rfl) (by decide) rfl (fun ls hl => ?_)
  refine lv_goto (tgt := 69) X.1 X.2.1 dX7_oneConstant_119 rfl ?_
  exact k69 x4 v116 σ H locs ls (lv_sub hl [1, 2, 0] rfl) hO hw
def R_oneConstant_b109 (Q : rS → Prop) (K69 : Int32 → Int32 → rS → Prop) (x4 : Int32) (x5 : Int32) (x6 : Int32) (σ : rS) : Prop :=
 R_fail_w (fun t113 => R_oneConstant_b116 Q K69 x4 x5 t113) (5 : Int32) x6 σ
set_option maxHeartbeats 4000000 in
set_option maxRecDepth 100000 in
theorem rB_oneConstant_109 {Q : rS → Prop} {K69 : Int32 → Int32 → rS → Prop} (X : CallFix p m c cX7_oneConstant 8 s args wsX7_oneConstant RX7) (hr : meth.sig.returnType = none) (hlk : meth.locks = false) (hR : 3 ≤ R.frames ∧ 66 ≤ R.locals) (hK : va_K (dC, dI) vwCl [(cI, .int), (cZ, .boolean)] s) (hA : ∀ q, s.heap.size ≤ q → A q) (k69 : ∀ (x4 : Int32) (x5 : Int32) (σ : rS) (H : Heap) (locs : List Loc) (ls : Array Slot), lv_has ls 8 [(0, .ref h), (4, .int x4), (5, .int x5)] → rO dC dI h a cI cZ A s.heap σ H locs → K69 x4 x5 σ → W p l e R s m args below meth c H locs 0 0 (MQ below (va_Qv Q (rAt dC dI A h a cI cZ) A) args s 0 0 A) (F0 m 69 ls [])) (x4 : Int32) (x5 : Int32) (x6 : Int32) (σ : rS) (H : Heap) (locs : List Loc) (ls : Array Slot) (hl : lv_has ls 8 [(0, .ref h), (4, .int x4), (5, .int x5), (6, .int x6)]) (hO : rO dC dI h a cI cZ A s.heap σ H locs) (hw : R_oneConstant_b109 Q K69 x4 x5 x6 σ) : W p l e R s m args below meth c H locs 0 0 (MQ below (va_Qv Q (rAt dC dI A h a cI cZ) A) args s 0 0 A) (F0 m 109 ls []) := by
  unfold R_oneConstant_b109 at hw
  refine lv_aload_n X.1 X.2.1 dX7_oneConstant_109 rfl (lv_at hl 0 rfl) ?_
  refine lv_iconst (v := 5) X.1 X.2.1 dX7_oneConstant_110 (by decide) ?_
  refine lv_iload X.1 X.2.1 dX7_oneConstant_111 (lv_at hl 3 rfl) ?_
  refine r_callv (rest := []) (As := [.int (5 : Int32), .int x6]) X (rC_fail l dC dI h a cI cZ σ H.size (5 : Int32) x6 _ hw) (cwV 2 X.2.2.2.2 gX7_fail rfl rfl rfl hdX7_fail ⟨Nat.le_trans (by decide) hR.1, Nat.le_trans (by decide) hR.2⟩) hK hA hO rfl hl.1 rfl (Nat.le_of_ble_eq_true rfl) dX7_oneConstant_113 (fun t113 H locs hO hw => ?_)
  exact rB_oneConstant_116 X hr hlk hR hK hA k69 x4 x5 t113 H locs ls (lv_sub hl [0, 1, 2] rfl) hO hw
def R_oneConstant_b69_s (Q : rS → Prop) (K69 : Int32 → Int32 → rS → Prop) (x4 : Int32) (x5 : Int32) (σ : rS) : Prop :=
 (x4 ≤ x5 → R_oneConstant_b173 Q σ) ∧ (¬ x4 ≤ x5 → ∀ v80 : Int32, v80 = (σ.1 21) → R_take_w (fun r83 t83 => (¬ (t83.1 23) = 0 → R_oneConstant_b116 Q K69 x4 x5 t83) ∧ ((t83.1 23) = 0 → (r83 < (33 : Int32) → R_oneConstant_b109 Q K69 x4 x5 v80 t83) ∧ (¬ r83 < (33 : Int32) → (r83 ≤ (126 : Int32) → R_oneConstant_b116 Q K69 x4 x5 t83) ∧ (¬ r83 ≤ (126 : Int32) → R_oneConstant_b109 Q K69 x4 x5 v80 t83)))) σ)
def R_oneConstant_b69_f (Q : rS → Prop) : (Int32 × Int32 × rS → Prop) → Int32 × Int32 × rS → Prop :=
 fun K z => R_oneConstant_b69_s Q (fun x4 x5 σ => K (x4, x5, σ)) z.1 z.2.1 z.2.2
def R_oneConstant_b69 (Q : rS → Prop) (x4 : Int32) (x5 : Int32) (σ : rS) : Prop := ∃ n, fx (R_oneConstant_b69_f Q ) n (x4, x5, σ)
set_option maxHeartbeats 4000000 in
set_option maxRecDepth 100000 in
theorem rB_oneConstant_69 {Q : rS → Prop} (X : CallFix p m c cX7_oneConstant 8 s args wsX7_oneConstant RX7) (hr : meth.sig.returnType = none) (hlk : meth.locks = false) (hR : 3 ≤ R.frames ∧ 66 ≤ R.locals) (hK : va_K (dC, dI) vwCl [(cI, .int), (cZ, .boolean)] s) (hA : ∀ q, s.heap.size ≤ q → A q) : ∀ (n : Nat) (x4 : Int32) (x5 : Int32) (σ : rS) (H : Heap) (locs : List Loc) (ls : Array Slot), lv_has ls 8 [(0, .ref h), (4, .int x4), (5, .int x5)] → rO dC dI h a cI cZ A s.heap σ H locs → fx (R_oneConstant_b69_f Q ) n (x4, x5, σ) → W p l e R s m args below meth c H locs 0 0 (MQ below (va_Qv Q (rAt dC dI A h a cI cZ) A) args s 0 0 A) (F0 m 69 ls []) := by
  intro n
  induction n with
  | zero => intro x4 x5 σ H locs ls hl hO hw; exact False.elim hw
  | succ n k69 =>
    intro x4 x5 σ H locs ls hl hO hw
    have hw : R_oneConstant_b69_s Q (fun x4 x5 σ => fx (R_oneConstant_b69_f Q ) n (x4, x5, σ)) x4 x5 σ := hw
    unfold R_oneConstant_b69_s at hw
    refine lv_iload X.1 X.2.1 dX7_oneConstant_69 (lv_at hl 2 rfl) ?_
    refine lv_iload X.1 X.2.1 dX7_oneConstant_71 (lv_at hl 1 rfl) ?_
    refine lv_icmp_ge (tgt := 122) X.1 X.2.1 dX7_oneConstant_73 rfl (fun hc9 => ?_) (fun hc9 => ?_)
    · have hw := hw.1 hc9
      refine lv_goto (tgt := 173) X.1 X.2.1 dX7_oneConstant_122 rfl ?_
      exact rB_oneConstant_173 X hr hlk hR hK hA σ H locs ls (lv_sub hl [0] rfl) hO hw
    · have hw := hw.2 hc9
      refine lv_aload_n X.1 X.2.1 dX7_oneConstant_76 rfl (lv_at hl 0 rfl) ?_
      refine rf_at X hK hO dX7_oneConstant_77 ?_
      refine lv_topi (fun v80 e80 => ?_)
      have hw := hw v80 e80
      refine lv_istore (lv' := [(6, .int v80), (0, .ref h), (4, .int x4), (5, .int x5)]) X.1 X.2.1 dX7_oneConstant_80 hl (by decide) rfl (fun ls hl => ?_)
      refine lv_aload_n X.1 X.2.1 dX7_oneConstant_82 rfl (lv_at hl 1 rfl) ?_
      refine r_calli (rest := []) (As := []) X (rC_take l dC dI h a cI cZ σ H.size _ hw) (cwV 0 X.2.2.2.2 gX7_take rfl rfl rfl hdX7_take ⟨Nat.le_trans (by decide) hR.1, Nat.le_trans (by decide) hR.2⟩) hK hA hO rfl hl.1 rfl (Nat.le_of_ble_eq_true rfl) dX7_oneConstant_83 (fun r83 t83 H locs hO hw => ?_)
      refine lv_istore (lv' := [(7, .int r83), (6, .int v80), (0, .ref h), (4, .int x4), (5, .int x5)]) X.1 X.2.1 dX7_oneConstant_86 hl (by decide) rfl (fun ls hl => ?_)
      refine lv_aload_n X.1 X.2.1 dX7_oneConstant_88 rfl (lv_at hl 2 rfl) ?_
      refine rf_reason X hK hO dX7_oneConstant_89 ?_
      refine lv_if_ne (tgt := 116) X.1 X.2.1 dX7_oneConstant_92 rfl (fun hc9 => ?_) (fun hc9 => ?_)
      · have hw := hw.1 hc9
        exact rB_oneConstant_116 X hr hlk hR hK hA k69 x4 x5 t83 H locs ls (lv_sub hl [2, 3, 4] rfl) hO hw
      · have hw := hw.2 hc9
        refine lv_iload X.1 X.2.1 dX7_oneConstant_95 (lv_at hl 0 rfl) ?_
        refine lv_bipush (v := 33) X.1 X.2.1 dX7_oneConstant_97 (by decide) ?_
        refine lv_icmp_lt (tgt := 109) X.1 X.2.1 dX7_oneConstant_99 rfl (fun hc9 => ?_) (fun hc9 => ?_)
        · have hw := hw.1 hc9
          exact rB_oneConstant_109 X hr hlk hR hK hA k69 x4 x5 v80 t83 H locs ls (lv_sub hl [2, 3, 4, 1] rfl) hO hw
        · have hw := hw.2 hc9
          refine lv_iload X.1 X.2.1 dX7_oneConstant_102 (lv_at hl 0 rfl) ?_
          refine lv_bipush (v := 126) X.1 X.2.1 dX7_oneConstant_104 (by decide) ?_
          refine lv_icmp_le (tgt := 116) X.1 X.2.1 dX7_oneConstant_106 rfl (fun hc9 => ?_) (fun hc9 => ?_)
          · have hw := hw.1 hc9
            exact rB_oneConstant_116 X hr hlk hR hK hA k69 x4 x5 t83 H locs ls (lv_sub hl [2, 3, 4] rfl) hO hw
          · have hw := hw.2 hc9
            exact rB_oneConstant_109 X hr hlk hR hK hA k69 x4 x5 v80 t83 H locs ls (lv_sub hl [2, 3, 4, 1] rfl) hO hw
def R_oneConstant_b0 (Q : rS → Prop) (x1 : Int32) (σ : rS) : Prop :=
 ∀ v4 : Int32, v4 = (σ.1 21) → R_take_w (fun r6 t6 => ((t6.1 23) = 0 → vp_in (((13 : Int32) * (t6.1 18)) + x1) 208 ∧ ∀ t32 : rS, t32 = rA t6 6 (((13 : Int32) * (t6.1 18)) + x1) r6 → vp_in (((13 : Int32) * (t32.1 18)) + x1) 208 ∧ ∀ t52 : rS, t52 = rA t32 7 (((13 : Int32) * (t32.1 18)) + x1) ((t32.1 19) + v4) → (¬ r6 = (1 : Int32) → (¬ r6 = (3 : Int32) → (¬ r6 = (7 : Int32) → R_fail_w (fun t170 => R_oneConstant_b173 Q t170) (3 : Int32) v4 t52) ∧ (r6 = (7 : Int32) → R_take_w (fun r160 t160 => R_oneConstant_b173 Q t160) t52)) ∧ (r6 = (3 : Int32) → R_oneConstant_b133 Q (0 : Int32) t52)) ∧ (r6 = (1 : Int32) → R_many_w (fun r61 t61 => R_oneConstant_b69 Q r61 (0 : Int32) t61) (10 : Int32) t52)) ∧ (¬ (t6.1 23) = 0 → Q t6)) σ
set_option maxHeartbeats 4000000 in
set_option maxRecDepth 100000 in
theorem rB_oneConstant_0 {Q : rS → Prop} (X : CallFix p m c cX7_oneConstant 8 s args wsX7_oneConstant RX7) (hr : meth.sig.returnType = none) (hlk : meth.locks = false) (hR : 3 ≤ R.frames ∧ 66 ≤ R.locals) (hK : va_K (dC, dI) vwCl [(cI, .int), (cZ, .boolean)] s) (hA : ∀ q, s.heap.size ≤ q → A q) (x1 : Int32) (σ : rS) (H : Heap) (locs : List Loc) (ls : Array Slot) (hl : lv_has ls 8 [(0, .ref h), (1, .int x1)]) (hO : rO dC dI h a cI cZ A s.heap σ H locs) (hw : R_oneConstant_b0 Q x1 σ) : W p l e R s m args below meth c H locs 0 0 (MQ below (va_Qv Q (rAt dC dI A h a cI cZ) A) args s 0 0 A) (F0 m 0 ls []) := by
  unfold R_oneConstant_b0 at hw
  refine lv_aload_n X.1 X.2.1 dX7_oneConstant_0 rfl (lv_at hl 0 rfl) ?_
  refine rf_at X hK hO dX7_oneConstant_1 ?_
  refine lv_topi (fun v4 e4 => ?_)
  have hw := hw v4 e4
  refine lv_istore_n (lv' := [(2, .int v4), (0, .ref h), (1, .int x1)]) X.1 X.2.1 dX7_oneConstant_4 rfl hl (by decide) rfl (fun ls hl => ?_)
  refine lv_aload_n X.1 X.2.1 dX7_oneConstant_5 rfl (lv_at hl 1 rfl) ?_
  refine r_calli (rest := []) (As := []) X (rC_take l dC dI h a cI cZ σ H.size _ hw) (cwV 0 X.2.2.2.2 gX7_take rfl rfl rfl hdX7_take ⟨Nat.le_trans (by decide) hR.1, Nat.le_trans (by decide) hR.2⟩) hK hA hO rfl hl.1 rfl (Nat.le_of_ble_eq_true rfl) dX7_oneConstant_6 (fun r6 t6 H locs hO hw => ?_)
  refine lv_istore_n (lv' := [(3, .int r6), (2, .int v4), (0, .ref h), (1, .int x1)]) X.1 X.2.1 dX7_oneConstant_9 rfl hl (by decide) rfl (fun ls hl => ?_)
  refine lv_aload_n X.1 X.2.1 dX7_oneConstant_10 rfl (lv_at hl 2 rfl) ?_
  refine rf_reason X hK hO dX7_oneConstant_11 ?_
  refine lv_if_eq (tgt := 18) X.1 X.2.1 dX7_oneConstant_14 rfl (fun hc9 => ?_) (fun hc9 => ?_)
  · have hw := hw.1 hc9
    refine lv_aload_n X.1 X.2.1 dX7_oneConstant_18 rfl (lv_at hl 2 rfl) ?_
    refine rf_sort X hK hO dX7_oneConstant_19 ?_
    refine lv_bipush (v := 13) X.1 X.2.1 dX7_oneConstant_22 (by decide) ?_
    refine lv_aload_n X.1 X.2.1 dX7_oneConstant_24 rfl (lv_at hl 2 rfl) ?_
    refine rf_now X hK hO dX7_oneConstant_25 ?_
    refine lv_imul X.1 X.2.1 dX7_oneConstant_28 ?_
    refine lv_iload_n X.1 X.2.1 dX7_oneConstant_29 rfl (lv_at hl 3 rfl) ?_
    refine lv_iadd X.1 X.2.1 dX7_oneConstant_30 ?_
    refine lv_iload_n X.1 X.2.1 dX7_oneConstant_31 rfl (lv_at hl 0 rfl) ?_
    obtain ⟨g32, hw⟩ := hw
    refine rs_sort X.1 X.2.1 hK hO g32 dX7_oneConstant_32 (fun H locs hO => ?_)
    obtain ⟨t32, e32⟩ : ∃ z, z = rA t6 6 (((13 : Int32) * (t6.1 18)) + x1) r6 := ⟨_, rfl⟩
    have hw := hw t32 e32
    rw [← e32] at hO
    refine lv_aload_n X.1 X.2.1 dX7_oneConstant_33 rfl (lv_at hl 2 rfl) ?_
    refine rf_place X hK hO dX7_oneConstant_34 ?_
    refine lv_bipush (v := 13) X.1 X.2.1 dX7_oneConstant_37 (by decide) ?_
    refine lv_aload_n X.1 X.2.1 dX7_oneConstant_39 rfl (lv_at hl 2 rfl) ?_
    refine rf_now X hK hO dX7_oneConstant_40 ?_
    refine lv_imul X.1 X.2.1 dX7_oneConstant_43 ?_
    refine lv_iload_n X.1 X.2.1 dX7_oneConstant_44 rfl (lv_at hl 3 rfl) ?_
    refine lv_iadd X.1 X.2.1 dX7_oneConstant_45 ?_
    refine lv_aload_n X.1 X.2.1 dX7_oneConstant_46 rfl (lv_at hl 2 rfl) ?_
    refine rf_base X hK hO dX7_oneConstant_47 ?_
    refine lv_iload_n X.1 X.2.1 dX7_oneConstant_50 rfl (lv_at hl 1 rfl) ?_
    refine lv_iadd X.1 X.2.1 dX7_oneConstant_51 ?_
    obtain ⟨g52, hw⟩ := hw
    refine rs_place X.1 X.2.1 hK hO g52 dX7_oneConstant_52 (fun H locs hO => ?_)
    obtain ⟨t52, e52⟩ : ∃ z, z = rA t32 7 (((13 : Int32) * (t32.1 18)) + x1) ((t32.1 19) + v4) := ⟨_, rfl⟩
    have hw := hw t52 e52
    rw [← e52] at hO
    refine lv_iload_n X.1 X.2.1 dX7_oneConstant_53 rfl (lv_at hl 0 rfl) ?_
    refine lv_iconst (v := 1) X.1 X.2.1 dX7_oneConstant_54 (by decide) ?_
    refine lv_icmp_ne (tgt := 125) X.1 X.2.1 dX7_oneConstant_55 rfl (fun hc9 => ?_) (fun hc9 => ?_)
    · have hw := hw.1 hc9
      refine lv_iload_n X.1 X.2.1 dX7_oneConstant_125 rfl (lv_at hl 0 rfl) ?_
      refine lv_iconst (v := 3) X.1 X.2.1 dX7_oneConstant_126 (by decide) ?_
      refine lv_icmp_ne (tgt := 153) X.1 X.2.1 dX7_oneConstant_127 rfl (fun hc9 => ?_) (fun hc9 => ?_)
      · have hw := hw.1 hc9
        refine lv_iload_n X.1 X.2.1 dX7_oneConstant_153 rfl (lv_at hl 0 rfl) ?_
        refine lv_bipush (v := 7) X.1 X.2.1 dX7_oneConstant_154 (by decide) ?_
        refine lv_icmp_ne (tgt := 167) X.1 X.2.1 dX7_oneConstant_156 rfl (fun hc9 => ?_) (fun hc9 => ?_)
        · have hw := hw.1 hc9
          refine lv_aload_n X.1 X.2.1 dX7_oneConstant_167 rfl (lv_at hl 2 rfl) ?_
          refine lv_iconst (v := 3) X.1 X.2.1 dX7_oneConstant_168 (by decide) ?_
          refine lv_iload_n X.1 X.2.1 dX7_oneConstant_169 rfl (lv_at hl 1 rfl) ?_
          refine r_callv (rest := []) (As := [.int (3 : Int32), .int v4]) X (rC_fail l dC dI h a cI cZ t52 H.size (3 : Int32) v4 _ hw) (cwV 2 X.2.2.2.2 gX7_fail rfl rfl rfl hdX7_fail ⟨Nat.le_trans (by decide) hR.1, Nat.le_trans (by decide) hR.2⟩) hK hA hO rfl hl.1 rfl (Nat.le_of_ble_eq_true rfl) dX7_oneConstant_170 (fun t170 H locs hO hw => ?_)
          exact rB_oneConstant_173 X hr hlk hR hK hA t170 H locs ls (lv_sub hl [2] rfl) hO hw
        · have hw := hw.2 hc9
          refine lv_aload_n X.1 X.2.1 dX7_oneConstant_159 rfl (lv_at hl 2 rfl) ?_
          refine r_calli (rest := []) (As := []) X (rC_take l dC dI h a cI cZ t52 H.size _ hw) (cwV 0 X.2.2.2.2 gX7_take rfl rfl rfl hdX7_take ⟨Nat.le_trans (by decide) hR.1, Nat.le_trans (by decide) hR.2⟩) hK hA hO rfl hl.1 rfl (Nat.le_of_ble_eq_true rfl) dX7_oneConstant_160 (fun r160 t160 H locs hO hw => ?_)
          refine lv_pop X.1 X.2.1 dX7_oneConstant_163 rfl ?_
          refine lv_goto (tgt := 173) X.1 X.2.1 dX7_oneConstant_164 rfl ?_
          exact rB_oneConstant_173 X hr hlk hR hK hA t160 H locs ls (lv_sub hl [2] rfl) hO hw
      · have hw := hw.2 hc9
        refine lv_iconst (v := 0) X.1 X.2.1 dX7_oneConstant_130 (by decide) ?_
        refine lv_istore (lv' := [(4, .int (0 : Int32)), (3, .int r6), (2, .int v4), (0, .ref h), (1, .int x1)]) X.1 X.2.1 dX7_oneConstant_131 hl (by decide) rfl (fun ls hl => ?_)
        obtain ⟨n, hw⟩ := hw
        exact rB_oneConstant_133 X hr hlk hR hK hA n (0 : Int32) t52 H locs ls (lv_sub hl [3, 0] rfl) hO hw
    · have hw := hw.2 hc9
      refine lv_aload_n X.1 X.2.1 dX7_oneConstant_58 rfl (lv_at hl 2 rfl) ?_
      refine lv_bipush (v := 10) X.1 X.2.1 dX7_oneConstant_59 (by decide) ?_
      refine r_calli (rest := []) (As := [.int (10 : Int32)]) X (rC_many l dC dI h a cI cZ t52 H.size (10 : Int32) _ hw) (cwV 1 X.2.2.2.2 gX7_many rfl rfl rfl hdX7_many ⟨Nat.le_trans (by decide) hR.1, Nat.le_trans (by decide) hR.2⟩) hK hA hO rfl hl.1 rfl (Nat.le_of_ble_eq_true rfl) dX7_oneConstant_61 (fun r61 t61 H locs hO hw => ?_)
      refine lv_istore (lv' := [(4, .int r61), (3, .int r6), (2, .int v4), (0, .ref h), (1, .int x1)]) X.1 X.2.1 dX7_oneConstant_64 hl (by decide) rfl (fun ls hl => ?_)
      refine lv_iconst (v := 0) X.1 X.2.1 dX7_oneConstant_66 (by decide) ?_
      refine lv_istore (lv' := [(5, .int (0 : Int32)), (4, .int r61), (3, .int r6), (2, .int v4), (0, .ref h), (1, .int x1)]) X.1 X.2.1 dX7_oneConstant_67 hl (by decide) rfl (fun ls hl => ?_)
      obtain ⟨n, hw⟩ := hw
      exact rB_oneConstant_69 X hr hlk hR hK hA n r61 (0 : Int32) t61 H locs ls (lv_sub hl [4, 1, 0] rfl) hO hw
  · have hw := hw.2 hc9
    exact W.vret X.1 X.2.1 hr (fun t ht hW => ⟨⟨t6, rfl, hw, rO_end hO hK ht hW⟩, hO.2.2.F ht⟩) hO.2.2.2.2 dX7_oneConstant_17 hlk
def R_oneConstant_w (Q : rS → Prop) (x1 : Int32) (σ : rS) : Prop := R_oneConstant_b0 Q x1 σ
abbrev rmX7_oneConstant : Room := { frames := 3, cells := 0, slots := 0, locals := 66 }
set_option maxHeartbeats 4000000 in
set_option maxRecDepth 100000 in
theorem rC_oneConstant (l : Launch) (dC : Nat → ClassId) (dI : Nat → Nat → Nat) (h : Nat) (a : Nat → Nat) (cI cZ : ClassId) (σ : rS) (sz : Nat) (x1 : Int32) (Q : rS → Prop) (hw : R_oneConstant_w Q x1 σ) : Met l yX7_oneConstant wsX7_oneConstant rmX7_oneConstant (rPc dC dI h a cI cZ sz σ [.ref h, .int x1]) (va_Qv Q (rAt dC dI (va_A (rCells h a cI cZ σ) sz) h a cI cZ) (va_A (rCells h a cI cZ σ) sz)) 0 0 (va_A (rCells h a cI cZ σ) sz) := by
  refine Met.ofW (cc := cX7_oneConstant) (maxL := 8) (ret := none) (by decide) rfl ?_
  intro p e s m args below meth c s₁ B hml hv
  obtain ⟨hargs, hsz, hP, hK, hD0⟩ := hv
  have hts := atoms_spec (ws := wsX7_oneConstant) B.pre
  have hown : s.vm.findClass RX7 = some m.cls := findClass_of_methodNamed B.named
  subst hsz
  subst hargs
  have hD := hD0.self (sz := s.heap.size)
  generalize hAe : va_A (rCells h a cI cZ σ) s.heap.size = A at hD ⊢
  have hA : ∀ q : Nat, s.heap.size ≤ q → A q := fun q h => by rw [← hAe]; exact Or.inr h
  have hl := lv_entry ([.ref h, .int x1]) (n := 8) (Nat.le_of_ble_eq_true rfl)
  rw [lg_entry_eq]
  generalize (lg_sl ([.ref h, .int x1]) ++ List.replicate (8 - (lg_sl ([.ref h, .int x1])).length) Slot.unset).toArray = ls at hl ⊢
  have hl : lv_has ls 8 [(0, .ref h), (1, .int x1)] := hl
  unfold R_oneConstant_w at hw
  exact rB_oneConstant_0 ⟨B.exec, B.bytes, hml, hown, hts⟩ B.returns B.notSynchronized ⟨Nat.le_of_ble_eq_true rfl, Nat.le_of_ble_eq_true rfl⟩ hK hA x1 σ s.heap [] ls (lv_sub hl [0, 1] rfl) ⟨hP, hD, va_S.rf⟩ hw
def R_allConstants_b185 (Q : rS → Prop) (σ : rS) : Prop :=
 Q σ
set_option maxHeartbeats 4000000 in
set_option maxRecDepth 100000 in
theorem rB_allConstants_185 {Q : rS → Prop} (X : CallFix p m c cX7_allConstants 5 s args wsX7_allConstants RX7) (hr : meth.sig.returnType = none) (hlk : meth.locks = false) (hR : 4 ≤ R.frames ∧ 93 ≤ R.locals) (hK : va_K (dC, dI) vwCl [(cI, .int), (cZ, .boolean)] s) (hA : ∀ q, s.heap.size ≤ q → A q) (σ : rS) (H : Heap) (locs : List Loc) (ls : Array Slot) (hl : lv_has ls 5 [(0, .ref h)]) (hO : rO dC dI h a cI cZ A s.heap σ H locs) (hw : R_allConstants_b185 Q σ) : W p l e R s m args below meth c H locs 0 0 (MQ below (va_Qv Q (rAt dC dI A h a cI cZ) A) args s 0 0 A) (F0 m 185 ls []) := by
  unfold R_allConstants_b185 at hw
  exact W.vret X.1 X.2.1 hr (fun t ht hW => ⟨⟨σ, rfl, hw, rO_end hO hK ht hW⟩, hO.2.2.F ht⟩) hO.2.2.2.2 dX7_allConstants_185 hlk
def R_allConstants_b179 (Q : rS → Prop) (K40 : Int32 → rS → Prop) (x1 : Int32) (σ : rS) : Prop :=
 ∀ v179 : Int32, v179 = x1 + (1 : Int32) → K40 v179 σ
set_option maxHeartbeats 4000000 in
set_option maxRecDepth 100000 in
theorem rB_allConstants_179 {Q : rS → Prop} {K40 : Int32 → rS → Prop} (X : CallFix p m c cX7_allConstants 5 s args wsX7_allConstants RX7) (hr : meth.sig.returnType = none) (hlk : meth.locks = false) (hR : 4 ≤ R.frames ∧ 93 ≤ R.locals) (hK : va_K (dC, dI) vwCl [(cI, .int), (cZ, .boolean)] s) (hA : ∀ q, s.heap.size ≤ q → A q) (k40 : ∀ (x1 : Int32) (σ : rS) (H : Heap) (locs : List Loc) (ls : Array Slot), lv_has ls 5 [(0, .ref h), (1, .int x1)] → rO dC dI h a cI cZ A s.heap σ H locs → K40 x1 σ → W p l e R s m args below meth c H locs 0 0 (MQ below (va_Qv Q (rAt dC dI A h a cI cZ) A) args s 0 0 A) (F0 m 40 ls [])) (x1 : Int32) (σ : rS) (H : Heap) (locs : List Loc) (ls : Array Slot) (hl : lv_has ls 5 [(0, .ref h), (1, .int x1)]) (hO : rO dC dI h a cI cZ A s.heap σ H locs) (hw : R_allConstants_b179 Q K40 x1 σ) : W p l e R s m args below meth c H locs 0 0 (MQ below (va_Qv Q (rAt dC dI A h a cI cZ) A) args s 0 0 A) (F0 m 179 ls []) := by
  unfold R_allConstants_b179 at hw
  obtain ⟨v179, e179⟩ : ∃ z, z = x1 + (1 : Int32) := ⟨_, rfl⟩
  have hw := hw v179 e179
  refine lv_iinc (lv' := [(1, .int v179), (0, .ref h)]) (k := 1) (v := v179) X.1 X.2.1 dX7_allConstants_179 hl rfl (by rw [e179]; rfl) (by decide) rfl (fun ls hl => ?_)
  refine lv_goto (tgt := 40) X.1 X.2.1 dX7_allConstants_182 rfl ?_
  exact k40 v179 σ H locs ls (lv_sub hl [1, 0] rfl) hO hw
def R_allConstants_b158 (Q : rS → Prop) (K40 : Int32 → rS → Prop) (x1 : Int32) (x2 : Int32) (y0 : Int32) (σ : rS) : Prop :=
 (¬ y0 = 0 → R_allConstants_b179 Q K40 x1 σ) ∧ (y0 = 0 → R_fail_w (fun t176 => R_allConstants_b179 Q K40 x1 t176) (6 : Int32) ((x2 + (1 : Int32)) - (σ.1 19)) σ)
set_option maxHeartbeats 4000000 in
set_option maxRecDepth 100000 in
theorem rB_allConstants_158 {Q : rS → Prop} {K40 : Int32 → rS → Prop} (X : CallFix p m c cX7_allConstants 5 s args wsX7_allConstants RX7) (hr : meth.sig.returnType = none) (hlk : meth.locks = false) (hR : 4 ≤ R.frames ∧ 93 ≤ R.locals) (hK : va_K (dC, dI) vwCl [(cI, .int), (cZ, .boolean)] s) (hA : ∀ q, s.heap.size ≤ q → A q) (k40 : ∀ (x1 : Int32) (σ : rS) (H : Heap) (locs : List Loc) (ls : Array Slot), lv_has ls 5 [(0, .ref h), (1, .int x1)] → rO dC dI h a cI cZ A s.heap σ H locs → K40 x1 σ → W p l e R s m args below meth c H locs 0 0 (MQ below (va_Qv Q (rAt dC dI A h a cI cZ) A) args s 0 0 A) (F0 m 40 ls [])) (x1 : Int32) (x2 : Int32) (y0 : Int32) (σ : rS) (H : Heap) (locs : List Loc) (ls : Array Slot) (hl : lv_has ls 5 [(0, .ref h), (1, .int x1), (2, .int x2)]) (hO : rO dC dI h a cI cZ A s.heap σ H locs) (hw : R_allConstants_b158 Q K40 x1 x2 y0 σ) : W p l e R s m args below meth c H locs 0 0 (MQ below (va_Qv Q (rAt dC dI A h a cI cZ) A) args s 0 0 A) (F0 m 158 ls [.int y0]) := by
  unfold R_allConstants_b158 at hw
  refine lv_istore (lv' := [(4, .int y0), (0, .ref h), (1, .int x1), (2, .int x2)]) X.1 X.2.1 dX7_allConstants_158 hl (by decide) rfl (fun ls hl => ?_)
  refine lv_iload X.1 X.2.1 dX7_allConstants_160 (lv_at hl 0 rfl) ?_
  refine lv_if_ne (tgt := 179) X.1 X.2.1 dX7_allConstants_162 rfl (fun hc9 => ?_) (fun hc9 => ?_)
  · have hw := hw.1 hc9
    exact rB_allConstants_179 X hr hlk hR hK hA k40 x1 σ H locs ls (lv_sub hl [1, 2] rfl) hO hw
  · have hw := hw.2 hc9
    refine lv_aload_n X.1 X.2.1 dX7_allConstants_165 rfl (lv_at hl 1 rfl) ?_
    refine lv_bipush (v := 6) X.1 X.2.1 dX7_allConstants_166 (by decide) ?_
    refine lv_iload_n X.1 X.2.1 dX7_allConstants_168 rfl (lv_at hl 3 rfl) ?_
    refine lv_iconst (v := 1) X.1 X.2.1 dX7_allConstants_169 (by decide) ?_
    refine lv_iadd X.1 X.2.1 dX7_allConstants_170 ?_
    refine lv_aload_n X.1 X.2.1 dX7_allConstants_171 rfl (lv_at hl 1 rfl) ?_
    refine rf_base X hK hO dX7_allConstants_172 ?_
    refine lv_isub X.1 X.2.1 dX7_allConstants_175 ?_
    refine r_callv (rest := []) (As := [.int (6 : Int32), .int ((x2 + (1 : Int32)) - (σ.1 19))]) X (rC_fail l dC dI h a cI cZ σ H.size (6 : Int32) ((x2 + (1 : Int32)) - (σ.1 19)) _ hw) (cwV 2 X.2.2.2.2 gX7_fail rfl rfl rfl hdX7_fail ⟨Nat.le_trans (by decide) hR.1, Nat.le_trans (by decide) hR.2⟩) hK hA hO rfl hl.1 rfl (Nat.le_of_ble_eq_true rfl) dX7_allConstants_176 (fun t176 H locs hO hw => ?_)
    exact rB_allConstants_179 X hr hlk hR hK hA k40 x1 t176 H locs ls (lv_sub hl [1, 2] rfl) hO hw
def R_allConstants_b157 (Q : rS → Prop) (K40 : Int32 → rS → Prop) (x1 : Int32) (x2 : Int32) (σ : rS) : Prop :=
 R_allConstants_b158 Q K40 x1 x2 (0 : Int32) σ
set_option maxHeartbeats 4000000 in
set_option maxRecDepth 100000 in
theorem rB_allConstants_157 {Q : rS → Prop} {K40 : Int32 → rS → Prop} (X : CallFix p m c cX7_allConstants 5 s args wsX7_allConstants RX7) (hr : meth.sig.returnType = none) (hlk : meth.locks = false) (hR : 4 ≤ R.frames ∧ 93 ≤ R.locals) (hK : va_K (dC, dI) vwCl [(cI, .int), (cZ, .boolean)] s) (hA : ∀ q, s.heap.size ≤ q → A q) (k40 : ∀ (x1 : Int32) (σ : rS) (H : Heap) (locs : List Loc) (ls : Array Slot), lv_has ls 5 [(0, .ref h), (1, .int x1)] → rO dC dI h a cI cZ A s.heap σ H locs → K40 x1 σ → W p l e R s m args below meth c H locs 0 0 (MQ below (va_Qv Q (rAt dC dI A h a cI cZ) A) args s 0 0 A) (F0 m 40 ls [])) (x1 : Int32) (x2 : Int32) (σ : rS) (H : Heap) (locs : List Loc) (ls : Array Slot) (hl : lv_has ls 5 [(0, .ref h), (1, .int x1), (2, .int x2)]) (hO : rO dC dI h a cI cZ A s.heap σ H locs) (hw : R_allConstants_b157 Q K40 x1 x2 σ) : W p l e R s m args below meth c H locs 0 0 (MQ below (va_Qv Q (rAt dC dI A h a cI cZ) A) args s 0 0 A) (F0 m 157 ls []) := by
  unfold R_allConstants_b157 at hw
  refine lv_iconst (v := 0) X.1 X.2.1 dX7_allConstants_157 (by decide) ?_
  exact rB_allConstants_158 X hr hlk hR hK hA k40 x1 x2 (0 : Int32) σ H locs ls (lv_sub hl [0, 1, 2] rfl) hO hw
def R_allConstants_b40_s (Q : rS → Prop) (K40 : Int32 → rS → Prop) (x1 : Int32) (σ : rS) : Prop :=
 ((σ.1 22) < x1 → R_allConstants_b185 Q σ) ∧ (¬ (σ.1 22) < x1 → (¬ (σ.1 23) = 0 → R_allConstants_b185 Q σ) ∧ ((σ.1 23) = 0 → vp_in (((13 : Int32) * (σ.1 18)) + x1) 208 ∧ ∀ v69 : Int32, v69 = (σ.2 7 (((13 : Int32) * (σ.1 18)) + x1).toNatClampNeg) → vp_in (((13 : Int32) * (σ.1 18)) + x1) 208 ∧ (¬ (σ.2 6 (((13 : Int32) * (σ.1 18)) + x1).toNatClampNeg) = (7 : Int32) → R_allConstants_b179 Q K40 x1 σ) ∧ ((σ.2 6 (((13 : Int32) * (σ.1 18)) + x1).toNatClampNeg) = (7 : Int32) → vp_in (v69 + (1 : Int32)) 1920 ∧ ∀ v97 : Int32, v97 = (σ.2 2 (v69 + (1 : Int32)).toNatClampNeg) → (v97 < (1 : Int32) → R_allConstants_b157 Q K40 x1 v69 σ) ∧ (¬ v97 < (1 : Int32) → ((σ.1 22) < v97 → R_allConstants_b157 Q K40 x1 v69 σ) ∧ (¬ (σ.1 22) < v97 → vp_in (((13 : Int32) * (σ.1 18)) + v97) 208 ∧ (¬ (σ.2 6 (((13 : Int32) * (σ.1 18)) + v97).toNatClampNeg) = (1 : Int32) → R_allConstants_b157 Q K40 x1 v69 σ) ∧ ((σ.2 6 (((13 : Int32) * (σ.1 18)) + v97).toNatClampNeg) = (1 : Int32) → vp_in (((13 : Int32) * (σ.1 18)) + v97) 208 ∧ vp_in ((σ.2 7 (((13 : Int32) * (σ.1 18)) + v97).toNatClampNeg) + (1 : Int32)) 1920 ∧ ((σ.2 2 ((σ.2 7 (((13 : Int32) * (σ.1 18)) + v97).toNatClampNeg) + (1 : Int32)).toNatClampNeg) ≤ 0 → R_allConstants_b157 Q K40 x1 v69 σ) ∧ (¬ (σ.2 2 ((σ.2 7 (((13 : Int32) * (σ.1 18)) + v97).toNatClampNeg) + (1 : Int32)).toNatClampNeg) ≤ 0 → R_allConstants_b158 Q K40 x1 v69 (1 : Int32) σ)))))))
def R_allConstants_b40_f (Q : rS → Prop) : (Int32 × rS → Prop) → Int32 × rS → Prop :=
 fun K z => R_allConstants_b40_s Q (fun x1 σ => K (x1, σ)) z.1 z.2
def R_allConstants_b40 (Q : rS → Prop) (x1 : Int32) (σ : rS) : Prop := ∃ n, fx (R_allConstants_b40_f Q ) n (x1, σ)
set_option maxHeartbeats 4000000 in
set_option maxRecDepth 100000 in
theorem rB_allConstants_40 {Q : rS → Prop} (X : CallFix p m c cX7_allConstants 5 s args wsX7_allConstants RX7) (hr : meth.sig.returnType = none) (hlk : meth.locks = false) (hR : 4 ≤ R.frames ∧ 93 ≤ R.locals) (hK : va_K (dC, dI) vwCl [(cI, .int), (cZ, .boolean)] s) (hA : ∀ q, s.heap.size ≤ q → A q) : ∀ (n : Nat) (x1 : Int32) (σ : rS) (H : Heap) (locs : List Loc) (ls : Array Slot), lv_has ls 5 [(0, .ref h), (1, .int x1)] → rO dC dI h a cI cZ A s.heap σ H locs → fx (R_allConstants_b40_f Q ) n (x1, σ) → W p l e R s m args below meth c H locs 0 0 (MQ below (va_Qv Q (rAt dC dI A h a cI cZ) A) args s 0 0 A) (F0 m 40 ls []) := by
  intro n
  induction n with
  | zero => intro x1 σ H locs ls hl hO hw; exact False.elim hw
  | succ n k40 =>
    intro x1 σ H locs ls hl hO hw
    have hw : R_allConstants_b40_s Q (fun x1 σ => fx (R_allConstants_b40_f Q ) n (x1, σ)) x1 σ := hw
    unfold R_allConstants_b40_s at hw
    refine lv_iload_n X.1 X.2.1 dX7_allConstants_40 rfl (lv_at hl 1 rfl) ?_
    refine lv_aload_n X.1 X.2.1 dX7_allConstants_41 rfl (lv_at hl 0 rfl) ?_
    refine rf_constants X hK hO dX7_allConstants_42 ?_
    refine lv_icmp_gt (tgt := 185) X.1 X.2.1 dX7_allConstants_45 rfl (fun hc9 => ?_) (fun hc9 => ?_)
    · have hw := hw.1 hc9
      exact rB_allConstants_185 X hr hlk hR hK hA σ H locs ls (lv_sub hl [0] rfl) hO hw
    · have hw := hw.2 hc9
      refine lv_aload_n X.1 X.2.1 dX7_allConstants_48 rfl (lv_at hl 0 rfl) ?_
      refine rf_reason X hK hO dX7_allConstants_49 ?_
      refine lv_if_ne (tgt := 185) X.1 X.2.1 dX7_allConstants_52 rfl (fun hc9 => ?_) (fun hc9 => ?_)
      · have hw := hw.1 hc9
        exact rB_allConstants_185 X hr hlk hR hK hA σ H locs ls (lv_sub hl [0] rfl) hO hw
      · have hw := hw.2 hc9
        refine lv_aload_n X.1 X.2.1 dX7_allConstants_55 rfl (lv_at hl 0 rfl) ?_
        refine rf_place X hK hO dX7_allConstants_56 ?_
        refine lv_bipush (v := 13) X.1 X.2.1 dX7_allConstants_59 (by decide) ?_
        refine lv_aload_n X.1 X.2.1 dX7_allConstants_61 rfl (lv_at hl 0 rfl) ?_
        refine rf_now X hK hO dX7_allConstants_62 ?_
        refine lv_imul X.1 X.2.1 dX7_allConstants_65 ?_
        refine lv_iload_n X.1 X.2.1 dX7_allConstants_66 rfl (lv_at hl 1 rfl) ?_
        refine lv_iadd X.1 X.2.1 dX7_allConstants_67 ?_
        obtain ⟨g68, hw⟩ := hw
        refine ra_place X.1 X.2.1 hK hO g68 dX7_allConstants_68 ?_
        refine lv_topi (fun v69 e69 => ?_)
        have hw := hw v69 e69
        refine lv_istore_n (lv' := [(2, .int v69), (0, .ref h), (1, .int x1)]) X.1 X.2.1 dX7_allConstants_69 rfl hl (by decide) rfl (fun ls hl => ?_)
        refine lv_aload_n X.1 X.2.1 dX7_allConstants_70 rfl (lv_at hl 1 rfl) ?_
        refine rf_sort X hK hO dX7_allConstants_71 ?_
        refine lv_bipush (v := 13) X.1 X.2.1 dX7_allConstants_74 (by decide) ?_
        refine lv_aload_n X.1 X.2.1 dX7_allConstants_76 rfl (lv_at hl 1 rfl) ?_
        refine rf_now X hK hO dX7_allConstants_77 ?_
        refine lv_imul X.1 X.2.1 dX7_allConstants_80 ?_
        refine lv_iload_n X.1 X.2.1 dX7_allConstants_81 rfl (lv_at hl 2 rfl) ?_
        refine lv_iadd X.1 X.2.1 dX7_allConstants_82 ?_
        obtain ⟨g83, hw⟩ := hw
        refine ra_sort X.1 X.2.1 hK hO g83 dX7_allConstants_83 ?_
        refine lv_bipush (v := 7) X.1 X.2.1 dX7_allConstants_84 (by decide) ?_
        refine lv_icmp_ne (tgt := 179) X.1 X.2.1 dX7_allConstants_86 rfl (fun hc9 => ?_) (fun hc9 => ?_)
        · have hw := hw.1 hc9
          exact rB_allConstants_179 X hr hlk hR hK hA k40 x1 σ H locs ls (lv_sub hl [1, 2] rfl) hO hw
        · have hw := hw.2 hc9
          refine lv_aload_n X.1 X.2.1 dX7_allConstants_89 rfl (lv_at hl 1 rfl) ?_
          refine rf_bytes X hK hO dX7_allConstants_90 ?_
          refine lv_iload_n X.1 X.2.1 dX7_allConstants_93 rfl (lv_at hl 0 rfl) ?_
          refine lv_iconst (v := 1) X.1 X.2.1 dX7_allConstants_94 (by decide) ?_
          refine lv_iadd X.1 X.2.1 dX7_allConstants_95 ?_
          obtain ⟨g96, hw⟩ := hw
          refine ra_bytes X.1 X.2.1 hK hO g96 dX7_allConstants_96 ?_
          refine lv_topi (fun v97 e97 => ?_)
          have hw := hw v97 e97
          refine lv_istore_n (lv' := [(3, .int v97), (2, .int v69), (0, .ref h), (1, .int x1)]) X.1 X.2.1 dX7_allConstants_97 rfl hl (by decide) rfl (fun ls hl => ?_)
          refine lv_iload_n X.1 X.2.1 dX7_allConstants_98 rfl (lv_at hl 0 rfl) ?_
          refine lv_iconst (v := 1) X.1 X.2.1 dX7_allConstants_99 (by decide) ?_
          refine lv_icmp_lt (tgt := 157) X.1 X.2.1 dX7_allConstants_100 rfl (fun hc9 => ?_) (fun hc9 => ?_)
          · have hw := hw.1 hc9
            exact rB_allConstants_157 X hr hlk hR hK hA k40 x1 v69 σ H locs ls (lv_sub hl [2, 3, 1] rfl) hO hw
          · have hw := hw.2 hc9
            refine lv_iload_n X.1 X.2.1 dX7_allConstants_103 rfl (lv_at hl 0 rfl) ?_
            refine lv_aload_n X.1 X.2.1 dX7_allConstants_104 rfl (lv_at hl 2 rfl) ?_
            refine rf_constants X hK hO dX7_allConstants_105 ?_
            refine lv_icmp_gt (tgt := 157) X.1 X.2.1 dX7_allConstants_108 rfl (fun hc9 => ?_) (fun hc9 => ?_)
            · have hw := hw.1 hc9
              exact rB_allConstants_157 X hr hlk hR hK hA k40 x1 v69 σ H locs ls (lv_sub hl [2, 3, 1] rfl) hO hw
            · have hw := hw.2 hc9
              refine lv_aload_n X.1 X.2.1 dX7_allConstants_111 rfl (lv_at hl 2 rfl) ?_
              refine rf_sort X hK hO dX7_allConstants_112 ?_
              refine lv_bipush (v := 13) X.1 X.2.1 dX7_allConstants_115 (by decide) ?_
              refine lv_aload_n X.1 X.2.1 dX7_allConstants_117 rfl (lv_at hl 2 rfl) ?_
              refine rf_now X hK hO dX7_allConstants_118 ?_
              refine lv_imul X.1 X.2.1 dX7_allConstants_121 ?_
              refine lv_iload_n X.1 X.2.1 dX7_allConstants_122 rfl (lv_at hl 0 rfl) ?_
              refine lv_iadd X.1 X.2.1 dX7_allConstants_123 ?_
              obtain ⟨g124, hw⟩ := hw
              refine ra_sort X.1 X.2.1 hK hO g124 dX7_allConstants_124 ?_
              refine lv_iconst (v := 1) X.1 X.2.1 dX7_allConstants_125 (by decide) ?_
              refine lv_icmp_ne (tgt := 157) X.1 X.2.1 dX7_allConstants_126 rfl (fun hc9 => ?_) (fun hc9 => ?_)
              · have hw := hw.1 hc9
                exact rB_allConstants_157 X hr hlk hR hK hA k40 x1 v69 σ H locs ls (lv_sub hl [2, 3, 1] rfl) hO hw
              · have hw := hw.2 hc9
                refine lv_aload_n X.1 X.2.1 dX7_allConstants_129 rfl (lv_at hl 2 rfl) ?_
                refine rf_bytes X hK hO dX7_allConstants_130 ?_
                refine lv_aload_n X.1 X.2.1 dX7_allConstants_133 rfl (lv_at hl 2 rfl) ?_
                refine rf_place X hK hO dX7_allConstants_134 ?_
                refine lv_bipush (v := 13) X.1 X.2.1 dX7_allConstants_137 (by decide) ?_
                refine lv_aload_n X.1 X.2.1 dX7_allConstants_139 rfl (lv_at hl 2 rfl) ?_
                refine rf_now X hK hO dX7_allConstants_140 ?_
                refine lv_imul X.1 X.2.1 dX7_allConstants_143 ?_
                refine lv_iload_n X.1 X.2.1 dX7_allConstants_144 rfl (lv_at hl 0 rfl) ?_
                refine lv_iadd X.1 X.2.1 dX7_allConstants_145 ?_
                obtain ⟨g146, hw⟩ := hw
                refine ra_place X.1 X.2.1 hK hO g146 dX7_allConstants_146 ?_
                refine lv_iconst (v := 1) X.1 X.2.1 dX7_allConstants_147 (by decide) ?_
                refine lv_iadd X.1 X.2.1 dX7_allConstants_148 ?_
                obtain ⟨g149, hw⟩ := hw
                refine ra_bytes X.1 X.2.1 hK hO g149 dX7_allConstants_149 ?_
                refine lv_if_le (tgt := 157) X.1 X.2.1 dX7_allConstants_150 rfl (fun hc9 => ?_) (fun hc9 => ?_)
                · have hw := hw.1 hc9
                  exact rB_allConstants_157 X hr hlk hR hK hA k40 x1 v69 σ H locs ls (lv_sub hl [2, 3, 1] rfl) hO hw
                · have hw := hw.2 hc9
                  refine lv_iconst (v := 1) X.1 X.2.1 dX7_allConstants_153 (by decide) ?_
                  refine lv_goto (tgt := 158) X.1 X.2.1 dX7_allConstants_154 rfl ?_
                  exact rB_allConstants_158 X hr hlk hR hK hA k40 x1 v69 (1 : Int32) σ H locs ls (lv_sub hl [2, 3, 1] rfl) hO hw
def R_allConstants_b38 (Q : rS → Prop) (σ : rS) : Prop :=
 R_allConstants_b40 Q (1 : Int32) σ
set_option maxHeartbeats 4000000 in
set_option maxRecDepth 100000 in
theorem rB_allConstants_38 {Q : rS → Prop} (X : CallFix p m c cX7_allConstants 5 s args wsX7_allConstants RX7) (hr : meth.sig.returnType = none) (hlk : meth.locks = false) (hR : 4 ≤ R.frames ∧ 93 ≤ R.locals) (hK : va_K (dC, dI) vwCl [(cI, .int), (cZ, .boolean)] s) (hA : ∀ q, s.heap.size ≤ q → A q) (σ : rS) (H : Heap) (locs : List Loc) (ls : Array Slot) (hl : lv_has ls 5 [(0, .ref h)]) (hO : rO dC dI h a cI cZ A s.heap σ H locs) (hw : R_allConstants_b38 Q σ) : W p l e R s m args below meth c H locs 0 0 (MQ below (va_Qv Q (rAt dC dI A h a cI cZ) A) args s 0 0 A) (F0 m 38 ls []) := by
  unfold R_allConstants_b38 at hw
  refine lv_iconst (v := 1) X.1 X.2.1 dX7_allConstants_38 (by decide) ?_
  refine lv_istore_n (lv' := [(1, .int (1 : Int32)), (0, .ref h)]) X.1 X.2.1 dX7_allConstants_39 rfl hl (by decide) rfl (fun ls hl => ?_)
  obtain ⟨n, hw⟩ := hw
  exact rB_allConstants_40 X hr hlk hR hK hA n (1 : Int32) σ H locs ls (lv_sub hl [1, 0] rfl) hO hw
def R_allConstants_b12_s (Q : rS → Prop) (K12 : Int32 → rS → Prop) (x1 : Int32) (σ : rS) : Prop :=
 ((σ.1 22) < x1 → R_allConstants_b38 Q σ) ∧ (¬ (σ.1 22) < x1 → (¬ (σ.1 23) = 0 → R_allConstants_b38 Q σ) ∧ ((σ.1 23) = 0 → R_oneConstant_w (fun t29 => ∀ v32 : Int32, v32 = x1 + (1 : Int32) → K12 v32 t29) x1 σ))
def R_allConstants_b12_f (Q : rS → Prop) : (Int32 × rS → Prop) → Int32 × rS → Prop :=
 fun K z => R_allConstants_b12_s Q (fun x1 σ => K (x1, σ)) z.1 z.2
def R_allConstants_b12 (Q : rS → Prop) (x1 : Int32) (σ : rS) : Prop := ∃ n, fx (R_allConstants_b12_f Q ) n (x1, σ)
set_option maxHeartbeats 4000000 in
set_option maxRecDepth 100000 in
theorem rB_allConstants_12 {Q : rS → Prop} (X : CallFix p m c cX7_allConstants 5 s args wsX7_allConstants RX7) (hr : meth.sig.returnType = none) (hlk : meth.locks = false) (hR : 4 ≤ R.frames ∧ 93 ≤ R.locals) (hK : va_K (dC, dI) vwCl [(cI, .int), (cZ, .boolean)] s) (hA : ∀ q, s.heap.size ≤ q → A q) : ∀ (n : Nat) (x1 : Int32) (σ : rS) (H : Heap) (locs : List Loc) (ls : Array Slot), lv_has ls 5 [(0, .ref h), (1, .int x1)] → rO dC dI h a cI cZ A s.heap σ H locs → fx (R_allConstants_b12_f Q ) n (x1, σ) → W p l e R s m args below meth c H locs 0 0 (MQ below (va_Qv Q (rAt dC dI A h a cI cZ) A) args s 0 0 A) (F0 m 12 ls []) := by
  intro n
  induction n with
  | zero => intro x1 σ H locs ls hl hO hw; exact False.elim hw
  | succ n k12 =>
    intro x1 σ H locs ls hl hO hw
    have hw : R_allConstants_b12_s Q (fun x1 σ => fx (R_allConstants_b12_f Q ) n (x1, σ)) x1 σ := hw
    unfold R_allConstants_b12_s at hw
    refine lv_iload_n X.1 X.2.1 dX7_allConstants_12 rfl (lv_at hl 1 rfl) ?_
    refine lv_aload_n X.1 X.2.1 dX7_allConstants_13 rfl (lv_at hl 0 rfl) ?_
    refine rf_constants X hK hO dX7_allConstants_14 ?_
    refine lv_icmp_gt (tgt := 38) X.1 X.2.1 dX7_allConstants_17 rfl (fun hc9 => ?_) (fun hc9 => ?_)
    · have hw := hw.1 hc9
      exact rB_allConstants_38 X hr hlk hR hK hA σ H locs ls (lv_sub hl [0] rfl) hO hw
    · have hw := hw.2 hc9
      refine lv_aload_n X.1 X.2.1 dX7_allConstants_20 rfl (lv_at hl 0 rfl) ?_
      refine rf_reason X hK hO dX7_allConstants_21 ?_
      refine lv_if_ne (tgt := 38) X.1 X.2.1 dX7_allConstants_24 rfl (fun hc9 => ?_) (fun hc9 => ?_)
      · have hw := hw.1 hc9
        exact rB_allConstants_38 X hr hlk hR hK hA σ H locs ls (lv_sub hl [0] rfl) hO hw
      · have hw := hw.2 hc9
        refine lv_aload_n X.1 X.2.1 dX7_allConstants_27 rfl (lv_at hl 0 rfl) ?_
        refine lv_iload_n X.1 X.2.1 dX7_allConstants_28 rfl (lv_at hl 1 rfl) ?_
        refine r_callv (rest := []) (As := [.int x1]) X (rC_oneConstant l dC dI h a cI cZ σ H.size x1 _ hw) (cwV 1 X.2.2.2.2 gX7_oneConstant rfl rfl rfl hdX7_oneConstant ⟨Nat.le_trans (by decide) hR.1, Nat.le_trans (by decide) hR.2⟩) hK hA hO rfl hl.1 rfl (Nat.le_of_ble_eq_true rfl) dX7_allConstants_29 (fun t29 H locs hO hw => ?_)
        obtain ⟨v32, e32⟩ : ∃ z, z = x1 + (1 : Int32) := ⟨_, rfl⟩
        have hw := hw v32 e32
        refine lv_iinc (lv' := [(1, .int v32), (0, .ref h)]) (k := 1) (v := v32) X.1 X.2.1 dX7_allConstants_32 hl rfl (by rw [e32]; rfl) (by decide) rfl (fun ls hl => ?_)
        refine lv_goto (tgt := 12) X.1 X.2.1 dX7_allConstants_35 rfl ?_
        exact k12 v32 t29 H locs ls (lv_sub hl [1, 0] rfl) hO hw
def R_allConstants_b0 (Q : rS → Prop) (σ : rS) : Prop :=
 R_many_w (fun r4 t4 => ∀ t7 : rS, t7 = rI t4 22 r4 → R_allConstants_b12 Q (1 : Int32) t7) (12 : Int32) σ
set_option maxHeartbeats 4000000 in
set_option maxRecDepth 100000 in
theorem rB_allConstants_0 {Q : rS → Prop} (X : CallFix p m c cX7_allConstants 5 s args wsX7_allConstants RX7) (hr : meth.sig.returnType = none) (hlk : meth.locks = false) (hR : 4 ≤ R.frames ∧ 93 ≤ R.locals) (hK : va_K (dC, dI) vwCl [(cI, .int), (cZ, .boolean)] s) (hA : ∀ q, s.heap.size ≤ q → A q) (σ : rS) (H : Heap) (locs : List Loc) (ls : Array Slot) (hl : lv_has ls 5 [(0, .ref h)]) (hO : rO dC dI h a cI cZ A s.heap σ H locs) (hw : R_allConstants_b0 Q σ) : W p l e R s m args below meth c H locs 0 0 (MQ below (va_Qv Q (rAt dC dI A h a cI cZ) A) args s 0 0 A) (F0 m 0 ls []) := by
  unfold R_allConstants_b0 at hw
  refine lv_aload_n X.1 X.2.1 dX7_allConstants_0 rfl (lv_at hl 0 rfl) ?_
  refine lv_aload_n X.1 X.2.1 dX7_allConstants_1 rfl (lv_at hl 0 rfl) ?_
  refine lv_bipush (v := 12) X.1 X.2.1 dX7_allConstants_2 (by decide) ?_
  refine r_calli (rest := [.ref h]) (As := [.int (12 : Int32)]) X (rC_many l dC dI h a cI cZ σ H.size (12 : Int32) _ hw) (cwV 1 X.2.2.2.2 gX7_many rfl rfl rfl hdX7_many ⟨Nat.le_trans (by decide) hR.1, Nat.le_trans (by decide) hR.2⟩) hK hA hO rfl hl.1 rfl (Nat.le_of_ble_eq_true rfl) dX7_allConstants_4 (fun r4 t4 H locs hO hw => ?_)
  refine rp_constants X hK hO dX7_allConstants_7 (fun H locs hO => ?_)
  obtain ⟨t7, e7⟩ : ∃ z, z = rI t4 22 r4 := ⟨_, rfl⟩
  have hw := hw t7 e7
  rw [← e7] at hO
  refine lv_iconst (v := 1) X.1 X.2.1 dX7_allConstants_10 (by decide) ?_
  refine lv_istore_n (lv' := [(1, .int (1 : Int32)), (0, .ref h)]) X.1 X.2.1 dX7_allConstants_11 rfl hl (by decide) rfl (fun ls hl => ?_)
  obtain ⟨n, hw⟩ := hw
  exact rB_allConstants_12 X hr hlk hR hK hA n (1 : Int32) t7 H locs ls (lv_sub hl [1, 0] rfl) hO hw
def R_allConstants_w (Q : rS → Prop) (σ : rS) : Prop := R_allConstants_b0 Q σ
abbrev rmX7_allConstants : Room := { frames := 4, cells := 0, slots := 0, locals := 93 }
set_option maxHeartbeats 4000000 in
set_option maxRecDepth 100000 in
theorem rC_allConstants (l : Launch) (dC : Nat → ClassId) (dI : Nat → Nat → Nat) (h : Nat) (a : Nat → Nat) (cI cZ : ClassId) (σ : rS) (sz : Nat) (Q : rS → Prop) (hw : R_allConstants_w Q σ) : Met l yX7_allConstants wsX7_allConstants rmX7_allConstants (rPc dC dI h a cI cZ sz σ [.ref h]) (va_Qv Q (rAt dC dI (va_A (rCells h a cI cZ σ) sz) h a cI cZ) (va_A (rCells h a cI cZ σ) sz)) 0 0 (va_A (rCells h a cI cZ σ) sz) := by
  refine Met.ofW (cc := cX7_allConstants) (maxL := 5) (ret := none) (by decide) rfl ?_
  intro p e s m args below meth c s₁ B hml hv
  obtain ⟨hargs, hsz, hP, hK, hD0⟩ := hv
  have hts := atoms_spec (ws := wsX7_allConstants) B.pre
  have hown : s.vm.findClass RX7 = some m.cls := findClass_of_methodNamed B.named
  subst hsz
  subst hargs
  have hD := hD0.self (sz := s.heap.size)
  generalize hAe : va_A (rCells h a cI cZ σ) s.heap.size = A at hD ⊢
  have hA : ∀ q : Nat, s.heap.size ≤ q → A q := fun q h => by rw [← hAe]; exact Or.inr h
  have hl := lv_entry ([.ref h]) (n := 5) (Nat.le_of_ble_eq_true rfl)
  rw [lg_entry_eq]
  generalize (lg_sl ([.ref h]) ++ List.replicate (5 - (lg_sl ([.ref h])).length) Slot.unset).toArray = ls at hl ⊢
  have hl : lv_has ls 5 [(0, .ref h)] := hl
  unfold R_allConstants_w at hw
  exact rB_allConstants_0 ⟨B.exec, B.bytes, hml, hown, hts⟩ B.returns B.notSynchronized ⟨Nat.le_of_ble_eq_true rfl, Nat.le_of_ble_eq_true rfl⟩ hK hA σ s.heap [] ls (lv_sub hl [0] rfl) ⟨hP, hD, va_S.rf⟩ hw
end
end
section
section
variable {p : Program} {l : Launch} {e : Env} {R : Room} {s : State} {m : MethodId} {args : Array Value} {below : List Frame} {meth : Method} {c : Code}
variable {dC : Nat → ClassId} {dI : Nat → Nat → Nat} {h : Nat} {a : Nat → Nat} {cI cZ : ClassId} {A : Nat → Prop}
def R_oneValue_b136 (Q : Int32 → rS → Prop) (y0 : Int32) (y1 : Int32) (σ : rS) : Prop :=
 vp_in y1 7 ∧ ∀ t136 : rS, t136 = rA σ 26 y1 (vp_nar .boolean y0) → Q (1 : Int32) t136
set_option maxHeartbeats 4000000 in
set_option maxRecDepth 100000 in
theorem rB_oneValue_136 {Q : Int32 → rS → Prop} (X : CallFix p m c cX7_oneValue 4 s args wsX7_oneValue RX7) (hr : meth.sig.returnType = (some .boolean)) (hlk : meth.locks = false) (hR : 3 ≤ R.frames ∧ 66 ≤ R.locals) (hK : va_K (dC, dI) vwCl [(cI, .int), (cZ, .boolean)] s) (hA : ∀ q, s.heap.size ≤ q → A q) (y0 : Int32) (y1 : Int32) (σ : rS) (H : Heap) (locs : List Loc) (ls : Array Slot) (hl : lv_has ls 4 [(0, .ref h)]) (hO : rO dC dI h a cI cZ A s.heap σ H locs) (hw : R_oneValue_b136 Q y0 y1 σ) : W p l e R s m args below meth c H locs 0 0 (MQ below (va_Qi Q (rAt dC dI A h a cI cZ) A) args s 0 0 A) (F0 m 136 ls [.int y0, .int y1, .ref (a 26)]) := by
  unfold R_oneValue_b136 at hw
  obtain ⟨g136, hw⟩ := hw
  refine rs_named X.1 X.2.1 hK hO g136 dX7_oneValue_136 (fun H locs hO => ?_)
  obtain ⟨t136, e136⟩ : ∃ z, z = rA σ 26 y1 (vp_nar .boolean y0) := ⟨_, rfl⟩
  have hw := hw t136 e136
  rw [← e136] at hO
  refine lv_iconst (v := 1) X.1 X.2.1 dX7_oneValue_137 (by decide) ?_
  exact W.zret (v := (1 : Int32)) X.1 X.2.1 hr rfl (fun t ht hW => ⟨⟨(1 : Int32), t136, rfl, hw, rO_end hO hK ht hW⟩, hO.2.2.F ht⟩) hO.2.2.2.2 dX7_oneValue_138 hlk
def R_oneValue_b105 (Q : Int32 → rS → Prop) (x1 : Int32) (x3 : Int32) (σ : rS) : Prop :=
 R_many_w (fun r114 t114 => vp_in (x1 + (1 : Int32)) 7 ∧ ∀ t117 : rS, t117 = rA t114 25 (x1 + (1 : Int32)) r114 → (¬ x3 = (64 : Int32) → R_oneValue_b136 Q (0 : Int32) (x1 + (1 : Int32)) t117) ∧ (x3 = (64 : Int32) → R_oneValue_b136 Q (1 : Int32) (x1 + (1 : Int32)) t117)) (4 : Int32) σ
set_option maxHeartbeats 4000000 in
set_option maxRecDepth 100000 in
theorem rB_oneValue_105 {Q : Int32 → rS → Prop} (X : CallFix p m c cX7_oneValue 4 s args wsX7_oneValue RX7) (hr : meth.sig.returnType = (some .boolean)) (hlk : meth.locks = false) (hR : 3 ≤ R.frames ∧ 66 ≤ R.locals) (hK : va_K (dC, dI) vwCl [(cI, .int), (cZ, .boolean)] s) (hA : ∀ q, s.heap.size ≤ q → A q) (x1 : Int32) (x3 : Int32) (σ : rS) (H : Heap) (locs : List Loc) (ls : Array Slot) (hl : lv_has ls 4 [(0, .ref h), (1, .int x1), (3, .int x3)]) (hO : rO dC dI h a cI cZ A s.heap σ H locs) (hw : R_oneValue_b105 Q x1 x3 σ) : W p l e R s m args below meth c H locs 0 0 (MQ below (va_Qi Q (rAt dC dI A h a cI cZ) A) args s 0 0 A) (F0 m 105 ls []) := by
  unfold R_oneValue_b105 at hw
  refine lv_aload_n X.1 X.2.1 dX7_oneValue_105 rfl (lv_at hl 0 rfl) ?_
  refine rf_left X hK hO dX7_oneValue_106 ?_
  refine lv_iload_n X.1 X.2.1 dX7_oneValue_109 rfl (lv_at hl 1 rfl) ?_
  refine lv_iconst (v := 1) X.1 X.2.1 dX7_oneValue_110 (by decide) ?_
  refine lv_iadd X.1 X.2.1 dX7_oneValue_111 ?_
  refine lv_aload_n X.1 X.2.1 dX7_oneValue_112 rfl (lv_at hl 0 rfl) ?_
  refine lv_iconst (v := 4) X.1 X.2.1 dX7_oneValue_113 (by decide) ?_
  refine r_calli (rest := [.int (x1 + (1 : Int32)), .ref (a 25)]) (As := [.int (4 : Int32)]) X (rC_many l dC dI h a cI cZ σ H.size (4 : Int32) _ hw) (cwV 1 X.2.2.2.2 gX7_many rfl rfl rfl hdX7_many ⟨Nat.le_trans (by decide) hR.1, Nat.le_trans (by decide) hR.2⟩) hK hA hO rfl hl.1 rfl (Nat.le_of_ble_eq_true rfl) dX7_oneValue_114 (fun r114 t114 H locs hO hw => ?_)
  obtain ⟨g117, hw⟩ := hw
  refine rs_left X.1 X.2.1 hK hO g117 dX7_oneValue_117 (fun H locs hO => ?_)
  obtain ⟨t117, e117⟩ : ∃ z, z = rA t114 25 (x1 + (1 : Int32)) r114 := ⟨_, rfl⟩
  have hw := hw t117 e117
  rw [← e117] at hO
  refine lv_aload_n X.1 X.2.1 dX7_oneValue_118 rfl (lv_at hl 0 rfl) ?_
  refine rf_named X hK hO dX7_oneValue_119 ?_
  refine lv_iload_n X.1 X.2.1 dX7_oneValue_122 rfl (lv_at hl 1 rfl) ?_
  refine lv_iconst (v := 1) X.1 X.2.1 dX7_oneValue_123 (by decide) ?_
  refine lv_iadd X.1 X.2.1 dX7_oneValue_124 ?_
  refine lv_iload_n X.1 X.2.1 dX7_oneValue_125 rfl (lv_at hl 2 rfl) ?_
  refine lv_bipush (v := 64) X.1 X.2.1 dX7_oneValue_126 (by decide) ?_
  refine lv_icmp_ne (tgt := 135) X.1 X.2.1 dX7_oneValue_128 rfl (fun hc9 => ?_) (fun hc9 => ?_)
  · have hw := hw.1 hc9
    refine lv_iconst (v := 0) X.1 X.2.1 dX7_oneValue_135 (by decide) ?_
    exact rB_oneValue_136 X hr hlk hR hK hA (0 : Int32) (x1 + (1 : Int32)) t117 H locs ls (lv_sub hl [0] rfl) hO hw
  · have hw := hw.2 hc9
    refine lv_iconst (v := 1) X.1 X.2.1 dX7_oneValue_131 (by decide) ?_
    refine lv_goto (tgt := 136) X.1 X.2.1 dX7_oneValue_132 rfl ?_
    exact rB_oneValue_136 X hr hlk hR hK hA (1 : Int32) (x1 + (1 : Int32)) t117 H locs ls (lv_sub hl [0] rfl) hO hw
def R_oneValue_b92 (Q : Int32 → rS → Prop) (x1 : Int32) (x3 : Int32) (σ : rS) : Prop :=
 (¬ x3 = (64 : Int32) → R_oneValue_b105 Q x1 x3 σ) ∧ (x3 = (64 : Int32) → R_constant_w (fun r101 t101 => R_oneValue_b105 Q x1 x3 t101) (7 : Int32) σ)
set_option maxHeartbeats 4000000 in
set_option maxRecDepth 100000 in
theorem rB_oneValue_92 {Q : Int32 → rS → Prop} (X : CallFix p m c cX7_oneValue 4 s args wsX7_oneValue RX7) (hr : meth.sig.returnType = (some .boolean)) (hlk : meth.locks = false) (hR : 3 ≤ R.frames ∧ 66 ≤ R.locals) (hK : va_K (dC, dI) vwCl [(cI, .int), (cZ, .boolean)] s) (hA : ∀ q, s.heap.size ≤ q → A q) (x1 : Int32) (x3 : Int32) (σ : rS) (H : Heap) (locs : List Loc) (ls : Array Slot) (hl : lv_has ls 4 [(0, .ref h), (1, .int x1), (3, .int x3)]) (hO : rO dC dI h a cI cZ A s.heap σ H locs) (hw : R_oneValue_b92 Q x1 x3 σ) : W p l e R s m args below meth c H locs 0 0 (MQ below (va_Qi Q (rAt dC dI A h a cI cZ) A) args s 0 0 A) (F0 m 92 ls []) := by
  unfold R_oneValue_b92 at hw
  refine lv_iload_n X.1 X.2.1 dX7_oneValue_92 rfl (lv_at hl 2 rfl) ?_
  refine lv_bipush (v := 64) X.1 X.2.1 dX7_oneValue_93 (by decide) ?_
  refine lv_icmp_ne (tgt := 105) X.1 X.2.1 dX7_oneValue_95 rfl (fun hc9 => ?_) (fun hc9 => ?_)
  · have hw := hw.1 hc9
    exact rB_oneValue_105 X hr hlk hR hK hA x1 x3 σ H locs ls (lv_sub hl [0, 1, 2] rfl) hO hw
  · have hw := hw.2 hc9
    refine lv_aload_n X.1 X.2.1 dX7_oneValue_98 rfl (lv_at hl 0 rfl) ?_
    refine lv_bipush (v := 7) X.1 X.2.1 dX7_oneValue_99 (by decide) ?_
    refine r_calli (rest := []) (As := [.int (7 : Int32)]) X (rC_constant l dC dI h a cI cZ σ H.size (7 : Int32) _ hw) (cwV 1 X.2.2.2.2 gX7_constant rfl rfl rfl hdX7_constant ⟨Nat.le_trans (by decide) hR.1, Nat.le_trans (by decide) hR.2⟩) hK hA hO rfl hl.1 rfl (Nat.le_of_ble_eq_true rfl) dX7_oneValue_101 (fun r101 t101 H locs hO hw => ?_)
    refine lv_pop X.1 X.2.1 dX7_oneValue_104 rfl ?_
    exact rB_oneValue_105 X hr hlk hR hK hA x1 x3 t101 H locs ls (lv_sub hl [0, 1, 2] rfl) hO hw
def R_oneValue_b145 (Q : Int32 → rS → Prop) (σ : rS) : Prop :=
 Q (0 : Int32) σ
set_option maxHeartbeats 4000000 in
set_option maxRecDepth 100000 in
theorem rB_oneValue_145 {Q : Int32 → rS → Prop} (X : CallFix p m c cX7_oneValue 4 s args wsX7_oneValue RX7) (hr : meth.sig.returnType = (some .boolean)) (hlk : meth.locks = false) (hR : 3 ≤ R.frames ∧ 66 ≤ R.locals) (hK : va_K (dC, dI) vwCl [(cI, .int), (cZ, .boolean)] s) (hA : ∀ q, s.heap.size ≤ q → A q) (σ : rS) (H : Heap) (locs : List Loc) (ls : Array Slot) (hl : lv_has ls 4 [(0, .ref h)]) (hO : rO dC dI h a cI cZ A s.heap σ H locs) (hw : R_oneValue_b145 Q σ) : W p l e R s m args below meth c H locs 0 0 (MQ below (va_Qi Q (rAt dC dI A h a cI cZ) A) args s 0 0 A) (F0 m 145 ls []) := by
  unfold R_oneValue_b145 at hw
  refine lv_iconst (v := 0) X.1 X.2.1 dX7_oneValue_145 (by decide) ?_
  exact W.zret (v := (0 : Int32)) X.1 X.2.1 hr rfl (fun t ht hW => ⟨⟨(0 : Int32), σ, rfl, hw, rO_end hO hK ht hW⟩, hO.2.2.F ht⟩) hO.2.2.2.2 dX7_oneValue_146 hlk
def R_oneValue_b0 (Q : Int32 → rS → Prop) (x1 : Int32) (σ : rS) : Prop :=
 ∀ v4 : Int32, v4 = (σ.1 21) → R_take_w (fun r6 t6 => ((t6.1 23) = 0 → (¬ x1 = (5 : Int32) → (¬ r6 = (73 : Int32) → (¬ r6 = (115 : Int32) → (¬ r6 = (99 : Int32) → (r6 = (91 : Int32) → R_oneValue_b92 Q x1 r6 t6) ∧ (¬ r6 = (91 : Int32) → (¬ r6 = (64 : Int32) → R_fail_w (fun t142 => R_oneValue_b145 Q t142) (3 : Int32) v4 t6) ∧ (r6 = (64 : Int32) → R_oneValue_b92 Q x1 r6 t6))) ∧ (r6 = (99 : Int32) → R_constant_w (fun r73 t73 => R_oneValue_b145 Q t73) (7 : Int32) t6)) ∧ (r6 = (115 : Int32) → R_constant_w (fun r57 t57 => R_oneValue_b145 Q t57) (1 : Int32) t6)) ∧ (r6 = (73 : Int32) → R_constant_w (fun r42 t42 => R_oneValue_b145 Q t42) (3 : Int32) t6)) ∧ (x1 = (5 : Int32) → R_fail_w (fun t28 => R_oneValue_b145 Q t28) (7 : Int32) v4 t6)) ∧ (¬ (t6.1 23) = 0 → Q (0 : Int32) t6)) σ
set_option maxHeartbeats 4000000 in
set_option maxRecDepth 100000 in
theorem rB_oneValue_0 {Q : Int32 → rS → Prop} (X : CallFix p m c cX7_oneValue 4 s args wsX7_oneValue RX7) (hr : meth.sig.returnType = (some .boolean)) (hlk : meth.locks = false) (hR : 3 ≤ R.frames ∧ 66 ≤ R.locals) (hK : va_K (dC, dI) vwCl [(cI, .int), (cZ, .boolean)] s) (hA : ∀ q, s.heap.size ≤ q → A q) (x1 : Int32) (σ : rS) (H : Heap) (locs : List Loc) (ls : Array Slot) (hl : lv_has ls 4 [(0, .ref h), (1, .int x1)]) (hO : rO dC dI h a cI cZ A s.heap σ H locs) (hw : R_oneValue_b0 Q x1 σ) : W p l e R s m args below meth c H locs 0 0 (MQ below (va_Qi Q (rAt dC dI A h a cI cZ) A) args s 0 0 A) (F0 m 0 ls []) := by
  unfold R_oneValue_b0 at hw
  refine lv_aload_n X.1 X.2.1 dX7_oneValue_0 rfl (lv_at hl 0 rfl) ?_
  refine rf_at X hK hO dX7_oneValue_1 ?_
  refine lv_topi (fun v4 e4 => ?_)
  have hw := hw v4 e4
  refine lv_istore_n (lv' := [(2, .int v4), (0, .ref h), (1, .int x1)]) X.1 X.2.1 dX7_oneValue_4 rfl hl (by decide) rfl (fun ls hl => ?_)
  refine lv_aload_n X.1 X.2.1 dX7_oneValue_5 rfl (lv_at hl 1 rfl) ?_
  refine r_calli (rest := []) (As := []) X (rC_take l dC dI h a cI cZ σ H.size _ hw) (cwV 0 X.2.2.2.2 gX7_take rfl rfl rfl hdX7_take ⟨Nat.le_trans (by decide) hR.1, Nat.le_trans (by decide) hR.2⟩) hK hA hO rfl hl.1 rfl (Nat.le_of_ble_eq_true rfl) dX7_oneValue_6 (fun r6 t6 H locs hO hw => ?_)
  refine lv_istore_n (lv' := [(3, .int r6), (2, .int v4), (0, .ref h), (1, .int x1)]) X.1 X.2.1 dX7_oneValue_9 rfl hl (by decide) rfl (fun ls hl => ?_)
  refine lv_aload_n X.1 X.2.1 dX7_oneValue_10 rfl (lv_at hl 2 rfl) ?_
  refine rf_reason X hK hO dX7_oneValue_11 ?_
  refine lv_if_eq (tgt := 19) X.1 X.2.1 dX7_oneValue_14 rfl (fun hc9 => ?_) (fun hc9 => ?_)
  · have hw := hw.1 hc9
    refine lv_iload_n X.1 X.2.1 dX7_oneValue_19 rfl (lv_at hl 3 rfl) ?_
    refine lv_iconst (v := 5) X.1 X.2.1 dX7_oneValue_20 (by decide) ?_
    refine lv_icmp_ne (tgt := 34) X.1 X.2.1 dX7_oneValue_21 rfl (fun hc9 => ?_) (fun hc9 => ?_)
    · have hw := hw.1 hc9
      refine lv_iload_n X.1 X.2.1 dX7_oneValue_34 rfl (lv_at hl 0 rfl) ?_
      refine lv_bipush (v := 73) X.1 X.2.1 dX7_oneValue_35 (by decide) ?_
      refine lv_icmp_ne (tgt := 49) X.1 X.2.1 dX7_oneValue_37 rfl (fun hc9 => ?_) (fun hc9 => ?_)
      · have hw := hw.1 hc9
        refine lv_iload_n X.1 X.2.1 dX7_oneValue_49 rfl (lv_at hl 0 rfl) ?_
        refine lv_bipush (v := 115) X.1 X.2.1 dX7_oneValue_50 (by decide) ?_
        refine lv_icmp_ne (tgt := 64) X.1 X.2.1 dX7_oneValue_52 rfl (fun hc9 => ?_) (fun hc9 => ?_)
        · have hw := hw.1 hc9
          refine lv_iload_n X.1 X.2.1 dX7_oneValue_64 rfl (lv_at hl 0 rfl) ?_
          refine lv_bipush (v := 99) X.1 X.2.1 dX7_oneValue_65 (by decide) ?_
          refine lv_icmp_ne (tgt := 80) X.1 X.2.1 dX7_oneValue_67 rfl (fun hc9 => ?_) (fun hc9 => ?_)
          · have hw := hw.1 hc9
            refine lv_iload_n X.1 X.2.1 dX7_oneValue_80 rfl (lv_at hl 0 rfl) ?_
            refine lv_bipush (v := 91) X.1 X.2.1 dX7_oneValue_81 (by decide) ?_
            refine lv_icmp_eq (tgt := 92) X.1 X.2.1 dX7_oneValue_83 rfl (fun hc9 => ?_) (fun hc9 => ?_)
            · have hw := hw.1 hc9
              exact rB_oneValue_92 X hr hlk hR hK hA x1 r6 t6 H locs ls (lv_sub hl [2, 3, 0] rfl) hO hw
            · have hw := hw.2 hc9
              refine lv_iload_n X.1 X.2.1 dX7_oneValue_86 rfl (lv_at hl 0 rfl) ?_
              refine lv_bipush (v := 64) X.1 X.2.1 dX7_oneValue_87 (by decide) ?_
              refine lv_icmp_ne (tgt := 139) X.1 X.2.1 dX7_oneValue_89 rfl (fun hc9 => ?_) (fun hc9 => ?_)
              · have hw := hw.1 hc9
                refine lv_aload_n X.1 X.2.1 dX7_oneValue_139 rfl (lv_at hl 2 rfl) ?_
                refine lv_iconst (v := 3) X.1 X.2.1 dX7_oneValue_140 (by decide) ?_
                refine lv_iload_n X.1 X.2.1 dX7_oneValue_141 rfl (lv_at hl 1 rfl) ?_
                refine r_callv (rest := []) (As := [.int (3 : Int32), .int v4]) X (rC_fail l dC dI h a cI cZ t6 H.size (3 : Int32) v4 _ hw) (cwV 2 X.2.2.2.2 gX7_fail rfl rfl rfl hdX7_fail ⟨Nat.le_trans (by decide) hR.1, Nat.le_trans (by decide) hR.2⟩) hK hA hO rfl hl.1 rfl (Nat.le_of_ble_eq_true rfl) dX7_oneValue_142 (fun t142 H locs hO hw => ?_)
                exact rB_oneValue_145 X hr hlk hR hK hA t142 H locs ls (lv_sub hl [2] rfl) hO hw
              · have hw := hw.2 hc9
                exact rB_oneValue_92 X hr hlk hR hK hA x1 r6 t6 H locs ls (lv_sub hl [2, 3, 0] rfl) hO hw
          · have hw := hw.2 hc9
            refine lv_aload_n X.1 X.2.1 dX7_oneValue_70 rfl (lv_at hl 2 rfl) ?_
            refine lv_bipush (v := 7) X.1 X.2.1 dX7_oneValue_71 (by decide) ?_
            refine r_calli (rest := []) (As := [.int (7 : Int32)]) X (rC_constant l dC dI h a cI cZ t6 H.size (7 : Int32) _ hw) (cwV 1 X.2.2.2.2 gX7_constant rfl rfl rfl hdX7_constant ⟨Nat.le_trans (by decide) hR.1, Nat.le_trans (by decide) hR.2⟩) hK hA hO rfl hl.1 rfl (Nat.le_of_ble_eq_true rfl) dX7_oneValue_73 (fun r73 t73 H locs hO hw => ?_)
            refine lv_pop X.1 X.2.1 dX7_oneValue_76 rfl ?_
            refine lv_goto (tgt := 145) X.1 X.2.1 dX7_oneValue_77 rfl ?_
            exact rB_oneValue_145 X hr hlk hR hK hA t73 H locs ls (lv_sub hl [2] rfl) hO hw
        · have hw := hw.2 hc9
          refine lv_aload_n X.1 X.2.1 dX7_oneValue_55 rfl (lv_at hl 2 rfl) ?_
          refine lv_iconst (v := 1) X.1 X.2.1 dX7_oneValue_56 (by decide) ?_
          refine r_calli (rest := []) (As := [.int (1 : Int32)]) X (rC_constant l dC dI h a cI cZ t6 H.size (1 : Int32) _ hw) (cwV 1 X.2.2.2.2 gX7_constant rfl rfl rfl hdX7_constant ⟨Nat.le_trans (by decide) hR.1, Nat.le_trans (by decide) hR.2⟩) hK hA hO rfl hl.1 rfl (Nat.le_of_ble_eq_true rfl) dX7_oneValue_57 (fun r57 t57 H locs hO hw => ?_)
          refine lv_pop X.1 X.2.1 dX7_oneValue_60 rfl ?_
          refine lv_goto (tgt := 145) X.1 X.2.1 dX7_oneValue_61 rfl ?_
          exact rB_oneValue_145 X hr hlk hR hK hA t57 H locs ls (lv_sub hl [2] rfl) hO hw
      · have hw := hw.2 hc9
        refine lv_aload_n X.1 X.2.1 dX7_oneValue_40 rfl (lv_at hl 2 rfl) ?_
        refine lv_iconst (v := 3) X.1 X.2.1 dX7_oneValue_41 (by decide) ?_
        refine r_calli (rest := []) (As := [.int (3 : Int32)]) X (rC_constant l dC dI h a cI cZ t6 H.size (3 : Int32) _ hw) (cwV 1 X.2.2.2.2 gX7_constant rfl rfl rfl hdX7_constant ⟨Nat.le_trans (by decide) hR.1, Nat.le_trans (by decide) hR.2⟩) hK hA hO rfl hl.1 rfl (Nat.le_of_ble_eq_true rfl) dX7_oneValue_42 (fun r42 t42 H locs hO hw => ?_)
        refine lv_pop X.1 X.2.1 dX7_oneValue_45 rfl ?_
        refine lv_goto (tgt := 145) X.1 X.2.1 dX7_oneValue_46 rfl ?_
        exact rB_oneValue_145 X hr hlk hR hK hA t42 H locs ls (lv_sub hl [2] rfl) hO hw
    · have hw := hw.2 hc9
      refine lv_aload_n X.1 X.2.1 dX7_oneValue_24 rfl (lv_at hl 2 rfl) ?_
      refine lv_bipush (v := 7) X.1 X.2.1 dX7_oneValue_25 (by decide) ?_
      refine lv_iload_n X.1 X.2.1 dX7_oneValue_27 rfl (lv_at hl 1 rfl) ?_
      refine r_callv (rest := []) (As := [.int (7 : Int32), .int v4]) X (rC_fail l dC dI h a cI cZ t6 H.size (7 : Int32) v4 _ hw) (cwV 2 X.2.2.2.2 gX7_fail rfl rfl rfl hdX7_fail ⟨Nat.le_trans (by decide) hR.1, Nat.le_trans (by decide) hR.2⟩) hK hA hO rfl hl.1 rfl (Nat.le_of_ble_eq_true rfl) dX7_oneValue_28 (fun t28 H locs hO hw => ?_)
      refine lv_goto (tgt := 145) X.1 X.2.1 dX7_oneValue_31 rfl ?_
      exact rB_oneValue_145 X hr hlk hR hK hA t28 H locs ls (lv_sub hl [2] rfl) hO hw
  · have hw := hw.2 hc9
    refine lv_iconst (v := 0) X.1 X.2.1 dX7_oneValue_17 (by decide) ?_
    exact W.zret (v := (0 : Int32)) X.1 X.2.1 hr rfl (fun t ht hW => ⟨⟨(0 : Int32), t6, rfl, hw, rO_end hO hK ht hW⟩, hO.2.2.F ht⟩) hO.2.2.2.2 dX7_oneValue_18 hlk
def R_oneValue_w (Q : Int32 → rS → Prop) (x1 : Int32) (σ : rS) : Prop := R_oneValue_b0 Q x1 σ
abbrev rmX7_oneValue : Room := { frames := 3, cells := 0, slots := 0, locals := 66 }
set_option maxHeartbeats 4000000 in
set_option maxRecDepth 100000 in
theorem rC_oneValue (l : Launch) (dC : Nat → ClassId) (dI : Nat → Nat → Nat) (h : Nat) (a : Nat → Nat) (cI cZ : ClassId) (σ : rS) (sz : Nat) (x1 : Int32) (Q : Int32 → rS → Prop) (hw : R_oneValue_w Q x1 σ) : Met l yX7_oneValue wsX7_oneValue rmX7_oneValue (rPc dC dI h a cI cZ sz σ [.ref h, .int x1]) (va_Qi Q (rAt dC dI (va_A (rCells h a cI cZ σ) sz) h a cI cZ) (va_A (rCells h a cI cZ σ) sz)) 0 0 (va_A (rCells h a cI cZ σ) sz) := by
  refine Met.ofW (cc := cX7_oneValue) (maxL := 4) (ret := (some .boolean)) (by decide) rfl ?_
  intro p e s m args below meth c s₁ B hml hv
  obtain ⟨hargs, hsz, hP, hK, hD0⟩ := hv
  have hts := atoms_spec (ws := wsX7_oneValue) B.pre
  have hown : s.vm.findClass RX7 = some m.cls := findClass_of_methodNamed B.named
  subst hsz
  subst hargs
  have hD := hD0.self (sz := s.heap.size)
  generalize hAe : va_A (rCells h a cI cZ σ) s.heap.size = A at hD ⊢
  have hA : ∀ q : Nat, s.heap.size ≤ q → A q := fun q h => by rw [← hAe]; exact Or.inr h
  have hl := lv_entry ([.ref h, .int x1]) (n := 4) (Nat.le_of_ble_eq_true rfl)
  rw [lg_entry_eq]
  generalize (lg_sl ([.ref h, .int x1]) ++ List.replicate (4 - (lg_sl ([.ref h, .int x1])).length) Slot.unset).toArray = ls at hl ⊢
  have hl : lv_has ls 4 [(0, .ref h), (1, .int x1)] := hl
  unfold R_oneValue_w at hw
  exact rB_oneValue_0 ⟨B.exec, B.bytes, hml, hown, hts⟩ B.returns B.notSynchronized ⟨Nat.le_of_ble_eq_true rfl, Nat.le_of_ble_eq_true rfl⟩ hK hA x1 σ s.heap [] ls (lv_sub hl [0, 1] rfl) ⟨hP, hD, va_S.rf⟩ hw
def R_values_b88 (Q : rS → Prop) (σ : rS) : Prop :=
 Q σ
set_option maxHeartbeats 4000000 in
set_option maxRecDepth 100000 in
theorem rB_values_88 {Q : rS → Prop} (X : CallFix p m c cX7_values 3 s args wsX7_values RX7) (hr : meth.sig.returnType = none) (hlk : meth.locks = false) (hR : 4 ≤ R.frames ∧ 89 ≤ R.locals) (hK : va_K (dC, dI) vwCl [(cI, .int), (cZ, .boolean)] s) (hA : ∀ q, s.heap.size ≤ q → A q) (σ : rS) (H : Heap) (locs : List Loc) (ls : Array Slot) (hl : lv_has ls 3 [(0, .ref h)]) (hO : rO dC dI h a cI cZ A s.heap σ H locs) (hw : R_values_b88 Q σ) : W p l e R s m args below meth c H locs 0 0 (MQ below (va_Qv Q (rAt dC dI A h a cI cZ) A) args s 0 0 A) (F0 m 88 ls []) := by
  unfold R_values_b88 at hw
  exact W.vret X.1 X.2.1 hr (fun t ht hW => ⟨⟨σ, rfl, hw, rO_end hO hK ht hW⟩, hO.2.2.F ht⟩) hO.2.2.2.2 dX7_values_88 hlk
def R_values_b67 (Q : rS → Prop) (K16 : Int32 → rS → Prop) (x2 : Int32) (σ : rS) : Prop :=
 (¬ (σ.1 23) = 0 → K16 x2 σ) ∧ ((σ.1 23) = 0 → R_oneValue_w (fun r76 t76 => (r76 = 0 → K16 x2 t76) ∧ (¬ r76 = 0 → ∀ v82 : Int32, v82 = x2 + (1 : Int32) → K16 v82 t76)) x2 σ)
set_option maxHeartbeats 4000000 in
set_option maxRecDepth 100000 in
theorem rB_values_67 {Q : rS → Prop} {K16 : Int32 → rS → Prop} (X : CallFix p m c cX7_values 3 s args wsX7_values RX7) (hr : meth.sig.returnType = none) (hlk : meth.locks = false) (hR : 4 ≤ R.frames ∧ 89 ≤ R.locals) (hK : va_K (dC, dI) vwCl [(cI, .int), (cZ, .boolean)] s) (hA : ∀ q, s.heap.size ≤ q → A q) (k16 : ∀ (x2 : Int32) (σ : rS) (H : Heap) (locs : List Loc) (ls : Array Slot), lv_has ls 3 [(0, .ref h), (2, .int x2)] → rO dC dI h a cI cZ A s.heap σ H locs → K16 x2 σ → W p l e R s m args below meth c H locs 0 0 (MQ below (va_Qv Q (rAt dC dI A h a cI cZ) A) args s 0 0 A) (F0 m 16 ls [])) (x2 : Int32) (σ : rS) (H : Heap) (locs : List Loc) (ls : Array Slot) (hl : lv_has ls 3 [(0, .ref h), (2, .int x2)]) (hO : rO dC dI h a cI cZ A s.heap σ H locs) (hw : R_values_b67 Q K16 x2 σ) : W p l e R s m args below meth c H locs 0 0 (MQ below (va_Qv Q (rAt dC dI A h a cI cZ) A) args s 0 0 A) (F0 m 67 ls []) := by
  unfold R_values_b67 at hw
  refine lv_aload_n X.1 X.2.1 dX7_values_67 rfl (lv_at hl 0 rfl) ?_
  refine rf_reason X hK hO dX7_values_68 ?_
  refine lv_if_ne (tgt := 16) X.1 X.2.1 dX7_values_71 rfl (fun hc9 => ?_) (fun hc9 => ?_)
  · have hw := hw.1 hc9
    exact k16 x2 σ H locs ls (lv_sub hl [0, 1] rfl) hO hw
  · have hw := hw.2 hc9
    refine lv_aload_n X.1 X.2.1 dX7_values_74 rfl (lv_at hl 0 rfl) ?_
    refine lv_iload_n X.1 X.2.1 dX7_values_75 rfl (lv_at hl 1 rfl) ?_
    refine r_calli (rest := []) (As := [.int x2]) X (rC_oneValue l dC dI h a cI cZ σ H.size x2 _ hw) (cwV 1 X.2.2.2.2 gX7_oneValue rfl rfl rfl hdX7_oneValue ⟨Nat.le_trans (by decide) hR.1, Nat.le_trans (by decide) hR.2⟩) hK hA hO rfl hl.1 rfl (Nat.le_of_ble_eq_true rfl) dX7_values_76 (fun r76 t76 H locs hO hw => ?_)
    refine lv_if_eq (tgt := 16) X.1 X.2.1 dX7_values_79 rfl (fun hc9 => ?_) (fun hc9 => ?_)
    · have hw := hw.1 hc9
      exact k16 x2 t76 H locs ls (lv_sub hl [0, 1] rfl) hO hw
    · have hw := hw.2 hc9
      obtain ⟨v82, e82⟩ : ∃ z, z = x2 + (1 : Int32) := ⟨_, rfl⟩
      have hw := hw v82 e82
      refine lv_iinc (lv' := [(2, .int v82), (0, .ref h)]) (k := 1) (v := v82) X.1 X.2.1 dX7_values_82 hl rfl (by rw [e82]; rfl) (by decide) rfl (fun ls hl => ?_)
      refine lv_goto (tgt := 16) X.1 X.2.1 dX7_values_85 rfl ?_
      exact k16 v82 t76 H locs ls (lv_sub hl [1, 0] rfl) hO hw
def R_values_b16_s (Q : rS → Prop) (K16 : Int32 → rS → Prop) (x2 : Int32) (σ : rS) : Prop :=
 (x2 ≤ 0 → R_values_b88 Q σ) ∧ (¬ x2 ≤ 0 → (¬ (σ.1 23) = 0 → R_values_b88 Q σ) ∧ ((σ.1 23) = 0 → vp_in x2 7 ∧ (¬ (σ.2 25 x2.toNatClampNeg) = 0 → vp_in x2 7 ∧ vp_in x2 7 ∧ ∀ t51 : rS, t51 = rA σ 25 x2 ((σ.2 25 x2.toNatClampNeg) - (1 : Int32)) → vp_in x2 7 ∧ ((t51.2 26 x2.toNatClampNeg) = 0 → R_values_b67 Q K16 x2 t51) ∧ (¬ (t51.2 26 x2.toNatClampNeg) = 0 → R_constant_w (fun r63 t63 => R_values_b67 Q K16 x2 t63) (1 : Int32) t51)) ∧ ((σ.2 25 x2.toNatClampNeg) = 0 → ∀ v36 : Int32, v36 = x2 + (-1 : Int32) → K16 v36 σ)))
def R_values_b16_f (Q : rS → Prop) : (Int32 × rS → Prop) → Int32 × rS → Prop :=
 fun K z => R_values_b16_s Q (fun x2 σ => K (x2, σ)) z.1 z.2
def R_values_b16 (Q : rS → Prop) (x2 : Int32) (σ : rS) : Prop := ∃ n, fx (R_values_b16_f Q ) n (x2, σ)
set_option maxHeartbeats 4000000 in
set_option maxRecDepth 100000 in
theorem rB_values_16 {Q : rS → Prop} (X : CallFix p m c cX7_values 3 s args wsX7_values RX7) (hr : meth.sig.returnType = none) (hlk : meth.locks = false) (hR : 4 ≤ R.frames ∧ 89 ≤ R.locals) (hK : va_K (dC, dI) vwCl [(cI, .int), (cZ, .boolean)] s) (hA : ∀ q, s.heap.size ≤ q → A q) : ∀ (n : Nat) (x2 : Int32) (σ : rS) (H : Heap) (locs : List Loc) (ls : Array Slot), lv_has ls 3 [(0, .ref h), (2, .int x2)] → rO dC dI h a cI cZ A s.heap σ H locs → fx (R_values_b16_f Q ) n (x2, σ) → W p l e R s m args below meth c H locs 0 0 (MQ below (va_Qv Q (rAt dC dI A h a cI cZ) A) args s 0 0 A) (F0 m 16 ls []) := by
  intro n
  induction n with
  | zero => intro x2 σ H locs ls hl hO hw; exact False.elim hw
  | succ n k16 =>
    intro x2 σ H locs ls hl hO hw
    have hw : R_values_b16_s Q (fun x2 σ => fx (R_values_b16_f Q ) n (x2, σ)) x2 σ := hw
    unfold R_values_b16_s at hw
    refine lv_iload_n X.1 X.2.1 dX7_values_16 rfl (lv_at hl 1 rfl) ?_
    refine lv_if_le (tgt := 88) X.1 X.2.1 dX7_values_17 rfl (fun hc9 => ?_) (fun hc9 => ?_)
    · have hw := hw.1 hc9
      exact rB_values_88 X hr hlk hR hK hA σ H locs ls (lv_sub hl [0] rfl) hO hw
    · have hw := hw.2 hc9
      refine lv_aload_n X.1 X.2.1 dX7_values_20 rfl (lv_at hl 0 rfl) ?_
      refine rf_reason X hK hO dX7_values_21 ?_
      refine lv_if_ne (tgt := 88) X.1 X.2.1 dX7_values_24 rfl (fun hc9 => ?_) (fun hc9 => ?_)
      · have hw := hw.1 hc9
        exact rB_values_88 X hr hlk hR hK hA σ H locs ls (lv_sub hl [0] rfl) hO hw
      · have hw := hw.2 hc9
        refine lv_aload_n X.1 X.2.1 dX7_values_27 rfl (lv_at hl 0 rfl) ?_
        refine rf_left X hK hO dX7_values_28 ?_
        refine lv_iload_n X.1 X.2.1 dX7_values_31 rfl (lv_at hl 1 rfl) ?_
        obtain ⟨g32, hw⟩ := hw
        refine ra_left X.1 X.2.1 hK hO g32 dX7_values_32 ?_
        refine lv_if_ne (tgt := 42) X.1 X.2.1 dX7_values_33 rfl (fun hc9 => ?_) (fun hc9 => ?_)
        · have hw := hw.1 hc9
          refine lv_aload_n X.1 X.2.1 dX7_values_42 rfl (lv_at hl 0 rfl) ?_
          refine rf_left X hK hO dX7_values_43 ?_
          refine lv_iload_n X.1 X.2.1 dX7_values_46 rfl (lv_at hl 1 rfl) ?_
          refine lv_dup2_11 X.1 X.2.1 dX7_values_47 rfl rfl ?_
          obtain ⟨g48, hw⟩ := hw
          refine ra_left X.1 X.2.1 hK hO g48 dX7_values_48 ?_
          refine lv_iconst (v := 1) X.1 X.2.1 dX7_values_49 (by decide) ?_
          refine lv_isub X.1 X.2.1 dX7_values_50 ?_
          obtain ⟨g51, hw⟩ := hw
          refine rs_left X.1 X.2.1 hK hO g51 dX7_values_51 (fun H locs hO => ?_)
          obtain ⟨t51, e51⟩ : ∃ z, z = rA σ 25 x2 ((σ.2 25 x2.toNatClampNeg) - (1 : Int32)) := ⟨_, rfl⟩
          have hw := hw t51 e51
          rw [← e51] at hO
          refine lv_aload_n X.1 X.2.1 dX7_values_52 rfl (lv_at hl 0 rfl) ?_
          refine rf_named X hK hO dX7_values_53 ?_
          refine lv_iload_n X.1 X.2.1 dX7_values_56 rfl (lv_at hl 1 rfl) ?_
          obtain ⟨g57, hw⟩ := hw
          refine ra_named X.1 X.2.1 hK hO g57 dX7_values_57 ?_
          refine lv_if_eq (tgt := 67) X.1 X.2.1 dX7_values_58 rfl (fun hc9 => ?_) (fun hc9 => ?_)
          · have hw := hw.1 hc9
            exact rB_values_67 X hr hlk hR hK hA k16 x2 t51 H locs ls (lv_sub hl [0, 1] rfl) hO hw
          · have hw := hw.2 hc9
            refine lv_aload_n X.1 X.2.1 dX7_values_61 rfl (lv_at hl 0 rfl) ?_
            refine lv_iconst (v := 1) X.1 X.2.1 dX7_values_62 (by decide) ?_
            refine r_calli (rest := []) (As := [.int (1 : Int32)]) X (rC_constant l dC dI h a cI cZ t51 H.size (1 : Int32) _ hw) (cwV 1 X.2.2.2.2 gX7_constant rfl rfl rfl hdX7_constant ⟨Nat.le_trans (by decide) hR.1, Nat.le_trans (by decide) hR.2⟩) hK hA hO rfl hl.1 rfl (Nat.le_of_ble_eq_true rfl) dX7_values_63 (fun r63 t63 H locs hO hw => ?_)
            refine lv_pop X.1 X.2.1 dX7_values_66 rfl ?_
            exact rB_values_67 X hr hlk hR hK hA k16 x2 t63 H locs ls (lv_sub hl [0, 1] rfl) hO hw
        · have hw := hw.2 hc9
          obtain ⟨v36, e36⟩ : ∃ z, z = x2 + (-1 : Int32) := ⟨_, rfl⟩
          have hw := hw v36 e36
          refine lv_iinc (lv' := [(2, .int v36), (0, .ref h)]) (k := 1) (v := v36) X.1 X.2.1 dX7_values_36 hl rfl (by rw [e36]; rfl) (by decide) rfl (fun ls hl => ?_)
          refine lv_goto (tgt := 16) X.1 X.2.1 dX7_values_39 rfl ?_
          exact k16 v36 σ H locs ls (lv_sub hl [1, 0] rfl) hO hw
def R_values_b0 (Q : rS → Prop) (x1 : Int32) (σ : rS) : Prop :=
 ∀ t8 : rS, t8 = rA σ 25 (1 : Int32) x1 → ∀ t15 : rS, t15 = rA t8 26 (1 : Int32) (vp_nar .boolean (1 : Int32)) → R_values_b16 Q (1 : Int32) t15
set_option maxHeartbeats 4000000 in
set_option maxRecDepth 100000 in
theorem rB_values_0 {Q : rS → Prop} (X : CallFix p m c cX7_values 3 s args wsX7_values RX7) (hr : meth.sig.returnType = none) (hlk : meth.locks = false) (hR : 4 ≤ R.frames ∧ 89 ≤ R.locals) (hK : va_K (dC, dI) vwCl [(cI, .int), (cZ, .boolean)] s) (hA : ∀ q, s.heap.size ≤ q → A q) (x1 : Int32) (σ : rS) (H : Heap) (locs : List Loc) (ls : Array Slot) (hl : lv_has ls 3 [(0, .ref h), (1, .int x1)]) (hO : rO dC dI h a cI cZ A s.heap σ H locs) (hw : R_values_b0 Q x1 σ) : W p l e R s m args below meth c H locs 0 0 (MQ below (va_Qv Q (rAt dC dI A h a cI cZ) A) args s 0 0 A) (F0 m 0 ls []) := by
  unfold R_values_b0 at hw
  refine lv_iconst (v := 1) X.1 X.2.1 dX7_values_0 (by decide) ?_
  refine lv_istore_n (lv' := [(2, .int (1 : Int32)), (0, .ref h), (1, .int x1)]) X.1 X.2.1 dX7_values_1 rfl hl (by decide) rfl (fun ls hl => ?_)
  refine lv_aload_n X.1 X.2.1 dX7_values_2 rfl (lv_at hl 1 rfl) ?_
  refine rf_left X hK hO dX7_values_3 ?_
  refine lv_iconst (v := 1) X.1 X.2.1 dX7_values_6 (by decide) ?_
  refine lv_iload_n X.1 X.2.1 dX7_values_7 rfl (lv_at hl 2 rfl) ?_
  refine rs_left X.1 X.2.1 hK hO (by unfold vp_in; decide) dX7_values_8 (fun H locs hO => ?_)
  obtain ⟨t8, e8⟩ : ∃ z, z = rA σ 25 (1 : Int32) x1 := ⟨_, rfl⟩
  have hw := hw t8 e8
  rw [← e8] at hO
  refine lv_aload_n X.1 X.2.1 dX7_values_9 rfl (lv_at hl 1 rfl) ?_
  refine rf_named X hK hO dX7_values_10 ?_
  refine lv_iconst (v := 1) X.1 X.2.1 dX7_values_13 (by decide) ?_
  refine lv_iconst (v := 1) X.1 X.2.1 dX7_values_14 (by decide) ?_
  refine rs_named X.1 X.2.1 hK hO (by unfold vp_in; decide) dX7_values_15 (fun H locs hO => ?_)
  obtain ⟨t15, e15⟩ : ∃ z, z = rA t8 26 (1 : Int32) (vp_nar .boolean (1 : Int32)) := ⟨_, rfl⟩
  have hw := hw t15 e15
  rw [← e15] at hO
  obtain ⟨n, hw⟩ := hw
  exact rB_values_16 X hr hlk hR hK hA n (1 : Int32) t15 H locs ls (lv_sub hl [1, 0] rfl) hO hw
def R_values_w (Q : rS → Prop) (x1 : Int32) (σ : rS) : Prop := R_values_b0 Q x1 σ
abbrev rmX7_values : Room := { frames := 4, cells := 0, slots := 0, locals := 89 }
set_option maxHeartbeats 4000000 in
set_option maxRecDepth 100000 in
theorem rC_values (l : Launch) (dC : Nat → ClassId) (dI : Nat → Nat → Nat) (h : Nat) (a : Nat → Nat) (cI cZ : ClassId) (σ : rS) (sz : Nat) (x1 : Int32) (Q : rS → Prop) (hw : R_values_w Q x1 σ) : Met l yX7_values wsX7_values rmX7_values (rPc dC dI h a cI cZ sz σ [.ref h, .int x1]) (va_Qv Q (rAt dC dI (va_A (rCells h a cI cZ σ) sz) h a cI cZ) (va_A (rCells h a cI cZ σ) sz)) 0 0 (va_A (rCells h a cI cZ σ) sz) := by
  refine Met.ofW (cc := cX7_values) (maxL := 3) (ret := none) (by decide) rfl ?_
  intro p e s m args below meth c s₁ B hml hv
  obtain ⟨hargs, hsz, hP, hK, hD0⟩ := hv
  have hts := atoms_spec (ws := wsX7_values) B.pre
  have hown : s.vm.findClass RX7 = some m.cls := findClass_of_methodNamed B.named
  subst hsz
  subst hargs
  have hD := hD0.self (sz := s.heap.size)
  generalize hAe : va_A (rCells h a cI cZ σ) s.heap.size = A at hD ⊢
  have hA : ∀ q : Nat, s.heap.size ≤ q → A q := fun q h => by rw [← hAe]; exact Or.inr h
  have hl := lv_entry ([.ref h, .int x1]) (n := 3) (Nat.le_of_ble_eq_true rfl)
  rw [lg_entry_eq]
  generalize (lg_sl ([.ref h, .int x1]) ++ List.replicate (3 - (lg_sl ([.ref h, .int x1])).length) Slot.unset).toArray = ls at hl ⊢
  have hl : lv_has ls 3 [(0, .ref h), (1, .int x1)] := hl
  unfold R_values_w at hw
  exact rB_values_0 ⟨B.exec, B.bytes, hml, hown, hts⟩ B.returns B.notSynchronized ⟨Nat.le_of_ble_eq_true rfl, Nat.le_of_ble_eq_true rfl⟩ hK hA x1 σ s.heap [] ls (lv_sub hl [0, 1] rfl) ⟨hP, hD, va_S.rf⟩ hw
def R_sameText_b72 (Q : Int32 → rS → Prop) (x3 : Int32) (σ : rS) : Prop :=
 zb x3 ∧ Q x3 σ
set_option maxHeartbeats 4000000 in
set_option maxRecDepth 100000 in
theorem rB_sameText_72 {Q : Int32 → rS → Prop} (X : CallFix p m c cX7_sameText 5 s args wsX7_sameText RX7) (hr : meth.sig.returnType = (some .boolean)) (hlk : meth.locks = false) (hR : 0 ≤ R.frames ∧ 0 ≤ R.locals) (hK : va_K (dC, dI) vwCl [(cI, .int), (cZ, .boolean)] s) (hA : ∀ q, s.heap.size ≤ q → A q) (x3 : Int32) (σ : rS) (H : Heap) (locs : List Loc) (ls : Array Slot) (hl : lv_has ls 5 [(0, .ref h), (3, .int x3)]) (hO : rO dC dI h a cI cZ A s.heap σ H locs) (hw : R_sameText_b72 Q x3 σ) : W p l e R s m args below meth c H locs 0 0 (MQ below (va_Qi Q (rAt dC dI A h a cI cZ) A) args s 0 0 A) (F0 m 72 ls []) := by
  unfold R_sameText_b72 at hw
  refine lv_iload_n X.1 X.2.1 dX7_sameText_72 rfl (lv_at hl 1 rfl) ?_
  obtain ⟨hz, hw⟩ := hw
  exact W.zret (v := x3) X.1 X.2.1 hr hz (fun t ht hW => ⟨⟨x3, σ, rfl, hw, rO_end hO hK ht hW⟩, hO.2.2.F ht⟩) hO.2.2.2.2 dX7_sameText_73 hlk
def R_sameText_b65 (Q : Int32 → rS → Prop) (K24 : Int32 → Int32 → Int32 → Int32 → rS → Prop) (x1 : Int32) (x2 : Int32) (x4 : Int32) (y0 : Int32) (σ : rS) : Prop :=
 ∀ v66 : Int32, v66 = x4 + (1 : Int32) → K24 x1 x2 y0 v66 σ
set_option maxHeartbeats 4000000 in
set_option maxRecDepth 100000 in
theorem rB_sameText_65 {Q : Int32 → rS → Prop} {K24 : Int32 → Int32 → Int32 → Int32 → rS → Prop} (X : CallFix p m c cX7_sameText 5 s args wsX7_sameText RX7) (hr : meth.sig.returnType = (some .boolean)) (hlk : meth.locks = false) (hR : 0 ≤ R.frames ∧ 0 ≤ R.locals) (hK : va_K (dC, dI) vwCl [(cI, .int), (cZ, .boolean)] s) (hA : ∀ q, s.heap.size ≤ q → A q) (k24 : ∀ (x1 : Int32) (x2 : Int32) (x3 : Int32) (x4 : Int32) (σ : rS) (H : Heap) (locs : List Loc) (ls : Array Slot), lv_has ls 5 [(0, .ref h), (1, .int x1), (2, .int x2), (3, .int x3), (4, .int x4)] → rO dC dI h a cI cZ A s.heap σ H locs → K24 x1 x2 x3 x4 σ → W p l e R s m args below meth c H locs 0 0 (MQ below (va_Qi Q (rAt dC dI A h a cI cZ) A) args s 0 0 A) (F0 m 24 ls [])) (x1 : Int32) (x2 : Int32) (x4 : Int32) (y0 : Int32) (σ : rS) (H : Heap) (locs : List Loc) (ls : Array Slot) (hl : lv_has ls 5 [(0, .ref h), (1, .int x1), (2, .int x2), (4, .int x4)]) (hO : rO dC dI h a cI cZ A s.heap σ H locs) (hw : R_sameText_b65 Q K24 x1 x2 x4 y0 σ) : W p l e R s m args below meth c H locs 0 0 (MQ below (va_Qi Q (rAt dC dI A h a cI cZ) A) args s 0 0 A) (F0 m 65 ls [.int y0]) := by
  unfold R_sameText_b65 at hw
  refine lv_istore_n (lv' := [(3, .int y0), (0, .ref h), (1, .int x1), (2, .int x2), (4, .int x4)]) X.1 X.2.1 dX7_sameText_65 rfl hl (by decide) rfl (fun ls hl => ?_)
  obtain ⟨v66, e66⟩ : ∃ z, z = x4 + (1 : Int32) := ⟨_, rfl⟩
  have hw := hw v66 e66
  refine lv_iinc (lv' := [(4, .int v66), (3, .int y0), (0, .ref h), (1, .int x1), (2, .int x2)]) (k := 4) (v := v66) X.1 X.2.1 dX7_sameText_66 hl rfl (by rw [e66]; rfl) (by decide) rfl (fun ls hl => ?_)
  refine lv_goto (tgt := 24) X.1 X.2.1 dX7_sameText_69 rfl ?_
  exact k24 x1 x2 y0 v66 σ H locs ls (lv_sub hl [2, 3, 4, 1, 0] rfl) hO hw
def R_sameText_b24_s (Q : Int32 → rS → Prop) (K24 : Int32 → Int32 → Int32 → Int32 → rS → Prop) (x1 : Int32) (x2 : Int32) (x3 : Int32) (x4 : Int32) (σ : rS) : Prop :=
 vp_in x1 1920 ∧ ((σ.2 2 x1.toNatClampNeg) < x4 → R_sameText_b72 Q x3 σ) ∧ (¬ (σ.2 2 x1.toNatClampNeg) < x4 → (x3 = 0 → R_sameText_b72 Q x3 σ) ∧ (¬ x3 = 0 → vp_in (x1 + x4) 1920 ∧ vp_in (x2 + x4) 1920 ∧ (¬ (σ.2 2 (x1 + x4).toNatClampNeg) = (σ.2 2 (x2 + x4).toNatClampNeg) → R_sameText_b65 Q K24 x1 x2 x4 (0 : Int32) σ) ∧ ((σ.2 2 (x1 + x4).toNatClampNeg) = (σ.2 2 (x2 + x4).toNatClampNeg) → R_sameText_b65 Q K24 x1 x2 x4 (1 : Int32) σ)))
def R_sameText_b24_f (Q : Int32 → rS → Prop) : (Int32 × Int32 × Int32 × Int32 × rS → Prop) → Int32 × Int32 × Int32 × Int32 × rS → Prop :=
 fun K z => R_sameText_b24_s Q (fun x1 x2 x3 x4 σ => K (x1, x2, x3, x4, σ)) z.1 z.2.1 z.2.2.1 z.2.2.2.1 z.2.2.2.2
def R_sameText_b24 (Q : Int32 → rS → Prop) (x1 : Int32) (x2 : Int32) (x3 : Int32) (x4 : Int32) (σ : rS) : Prop := ∃ n, fx (R_sameText_b24_f Q ) n (x1, x2, x3, x4, σ)
set_option maxHeartbeats 4000000 in
set_option maxRecDepth 100000 in
theorem rB_sameText_24 {Q : Int32 → rS → Prop} (X : CallFix p m c cX7_sameText 5 s args wsX7_sameText RX7) (hr : meth.sig.returnType = (some .boolean)) (hlk : meth.locks = false) (hR : 0 ≤ R.frames ∧ 0 ≤ R.locals) (hK : va_K (dC, dI) vwCl [(cI, .int), (cZ, .boolean)] s) (hA : ∀ q, s.heap.size ≤ q → A q) : ∀ (n : Nat) (x1 : Int32) (x2 : Int32) (x3 : Int32) (x4 : Int32) (σ : rS) (H : Heap) (locs : List Loc) (ls : Array Slot), lv_has ls 5 [(0, .ref h), (1, .int x1), (2, .int x2), (3, .int x3), (4, .int x4)] → rO dC dI h a cI cZ A s.heap σ H locs → fx (R_sameText_b24_f Q ) n (x1, x2, x3, x4, σ) → W p l e R s m args below meth c H locs 0 0 (MQ below (va_Qi Q (rAt dC dI A h a cI cZ) A) args s 0 0 A) (F0 m 24 ls []) := by
  intro n
  induction n with
  | zero => intro x1 x2 x3 x4 σ H locs ls hl hO hw; exact False.elim hw
  | succ n k24 =>
    intro x1 x2 x3 x4 σ H locs ls hl hO hw
    have hw : R_sameText_b24_s Q (fun x1 x2 x3 x4 σ => fx (R_sameText_b24_f Q ) n (x1, x2, x3, x4, σ)) x1 x2 x3 x4 σ := hw
    unfold R_sameText_b24_s at hw
    refine lv_iload X.1 X.2.1 dX7_sameText_24 (lv_at hl 4 rfl) ?_
    refine lv_aload_n X.1 X.2.1 dX7_sameText_26 rfl (lv_at hl 0 rfl) ?_
    refine rf_bytes X hK hO dX7_sameText_27 ?_
    refine lv_iload_n X.1 X.2.1 dX7_sameText_30 rfl (lv_at hl 1 rfl) ?_
    obtain ⟨g31, hw⟩ := hw
    refine ra_bytes X.1 X.2.1 hK hO g31 dX7_sameText_31 ?_
    refine lv_icmp_gt (tgt := 72) X.1 X.2.1 dX7_sameText_32 rfl (fun hc9 => ?_) (fun hc9 => ?_)
    · have hw := hw.1 hc9
      exact rB_sameText_72 X hr hlk hR hK hA x3 σ H locs ls (lv_sub hl [0, 3] rfl) hO hw
    · have hw := hw.2 hc9
      refine lv_iload_n X.1 X.2.1 dX7_sameText_35 rfl (lv_at hl 3 rfl) ?_
      refine lv_if_eq (tgt := 72) X.1 X.2.1 dX7_sameText_36 rfl (fun hc9 => ?_) (fun hc9 => ?_)
      · have hw := hw.1 hc9
        exact rB_sameText_72 X hr hlk hR hK hA x3 σ H locs ls (lv_sub hl [0, 3] rfl) hO hw
      · have hw := hw.2 hc9
        refine lv_aload_n X.1 X.2.1 dX7_sameText_39 rfl (lv_at hl 0 rfl) ?_
        refine rf_bytes X hK hO dX7_sameText_40 ?_
        refine lv_iload_n X.1 X.2.1 dX7_sameText_43 rfl (lv_at hl 1 rfl) ?_
        refine lv_iload X.1 X.2.1 dX7_sameText_44 (lv_at hl 4 rfl) ?_
        refine lv_iadd X.1 X.2.1 dX7_sameText_46 ?_
        obtain ⟨g47, hw⟩ := hw
        refine ra_bytes X.1 X.2.1 hK hO g47 dX7_sameText_47 ?_
        refine lv_aload_n X.1 X.2.1 dX7_sameText_48 rfl (lv_at hl 0 rfl) ?_
        refine rf_bytes X hK hO dX7_sameText_49 ?_
        refine lv_iload_n X.1 X.2.1 dX7_sameText_52 rfl (lv_at hl 2 rfl) ?_
        refine lv_iload X.1 X.2.1 dX7_sameText_53 (lv_at hl 4 rfl) ?_
        refine lv_iadd X.1 X.2.1 dX7_sameText_55 ?_
        obtain ⟨g56, hw⟩ := hw
        refine ra_bytes X.1 X.2.1 hK hO g56 dX7_sameText_56 ?_
        refine lv_icmp_ne (tgt := 64) X.1 X.2.1 dX7_sameText_57 rfl (fun hc9 => ?_) (fun hc9 => ?_)
        · have hw := hw.1 hc9
          refine lv_iconst (v := 0) X.1 X.2.1 dX7_sameText_64 (by decide) ?_
          exact rB_sameText_65 X hr hlk hR hK hA k24 x1 x2 x4 (0 : Int32) σ H locs ls (lv_sub hl [0, 1, 2, 4] rfl) hO hw
        · have hw := hw.2 hc9
          refine lv_iconst (v := 1) X.1 X.2.1 dX7_sameText_60 (by decide) ?_
          refine lv_goto (tgt := 65) X.1 X.2.1 dX7_sameText_61 rfl ?_
          exact rB_sameText_65 X hr hlk hR hK hA k24 x1 x2 x4 (1 : Int32) σ H locs ls (lv_sub hl [0, 1, 2, 4] rfl) hO hw
def R_sameText_b20 (Q : Int32 → rS → Prop) (x1 : Int32) (x2 : Int32) (y0 : Int32) (σ : rS) : Prop :=
 R_sameText_b24 Q x1 x2 y0 (1 : Int32) σ
set_option maxHeartbeats 4000000 in
set_option maxRecDepth 100000 in
theorem rB_sameText_20 {Q : Int32 → rS → Prop} (X : CallFix p m c cX7_sameText 5 s args wsX7_sameText RX7) (hr : meth.sig.returnType = (some .boolean)) (hlk : meth.locks = false) (hR : 0 ≤ R.frames ∧ 0 ≤ R.locals) (hK : va_K (dC, dI) vwCl [(cI, .int), (cZ, .boolean)] s) (hA : ∀ q, s.heap.size ≤ q → A q) (x1 : Int32) (x2 : Int32) (y0 : Int32) (σ : rS) (H : Heap) (locs : List Loc) (ls : Array Slot) (hl : lv_has ls 5 [(0, .ref h), (1, .int x1), (2, .int x2)]) (hO : rO dC dI h a cI cZ A s.heap σ H locs) (hw : R_sameText_b20 Q x1 x2 y0 σ) : W p l e R s m args below meth c H locs 0 0 (MQ below (va_Qi Q (rAt dC dI A h a cI cZ) A) args s 0 0 A) (F0 m 20 ls [.int y0]) := by
  unfold R_sameText_b20 at hw
  refine lv_istore_n (lv' := [(3, .int y0), (0, .ref h), (1, .int x1), (2, .int x2)]) X.1 X.2.1 dX7_sameText_20 rfl hl (by decide) rfl (fun ls hl => ?_)
  refine lv_iconst (v := 1) X.1 X.2.1 dX7_sameText_21 (by decide) ?_
  refine lv_istore (lv' := [(4, .int (1 : Int32)), (3, .int y0), (0, .ref h), (1, .int x1), (2, .int x2)]) X.1 X.2.1 dX7_sameText_22 hl (by decide) rfl (fun ls hl => ?_)
  obtain ⟨n, hw⟩ := hw
  exact rB_sameText_24 X hr hlk hR hK hA n x1 x2 y0 (1 : Int32) σ H locs ls (lv_sub hl [2, 3, 4, 1, 0] rfl) hO hw
def R_sameText_b0 (Q : Int32 → rS → Prop) (x1 : Int32) (x2 : Int32) (σ : rS) : Prop :=
 vp_in x1 1920 ∧ vp_in x2 1920 ∧ (¬ (σ.2 2 x1.toNatClampNeg) = (σ.2 2 x2.toNatClampNeg) → R_sameText_b20 Q x1 x2 (0 : Int32) σ) ∧ ((σ.2 2 x1.toNatClampNeg) = (σ.2 2 x2.toNatClampNeg) → R_sameText_b20 Q x1 x2 (1 : Int32) σ)
set_option maxHeartbeats 4000000 in
set_option maxRecDepth 100000 in
theorem rB_sameText_0 {Q : Int32 → rS → Prop} (X : CallFix p m c cX7_sameText 5 s args wsX7_sameText RX7) (hr : meth.sig.returnType = (some .boolean)) (hlk : meth.locks = false) (hR : 0 ≤ R.frames ∧ 0 ≤ R.locals) (hK : va_K (dC, dI) vwCl [(cI, .int), (cZ, .boolean)] s) (hA : ∀ q, s.heap.size ≤ q → A q) (x1 : Int32) (x2 : Int32) (σ : rS) (H : Heap) (locs : List Loc) (ls : Array Slot) (hl : lv_has ls 5 [(0, .ref h), (1, .int x1), (2, .int x2)]) (hO : rO dC dI h a cI cZ A s.heap σ H locs) (hw : R_sameText_b0 Q x1 x2 σ) : W p l e R s m args below meth c H locs 0 0 (MQ below (va_Qi Q (rAt dC dI A h a cI cZ) A) args s 0 0 A) (F0 m 0 ls []) := by
  unfold R_sameText_b0 at hw
  refine lv_aload_n X.1 X.2.1 dX7_sameText_0 rfl (lv_at hl 0 rfl) ?_
  refine rf_bytes X hK hO dX7_sameText_1 ?_
  refine lv_iload_n X.1 X.2.1 dX7_sameText_4 rfl (lv_at hl 1 rfl) ?_
  obtain ⟨g5, hw⟩ := hw
  refine ra_bytes X.1 X.2.1 hK hO g5 dX7_sameText_5 ?_
  refine lv_aload_n X.1 X.2.1 dX7_sameText_6 rfl (lv_at hl 0 rfl) ?_
  refine rf_bytes X hK hO dX7_sameText_7 ?_
  refine lv_iload_n X.1 X.2.1 dX7_sameText_10 rfl (lv_at hl 2 rfl) ?_
  obtain ⟨g11, hw⟩ := hw
  refine ra_bytes X.1 X.2.1 hK hO g11 dX7_sameText_11 ?_
  refine lv_icmp_ne (tgt := 19) X.1 X.2.1 dX7_sameText_12 rfl (fun hc9 => ?_) (fun hc9 => ?_)
  · have hw := hw.1 hc9
    refine lv_iconst (v := 0) X.1 X.2.1 dX7_sameText_19 (by decide) ?_
    exact rB_sameText_20 X hr hlk hR hK hA x1 x2 (0 : Int32) σ H locs ls (lv_sub hl [0, 1, 2] rfl) hO hw
  · have hw := hw.2 hc9
    refine lv_iconst (v := 1) X.1 X.2.1 dX7_sameText_15 (by decide) ?_
    refine lv_goto (tgt := 20) X.1 X.2.1 dX7_sameText_16 rfl ?_
    exact rB_sameText_20 X hr hlk hR hK hA x1 x2 (1 : Int32) σ H locs ls (lv_sub hl [0, 1, 2] rfl) hO hw
def R_sameText_w (Q : Int32 → rS → Prop) (x1 : Int32) (x2 : Int32) (σ : rS) : Prop := R_sameText_b0 Q x1 x2 σ
abbrev rmX7_sameText : Room := { frames := 0, cells := 0, slots := 0, locals := 0 }
set_option maxHeartbeats 4000000 in
set_option maxRecDepth 100000 in
theorem rC_sameText (l : Launch) (dC : Nat → ClassId) (dI : Nat → Nat → Nat) (h : Nat) (a : Nat → Nat) (cI cZ : ClassId) (σ : rS) (sz : Nat) (x1 : Int32) (x2 : Int32) (Q : Int32 → rS → Prop) (hw : R_sameText_w Q x1 x2 σ) : Met l yX7_sameText wsX7_sameText rmX7_sameText (rPc dC dI h a cI cZ sz σ [.ref h, .int x1, .int x2]) (va_Qi Q (rAt dC dI (va_A (rCells h a cI cZ σ) sz) h a cI cZ) (va_A (rCells h a cI cZ σ) sz)) 0 0 (va_A (rCells h a cI cZ σ) sz) := by
  refine Met.ofW (cc := cX7_sameText) (maxL := 5) (ret := (some .boolean)) (by decide) rfl ?_
  intro p e s m args below meth c s₁ B hml hv
  obtain ⟨hargs, hsz, hP, hK, hD0⟩ := hv
  have hts := atoms_spec (ws := wsX7_sameText) B.pre
  have hown : s.vm.findClass RX7 = some m.cls := findClass_of_methodNamed B.named
  subst hsz
  subst hargs
  have hD := hD0.self (sz := s.heap.size)
  generalize hAe : va_A (rCells h a cI cZ σ) s.heap.size = A at hD ⊢
  have hA : ∀ q : Nat, s.heap.size ≤ q → A q := fun q h => by rw [← hAe]; exact Or.inr h
  have hl := lv_entry ([.ref h, .int x1, .int x2]) (n := 5) (Nat.le_of_ble_eq_true rfl)
  rw [lg_entry_eq]
  generalize (lg_sl ([.ref h, .int x1, .int x2]) ++ List.replicate (5 - (lg_sl ([.ref h, .int x1, .int x2])).length) Slot.unset).toArray = ls at hl ⊢
  have hl : lv_has ls 5 [(0, .ref h), (1, .int x1), (2, .int x2)] := hl
  unfold R_sameText_w at hw
  exact rB_sameText_0 ⟨B.exec, B.bytes, hml, hown, hts⟩ B.returns B.notSynchronized ⟨Nat.le_of_ble_eq_true rfl, Nat.le_of_ble_eq_true rfl⟩ hK hA x1 x2 σ s.heap [] ls (lv_sub hl [0, 1, 2] rfl) ⟨hP, hD, va_S.rf⟩ hw
def R_textPlace_b62 (Q : Int32 → rS → Prop) (y0 : Int32) (σ : rS) : Prop :=
 Q y0 σ
set_option maxHeartbeats 4000000 in
set_option maxRecDepth 100000 in
theorem rB_textPlace_62 {Q : Int32 → rS → Prop} (X : CallFix p m c cX7_textPlace 3 s args wsX7_textPlace RX7) (hr : meth.sig.returnType = (some .int)) (hlk : meth.locks = false) (hR : 0 ≤ R.frames ∧ 0 ≤ R.locals) (hK : va_K (dC, dI) vwCl [(cI, .int), (cZ, .boolean)] s) (hA : ∀ q, s.heap.size ≤ q → A q) (y0 : Int32) (σ : rS) (H : Heap) (locs : List Loc) (ls : Array Slot) (hl : lv_has ls 3 [(0, .ref h)]) (hO : rO dC dI h a cI cZ A s.heap σ H locs) (hw : R_textPlace_b62 Q y0 σ) : W p l e R s m args below meth c H locs 0 0 (MQ below (va_Qi Q (rAt dC dI A h a cI cZ) A) args s 0 0 A) (F0 m 62 ls [.int y0]) := by
  unfold R_textPlace_b62 at hw
  exact W.iret (v := y0) X.1 X.2.1 hr (fun t ht hW => ⟨⟨y0, σ, rfl, hw, rO_end hO hK ht hW⟩, hO.2.2.F ht⟩) hO.2.2.2.2 dX7_textPlace_62 hlk
def R_textPlace_b0 (Q : Int32 → rS → Prop) (x1 : Int32) (σ : rS) : Prop :=
 vp_in (((13 : Int32) * (σ.1 18)) + x1) 208 ∧ ∀ v14 : Int32, v14 = (σ.2 7 (((13 : Int32) * (σ.1 18)) + x1).toNatClampNeg) → vp_in (((13 : Int32) * (σ.1 18)) + x1) 208 ∧ (¬ (σ.2 6 (((13 : Int32) * (σ.1 18)) + x1).toNatClampNeg) = (1 : Int32) → vp_in (v14 + (1 : Int32)) 1920 ∧ vp_in (((13 : Int32) * (σ.1 18)) + (σ.2 2 (v14 + (1 : Int32)).toNatClampNeg)) 208 ∧ R_textPlace_b62 Q ((σ.2 7 (((13 : Int32) * (σ.1 18)) + (σ.2 2 (v14 + (1 : Int32)).toNatClampNeg)).toNatClampNeg) + (1 : Int32)) σ) ∧ ((σ.2 6 (((13 : Int32) * (σ.1 18)) + x1).toNatClampNeg) = (1 : Int32) → R_textPlace_b62 Q (v14 + (1 : Int32)) σ)
set_option maxHeartbeats 4000000 in
set_option maxRecDepth 100000 in
theorem rB_textPlace_0 {Q : Int32 → rS → Prop} (X : CallFix p m c cX7_textPlace 3 s args wsX7_textPlace RX7) (hr : meth.sig.returnType = (some .int)) (hlk : meth.locks = false) (hR : 0 ≤ R.frames ∧ 0 ≤ R.locals) (hK : va_K (dC, dI) vwCl [(cI, .int), (cZ, .boolean)] s) (hA : ∀ q, s.heap.size ≤ q → A q) (x1 : Int32) (σ : rS) (H : Heap) (locs : List Loc) (ls : Array Slot) (hl : lv_has ls 3 [(0, .ref h), (1, .int x1)]) (hO : rO dC dI h a cI cZ A s.heap σ H locs) (hw : R_textPlace_b0 Q x1 σ) : W p l e R s m args below meth c H locs 0 0 (MQ below (va_Qi Q (rAt dC dI A h a cI cZ) A) args s 0 0 A) (F0 m 0 ls []) := by
  unfold R_textPlace_b0 at hw
  refine lv_aload_n X.1 X.2.1 dX7_textPlace_0 rfl (lv_at hl 0 rfl) ?_
  refine rf_place X hK hO dX7_textPlace_1 ?_
  refine lv_bipush (v := 13) X.1 X.2.1 dX7_textPlace_4 (by decide) ?_
  refine lv_aload_n X.1 X.2.1 dX7_textPlace_6 rfl (lv_at hl 0 rfl) ?_
  refine rf_now X hK hO dX7_textPlace_7 ?_
  refine lv_imul X.1 X.2.1 dX7_textPlace_10 ?_
  refine lv_iload_n X.1 X.2.1 dX7_textPlace_11 rfl (lv_at hl 1 rfl) ?_
  refine lv_iadd X.1 X.2.1 dX7_textPlace_12 ?_
  obtain ⟨g13, hw⟩ := hw
  refine ra_place X.1 X.2.1 hK hO g13 dX7_textPlace_13 ?_
  refine lv_topi (fun v14 e14 => ?_)
  have hw := hw v14 e14
  refine lv_istore_n (lv' := [(2, .int v14), (0, .ref h), (1, .int x1)]) X.1 X.2.1 dX7_textPlace_14 rfl hl (by decide) rfl (fun ls hl => ?_)
  refine lv_aload_n X.1 X.2.1 dX7_textPlace_15 rfl (lv_at hl 1 rfl) ?_
  refine rf_sort X hK hO dX7_textPlace_16 ?_
  refine lv_bipush (v := 13) X.1 X.2.1 dX7_textPlace_19 (by decide) ?_
  refine lv_aload_n X.1 X.2.1 dX7_textPlace_21 rfl (lv_at hl 1 rfl) ?_
  refine rf_now X hK hO dX7_textPlace_22 ?_
  refine lv_imul X.1 X.2.1 dX7_textPlace_25 ?_
  refine lv_iload_n X.1 X.2.1 dX7_textPlace_26 rfl (lv_at hl 2 rfl) ?_
  refine lv_iadd X.1 X.2.1 dX7_textPlace_27 ?_
  obtain ⟨g28, hw⟩ := hw
  refine ra_sort X.1 X.2.1 hK hO g28 dX7_textPlace_28 ?_
  refine lv_iconst (v := 1) X.1 X.2.1 dX7_textPlace_29 (by decide) ?_
  refine lv_icmp_ne (tgt := 39) X.1 X.2.1 dX7_textPlace_30 rfl (fun hc9 => ?_) (fun hc9 => ?_)
  · have hw := hw.1 hc9
    refine lv_aload_n X.1 X.2.1 dX7_textPlace_39 rfl (lv_at hl 1 rfl) ?_
    refine rf_place X hK hO dX7_textPlace_40 ?_
    refine lv_bipush (v := 13) X.1 X.2.1 dX7_textPlace_43 (by decide) ?_
    refine lv_aload_n X.1 X.2.1 dX7_textPlace_45 rfl (lv_at hl 1 rfl) ?_
    refine rf_now X hK hO dX7_textPlace_46 ?_
    refine lv_imul X.1 X.2.1 dX7_textPlace_49 ?_
    refine lv_aload_n X.1 X.2.1 dX7_textPlace_50 rfl (lv_at hl 1 rfl) ?_
    refine rf_bytes X hK hO dX7_textPlace_51 ?_
    refine lv_iload_n X.1 X.2.1 dX7_textPlace_54 rfl (lv_at hl 0 rfl) ?_
    refine lv_iconst (v := 1) X.1 X.2.1 dX7_textPlace_55 (by decide) ?_
    refine lv_iadd X.1 X.2.1 dX7_textPlace_56 ?_
    obtain ⟨g57, hw⟩ := hw
    refine ra_bytes X.1 X.2.1 hK hO g57 dX7_textPlace_57 ?_
    refine lv_iadd X.1 X.2.1 dX7_textPlace_58 ?_
    obtain ⟨g59, hw⟩ := hw
    refine ra_place X.1 X.2.1 hK hO g59 dX7_textPlace_59 ?_
    refine lv_iconst (v := 1) X.1 X.2.1 dX7_textPlace_60 (by decide) ?_
    refine lv_iadd X.1 X.2.1 dX7_textPlace_61 ?_
    exact rB_textPlace_62 X hr hlk hR hK hA ((σ.2 7 (((13 : Int32) * (σ.1 18)) + (σ.2 2 (v14 + (1 : Int32)).toNatClampNeg)).toNatClampNeg) + (1 : Int32)) σ H locs ls (lv_sub hl [1] rfl) hO hw
  · have hw := hw.2 hc9
    refine lv_iload_n X.1 X.2.1 dX7_textPlace_33 rfl (lv_at hl 0 rfl) ?_
    refine lv_iconst (v := 1) X.1 X.2.1 dX7_textPlace_34 (by decide) ?_
    refine lv_iadd X.1 X.2.1 dX7_textPlace_35 ?_
    refine lv_goto (tgt := 62) X.1 X.2.1 dX7_textPlace_36 rfl ?_
    exact rB_textPlace_62 X hr hlk hR hK hA (v14 + (1 : Int32)) σ H locs ls (lv_sub hl [1] rfl) hO hw
def R_textPlace_w (Q : Int32 → rS → Prop) (x1 : Int32) (σ : rS) : Prop := R_textPlace_b0 Q x1 σ
abbrev rmX7_textPlace : Room := { frames := 0, cells := 0, slots := 0, locals := 0 }
set_option maxHeartbeats 4000000 in
set_option maxRecDepth 100000 in
theorem rC_textPlace (l : Launch) (dC : Nat → ClassId) (dI : Nat → Nat → Nat) (h : Nat) (a : Nat → Nat) (cI cZ : ClassId) (σ : rS) (sz : Nat) (x1 : Int32) (Q : Int32 → rS → Prop) (hw : R_textPlace_w Q x1 σ) : Met l yX7_textPlace wsX7_textPlace rmX7_textPlace (rPc dC dI h a cI cZ sz σ [.ref h, .int x1]) (va_Qi Q (rAt dC dI (va_A (rCells h a cI cZ σ) sz) h a cI cZ) (va_A (rCells h a cI cZ σ) sz)) 0 0 (va_A (rCells h a cI cZ σ) sz) := by
  refine Met.ofW (cc := cX7_textPlace) (maxL := 3) (ret := (some .int)) (by decide) rfl ?_
  intro p e s m args below meth c s₁ B hml hv
  obtain ⟨hargs, hsz, hP, hK, hD0⟩ := hv
  have hts := atoms_spec (ws := wsX7_textPlace) B.pre
  have hown : s.vm.findClass RX7 = some m.cls := findClass_of_methodNamed B.named
  subst hsz
  subst hargs
  have hD := hD0.self (sz := s.heap.size)
  generalize hAe : va_A (rCells h a cI cZ σ) s.heap.size = A at hD ⊢
  have hA : ∀ q : Nat, s.heap.size ≤ q → A q := fun q h => by rw [← hAe]; exact Or.inr h
  have hl := lv_entry ([.ref h, .int x1]) (n := 3) (Nat.le_of_ble_eq_true rfl)
  rw [lg_entry_eq]
  generalize (lg_sl ([.ref h, .int x1]) ++ List.replicate (3 - (lg_sl ([.ref h, .int x1])).length) Slot.unset).toArray = ls at hl ⊢
  have hl : lv_has ls 3 [(0, .ref h), (1, .int x1)] := hl
  unfold R_textPlace_w at hw
  exact rB_textPlace_0 ⟨B.exec, B.bytes, hml, hown, hts⟩ B.returns B.notSynchronized ⟨Nat.le_of_ble_eq_true rfl, Nat.le_of_ble_eq_true rfl⟩ hK hA x1 σ s.heap [] ls (lv_sub hl [0, 1] rfl) ⟨hP, hD, va_S.rf⟩ hw
def R_taken_b8_s (Q : Int32 → rS → Prop) (K8 : Int32 → Int32 → rS → Prop) (x2 : Int32) (x3 : Int32) (σ : rS) : Prop :=
 ((σ.1 3) ≤ x3 → Q (0 : Int32) σ) ∧ (¬ (σ.1 3) ≤ x3 → vp_in x3 16 ∧ vp_in (σ.2 10 x3.toNatClampNeg) 192 ∧ R_sameText_w (fun r29 t29 => (r29 = 0 → ∀ v37 : Int32, v37 = x3 + (1 : Int32) → K8 x2 v37 t29) ∧ (¬ r29 = 0 → Q (1 : Int32) t29)) (σ.2 4 (σ.2 10 x3.toNatClampNeg).toNatClampNeg) x2 σ)
def R_taken_b8_f (Q : Int32 → rS → Prop) : (Int32 × Int32 × rS → Prop) → Int32 × Int32 × rS → Prop :=
 fun K z => R_taken_b8_s Q (fun x2 x3 σ => K (x2, x3, σ)) z.1 z.2.1 z.2.2
def R_taken_b8 (Q : Int32 → rS → Prop) (x2 : Int32) (x3 : Int32) (σ : rS) : Prop := ∃ n, fx (R_taken_b8_f Q ) n (x2, x3, σ)
set_option maxHeartbeats 4000000 in
set_option maxRecDepth 100000 in
theorem rB_taken_8 {Q : Int32 → rS → Prop} (X : CallFix p m c cX7_taken 4 s args wsX7_taken RX7) (hr : meth.sig.returnType = (some .boolean)) (hlk : meth.locks = false) (hR : 1 ≤ R.frames ∧ 24 ≤ R.locals) (hK : va_K (dC, dI) vwCl [(cI, .int), (cZ, .boolean)] s) (hA : ∀ q, s.heap.size ≤ q → A q) : ∀ (n : Nat) (x2 : Int32) (x3 : Int32) (σ : rS) (H : Heap) (locs : List Loc) (ls : Array Slot), lv_has ls 4 [(0, .ref h), (2, .int x2), (3, .int x3)] → rO dC dI h a cI cZ A s.heap σ H locs → fx (R_taken_b8_f Q ) n (x2, x3, σ) → W p l e R s m args below meth c H locs 0 0 (MQ below (va_Qi Q (rAt dC dI A h a cI cZ) A) args s 0 0 A) (F0 m 8 ls []) := by
  intro n
  induction n with
  | zero => intro x2 x3 σ H locs ls hl hO hw; exact False.elim hw
  | succ n k8 =>
    intro x2 x3 σ H locs ls hl hO hw
    have hw : R_taken_b8_s Q (fun x2 x3 σ => fx (R_taken_b8_f Q ) n (x2, x3, σ)) x2 x3 σ := hw
    unfold R_taken_b8_s at hw
    refine lv_iload_n X.1 X.2.1 dX7_taken_8 rfl (lv_at hl 2 rfl) ?_
    refine lv_aload_n X.1 X.2.1 dX7_taken_9 rfl (lv_at hl 0 rfl) ?_
    refine rf_classes X hK hO dX7_taken_10 ?_
    refine lv_icmp_ge (tgt := 43) X.1 X.2.1 dX7_taken_13 rfl (fun hc9 => ?_) (fun hc9 => ?_)
    · have hw := hw.1 hc9
      refine lv_iconst (v := 0) X.1 X.2.1 dX7_taken_43 (by decide) ?_
      exact W.zret (v := (0 : Int32)) X.1 X.2.1 hr rfl (fun t ht hW => ⟨⟨(0 : Int32), σ, rfl, hw, rO_end hO hK ht hW⟩, hO.2.2.F ht⟩) hO.2.2.2.2 dX7_taken_44 hlk
    · have hw := hw.2 hc9
      refine lv_aload_n X.1 X.2.1 dX7_taken_16 rfl (lv_at hl 0 rfl) ?_
      refine lv_aload_n X.1 X.2.1 dX7_taken_17 rfl (lv_at hl 0 rfl) ?_
      refine rf_textAt X hK hO dX7_taken_18 ?_
      refine lv_aload_n X.1 X.2.1 dX7_taken_21 rfl (lv_at hl 0 rfl) ?_
      refine rf_self X hK hO dX7_taken_22 ?_
      refine lv_iload_n X.1 X.2.1 dX7_taken_25 rfl (lv_at hl 2 rfl) ?_
      obtain ⟨g26, hw⟩ := hw
      refine ra_self X.1 X.2.1 hK hO g26 dX7_taken_26 ?_
      obtain ⟨g27, hw⟩ := hw
      refine ra_textAt X.1 X.2.1 hK hO g27 dX7_taken_27 ?_
      refine lv_iload_n X.1 X.2.1 dX7_taken_28 rfl (lv_at hl 1 rfl) ?_
      refine r_calli (rest := []) (As := [.int (σ.2 4 (σ.2 10 x3.toNatClampNeg).toNatClampNeg), .int x2]) X (rC_sameText l dC dI h a cI cZ σ H.size (σ.2 4 (σ.2 10 x3.toNatClampNeg).toNatClampNeg) x2 _ hw) (cwV 2 X.2.2.2.2 gX7_sameText rfl rfl rfl hdX7_sameText ⟨Nat.le_trans (by decide) hR.1, Nat.le_trans (by decide) hR.2⟩) hK hA hO rfl hl.1 rfl (Nat.le_of_ble_eq_true rfl) dX7_taken_29 (fun r29 t29 H locs hO hw => ?_)
      refine lv_if_eq (tgt := 37) X.1 X.2.1 dX7_taken_32 rfl (fun hc9 => ?_) (fun hc9 => ?_)
      · have hw := hw.1 hc9
        obtain ⟨v37, e37⟩ : ∃ z, z = x3 + (1 : Int32) := ⟨_, rfl⟩
        have hw := hw v37 e37
        refine lv_iinc (lv' := [(3, .int v37), (0, .ref h), (2, .int x2)]) (k := 2) (v := v37) X.1 X.2.1 dX7_taken_37 hl rfl (by rw [e37]; rfl) (by decide) rfl (fun ls hl => ?_)
        refine lv_goto (tgt := 8) X.1 X.2.1 dX7_taken_40 rfl ?_
        exact k8 x2 v37 t29 H locs ls (lv_sub hl [1, 2, 0] rfl) hO hw
      · have hw := hw.2 hc9
        refine lv_iconst (v := 1) X.1 X.2.1 dX7_taken_35 (by decide) ?_
        exact W.zret (v := (1 : Int32)) X.1 X.2.1 hr rfl (fun t ht hW => ⟨⟨(1 : Int32), t29, rfl, hw, rO_end hO hK ht hW⟩, hO.2.2.F ht⟩) hO.2.2.2.2 dX7_taken_36 hlk
def R_taken_b0 (Q : Int32 → rS → Prop) (x1 : Int32) (σ : rS) : Prop :=
 R_textPlace_w (fun r2 t2 => R_taken_b8 Q r2 (0 : Int32) t2) x1 σ
set_option maxHeartbeats 4000000 in
set_option maxRecDepth 100000 in
theorem rB_taken_0 {Q : Int32 → rS → Prop} (X : CallFix p m c cX7_taken 4 s args wsX7_taken RX7) (hr : meth.sig.returnType = (some .boolean)) (hlk : meth.locks = false) (hR : 1 ≤ R.frames ∧ 24 ≤ R.locals) (hK : va_K (dC, dI) vwCl [(cI, .int), (cZ, .boolean)] s) (hA : ∀ q, s.heap.size ≤ q → A q) (x1 : Int32) (σ : rS) (H : Heap) (locs : List Loc) (ls : Array Slot) (hl : lv_has ls 4 [(0, .ref h), (1, .int x1)]) (hO : rO dC dI h a cI cZ A s.heap σ H locs) (hw : R_taken_b0 Q x1 σ) : W p l e R s m args below meth c H locs 0 0 (MQ below (va_Qi Q (rAt dC dI A h a cI cZ) A) args s 0 0 A) (F0 m 0 ls []) := by
  unfold R_taken_b0 at hw
  refine lv_aload_n X.1 X.2.1 dX7_taken_0 rfl (lv_at hl 0 rfl) ?_
  refine lv_iload_n X.1 X.2.1 dX7_taken_1 rfl (lv_at hl 1 rfl) ?_
  refine r_calli (rest := []) (As := [.int x1]) X (rC_textPlace l dC dI h a cI cZ σ H.size x1 _ hw) (cwV 1 X.2.2.2.2 gX7_textPlace rfl rfl rfl hdX7_textPlace ⟨Nat.le_trans (by decide) hR.1, Nat.le_trans (by decide) hR.2⟩) hK hA hO rfl hl.1 rfl (Nat.le_of_ble_eq_true rfl) dX7_taken_2 (fun r2 t2 H locs hO hw => ?_)
  refine lv_istore_n (lv' := [(2, .int r2), (0, .ref h), (1, .int x1)]) X.1 X.2.1 dX7_taken_5 rfl hl (by decide) rfl (fun ls hl => ?_)
  refine lv_iconst (v := 0) X.1 X.2.1 dX7_taken_6 (by decide) ?_
  refine lv_istore_n (lv' := [(3, .int (0 : Int32)), (2, .int r2), (0, .ref h), (1, .int x1)]) X.1 X.2.1 dX7_taken_7 rfl hl (by decide) rfl (fun ls hl => ?_)
  obtain ⟨n, hw⟩ := hw
  exact rB_taken_8 X hr hlk hR hK hA n r2 (0 : Int32) t2 H locs ls (lv_sub hl [2, 1, 0] rfl) hO hw
def R_taken_w (Q : Int32 → rS → Prop) (x1 : Int32) (σ : rS) : Prop := R_taken_b0 Q x1 σ
abbrev rmX7_taken : Room := { frames := 1, cells := 0, slots := 0, locals := 24 }
set_option maxHeartbeats 4000000 in
set_option maxRecDepth 100000 in
theorem rC_taken (l : Launch) (dC : Nat → ClassId) (dI : Nat → Nat → Nat) (h : Nat) (a : Nat → Nat) (cI cZ : ClassId) (σ : rS) (sz : Nat) (x1 : Int32) (Q : Int32 → rS → Prop) (hw : R_taken_w Q x1 σ) : Met l yX7_taken wsX7_taken rmX7_taken (rPc dC dI h a cI cZ sz σ [.ref h, .int x1]) (va_Qi Q (rAt dC dI (va_A (rCells h a cI cZ σ) sz) h a cI cZ) (va_A (rCells h a cI cZ σ) sz)) 0 0 (va_A (rCells h a cI cZ σ) sz) := by
  refine Met.ofW (cc := cX7_taken) (maxL := 4) (ret := (some .boolean)) (by decide) rfl ?_
  intro p e s m args below meth c s₁ B hml hv
  obtain ⟨hargs, hsz, hP, hK, hD0⟩ := hv
  have hts := atoms_spec (ws := wsX7_taken) B.pre
  have hown : s.vm.findClass RX7 = some m.cls := findClass_of_methodNamed B.named
  subst hsz
  subst hargs
  have hD := hD0.self (sz := s.heap.size)
  generalize hAe : va_A (rCells h a cI cZ σ) s.heap.size = A at hD ⊢
  have hA : ∀ q : Nat, s.heap.size ≤ q → A q := fun q h => by rw [← hAe]; exact Or.inr h
  have hl := lv_entry ([.ref h, .int x1]) (n := 4) (Nat.le_of_ble_eq_true rfl)
  rw [lg_entry_eq]
  generalize (lg_sl ([.ref h, .int x1]) ++ List.replicate (4 - (lg_sl ([.ref h, .int x1])).length) Slot.unset).toArray = ls at hl ⊢
  have hl : lv_has ls 4 [(0, .ref h), (1, .int x1)] := hl
  unfold R_taken_w at hw
  exact rB_taken_0 ⟨B.exec, B.bytes, hml, hown, hts⟩ B.returns B.notSynchronized ⟨Nat.le_of_ble_eq_true rfl, Nat.le_of_ble_eq_true rfl⟩ hK hA x1 σ s.heap [] ls (lv_sub hl [0, 1] rfl) ⟨hP, hD, va_S.rf⟩ hw
end
end
section
section
variable {p : Program} {l : Launch} {e : Env} {R : Room} {s : State} {m : MethodId} {args : Array Value} {below : List Frame} {meth : Method} {c : Code}
variable {dC : Nat → ClassId} {dI : Nat → Nat → Nat} {h : Nat} {a : Nat → Nat} {cI cZ : ClassId} {A : Nat → Prop}
def R_wholeFile_b333 (Q : rS → Prop) (σ : rS) : Prop :=
 Q σ
set_option maxHeartbeats 4000000 in
set_option maxRecDepth 100000 in
theorem rB_wholeFile_333 {Q : rS → Prop} (X : CallFix p m c cX7_wholeFile 6 s args wsX7_wholeFile RX7) (hr : meth.sig.returnType = none) (hlk : meth.locks = false) (hR : 5 ≤ R.frames ∧ 117 ≤ R.locals) (hK : va_K (dC, dI) vwCl [(cI, .int), (cZ, .boolean)] s) (hA : ∀ q, s.heap.size ≤ q → A q) (σ : rS) (H : Heap) (locs : List Loc) (ls : Array Slot) (hl : lv_has ls 6 [(0, .ref h)]) (hO : rO dC dI h a cI cZ A s.heap σ H locs) (hw : R_wholeFile_b333 Q σ) : W p l e R s m args below meth c H locs 0 0 (MQ below (va_Qv Q (rAt dC dI A h a cI cZ) A) args s 0 0 A) (F0 m 333 ls []) := by
  unfold R_wholeFile_b333 at hw
  exact W.vret X.1 X.2.1 hr (fun t ht hW => ⟨⟨σ, rfl, hw, rO_end hO hK ht hW⟩, hO.2.2.F ht⟩) hO.2.2.2.2 dX7_wholeFile_333 hlk
def R_wholeFile_b218_s (Q : rS → Prop) (K218 : Int32 → rS → Prop) (x4 : Int32) (σ : rS) : Prop :=
 vp_in (σ.1 18) 16 ∧ ((σ.2 15 (σ.1 18).toNatClampNeg) ≤ x4 → vp_in (σ.1 18) 16 ∧ ∀ t298 : rS, t298 = rA σ 17 (σ.1 18) ((σ.1 19) + (σ.1 21)) → R_many_w (fun r301 t301 => R_values_w (fun t309 => ((t309.1 20) ≤ (t309.1 21) → R_wholeFile_b333 Q t309) ∧ (¬ (t309.1 20) ≤ (t309.1 21) → R_fail_w (fun t330 => R_wholeFile_b333 Q t330) (8 : Int32) (t309.1 21) t309)) r301 t301) (4 : Int32) t298) ∧ (¬ (σ.2 15 (σ.1 18).toNatClampNeg) ≤ x4 → vp_in (((4 : Int32) * (σ.1 18)) + x4) 64 ∧ ∀ t254 : rS, t254 = rA σ 16 (((4 : Int32) * (σ.1 18)) + x4) ((σ.1 19) + (σ.1 21)) → R_constant_w (fun r258 t258 => R_many_w (fun r264 t264 => R_values_w (fun t272 => ∀ v275 : Int32, v275 = x4 + (1 : Int32) → K218 v275 t272) r264 t264) (4 : Int32) t258) (7 : Int32) t254)
def R_wholeFile_b218_f (Q : rS → Prop) : (Int32 × rS → Prop) → Int32 × rS → Prop :=
 fun K z => R_wholeFile_b218_s Q (fun x4 σ => K (x4, σ)) z.1 z.2
def R_wholeFile_b218 (Q : rS → Prop) (x4 : Int32) (σ : rS) : Prop := ∃ n, fx (R_wholeFile_b218_f Q ) n (x4, σ)
set_option maxHeartbeats 4000000 in
set_option maxRecDepth 100000 in
theorem rB_wholeFile_218 {Q : rS → Prop} (X : CallFix p m c cX7_wholeFile 6 s args wsX7_wholeFile RX7) (hr : meth.sig.returnType = none) (hlk : meth.locks = false) (hR : 5 ≤ R.frames ∧ 117 ≤ R.locals) (hK : va_K (dC, dI) vwCl [(cI, .int), (cZ, .boolean)] s) (hA : ∀ q, s.heap.size ≤ q → A q) : ∀ (n : Nat) (x4 : Int32) (σ : rS) (H : Heap) (locs : List Loc) (ls : Array Slot), lv_has ls 6 [(0, .ref h), (4, .int x4)] → rO dC dI h a cI cZ A s.heap σ H locs → fx (R_wholeFile_b218_f Q ) n (x4, σ) → W p l e R s m args below meth c H locs 0 0 (MQ below (va_Qv Q (rAt dC dI A h a cI cZ) A) args s 0 0 A) (F0 m 218 ls []) := by
  intro n
  induction n with
  | zero => intro x4 σ H locs ls hl hO hw; exact False.elim hw
  | succ n k218 =>
    intro x4 σ H locs ls hl hO hw
    have hw : R_wholeFile_b218_s Q (fun x4 σ => fx (R_wholeFile_b218_f Q ) n (x4, σ)) x4 σ := hw
    unfold R_wholeFile_b218_s at hw
    refine lv_iload X.1 X.2.1 dX7_wholeFile_218 (lv_at hl 1 rfl) ?_
    refine lv_aload_n X.1 X.2.1 dX7_wholeFile_220 rfl (lv_at hl 0 rfl) ?_
    refine rf_noteCount X hK hO dX7_wholeFile_221 ?_
    refine lv_aload_n X.1 X.2.1 dX7_wholeFile_224 rfl (lv_at hl 0 rfl) ?_
    refine rf_now X hK hO dX7_wholeFile_225 ?_
    obtain ⟨g228, hw⟩ := hw
    refine ra_noteCount X.1 X.2.1 hK hO g228 dX7_wholeFile_228 ?_
    refine lv_icmp_ge (tgt := 281) X.1 X.2.1 dX7_wholeFile_229 rfl (fun hc9 => ?_) (fun hc9 => ?_)
    · have hw := hw.1 hc9
      refine lv_aload_n X.1 X.2.1 dX7_wholeFile_281 rfl (lv_at hl 0 rfl) ?_
      refine rf_rest X hK hO dX7_wholeFile_282 ?_
      refine lv_aload_n X.1 X.2.1 dX7_wholeFile_285 rfl (lv_at hl 0 rfl) ?_
      refine rf_now X hK hO dX7_wholeFile_286 ?_
      refine lv_aload_n X.1 X.2.1 dX7_wholeFile_289 rfl (lv_at hl 0 rfl) ?_
      refine rf_base X hK hO dX7_wholeFile_290 ?_
      refine lv_aload_n X.1 X.2.1 dX7_wholeFile_293 rfl (lv_at hl 0 rfl) ?_
      refine rf_at X hK hO dX7_wholeFile_294 ?_
      refine lv_iadd X.1 X.2.1 dX7_wholeFile_297 ?_
      obtain ⟨g298, hw⟩ := hw
      refine rs_rest X.1 X.2.1 hK hO g298 dX7_wholeFile_298 (fun H locs hO => ?_)
      obtain ⟨t298, e298⟩ : ∃ z, z = rA σ 17 (σ.1 18) ((σ.1 19) + (σ.1 21)) := ⟨_, rfl⟩
      have hw := hw t298 e298
      rw [← e298] at hO
      refine lv_aload_n X.1 X.2.1 dX7_wholeFile_299 rfl (lv_at hl 0 rfl) ?_
      refine lv_iconst (v := 4) X.1 X.2.1 dX7_wholeFile_300 (by decide) ?_
      refine r_calli (rest := []) (As := [.int (4 : Int32)]) X (rC_many l dC dI h a cI cZ t298 H.size (4 : Int32) _ hw) (cwV 1 X.2.2.2.2 gX7_many rfl rfl rfl hdX7_many ⟨Nat.le_trans (by decide) hR.1, Nat.le_trans (by decide) hR.2⟩) hK hA hO rfl hl.1 rfl (Nat.le_of_ble_eq_true rfl) dX7_wholeFile_301 (fun r301 t301 H locs hO hw => ?_)
      refine lv_istore (lv' := [(4, .int r301), (0, .ref h)]) X.1 X.2.1 dX7_wholeFile_304 hl (by decide) rfl (fun ls hl => ?_)
      refine lv_aload_n X.1 X.2.1 dX7_wholeFile_306 rfl (lv_at hl 1 rfl) ?_
      refine lv_iload X.1 X.2.1 dX7_wholeFile_307 (lv_at hl 0 rfl) ?_
      refine r_callv (rest := []) (As := [.int r301]) X (rC_values l dC dI h a cI cZ t301 H.size r301 _ hw) (cwV 1 X.2.2.2.2 gX7_values rfl rfl rfl hdX7_values ⟨Nat.le_trans (by decide) hR.1, Nat.le_trans (by decide) hR.2⟩) hK hA hO rfl hl.1 rfl (Nat.le_of_ble_eq_true rfl) dX7_wholeFile_309 (fun t309 H locs hO hw => ?_)
      refine lv_aload_n X.1 X.2.1 dX7_wholeFile_312 rfl (lv_at hl 1 rfl) ?_
      refine rf_at X hK hO dX7_wholeFile_313 ?_
      refine lv_aload_n X.1 X.2.1 dX7_wholeFile_316 rfl (lv_at hl 1 rfl) ?_
      refine rf_end X hK hO dX7_wholeFile_317 ?_
      refine lv_icmp_ge (tgt := 333) X.1 X.2.1 dX7_wholeFile_320 rfl (fun hc9 => ?_) (fun hc9 => ?_)
      · have hw := hw.1 hc9
        exact rB_wholeFile_333 X hr hlk hR hK hA t309 H locs ls (lv_sub hl [1] rfl) hO hw
      · have hw := hw.2 hc9
        refine lv_aload_n X.1 X.2.1 dX7_wholeFile_323 rfl (lv_at hl 1 rfl) ?_
        refine lv_bipush (v := 8) X.1 X.2.1 dX7_wholeFile_324 (by decide) ?_
        refine lv_aload_n X.1 X.2.1 dX7_wholeFile_326 rfl (lv_at hl 1 rfl) ?_
        refine rf_at X hK hO dX7_wholeFile_327 ?_
        refine r_callv (rest := []) (As := [.int (8 : Int32), .int (t309.1 21)]) X (rC_fail l dC dI h a cI cZ t309 H.size (8 : Int32) (t309.1 21) _ hw) (cwV 2 X.2.2.2.2 gX7_fail rfl rfl rfl hdX7_fail ⟨Nat.le_trans (by decide) hR.1, Nat.le_trans (by decide) hR.2⟩) hK hA hO rfl hl.1 rfl (Nat.le_of_ble_eq_true rfl) dX7_wholeFile_330 (fun t330 H locs hO hw => ?_)
        exact rB_wholeFile_333 X hr hlk hR hK hA t330 H locs ls (lv_sub hl [1] rfl) hO hw
    · have hw := hw.2 hc9
      refine lv_aload_n X.1 X.2.1 dX7_wholeFile_232 rfl (lv_at hl 0 rfl) ?_
      refine rf_note X hK hO dX7_wholeFile_233 ?_
      refine lv_iconst (v := 4) X.1 X.2.1 dX7_wholeFile_236 (by decide) ?_
      refine lv_aload_n X.1 X.2.1 dX7_wholeFile_237 rfl (lv_at hl 0 rfl) ?_
      refine rf_now X hK hO dX7_wholeFile_238 ?_
      refine lv_imul X.1 X.2.1 dX7_wholeFile_241 ?_
      refine lv_iload X.1 X.2.1 dX7_wholeFile_242 (lv_at hl 1 rfl) ?_
      refine lv_iadd X.1 X.2.1 dX7_wholeFile_244 ?_
      refine lv_aload_n X.1 X.2.1 dX7_wholeFile_245 rfl (lv_at hl 0 rfl) ?_
      refine rf_base X hK hO dX7_wholeFile_246 ?_
      refine lv_aload_n X.1 X.2.1 dX7_wholeFile_249 rfl (lv_at hl 0 rfl) ?_
      refine rf_at X hK hO dX7_wholeFile_250 ?_
      refine lv_iadd X.1 X.2.1 dX7_wholeFile_253 ?_
      obtain ⟨g254, hw⟩ := hw
      refine rs_note X.1 X.2.1 hK hO g254 dX7_wholeFile_254 (fun H locs hO => ?_)
      obtain ⟨t254, e254⟩ : ∃ z, z = rA σ 16 (((4 : Int32) * (σ.1 18)) + x4) ((σ.1 19) + (σ.1 21)) := ⟨_, rfl⟩
      have hw := hw t254 e254
      rw [← e254] at hO
      refine lv_aload_n X.1 X.2.1 dX7_wholeFile_255 rfl (lv_at hl 0 rfl) ?_
      refine lv_bipush (v := 7) X.1 X.2.1 dX7_wholeFile_256 (by decide) ?_
      refine r_calli (rest := []) (As := [.int (7 : Int32)]) X (rC_constant l dC dI h a cI cZ t254 H.size (7 : Int32) _ hw) (cwV 1 X.2.2.2.2 gX7_constant rfl rfl rfl hdX7_constant ⟨Nat.le_trans (by decide) hR.1, Nat.le_trans (by decide) hR.2⟩) hK hA hO rfl hl.1 rfl (Nat.le_of_ble_eq_true rfl) dX7_wholeFile_258 (fun r258 t258 H locs hO hw => ?_)
      refine lv_pop X.1 X.2.1 dX7_wholeFile_261 rfl ?_
      refine lv_aload_n X.1 X.2.1 dX7_wholeFile_262 rfl (lv_at hl 0 rfl) ?_
      refine lv_iconst (v := 4) X.1 X.2.1 dX7_wholeFile_263 (by decide) ?_
      refine r_calli (rest := []) (As := [.int (4 : Int32)]) X (rC_many l dC dI h a cI cZ t258 H.size (4 : Int32) _ hw) (cwV 1 X.2.2.2.2 gX7_many rfl rfl rfl hdX7_many ⟨Nat.le_trans (by decide) hR.1, Nat.le_trans (by decide) hR.2⟩) hK hA hO rfl hl.1 rfl (Nat.le_of_ble_eq_true rfl) dX7_wholeFile_264 (fun r264 t264 H locs hO hw => ?_)
      refine lv_istore (lv' := [(5, .int r264), (0, .ref h), (4, .int x4)]) X.1 X.2.1 dX7_wholeFile_267 hl (by decide) rfl (fun ls hl => ?_)
      refine lv_aload_n X.1 X.2.1 dX7_wholeFile_269 rfl (lv_at hl 1 rfl) ?_
      refine lv_iload X.1 X.2.1 dX7_wholeFile_270 (lv_at hl 0 rfl) ?_
      refine r_callv (rest := []) (As := [.int r264]) X (rC_values l dC dI h a cI cZ t264 H.size r264 _ hw) (cwV 1 X.2.2.2.2 gX7_values rfl rfl rfl hdX7_values ⟨Nat.le_trans (by decide) hR.1, Nat.le_trans (by decide) hR.2⟩) hK hA hO rfl hl.1 rfl (Nat.le_of_ble_eq_true rfl) dX7_wholeFile_272 (fun t272 H locs hO hw => ?_)
      obtain ⟨v275, e275⟩ : ∃ z, z = x4 + (1 : Int32) := ⟨_, rfl⟩
      have hw := hw v275 e275
      refine lv_iinc (lv' := [(4, .int v275), (5, .int r264), (0, .ref h)]) (k := 2) (v := v275) X.1 X.2.1 dX7_wholeFile_275 hl rfl (by rw [e275]; rfl) (by decide) rfl (fun ls hl => ?_)
      refine lv_goto (tgt := 218) X.1 X.2.1 dX7_wholeFile_278 rfl ?_
      exact k218 v275 t272 H locs ls (lv_sub hl [2, 0] rfl) hO hw
def R_wholeFile_b161_s (Q : rS → Prop) (K161 : Int32 → rS → Prop) (x4 : Int32) (σ : rS) : Prop :=
 vp_in (σ.1 18) 16 ∧ ((σ.2 13 (σ.1 18).toNatClampNeg) ≤ x4 → R_many_w (fun r211 t211 => vp_in (σ.1 18) 16 ∧ ∀ t214 : rS, t214 = rA t211 15 (σ.1 18) r211 → R_wholeFile_b218 Q (0 : Int32) t214) (4 : Int32) σ) ∧ (¬ (σ.2 13 (σ.1 18).toNatClampNeg) ≤ x4 → R_constant_w (fun r191 t191 => vp_in (((4 : Int32) * (σ.1 18)) + x4) 64 ∧ ∀ t194 : rS, t194 = rA t191 14 (((4 : Int32) * (σ.1 18)) + x4) r191 → ∀ v195 : Int32, v195 = x4 + (1 : Int32) → K161 v195 t194) (7 : Int32) σ)
def R_wholeFile_b161_f (Q : rS → Prop) : (Int32 × rS → Prop) → Int32 × rS → Prop :=
 fun K z => R_wholeFile_b161_s Q (fun x4 σ => K (x4, σ)) z.1 z.2
def R_wholeFile_b161 (Q : rS → Prop) (x4 : Int32) (σ : rS) : Prop := ∃ n, fx (R_wholeFile_b161_f Q ) n (x4, σ)
set_option maxHeartbeats 4000000 in
set_option maxRecDepth 100000 in
theorem rB_wholeFile_161 {Q : rS → Prop} (X : CallFix p m c cX7_wholeFile 6 s args wsX7_wholeFile RX7) (hr : meth.sig.returnType = none) (hlk : meth.locks = false) (hR : 5 ≤ R.frames ∧ 117 ≤ R.locals) (hK : va_K (dC, dI) vwCl [(cI, .int), (cZ, .boolean)] s) (hA : ∀ q, s.heap.size ≤ q → A q) : ∀ (n : Nat) (x4 : Int32) (σ : rS) (H : Heap) (locs : List Loc) (ls : Array Slot), lv_has ls 6 [(0, .ref h), (4, .int x4)] → rO dC dI h a cI cZ A s.heap σ H locs → fx (R_wholeFile_b161_f Q ) n (x4, σ) → W p l e R s m args below meth c H locs 0 0 (MQ below (va_Qv Q (rAt dC dI A h a cI cZ) A) args s 0 0 A) (F0 m 161 ls []) := by
  intro n
  induction n with
  | zero => intro x4 σ H locs ls hl hO hw; exact False.elim hw
  | succ n k161 =>
    intro x4 σ H locs ls hl hO hw
    have hw : R_wholeFile_b161_s Q (fun x4 σ => fx (R_wholeFile_b161_f Q ) n (x4, σ)) x4 σ := hw
    unfold R_wholeFile_b161_s at hw
    refine lv_iload X.1 X.2.1 dX7_wholeFile_161 (lv_at hl 1 rfl) ?_
    refine lv_aload_n X.1 X.2.1 dX7_wholeFile_163 rfl (lv_at hl 0 rfl) ?_
    refine rf_faceCount X hK hO dX7_wholeFile_164 ?_
    refine lv_aload_n X.1 X.2.1 dX7_wholeFile_167 rfl (lv_at hl 0 rfl) ?_
    refine rf_now X hK hO dX7_wholeFile_168 ?_
    obtain ⟨g171, hw⟩ := hw
    refine ra_faceCount X.1 X.2.1 hK hO g171 dX7_wholeFile_171 ?_
    refine lv_icmp_ge (tgt := 201) X.1 X.2.1 dX7_wholeFile_172 rfl (fun hc9 => ?_) (fun hc9 => ?_)
    · have hw := hw.1 hc9
      refine lv_aload_n X.1 X.2.1 dX7_wholeFile_201 rfl (lv_at hl 0 rfl) ?_
      refine rf_noteCount X hK hO dX7_wholeFile_202 ?_
      refine lv_aload_n X.1 X.2.1 dX7_wholeFile_205 rfl (lv_at hl 0 rfl) ?_
      refine rf_now X hK hO dX7_wholeFile_206 ?_
      refine lv_aload_n X.1 X.2.1 dX7_wholeFile_209 rfl (lv_at hl 0 rfl) ?_
      refine lv_iconst (v := 4) X.1 X.2.1 dX7_wholeFile_210 (by decide) ?_
      refine r_calli (rest := [.int (σ.1 18), .ref (a 15)]) (As := [.int (4 : Int32)]) X (rC_many l dC dI h a cI cZ σ H.size (4 : Int32) _ hw) (cwV 1 X.2.2.2.2 gX7_many rfl rfl rfl hdX7_many ⟨Nat.le_trans (by decide) hR.1, Nat.le_trans (by decide) hR.2⟩) hK hA hO rfl hl.1 rfl (Nat.le_of_ble_eq_true rfl) dX7_wholeFile_211 (fun r211 t211 H locs hO hw => ?_)
      obtain ⟨g214, hw⟩ := hw
      refine rs_noteCount X.1 X.2.1 hK hO g214 dX7_wholeFile_214 (fun H locs hO => ?_)
      obtain ⟨t214, e214⟩ : ∃ z, z = rA t211 15 (σ.1 18) r211 := ⟨_, rfl⟩
      have hw := hw t214 e214
      rw [← e214] at hO
      refine lv_iconst (v := 0) X.1 X.2.1 dX7_wholeFile_215 (by decide) ?_
      refine lv_istore (lv' := [(4, .int (0 : Int32)), (0, .ref h)]) X.1 X.2.1 dX7_wholeFile_216 hl (by decide) rfl (fun ls hl => ?_)
      obtain ⟨n, hw⟩ := hw
      exact rB_wholeFile_218 X hr hlk hR hK hA n (0 : Int32) t214 H locs ls (lv_sub hl [1, 0] rfl) hO hw
    · have hw := hw.2 hc9
      refine lv_aload_n X.1 X.2.1 dX7_wholeFile_175 rfl (lv_at hl 0 rfl) ?_
      refine rf_face X hK hO dX7_wholeFile_176 ?_
      refine lv_iconst (v := 4) X.1 X.2.1 dX7_wholeFile_179 (by decide) ?_
      refine lv_aload_n X.1 X.2.1 dX7_wholeFile_180 rfl (lv_at hl 0 rfl) ?_
      refine rf_now X hK hO dX7_wholeFile_181 ?_
      refine lv_imul X.1 X.2.1 dX7_wholeFile_184 ?_
      refine lv_iload X.1 X.2.1 dX7_wholeFile_185 (lv_at hl 1 rfl) ?_
      refine lv_iadd X.1 X.2.1 dX7_wholeFile_187 ?_
      refine lv_aload_n X.1 X.2.1 dX7_wholeFile_188 rfl (lv_at hl 0 rfl) ?_
      refine lv_bipush (v := 7) X.1 X.2.1 dX7_wholeFile_189 (by decide) ?_
      refine r_calli (rest := [.int (((4 : Int32) * (σ.1 18)) + x4), .ref (a 14)]) (As := [.int (7 : Int32)]) X (rC_constant l dC dI h a cI cZ σ H.size (7 : Int32) _ hw) (cwV 1 X.2.2.2.2 gX7_constant rfl rfl rfl hdX7_constant ⟨Nat.le_trans (by decide) hR.1, Nat.le_trans (by decide) hR.2⟩) hK hA hO rfl hl.1 rfl (Nat.le_of_ble_eq_true rfl) dX7_wholeFile_191 (fun r191 t191 H locs hO hw => ?_)
      obtain ⟨g194, hw⟩ := hw
      refine rs_face X.1 X.2.1 hK hO g194 dX7_wholeFile_194 (fun H locs hO => ?_)
      obtain ⟨t194, e194⟩ : ∃ z, z = rA t191 14 (((4 : Int32) * (σ.1 18)) + x4) r191 := ⟨_, rfl⟩
      have hw := hw t194 e194
      rw [← e194] at hO
      obtain ⟨v195, e195⟩ : ∃ z, z = x4 + (1 : Int32) := ⟨_, rfl⟩
      have hw := hw v195 e195
      refine lv_iinc (lv' := [(4, .int v195), (0, .ref h)]) (k := 1) (v := v195) X.1 X.2.1 dX7_wholeFile_195 hl rfl (by rw [e195]; rfl) (by decide) rfl (fun ls hl => ?_)
      refine lv_goto (tgt := 161) X.1 X.2.1 dX7_wholeFile_198 rfl ?_
      exact k161 v195 t194 H locs ls (lv_sub hl [1, 0] rfl) hO hw
def R_wholeFile_b118 (Q : rS → Prop) (σ : rS) : Prop :=
 R_classOrNone_w (fun r127 t127 => vp_in (σ.1 18) 16 ∧ ∀ t130 : rS, t130 = rA t127 11 (σ.1 18) r127 → R_classOrNone_w (fun r140 t140 => vp_in (t130.1 18) 16 ∧ ∀ t143 : rS, t143 = rA t140 12 (t130.1 18) r140 → R_many_w (fun r154 t154 => vp_in (t143.1 18) 16 ∧ ∀ t157 : rS, t157 = rA t154 13 (t143.1 18) r154 → R_wholeFile_b161 Q (0 : Int32) t157) (4 : Int32) t143) t130) σ
set_option maxHeartbeats 4000000 in
set_option maxRecDepth 100000 in
theorem rB_wholeFile_118 {Q : rS → Prop} (X : CallFix p m c cX7_wholeFile 6 s args wsX7_wholeFile RX7) (hr : meth.sig.returnType = none) (hlk : meth.locks = false) (hR : 5 ≤ R.frames ∧ 117 ≤ R.locals) (hK : va_K (dC, dI) vwCl [(cI, .int), (cZ, .boolean)] s) (hA : ∀ q, s.heap.size ≤ q → A q) (σ : rS) (H : Heap) (locs : List Loc) (ls : Array Slot) (hl : lv_has ls 6 [(0, .ref h)]) (hO : rO dC dI h a cI cZ A s.heap σ H locs) (hw : R_wholeFile_b118 Q σ) : W p l e R s m args below meth c H locs 0 0 (MQ below (va_Qv Q (rAt dC dI A h a cI cZ) A) args s 0 0 A) (F0 m 118 ls []) := by
  unfold R_wholeFile_b118 at hw
  refine lv_aload_n X.1 X.2.1 dX7_wholeFile_118 rfl (lv_at hl 0 rfl) ?_
  refine rf_above X hK hO dX7_wholeFile_119 ?_
  refine lv_aload_n X.1 X.2.1 dX7_wholeFile_122 rfl (lv_at hl 0 rfl) ?_
  refine rf_now X hK hO dX7_wholeFile_123 ?_
  refine lv_aload_n X.1 X.2.1 dX7_wholeFile_126 rfl (lv_at hl 0 rfl) ?_
  refine r_calli (rest := [.int (σ.1 18), .ref (a 11)]) (As := []) X (rC_classOrNone l dC dI h a cI cZ σ H.size _ hw) (cwV 0 X.2.2.2.2 gX7_classOrNone rfl rfl rfl hdX7_classOrNone ⟨Nat.le_trans (by decide) hR.1, Nat.le_trans (by decide) hR.2⟩) hK hA hO rfl hl.1 rfl (Nat.le_of_ble_eq_true rfl) dX7_wholeFile_127 (fun r127 t127 H locs hO hw => ?_)
  obtain ⟨g130, hw⟩ := hw
  refine rs_above X.1 X.2.1 hK hO g130 dX7_wholeFile_130 (fun H locs hO => ?_)
  obtain ⟨t130, e130⟩ : ∃ z, z = rA t127 11 (σ.1 18) r127 := ⟨_, rfl⟩
  have hw := hw t130 e130
  rw [← e130] at hO
  refine lv_aload_n X.1 X.2.1 dX7_wholeFile_131 rfl (lv_at hl 0 rfl) ?_
  refine rf_box X hK hO dX7_wholeFile_132 ?_
  refine lv_aload_n X.1 X.2.1 dX7_wholeFile_135 rfl (lv_at hl 0 rfl) ?_
  refine rf_now X hK hO dX7_wholeFile_136 ?_
  refine lv_aload_n X.1 X.2.1 dX7_wholeFile_139 rfl (lv_at hl 0 rfl) ?_
  refine r_calli (rest := [.int (t130.1 18), .ref (a 12)]) (As := []) X (rC_classOrNone l dC dI h a cI cZ t130 H.size _ hw) (cwV 0 X.2.2.2.2 gX7_classOrNone rfl rfl rfl hdX7_classOrNone ⟨Nat.le_trans (by decide) hR.1, Nat.le_trans (by decide) hR.2⟩) hK hA hO rfl hl.1 rfl (Nat.le_of_ble_eq_true rfl) dX7_wholeFile_140 (fun r140 t140 H locs hO hw => ?_)
  obtain ⟨g143, hw⟩ := hw
  refine rs_box X.1 X.2.1 hK hO g143 dX7_wholeFile_143 (fun H locs hO => ?_)
  obtain ⟨t143, e143⟩ : ∃ z, z = rA t140 12 (t130.1 18) r140 := ⟨_, rfl⟩
  have hw := hw t143 e143
  rw [← e143] at hO
  refine lv_aload_n X.1 X.2.1 dX7_wholeFile_144 rfl (lv_at hl 0 rfl) ?_
  refine rf_faceCount X hK hO dX7_wholeFile_145 ?_
  refine lv_aload_n X.1 X.2.1 dX7_wholeFile_148 rfl (lv_at hl 0 rfl) ?_
  refine rf_now X hK hO dX7_wholeFile_149 ?_
  refine lv_aload_n X.1 X.2.1 dX7_wholeFile_152 rfl (lv_at hl 0 rfl) ?_
  refine lv_iconst (v := 4) X.1 X.2.1 dX7_wholeFile_153 (by decide) ?_
  refine r_calli (rest := [.int (t143.1 18), .ref (a 13)]) (As := [.int (4 : Int32)]) X (rC_many l dC dI h a cI cZ t143 H.size (4 : Int32) _ hw) (cwV 1 X.2.2.2.2 gX7_many rfl rfl rfl hdX7_many ⟨Nat.le_trans (by decide) hR.1, Nat.le_trans (by decide) hR.2⟩) hK hA hO rfl hl.1 rfl (Nat.le_of_ble_eq_true rfl) dX7_wholeFile_154 (fun r154 t154 H locs hO hw => ?_)
  obtain ⟨g157, hw⟩ := hw
  refine rs_faceCount X.1 X.2.1 hK hO g157 dX7_wholeFile_157 (fun H locs hO => ?_)
  obtain ⟨t157, e157⟩ : ∃ z, z = rA t154 13 (t143.1 18) r154 := ⟨_, rfl⟩
  have hw := hw t157 e157
  rw [← e157] at hO
  refine lv_iconst (v := 0) X.1 X.2.1 dX7_wholeFile_158 (by decide) ?_
  refine lv_istore (lv' := [(4, .int (0 : Int32)), (0, .ref h)]) X.1 X.2.1 dX7_wholeFile_159 hl (by decide) rfl (fun ls hl => ?_)
  obtain ⟨n, hw⟩ := hw
  exact rB_wholeFile_161 X hr hlk hR hK hA n (0 : Int32) t157 H locs ls (lv_sub hl [1, 0] rfl) hO hw
def R_wholeFile_b50 (Q : rS → Prop) (σ : rS) : Prop :=
 R_allConstants_w (fun t51 => R_many_w (fun r64 t64 => vp_in (t51.1 18) 16 ∧ ∀ t67 : rS, t67 = rA t64 9 (t51.1 18) r64 → ∀ v72 : Int32, v72 = (t67.1 21) → R_constant_w (fun r84 t84 => vp_in (t67.1 18) 16 ∧ ∀ t87 : rS, t87 = rA t84 10 (t67.1 18) r84 → (¬ (t87.1 23) = 0 → R_wholeFile_b118 Q t87) ∧ ((t87.1 23) = 0 → vp_in (t87.1 18) 16 ∧ R_taken_w (fun r105 t105 => (r105 = 0 → R_wholeFile_b118 Q t105) ∧ (¬ r105 = 0 → R_fail_w (fun t115 => R_wholeFile_b118 Q t115) (9 : Int32) v72 t105)) (t87.2 10 (t87.1 18).toNatClampNeg) t87)) (7 : Int32) t67) (3 : Int32) t51) σ
set_option maxHeartbeats 4000000 in
set_option maxRecDepth 100000 in
theorem rB_wholeFile_50 {Q : rS → Prop} (X : CallFix p m c cX7_wholeFile 6 s args wsX7_wholeFile RX7) (hr : meth.sig.returnType = none) (hlk : meth.locks = false) (hR : 5 ≤ R.frames ∧ 117 ≤ R.locals) (hK : va_K (dC, dI) vwCl [(cI, .int), (cZ, .boolean)] s) (hA : ∀ q, s.heap.size ≤ q → A q) (σ : rS) (H : Heap) (locs : List Loc) (ls : Array Slot) (hl : lv_has ls 6 [(0, .ref h)]) (hO : rO dC dI h a cI cZ A s.heap σ H locs) (hw : R_wholeFile_b50 Q σ) : W p l e R s m args below meth c H locs 0 0 (MQ below (va_Qv Q (rAt dC dI A h a cI cZ) A) args s 0 0 A) (F0 m 50 ls []) := by
  unfold R_wholeFile_b50 at hw
  refine lv_aload_n X.1 X.2.1 dX7_wholeFile_50 rfl (lv_at hl 0 rfl) ?_
  refine r_callv (rest := []) (As := []) X (rC_allConstants l dC dI h a cI cZ σ H.size _ hw) (cwV 0 X.2.2.2.2 gX7_allConstants rfl rfl rfl hdX7_allConstants ⟨Nat.le_trans (by decide) hR.1, Nat.le_trans (by decide) hR.2⟩) hK hA hO rfl hl.1 rfl (Nat.le_of_ble_eq_true rfl) dX7_wholeFile_51 (fun t51 H locs hO hw => ?_)
  refine lv_aload_n X.1 X.2.1 dX7_wholeFile_54 rfl (lv_at hl 0 rfl) ?_
  refine rf_flag X hK hO dX7_wholeFile_55 ?_
  refine lv_aload_n X.1 X.2.1 dX7_wholeFile_58 rfl (lv_at hl 0 rfl) ?_
  refine rf_now X hK hO dX7_wholeFile_59 ?_
  refine lv_aload_n X.1 X.2.1 dX7_wholeFile_62 rfl (lv_at hl 0 rfl) ?_
  refine lv_iconst (v := 3) X.1 X.2.1 dX7_wholeFile_63 (by decide) ?_
  refine r_calli (rest := [.int (t51.1 18), .ref (a 9)]) (As := [.int (3 : Int32)]) X (rC_many l dC dI h a cI cZ t51 H.size (3 : Int32) _ hw) (cwV 1 X.2.2.2.2 gX7_many rfl rfl rfl hdX7_many ⟨Nat.le_trans (by decide) hR.1, Nat.le_trans (by decide) hR.2⟩) hK hA hO rfl hl.1 rfl (Nat.le_of_ble_eq_true rfl) dX7_wholeFile_64 (fun r64 t64 H locs hO hw => ?_)
  obtain ⟨g67, hw⟩ := hw
  refine rs_flag X.1 X.2.1 hK hO g67 dX7_wholeFile_67 (fun H locs hO => ?_)
  obtain ⟨t67, e67⟩ : ∃ z, z = rA t64 9 (t51.1 18) r64 := ⟨_, rfl⟩
  have hw := hw t67 e67
  rw [← e67] at hO
  refine lv_aload_n X.1 X.2.1 dX7_wholeFile_68 rfl (lv_at hl 0 rfl) ?_
  refine rf_at X hK hO dX7_wholeFile_69 ?_
  refine lv_topi (fun v72 e72 => ?_)
  have hw := hw v72 e72
  refine lv_istore_n (lv' := [(3, .int v72), (0, .ref h)]) X.1 X.2.1 dX7_wholeFile_72 rfl hl (by decide) rfl (fun ls hl => ?_)
  refine lv_aload_n X.1 X.2.1 dX7_wholeFile_73 rfl (lv_at hl 1 rfl) ?_
  refine rf_self X hK hO dX7_wholeFile_74 ?_
  refine lv_aload_n X.1 X.2.1 dX7_wholeFile_77 rfl (lv_at hl 1 rfl) ?_
  refine rf_now X hK hO dX7_wholeFile_78 ?_
  refine lv_aload_n X.1 X.2.1 dX7_wholeFile_81 rfl (lv_at hl 1 rfl) ?_
  refine lv_bipush (v := 7) X.1 X.2.1 dX7_wholeFile_82 (by decide) ?_
  refine r_calli (rest := [.int (t67.1 18), .ref (a 10)]) (As := [.int (7 : Int32)]) X (rC_constant l dC dI h a cI cZ t67 H.size (7 : Int32) _ hw) (cwV 1 X.2.2.2.2 gX7_constant rfl rfl rfl hdX7_constant ⟨Nat.le_trans (by decide) hR.1, Nat.le_trans (by decide) hR.2⟩) hK hA hO rfl hl.1 rfl (Nat.le_of_ble_eq_true rfl) dX7_wholeFile_84 (fun r84 t84 H locs hO hw => ?_)
  obtain ⟨g87, hw⟩ := hw
  refine rs_self X.1 X.2.1 hK hO g87 dX7_wholeFile_87 (fun H locs hO => ?_)
  obtain ⟨t87, e87⟩ : ∃ z, z = rA t84 10 (t67.1 18) r84 := ⟨_, rfl⟩
  have hw := hw t87 e87
  rw [← e87] at hO
  refine lv_aload_n X.1 X.2.1 dX7_wholeFile_88 rfl (lv_at hl 1 rfl) ?_
  refine rf_reason X hK hO dX7_wholeFile_89 ?_
  refine lv_if_ne (tgt := 118) X.1 X.2.1 dX7_wholeFile_92 rfl (fun hc9 => ?_) (fun hc9 => ?_)
  · have hw := hw.1 hc9
    exact rB_wholeFile_118 X hr hlk hR hK hA t87 H locs ls (lv_sub hl [1] rfl) hO hw
  · have hw := hw.2 hc9
    refine lv_aload_n X.1 X.2.1 dX7_wholeFile_95 rfl (lv_at hl 1 rfl) ?_
    refine lv_aload_n X.1 X.2.1 dX7_wholeFile_96 rfl (lv_at hl 1 rfl) ?_
    refine rf_self X hK hO dX7_wholeFile_97 ?_
    refine lv_aload_n X.1 X.2.1 dX7_wholeFile_100 rfl (lv_at hl 1 rfl) ?_
    refine rf_now X hK hO dX7_wholeFile_101 ?_
    obtain ⟨g104, hw⟩ := hw
    refine ra_self X.1 X.2.1 hK hO g104 dX7_wholeFile_104 ?_
    refine r_calli (rest := []) (As := [.int (t87.2 10 (t87.1 18).toNatClampNeg)]) X (rC_taken l dC dI h a cI cZ t87 H.size (t87.2 10 (t87.1 18).toNatClampNeg) _ hw) (cwV 1 X.2.2.2.2 gX7_taken rfl rfl rfl hdX7_taken ⟨Nat.le_trans (by decide) hR.1, Nat.le_trans (by decide) hR.2⟩) hK hA hO rfl hl.1 rfl (Nat.le_of_ble_eq_true rfl) dX7_wholeFile_105 (fun r105 t105 H locs hO hw => ?_)
    refine lv_if_eq (tgt := 118) X.1 X.2.1 dX7_wholeFile_108 rfl (fun hc9 => ?_) (fun hc9 => ?_)
    · have hw := hw.1 hc9
      exact rB_wholeFile_118 X hr hlk hR hK hA t105 H locs ls (lv_sub hl [1] rfl) hO hw
    · have hw := hw.2 hc9
      refine lv_aload_n X.1 X.2.1 dX7_wholeFile_111 rfl (lv_at hl 1 rfl) ?_
      refine lv_bipush (v := 9) X.1 X.2.1 dX7_wholeFile_112 (by decide) ?_
      refine lv_iload_n X.1 X.2.1 dX7_wholeFile_114 rfl (lv_at hl 0 rfl) ?_
      refine r_callv (rest := []) (As := [.int (9 : Int32), .int v72]) X (rC_fail l dC dI h a cI cZ t105 H.size (9 : Int32) v72 _ hw) (cwV 2 X.2.2.2.2 gX7_fail rfl rfl rfl hdX7_fail ⟨Nat.le_trans (by decide) hR.1, Nat.le_trans (by decide) hR.2⟩) hK hA hO rfl hl.1 rfl (Nat.le_of_ble_eq_true rfl) dX7_wholeFile_115 (fun t115 H locs hO hw => ?_)
      exact rB_wholeFile_118 X hr hlk hR hK hA t115 H locs ls (lv_sub hl [1] rfl) hO hw
def R_wholeFile_b25 (Q : rS → Prop) (σ : rS) : Prop :=
 R_take_w (fun r26 t26 => (¬ (t26.1 23) = 0 → R_wholeFile_b50 Q t26) ∧ ((t26.1 23) = 0 → (r26 = (254 : Int32) → R_wholeFile_b50 Q t26) ∧ (¬ r26 = (254 : Int32) → R_fail_w (fun t47 => R_wholeFile_b50 Q t47) (2 : Int32) (1 : Int32) t26))) σ
set_option maxHeartbeats 4000000 in
set_option maxRecDepth 100000 in
theorem rB_wholeFile_25 {Q : rS → Prop} (X : CallFix p m c cX7_wholeFile 6 s args wsX7_wholeFile RX7) (hr : meth.sig.returnType = none) (hlk : meth.locks = false) (hR : 5 ≤ R.frames ∧ 117 ≤ R.locals) (hK : va_K (dC, dI) vwCl [(cI, .int), (cZ, .boolean)] s) (hA : ∀ q, s.heap.size ≤ q → A q) (σ : rS) (H : Heap) (locs : List Loc) (ls : Array Slot) (hl : lv_has ls 6 [(0, .ref h)]) (hO : rO dC dI h a cI cZ A s.heap σ H locs) (hw : R_wholeFile_b25 Q σ) : W p l e R s m args below meth c H locs 0 0 (MQ below (va_Qv Q (rAt dC dI A h a cI cZ) A) args s 0 0 A) (F0 m 25 ls []) := by
  unfold R_wholeFile_b25 at hw
  refine lv_aload_n X.1 X.2.1 dX7_wholeFile_25 rfl (lv_at hl 0 rfl) ?_
  refine r_calli (rest := []) (As := []) X (rC_take l dC dI h a cI cZ σ H.size _ hw) (cwV 0 X.2.2.2.2 gX7_take rfl rfl rfl hdX7_take ⟨Nat.le_trans (by decide) hR.1, Nat.le_trans (by decide) hR.2⟩) hK hA hO rfl hl.1 rfl (Nat.le_of_ble_eq_true rfl) dX7_wholeFile_26 (fun r26 t26 H locs hO hw => ?_)
  refine lv_istore_n (lv' := [(2, .int r26), (0, .ref h)]) X.1 X.2.1 dX7_wholeFile_29 rfl hl (by decide) rfl (fun ls hl => ?_)
  refine lv_aload_n X.1 X.2.1 dX7_wholeFile_30 rfl (lv_at hl 1 rfl) ?_
  refine rf_reason X hK hO dX7_wholeFile_31 ?_
  refine lv_if_ne (tgt := 50) X.1 X.2.1 dX7_wholeFile_34 rfl (fun hc9 => ?_) (fun hc9 => ?_)
  · have hw := hw.1 hc9
    exact rB_wholeFile_50 X hr hlk hR hK hA t26 H locs ls (lv_sub hl [1] rfl) hO hw
  · have hw := hw.2 hc9
    refine lv_iload_n X.1 X.2.1 dX7_wholeFile_37 rfl (lv_at hl 0 rfl) ?_
    refine lv_sipush (v := 254) X.1 X.2.1 dX7_wholeFile_38 (by decide) ?_
    refine lv_icmp_eq (tgt := 50) X.1 X.2.1 dX7_wholeFile_41 rfl (fun hc9 => ?_) (fun hc9 => ?_)
    · have hw := hw.1 hc9
      exact rB_wholeFile_50 X hr hlk hR hK hA t26 H locs ls (lv_sub hl [1] rfl) hO hw
    · have hw := hw.2 hc9
      refine lv_aload_n X.1 X.2.1 dX7_wholeFile_44 rfl (lv_at hl 1 rfl) ?_
      refine lv_iconst (v := 2) X.1 X.2.1 dX7_wholeFile_45 (by decide) ?_
      refine lv_iconst (v := 1) X.1 X.2.1 dX7_wholeFile_46 (by decide) ?_
      refine r_callv (rest := []) (As := [.int (2 : Int32), .int (1 : Int32)]) X (rC_fail l dC dI h a cI cZ t26 H.size (2 : Int32) (1 : Int32) _ hw) (cwV 2 X.2.2.2.2 gX7_fail rfl rfl rfl hdX7_fail ⟨Nat.le_trans (by decide) hR.1, Nat.le_trans (by decide) hR.2⟩) hK hA hO rfl hl.1 rfl (Nat.le_of_ble_eq_true rfl) dX7_wholeFile_47 (fun t47 H locs hO hw => ?_)
      exact rB_wholeFile_50 X hr hlk hR hK hA t47 H locs ls (lv_sub hl [1] rfl) hO hw
def R_wholeFile_b0 (Q : rS → Prop) (σ : rS) : Prop :=
 R_take_w (fun r1 t1 => (¬ (t1.1 23) = 0 → R_wholeFile_b25 Q t1) ∧ ((t1.1 23) = 0 → (r1 = (202 : Int32) → R_wholeFile_b25 Q t1) ∧ (¬ r1 = (202 : Int32) → R_fail_w (fun t22 => R_wholeFile_b25 Q t22) (2 : Int32) (0 : Int32) t1))) σ
set_option maxHeartbeats 4000000 in
set_option maxRecDepth 100000 in
theorem rB_wholeFile_0 {Q : rS → Prop} (X : CallFix p m c cX7_wholeFile 6 s args wsX7_wholeFile RX7) (hr : meth.sig.returnType = none) (hlk : meth.locks = false) (hR : 5 ≤ R.frames ∧ 117 ≤ R.locals) (hK : va_K (dC, dI) vwCl [(cI, .int), (cZ, .boolean)] s) (hA : ∀ q, s.heap.size ≤ q → A q) (σ : rS) (H : Heap) (locs : List Loc) (ls : Array Slot) (hl : lv_has ls 6 [(0, .ref h)]) (hO : rO dC dI h a cI cZ A s.heap σ H locs) (hw : R_wholeFile_b0 Q σ) : W p l e R s m args below meth c H locs 0 0 (MQ below (va_Qv Q (rAt dC dI A h a cI cZ) A) args s 0 0 A) (F0 m 0 ls []) := by
  unfold R_wholeFile_b0 at hw
  refine lv_aload_n X.1 X.2.1 dX7_wholeFile_0 rfl (lv_at hl 0 rfl) ?_
  refine r_calli (rest := []) (As := []) X (rC_take l dC dI h a cI cZ σ H.size _ hw) (cwV 0 X.2.2.2.2 gX7_take rfl rfl rfl hdX7_take ⟨Nat.le_trans (by decide) hR.1, Nat.le_trans (by decide) hR.2⟩) hK hA hO rfl hl.1 rfl (Nat.le_of_ble_eq_true rfl) dX7_wholeFile_1 (fun r1 t1 H locs hO hw => ?_)
  refine lv_istore_n (lv' := [(1, .int r1), (0, .ref h)]) X.1 X.2.1 dX7_wholeFile_4 rfl hl (by decide) rfl (fun ls hl => ?_)
  refine lv_aload_n X.1 X.2.1 dX7_wholeFile_5 rfl (lv_at hl 1 rfl) ?_
  refine rf_reason X hK hO dX7_wholeFile_6 ?_
  refine lv_if_ne (tgt := 25) X.1 X.2.1 dX7_wholeFile_9 rfl (fun hc9 => ?_) (fun hc9 => ?_)
  · have hw := hw.1 hc9
    exact rB_wholeFile_25 X hr hlk hR hK hA t1 H locs ls (lv_sub hl [1] rfl) hO hw
  · have hw := hw.2 hc9
    refine lv_iload_n X.1 X.2.1 dX7_wholeFile_12 rfl (lv_at hl 0 rfl) ?_
    refine lv_sipush (v := 202) X.1 X.2.1 dX7_wholeFile_13 (by decide) ?_
    refine lv_icmp_eq (tgt := 25) X.1 X.2.1 dX7_wholeFile_16 rfl (fun hc9 => ?_) (fun hc9 => ?_)
    · have hw := hw.1 hc9
      exact rB_wholeFile_25 X hr hlk hR hK hA t1 H locs ls (lv_sub hl [1] rfl) hO hw
    · have hw := hw.2 hc9
      refine lv_aload_n X.1 X.2.1 dX7_wholeFile_19 rfl (lv_at hl 1 rfl) ?_
      refine lv_iconst (v := 2) X.1 X.2.1 dX7_wholeFile_20 (by decide) ?_
      refine lv_iconst (v := 0) X.1 X.2.1 dX7_wholeFile_21 (by decide) ?_
      refine r_callv (rest := []) (As := [.int (2 : Int32), .int (0 : Int32)]) X (rC_fail l dC dI h a cI cZ t1 H.size (2 : Int32) (0 : Int32) _ hw) (cwV 2 X.2.2.2.2 gX7_fail rfl rfl rfl hdX7_fail ⟨Nat.le_trans (by decide) hR.1, Nat.le_trans (by decide) hR.2⟩) hK hA hO rfl hl.1 rfl (Nat.le_of_ble_eq_true rfl) dX7_wholeFile_22 (fun t22 H locs hO hw => ?_)
      exact rB_wholeFile_25 X hr hlk hR hK hA t22 H locs ls (lv_sub hl [1] rfl) hO hw
def R_wholeFile_w (Q : rS → Prop) (σ : rS) : Prop := R_wholeFile_b0 Q σ
abbrev rmX7_wholeFile : Room := { frames := 5, cells := 0, slots := 0, locals := 117 }
set_option maxHeartbeats 4000000 in
set_option maxRecDepth 100000 in
theorem rC_wholeFile (l : Launch) (dC : Nat → ClassId) (dI : Nat → Nat → Nat) (h : Nat) (a : Nat → Nat) (cI cZ : ClassId) (σ : rS) (sz : Nat) (Q : rS → Prop) (hw : R_wholeFile_w Q σ) : Met l yX7_wholeFile wsX7_wholeFile rmX7_wholeFile (rPc dC dI h a cI cZ sz σ [.ref h]) (va_Qv Q (rAt dC dI (va_A (rCells h a cI cZ σ) sz) h a cI cZ) (va_A (rCells h a cI cZ σ) sz)) 0 0 (va_A (rCells h a cI cZ σ) sz) := by
  refine Met.ofW (cc := cX7_wholeFile) (maxL := 6) (ret := none) (by decide) rfl ?_
  intro p e s m args below meth c s₁ B hml hv
  obtain ⟨hargs, hsz, hP, hK, hD0⟩ := hv
  have hts := atoms_spec (ws := wsX7_wholeFile) B.pre
  have hown : s.vm.findClass RX7 = some m.cls := findClass_of_methodNamed B.named
  subst hsz
  subst hargs
  have hD := hD0.self (sz := s.heap.size)
  generalize hAe : va_A (rCells h a cI cZ σ) s.heap.size = A at hD ⊢
  have hA : ∀ q : Nat, s.heap.size ≤ q → A q := fun q h => by rw [← hAe]; exact Or.inr h
  have hl := lv_entry ([.ref h]) (n := 6) (Nat.le_of_ble_eq_true rfl)
  rw [lg_entry_eq]
  generalize (lg_sl ([.ref h]) ++ List.replicate (6 - (lg_sl ([.ref h])).length) Slot.unset).toArray = ls at hl ⊢
  have hl : lv_has ls 6 [(0, .ref h)] := hl
  unfold R_wholeFile_w at hw
  exact rB_wholeFile_0 ⟨B.exec, B.bytes, hml, hown, hts⟩ B.returns B.notSynchronized ⟨Nat.le_of_ble_eq_true rfl, Nat.le_of_ble_eq_true rfl⟩ hK hA σ s.heap [] ls (lv_sub hl [0] rfl) ⟨hP, hD, va_S.rf⟩ hw
def R_number_b2_s (Q : Int32 → rS → Prop) (K2 : Int32 → Int32 → rS → Prop) (x1 : Int32) (x2 : Int32) (σ : rS) : Prop :=
 ((σ.1 5) ≤ x2 → vp_in (σ.1 5) 192 ∧ ∀ t41 : rS, t41 = rA σ 4 (σ.1 5) x1 → ∀ t49 : rS, t49 = rI t41 5 ((t41.1 5) + (1 : Int32)) → Q ((t49.1 5) - (1 : Int32)) t49) ∧ (¬ (σ.1 5) ≤ x2 → vp_in x2 192 ∧ R_sameText_w (fun r18 t18 => (r18 = 0 → ∀ v26 : Int32, v26 = x2 + (1 : Int32) → K2 x1 v26 t18) ∧ (¬ r18 = 0 → Q x2 t18)) (σ.2 4 x2.toNatClampNeg) x1 σ)
def R_number_b2_f (Q : Int32 → rS → Prop) : (Int32 × Int32 × rS → Prop) → Int32 × Int32 × rS → Prop :=
 fun K z => R_number_b2_s Q (fun x1 x2 σ => K (x1, x2, σ)) z.1 z.2.1 z.2.2
def R_number_b2 (Q : Int32 → rS → Prop) (x1 : Int32) (x2 : Int32) (σ : rS) : Prop := ∃ n, fx (R_number_b2_f Q ) n (x1, x2, σ)
set_option maxHeartbeats 4000000 in
set_option maxRecDepth 100000 in
theorem rB_number_2 {Q : Int32 → rS → Prop} (X : CallFix p m c cX7_number 3 s args wsX7_number RX7) (hr : meth.sig.returnType = (some .int)) (hlk : meth.locks = false) (hR : 1 ≤ R.frames ∧ 24 ≤ R.locals) (hK : va_K (dC, dI) vwCl [(cI, .int), (cZ, .boolean)] s) (hA : ∀ q, s.heap.size ≤ q → A q) : ∀ (n : Nat) (x1 : Int32) (x2 : Int32) (σ : rS) (H : Heap) (locs : List Loc) (ls : Array Slot), lv_has ls 3 [(0, .ref h), (1, .int x1), (2, .int x2)] → rO dC dI h a cI cZ A s.heap σ H locs → fx (R_number_b2_f Q ) n (x1, x2, σ) → W p l e R s m args below meth c H locs 0 0 (MQ below (va_Qi Q (rAt dC dI A h a cI cZ) A) args s 0 0 A) (F0 m 2 ls []) := by
  intro n
  induction n with
  | zero => intro x1 x2 σ H locs ls hl hO hw; exact False.elim hw
  | succ n k2 =>
    intro x1 x2 σ H locs ls hl hO hw
    have hw : R_number_b2_s Q (fun x1 x2 σ => fx (R_number_b2_f Q ) n (x1, x2, σ)) x1 x2 σ := hw
    unfold R_number_b2_s at hw
    refine lv_iload_n X.1 X.2.1 dX7_number_2 rfl (lv_at hl 2 rfl) ?_
    refine lv_aload_n X.1 X.2.1 dX7_number_3 rfl (lv_at hl 0 rfl) ?_
    refine rf_texts X hK hO dX7_number_4 ?_
    refine lv_icmp_ge (tgt := 32) X.1 X.2.1 dX7_number_7 rfl (fun hc9 => ?_) (fun hc9 => ?_)
    · have hw := hw.1 hc9
      refine lv_aload_n X.1 X.2.1 dX7_number_32 rfl (lv_at hl 0 rfl) ?_
      refine rf_textAt X hK hO dX7_number_33 ?_
      refine lv_aload_n X.1 X.2.1 dX7_number_36 rfl (lv_at hl 0 rfl) ?_
      refine rf_texts X hK hO dX7_number_37 ?_
      refine lv_iload_n X.1 X.2.1 dX7_number_40 rfl (lv_at hl 1 rfl) ?_
      obtain ⟨g41, hw⟩ := hw
      refine rs_textAt X.1 X.2.1 hK hO g41 dX7_number_41 (fun H locs hO => ?_)
      obtain ⟨t41, e41⟩ : ∃ z, z = rA σ 4 (σ.1 5) x1 := ⟨_, rfl⟩
      have hw := hw t41 e41
      rw [← e41] at hO
      refine lv_aload_n X.1 X.2.1 dX7_number_42 rfl (lv_at hl 0 rfl) ?_
      refine lv_dup X.1 X.2.1 dX7_number_43 rfl ?_
      refine rf_texts X hK hO dX7_number_44 ?_
      refine lv_iconst (v := 1) X.1 X.2.1 dX7_number_47 (by decide) ?_
      refine lv_iadd X.1 X.2.1 dX7_number_48 ?_
      refine rp_texts X hK hO dX7_number_49 (fun H locs hO => ?_)
      obtain ⟨t49, e49⟩ : ∃ z, z = rI t41 5 ((t41.1 5) + (1 : Int32)) := ⟨_, rfl⟩
      have hw := hw t49 e49
      rw [← e49] at hO
      refine lv_aload_n X.1 X.2.1 dX7_number_52 rfl (lv_at hl 0 rfl) ?_
      refine rf_texts X hK hO dX7_number_53 ?_
      refine lv_iconst (v := 1) X.1 X.2.1 dX7_number_56 (by decide) ?_
      refine lv_isub X.1 X.2.1 dX7_number_57 ?_
      exact W.iret (v := ((t49.1 5) - (1 : Int32))) X.1 X.2.1 hr (fun t ht hW => ⟨⟨((t49.1 5) - (1 : Int32)), t49, rfl, hw, rO_end hO hK ht hW⟩, hO.2.2.F ht⟩) hO.2.2.2.2 dX7_number_58 hlk
    · have hw := hw.2 hc9
      refine lv_aload_n X.1 X.2.1 dX7_number_10 rfl (lv_at hl 0 rfl) ?_
      refine lv_aload_n X.1 X.2.1 dX7_number_11 rfl (lv_at hl 0 rfl) ?_
      refine rf_textAt X hK hO dX7_number_12 ?_
      refine lv_iload_n X.1 X.2.1 dX7_number_15 rfl (lv_at hl 2 rfl) ?_
      obtain ⟨g16, hw⟩ := hw
      refine ra_textAt X.1 X.2.1 hK hO g16 dX7_number_16 ?_
      refine lv_iload_n X.1 X.2.1 dX7_number_17 rfl (lv_at hl 1 rfl) ?_
      refine r_calli (rest := []) (As := [.int (σ.2 4 x2.toNatClampNeg), .int x1]) X (rC_sameText l dC dI h a cI cZ σ H.size (σ.2 4 x2.toNatClampNeg) x1 _ hw) (cwV 2 X.2.2.2.2 gX7_sameText rfl rfl rfl hdX7_sameText ⟨Nat.le_trans (by decide) hR.1, Nat.le_trans (by decide) hR.2⟩) hK hA hO rfl hl.1 rfl (Nat.le_of_ble_eq_true rfl) dX7_number_18 (fun r18 t18 H locs hO hw => ?_)
      refine lv_if_eq (tgt := 26) X.1 X.2.1 dX7_number_21 rfl (fun hc9 => ?_) (fun hc9 => ?_)
      · have hw := hw.1 hc9
        obtain ⟨v26, e26⟩ : ∃ z, z = x2 + (1 : Int32) := ⟨_, rfl⟩
        have hw := hw v26 e26
        refine lv_iinc (lv' := [(2, .int v26), (0, .ref h), (1, .int x1)]) (k := 2) (v := v26) X.1 X.2.1 dX7_number_26 hl rfl (by rw [e26]; rfl) (by decide) rfl (fun ls hl => ?_)
        refine lv_goto (tgt := 2) X.1 X.2.1 dX7_number_29 rfl ?_
        exact k2 x1 v26 t18 H locs ls (lv_sub hl [1, 2, 0] rfl) hO hw
      · have hw := hw.2 hc9
        refine lv_iload_n X.1 X.2.1 dX7_number_24 rfl (lv_at hl 2 rfl) ?_
        exact W.iret (v := x2) X.1 X.2.1 hr (fun t ht hW => ⟨⟨x2, t18, rfl, hw, rO_end hO hK ht hW⟩, hO.2.2.F ht⟩) hO.2.2.2.2 dX7_number_25 hlk
def R_number_b0 (Q : Int32 → rS → Prop) (x1 : Int32) (σ : rS) : Prop :=
 R_number_b2 Q x1 (0 : Int32) σ
set_option maxHeartbeats 4000000 in
set_option maxRecDepth 100000 in
theorem rB_number_0 {Q : Int32 → rS → Prop} (X : CallFix p m c cX7_number 3 s args wsX7_number RX7) (hr : meth.sig.returnType = (some .int)) (hlk : meth.locks = false) (hR : 1 ≤ R.frames ∧ 24 ≤ R.locals) (hK : va_K (dC, dI) vwCl [(cI, .int), (cZ, .boolean)] s) (hA : ∀ q, s.heap.size ≤ q → A q) (x1 : Int32) (σ : rS) (H : Heap) (locs : List Loc) (ls : Array Slot) (hl : lv_has ls 3 [(0, .ref h), (1, .int x1)]) (hO : rO dC dI h a cI cZ A s.heap σ H locs) (hw : R_number_b0 Q x1 σ) : W p l e R s m args below meth c H locs 0 0 (MQ below (va_Qi Q (rAt dC dI A h a cI cZ) A) args s 0 0 A) (F0 m 0 ls []) := by
  unfold R_number_b0 at hw
  refine lv_iconst (v := 0) X.1 X.2.1 dX7_number_0 (by decide) ?_
  refine lv_istore_n (lv' := [(2, .int (0 : Int32)), (0, .ref h), (1, .int x1)]) X.1 X.2.1 dX7_number_1 rfl hl (by decide) rfl (fun ls hl => ?_)
  obtain ⟨n, hw⟩ := hw
  exact rB_number_2 X hr hlk hR hK hA n x1 (0 : Int32) σ H locs ls (lv_sub hl [1, 2, 0] rfl) hO hw
def R_number_w (Q : Int32 → rS → Prop) (x1 : Int32) (σ : rS) : Prop := R_number_b0 Q x1 σ
abbrev rmX7_number : Room := { frames := 1, cells := 0, slots := 0, locals := 24 }
set_option maxHeartbeats 4000000 in
set_option maxRecDepth 100000 in
theorem rC_number (l : Launch) (dC : Nat → ClassId) (dI : Nat → Nat → Nat) (h : Nat) (a : Nat → Nat) (cI cZ : ClassId) (σ : rS) (sz : Nat) (x1 : Int32) (Q : Int32 → rS → Prop) (hw : R_number_w Q x1 σ) : Met l yX7_number wsX7_number rmX7_number (rPc dC dI h a cI cZ sz σ [.ref h, .int x1]) (va_Qi Q (rAt dC dI (va_A (rCells h a cI cZ σ) sz) h a cI cZ) (va_A (rCells h a cI cZ σ) sz)) 0 0 (va_A (rCells h a cI cZ σ) sz) := by
  refine Met.ofW (cc := cX7_number) (maxL := 3) (ret := (some .int)) (by decide) rfl ?_
  intro p e s m args below meth c s₁ B hml hv
  obtain ⟨hargs, hsz, hP, hK, hD0⟩ := hv
  have hts := atoms_spec (ws := wsX7_number) B.pre
  have hown : s.vm.findClass RX7 = some m.cls := findClass_of_methodNamed B.named
  subst hsz
  subst hargs
  have hD := hD0.self (sz := s.heap.size)
  generalize hAe : va_A (rCells h a cI cZ σ) s.heap.size = A at hD ⊢
  have hA : ∀ q : Nat, s.heap.size ≤ q → A q := fun q h => by rw [← hAe]; exact Or.inr h
  have hl := lv_entry ([.ref h, .int x1]) (n := 3) (Nat.le_of_ble_eq_true rfl)
  rw [lg_entry_eq]
  generalize (lg_sl ([.ref h, .int x1]) ++ List.replicate (3 - (lg_sl ([.ref h, .int x1])).length) Slot.unset).toArray = ls at hl ⊢
  have hl : lv_has ls 3 [(0, .ref h), (1, .int x1)] := hl
  unfold R_number_w at hw
  exact rB_number_0 ⟨B.exec, B.bytes, hml, hown, hts⟩ B.returns B.notSynchronized ⟨Nat.le_of_ble_eq_true rfl, Nat.le_of_ble_eq_true rfl⟩ hK hA x1 σ s.heap [] ls (lv_sub hl [0, 1] rfl) ⟨hP, hD, va_S.rf⟩ hw
end
end
section
section
variable {p : Program} {l : Launch} {e : Env} {R : Room} {s : State} {m : MethodId} {args : Array Value} {below : List Frame} {meth : Method} {c : Code}
variable {dC : Nat → ClassId} {dI : Nat → Nat → Nat} {h : Nat} {a : Nat → Nat} {cI cZ : ClassId} {A : Nat → Prop}
def R_read_b390_s (Q : Int32 → rS → Prop) (K390 : Int32 → rS → Prop) (x1 : Int32) (σ : rS) : Prop :=
 vp_in (σ.1 18) 16 ∧ ((σ.2 13 (σ.1 18).toNatClampNeg) ≤ x1 → ∀ t455 : rS, t455 = rI σ 3 ((σ.1 3) + (1 : Int32)) → Q (t455.1 18) t455) ∧ (¬ (σ.2 13 (σ.1 18).toNatClampNeg) ≤ x1 → vp_in (((4 : Int32) * (σ.1 18)) + x1) 64 ∧ vp_in (((13 : Int32) * (σ.1 18)) + (σ.2 14 (((4 : Int32) * (σ.1 18)) + x1).toNatClampNeg)) 208 ∧ vp_in (((4 : Int32) * (σ.1 18)) + x1) 64 ∧ ∀ t441 : rS, t441 = rA σ 14 (((4 : Int32) * (σ.1 18)) + x1) (σ.2 8 (((13 : Int32) * (σ.1 18)) + (σ.2 14 (((4 : Int32) * (σ.1 18)) + x1).toNatClampNeg)).toNatClampNeg) → ∀ v442 : Int32, v442 = x1 + (1 : Int32) → K390 v442 t441)
def R_read_b390_f (Q : Int32 → rS → Prop) : (Int32 × rS → Prop) → Int32 × rS → Prop :=
 fun K z => R_read_b390_s Q (fun x1 σ => K (x1, σ)) z.1 z.2
def R_read_b390 (Q : Int32 → rS → Prop) (x1 : Int32) (σ : rS) : Prop := ∃ n, fx (R_read_b390_f Q ) n (x1, σ)
set_option maxHeartbeats 4000000 in
set_option maxRecDepth 100000 in
theorem rB_read_390 {Q : Int32 → rS → Prop} (X : CallFix p m c cX7_read 2 s args wsX7_read RX7) (hr : meth.sig.returnType = (some .int)) (hlk : meth.locks = false) (hR : 6 ≤ R.frames ∧ 142 ≤ R.locals) (hK : va_K (dC, dI) vwCl [(cI, .int), (cZ, .boolean)] s) (hA : ∀ q, s.heap.size ≤ q → A q) : ∀ (n : Nat) (x1 : Int32) (σ : rS) (H : Heap) (locs : List Loc) (ls : Array Slot), lv_has ls 2 [(0, .ref h), (1, .int x1)] → rO dC dI h a cI cZ A s.heap σ H locs → fx (R_read_b390_f Q ) n (x1, σ) → W p l e R s m args below meth c H locs 0 0 (MQ below (va_Qi Q (rAt dC dI A h a cI cZ) A) args s 0 0 A) (F0 m 390 ls []) := by
  intro n
  induction n with
  | zero => intro x1 σ H locs ls hl hO hw; exact False.elim hw
  | succ n k390 =>
    intro x1 σ H locs ls hl hO hw
    have hw : R_read_b390_s Q (fun x1 σ => fx (R_read_b390_f Q ) n (x1, σ)) x1 σ := hw
    unfold R_read_b390_s at hw
    refine lv_iload_n X.1 X.2.1 dX7_read_390 rfl (lv_at hl 1 rfl) ?_
    refine lv_aload_n X.1 X.2.1 dX7_read_391 rfl (lv_at hl 0 rfl) ?_
    refine rf_faceCount X hK hO dX7_read_392 ?_
    refine lv_aload_n X.1 X.2.1 dX7_read_395 rfl (lv_at hl 0 rfl) ?_
    refine rf_now X hK hO dX7_read_396 ?_
    obtain ⟨g399, hw⟩ := hw
    refine ra_faceCount X.1 X.2.1 hK hO g399 dX7_read_399 ?_
    refine lv_icmp_ge (tgt := 448) X.1 X.2.1 dX7_read_400 rfl (fun hc9 => ?_) (fun hc9 => ?_)
    · have hw := hw.1 hc9
      refine lv_aload_n X.1 X.2.1 dX7_read_448 rfl (lv_at hl 0 rfl) ?_
      refine lv_dup X.1 X.2.1 dX7_read_449 rfl ?_
      refine rf_classes X hK hO dX7_read_450 ?_
      refine lv_iconst (v := 1) X.1 X.2.1 dX7_read_453 (by decide) ?_
      refine lv_iadd X.1 X.2.1 dX7_read_454 ?_
      refine rp_classes X hK hO dX7_read_455 (fun H locs hO => ?_)
      obtain ⟨t455, e455⟩ : ∃ z, z = rI σ 3 ((σ.1 3) + (1 : Int32)) := ⟨_, rfl⟩
      have hw := hw t455 e455
      rw [← e455] at hO
      refine lv_aload_n X.1 X.2.1 dX7_read_458 rfl (lv_at hl 0 rfl) ?_
      refine rf_now X hK hO dX7_read_459 ?_
      exact W.iret (v := (t455.1 18)) X.1 X.2.1 hr (fun t ht hW => ⟨⟨(t455.1 18), t455, rfl, hw, rO_end hO hK ht hW⟩, hO.2.2.F ht⟩) hO.2.2.2.2 dX7_read_462 hlk
    · have hw := hw.2 hc9
      refine lv_aload_n X.1 X.2.1 dX7_read_403 rfl (lv_at hl 0 rfl) ?_
      refine rf_face X hK hO dX7_read_404 ?_
      refine lv_iconst (v := 4) X.1 X.2.1 dX7_read_407 (by decide) ?_
      refine lv_aload_n X.1 X.2.1 dX7_read_408 rfl (lv_at hl 0 rfl) ?_
      refine rf_now X hK hO dX7_read_409 ?_
      refine lv_imul X.1 X.2.1 dX7_read_412 ?_
      refine lv_iload_n X.1 X.2.1 dX7_read_413 rfl (lv_at hl 1 rfl) ?_
      refine lv_iadd X.1 X.2.1 dX7_read_414 ?_
      refine lv_aload_n X.1 X.2.1 dX7_read_415 rfl (lv_at hl 0 rfl) ?_
      refine rf_text X hK hO dX7_read_416 ?_
      refine lv_bipush (v := 13) X.1 X.2.1 dX7_read_419 (by decide) ?_
      refine lv_aload_n X.1 X.2.1 dX7_read_421 rfl (lv_at hl 0 rfl) ?_
      refine rf_now X hK hO dX7_read_422 ?_
      refine lv_imul X.1 X.2.1 dX7_read_425 ?_
      refine lv_aload_n X.1 X.2.1 dX7_read_426 rfl (lv_at hl 0 rfl) ?_
      refine rf_face X hK hO dX7_read_427 ?_
      refine lv_iconst (v := 4) X.1 X.2.1 dX7_read_430 (by decide) ?_
      refine lv_aload_n X.1 X.2.1 dX7_read_431 rfl (lv_at hl 0 rfl) ?_
      refine rf_now X hK hO dX7_read_432 ?_
      refine lv_imul X.1 X.2.1 dX7_read_435 ?_
      refine lv_iload_n X.1 X.2.1 dX7_read_436 rfl (lv_at hl 1 rfl) ?_
      refine lv_iadd X.1 X.2.1 dX7_read_437 ?_
      obtain ⟨g438, hw⟩ := hw
      refine ra_face X.1 X.2.1 hK hO g438 dX7_read_438 ?_
      refine lv_iadd X.1 X.2.1 dX7_read_439 ?_
      obtain ⟨g440, hw⟩ := hw
      refine ra_text X.1 X.2.1 hK hO g440 dX7_read_440 ?_
      obtain ⟨g441, hw⟩ := hw
      refine rs_face X.1 X.2.1 hK hO g441 dX7_read_441 (fun H locs hO => ?_)
      obtain ⟨t441, e441⟩ : ∃ z, z = rA σ 14 (((4 : Int32) * (σ.1 18)) + x1) (σ.2 8 (((13 : Int32) * (σ.1 18)) + (σ.2 14 (((4 : Int32) * (σ.1 18)) + x1).toNatClampNeg)).toNatClampNeg) := ⟨_, rfl⟩
      have hw := hw t441 e441
      rw [← e441] at hO
      obtain ⟨v442, e442⟩ : ∃ z, z = x1 + (1 : Int32) := ⟨_, rfl⟩
      have hw := hw v442 e442
      refine lv_iinc (lv' := [(1, .int v442), (0, .ref h)]) (k := 1) (v := v442) X.1 X.2.1 dX7_read_442 hl rfl (by rw [e442]; rfl) (by decide) rfl (fun ls hl => ?_)
      refine lv_goto (tgt := 390) X.1 X.2.1 dX7_read_445 rfl ?_
      exact k390 v442 t441 H locs ls (lv_sub hl [1, 0] rfl) hO hw
def R_read_b387 (Q : Int32 → rS → Prop) (y0 : Int32) (y1 : Int32) (σ : rS) : Prop :=
 vp_in y1 16 ∧ ∀ t387 : rS, t387 = rA σ 12 y1 y0 → R_read_b390 Q (0 : Int32) t387
set_option maxHeartbeats 4000000 in
set_option maxRecDepth 100000 in
theorem rB_read_387 {Q : Int32 → rS → Prop} (X : CallFix p m c cX7_read 2 s args wsX7_read RX7) (hr : meth.sig.returnType = (some .int)) (hlk : meth.locks = false) (hR : 6 ≤ R.frames ∧ 142 ≤ R.locals) (hK : va_K (dC, dI) vwCl [(cI, .int), (cZ, .boolean)] s) (hA : ∀ q, s.heap.size ≤ q → A q) (y0 : Int32) (y1 : Int32) (σ : rS) (H : Heap) (locs : List Loc) (ls : Array Slot) (hl : lv_has ls 2 [(0, .ref h)]) (hO : rO dC dI h a cI cZ A s.heap σ H locs) (hw : R_read_b387 Q y0 y1 σ) : W p l e R s m args below meth c H locs 0 0 (MQ below (va_Qi Q (rAt dC dI A h a cI cZ) A) args s 0 0 A) (F0 m 387 ls [.int y0, .int y1, .ref (a 12)]) := by
  unfold R_read_b387 at hw
  obtain ⟨g387, hw⟩ := hw
  refine rs_box X.1 X.2.1 hK hO g387 dX7_read_387 (fun H locs hO => ?_)
  obtain ⟨t387, e387⟩ : ∃ z, z = rA σ 12 y1 y0 := ⟨_, rfl⟩
  have hw := hw t387 e387
  rw [← e387] at hO
  refine lv_iconst (v := 0) X.1 X.2.1 dX7_read_388 (by decide) ?_
  refine lv_istore_n (lv' := [(1, .int (0 : Int32)), (0, .ref h)]) X.1 X.2.1 dX7_read_389 rfl hl (by decide) rfl (fun ls hl => ?_)
  obtain ⟨n, hw⟩ := hw
  exact rB_read_390 X hr hlk hR hK hA n (0 : Int32) t387 H locs ls (lv_sub hl [1, 0] rfl) hO hw
def R_read_b340 (Q : Int32 → rS → Prop) (y0 : Int32) (y1 : Int32) (σ : rS) : Prop :=
 vp_in y1 16 ∧ ∀ t340 : rS, t340 = rA σ 11 y1 y0 → vp_in (t340.1 18) 16 ∧ (¬ (t340.2 12 (t340.1 18).toNatClampNeg) = 0 → vp_in (t340.1 18) 16 ∧ vp_in (((13 : Int32) * (t340.1 18)) + (t340.2 12 (t340.1 18).toNatClampNeg)) 208 ∧ R_read_b387 Q (t340.2 8 (((13 : Int32) * (t340.1 18)) + (t340.2 12 (t340.1 18).toNatClampNeg)).toNatClampNeg) (t340.1 18) t340) ∧ ((t340.2 12 (t340.1 18).toNatClampNeg) = 0 → R_read_b387 Q (-1 : Int32) (t340.1 18) t340)
set_option maxHeartbeats 4000000 in
set_option maxRecDepth 100000 in
theorem rB_read_340 {Q : Int32 → rS → Prop} (X : CallFix p m c cX7_read 2 s args wsX7_read RX7) (hr : meth.sig.returnType = (some .int)) (hlk : meth.locks = false) (hR : 6 ≤ R.frames ∧ 142 ≤ R.locals) (hK : va_K (dC, dI) vwCl [(cI, .int), (cZ, .boolean)] s) (hA : ∀ q, s.heap.size ≤ q → A q) (y0 : Int32) (y1 : Int32) (σ : rS) (H : Heap) (locs : List Loc) (ls : Array Slot) (hl : lv_has ls 2 [(0, .ref h)]) (hO : rO dC dI h a cI cZ A s.heap σ H locs) (hw : R_read_b340 Q y0 y1 σ) : W p l e R s m args below meth c H locs 0 0 (MQ below (va_Qi Q (rAt dC dI A h a cI cZ) A) args s 0 0 A) (F0 m 340 ls [.int y0, .int y1, .ref (a 11)]) := by
  unfold R_read_b340 at hw
  obtain ⟨g340, hw⟩ := hw
  refine rs_above X.1 X.2.1 hK hO g340 dX7_read_340 (fun H locs hO => ?_)
  obtain ⟨t340, e340⟩ : ∃ z, z = rA σ 11 y1 y0 := ⟨_, rfl⟩
  have hw := hw t340 e340
  rw [← e340] at hO
  refine lv_aload_n X.1 X.2.1 dX7_read_341 rfl (lv_at hl 0 rfl) ?_
  refine rf_box X hK hO dX7_read_342 ?_
  refine lv_aload_n X.1 X.2.1 dX7_read_345 rfl (lv_at hl 0 rfl) ?_
  refine rf_now X hK hO dX7_read_346 ?_
  refine lv_aload_n X.1 X.2.1 dX7_read_349 rfl (lv_at hl 0 rfl) ?_
  refine rf_box X hK hO dX7_read_350 ?_
  refine lv_aload_n X.1 X.2.1 dX7_read_353 rfl (lv_at hl 0 rfl) ?_
  refine rf_now X hK hO dX7_read_354 ?_
  obtain ⟨g357, hw⟩ := hw
  refine ra_box X.1 X.2.1 hK hO g357 dX7_read_357 ?_
  refine lv_if_ne (tgt := 365) X.1 X.2.1 dX7_read_358 rfl (fun hc9 => ?_) (fun hc9 => ?_)
  · have hw := hw.1 hc9
    refine lv_aload_n X.1 X.2.1 dX7_read_365 rfl (lv_at hl 0 rfl) ?_
    refine rf_text X hK hO dX7_read_366 ?_
    refine lv_bipush (v := 13) X.1 X.2.1 dX7_read_369 (by decide) ?_
    refine lv_aload_n X.1 X.2.1 dX7_read_371 rfl (lv_at hl 0 rfl) ?_
    refine rf_now X hK hO dX7_read_372 ?_
    refine lv_imul X.1 X.2.1 dX7_read_375 ?_
    refine lv_aload_n X.1 X.2.1 dX7_read_376 rfl (lv_at hl 0 rfl) ?_
    refine rf_box X hK hO dX7_read_377 ?_
    refine lv_aload_n X.1 X.2.1 dX7_read_380 rfl (lv_at hl 0 rfl) ?_
    refine rf_now X hK hO dX7_read_381 ?_
    obtain ⟨g384, hw⟩ := hw
    refine ra_box X.1 X.2.1 hK hO g384 dX7_read_384 ?_
    refine lv_iadd X.1 X.2.1 dX7_read_385 ?_
    obtain ⟨g386, hw⟩ := hw
    refine ra_text X.1 X.2.1 hK hO g386 dX7_read_386 ?_
    exact rB_read_387 X hr hlk hR hK hA (t340.2 8 (((13 : Int32) * (t340.1 18)) + (t340.2 12 (t340.1 18).toNatClampNeg)).toNatClampNeg) (t340.1 18) t340 H locs ls (lv_sub hl [0] rfl) hO hw
  · have hw := hw.2 hc9
    refine lv_iconst (v := -1) X.1 X.2.1 dX7_read_361 (by decide) ?_
    refine lv_goto (tgt := 387) X.1 X.2.1 dX7_read_362 rfl ?_
    exact rB_read_387 X hr hlk hR hK hA (-1 : Int32) (t340.1 18) t340 H locs ls (lv_sub hl [0] rfl) hO hw
def R_read_b257 (Q : Int32 → rS → Prop) (K182 : Int32 → rS → Prop) (x1 : Int32) (σ : rS) : Prop :=
 ∀ v257 : Int32, v257 = x1 + (1 : Int32) → K182 v257 σ
set_option maxHeartbeats 4000000 in
set_option maxRecDepth 100000 in
theorem rB_read_257 {Q : Int32 → rS → Prop} {K182 : Int32 → rS → Prop} (X : CallFix p m c cX7_read 2 s args wsX7_read RX7) (hr : meth.sig.returnType = (some .int)) (hlk : meth.locks = false) (hR : 6 ≤ R.frames ∧ 142 ≤ R.locals) (hK : va_K (dC, dI) vwCl [(cI, .int), (cZ, .boolean)] s) (hA : ∀ q, s.heap.size ≤ q → A q) (k182 : ∀ (x1 : Int32) (σ : rS) (H : Heap) (locs : List Loc) (ls : Array Slot), lv_has ls 2 [(0, .ref h), (1, .int x1)] → rO dC dI h a cI cZ A s.heap σ H locs → K182 x1 σ → W p l e R s m args below meth c H locs 0 0 (MQ below (va_Qi Q (rAt dC dI A h a cI cZ) A) args s 0 0 A) (F0 m 182 ls [])) (x1 : Int32) (σ : rS) (H : Heap) (locs : List Loc) (ls : Array Slot) (hl : lv_has ls 2 [(0, .ref h), (1, .int x1)]) (hO : rO dC dI h a cI cZ A s.heap σ H locs) (hw : R_read_b257 Q K182 x1 σ) : W p l e R s m args below meth c H locs 0 0 (MQ below (va_Qi Q (rAt dC dI A h a cI cZ) A) args s 0 0 A) (F0 m 257 ls []) := by
  unfold R_read_b257 at hw
  obtain ⟨v257, e257⟩ : ∃ z, z = x1 + (1 : Int32) := ⟨_, rfl⟩
  have hw := hw v257 e257
  refine lv_iinc (lv' := [(1, .int v257), (0, .ref h)]) (k := 1) (v := v257) X.1 X.2.1 dX7_read_257 hl rfl (by rw [e257]; rfl) (by decide) rfl (fun ls hl => ?_)
  refine lv_goto (tgt := 182) X.1 X.2.1 dX7_read_260 rfl ?_
  exact k182 v257 σ H locs ls (lv_sub hl [1, 0] rfl) hO hw
def R_read_b182_s (Q : Int32 → rS → Prop) (K182 : Int32 → rS → Prop) (x1 : Int32) (σ : rS) : Prop :=
 ((σ.1 22) < x1 → vp_in (σ.1 18) 16 ∧ vp_in (((13 : Int32) * (σ.1 18)) + (σ.2 10 (σ.1 18).toNatClampNeg)) 208 ∧ vp_in (σ.1 18) 16 ∧ ∀ t293 : rS, t293 = rA σ 10 (σ.1 18) (σ.2 8 (((13 : Int32) * (σ.1 18)) + (σ.2 10 (σ.1 18).toNatClampNeg)).toNatClampNeg) → vp_in (t293.1 18) 16 ∧ (¬ (t293.2 11 (t293.1 18).toNatClampNeg) = 0 → vp_in (t293.1 18) 16 ∧ vp_in (((13 : Int32) * (t293.1 18)) + (t293.2 11 (t293.1 18).toNatClampNeg)) 208 ∧ R_read_b340 Q (t293.2 8 (((13 : Int32) * (t293.1 18)) + (t293.2 11 (t293.1 18).toNatClampNeg)).toNatClampNeg) (t293.1 18) t293) ∧ ((t293.2 11 (t293.1 18).toNatClampNeg) = 0 → R_read_b340 Q (-1 : Int32) (t293.1 18) t293)) ∧ (¬ (σ.1 22) < x1 → vp_in (((13 : Int32) * (σ.1 18)) + x1) 208 ∧ (¬ (σ.2 6 (((13 : Int32) * (σ.1 18)) + x1).toNatClampNeg) = (7 : Int32) → R_read_b257 Q K182 x1 σ) ∧ ((σ.2 6 (((13 : Int32) * (σ.1 18)) + x1).toNatClampNeg) = (7 : Int32) → vp_in (((13 : Int32) * (σ.1 18)) + x1) 208 ∧ vp_in ((σ.2 7 (((13 : Int32) * (σ.1 18)) + x1).toNatClampNeg) + (1 : Int32)) 1920 ∧ vp_in (((13 : Int32) * (σ.1 18)) + (σ.2 2 ((σ.2 7 (((13 : Int32) * (σ.1 18)) + x1).toNatClampNeg) + (1 : Int32)).toNatClampNeg)) 208 ∧ vp_in (((13 : Int32) * (σ.1 18)) + x1) 208 ∧ ∀ t256 : rS, t256 = rA σ 8 (((13 : Int32) * (σ.1 18)) + x1) (σ.2 8 (((13 : Int32) * (σ.1 18)) + (σ.2 2 ((σ.2 7 (((13 : Int32) * (σ.1 18)) + x1).toNatClampNeg) + (1 : Int32)).toNatClampNeg)).toNatClampNeg) → R_read_b257 Q K182 x1 t256))
def R_read_b182_f (Q : Int32 → rS → Prop) : (Int32 × rS → Prop) → Int32 × rS → Prop :=
 fun K z => R_read_b182_s Q (fun x1 σ => K (x1, σ)) z.1 z.2
def R_read_b182 (Q : Int32 → rS → Prop) (x1 : Int32) (σ : rS) : Prop := ∃ n, fx (R_read_b182_f Q ) n (x1, σ)
set_option maxHeartbeats 4000000 in
set_option maxRecDepth 100000 in
theorem rB_read_182 {Q : Int32 → rS → Prop} (X : CallFix p m c cX7_read 2 s args wsX7_read RX7) (hr : meth.sig.returnType = (some .int)) (hlk : meth.locks = false) (hR : 6 ≤ R.frames ∧ 142 ≤ R.locals) (hK : va_K (dC, dI) vwCl [(cI, .int), (cZ, .boolean)] s) (hA : ∀ q, s.heap.size ≤ q → A q) : ∀ (n : Nat) (x1 : Int32) (σ : rS) (H : Heap) (locs : List Loc) (ls : Array Slot), lv_has ls 2 [(0, .ref h), (1, .int x1)] → rO dC dI h a cI cZ A s.heap σ H locs → fx (R_read_b182_f Q ) n (x1, σ) → W p l e R s m args below meth c H locs 0 0 (MQ below (va_Qi Q (rAt dC dI A h a cI cZ) A) args s 0 0 A) (F0 m 182 ls []) := by
  intro n
  induction n with
  | zero => intro x1 σ H locs ls hl hO hw; exact False.elim hw
  | succ n k182 =>
    intro x1 σ H locs ls hl hO hw
    have hw : R_read_b182_s Q (fun x1 σ => fx (R_read_b182_f Q ) n (x1, σ)) x1 σ := hw
    unfold R_read_b182_s at hw
    refine lv_iload_n X.1 X.2.1 dX7_read_182 rfl (lv_at hl 1 rfl) ?_
    refine lv_aload_n X.1 X.2.1 dX7_read_183 rfl (lv_at hl 0 rfl) ?_
    refine rf_constants X hK hO dX7_read_184 ?_
    refine lv_icmp_gt (tgt := 263) X.1 X.2.1 dX7_read_187 rfl (fun hc9 => ?_) (fun hc9 => ?_)
    · have hw := hw.1 hc9
      refine lv_aload_n X.1 X.2.1 dX7_read_263 rfl (lv_at hl 0 rfl) ?_
      refine rf_self X hK hO dX7_read_264 ?_
      refine lv_aload_n X.1 X.2.1 dX7_read_267 rfl (lv_at hl 0 rfl) ?_
      refine rf_now X hK hO dX7_read_268 ?_
      refine lv_aload_n X.1 X.2.1 dX7_read_271 rfl (lv_at hl 0 rfl) ?_
      refine rf_text X hK hO dX7_read_272 ?_
      refine lv_bipush (v := 13) X.1 X.2.1 dX7_read_275 (by decide) ?_
      refine lv_aload_n X.1 X.2.1 dX7_read_277 rfl (lv_at hl 0 rfl) ?_
      refine rf_now X hK hO dX7_read_278 ?_
      refine lv_imul X.1 X.2.1 dX7_read_281 ?_
      refine lv_aload_n X.1 X.2.1 dX7_read_282 rfl (lv_at hl 0 rfl) ?_
      refine rf_self X hK hO dX7_read_283 ?_
      refine lv_aload_n X.1 X.2.1 dX7_read_286 rfl (lv_at hl 0 rfl) ?_
      refine rf_now X hK hO dX7_read_287 ?_
      obtain ⟨g290, hw⟩ := hw
      refine ra_self X.1 X.2.1 hK hO g290 dX7_read_290 ?_
      refine lv_iadd X.1 X.2.1 dX7_read_291 ?_
      obtain ⟨g292, hw⟩ := hw
      refine ra_text X.1 X.2.1 hK hO g292 dX7_read_292 ?_
      obtain ⟨g293, hw⟩ := hw
      refine rs_self X.1 X.2.1 hK hO g293 dX7_read_293 (fun H locs hO => ?_)
      obtain ⟨t293, e293⟩ : ∃ z, z = rA σ 10 (σ.1 18) (σ.2 8 (((13 : Int32) * (σ.1 18)) + (σ.2 10 (σ.1 18).toNatClampNeg)).toNatClampNeg) := ⟨_, rfl⟩
      have hw := hw t293 e293
      rw [← e293] at hO
      refine lv_aload_n X.1 X.2.1 dX7_read_294 rfl (lv_at hl 0 rfl) ?_
      refine rf_above X hK hO dX7_read_295 ?_
      refine lv_aload_n X.1 X.2.1 dX7_read_298 rfl (lv_at hl 0 rfl) ?_
      refine rf_now X hK hO dX7_read_299 ?_
      refine lv_aload_n X.1 X.2.1 dX7_read_302 rfl (lv_at hl 0 rfl) ?_
      refine rf_above X hK hO dX7_read_303 ?_
      refine lv_aload_n X.1 X.2.1 dX7_read_306 rfl (lv_at hl 0 rfl) ?_
      refine rf_now X hK hO dX7_read_307 ?_
      obtain ⟨g310, hw⟩ := hw
      refine ra_above X.1 X.2.1 hK hO g310 dX7_read_310 ?_
      refine lv_if_ne (tgt := 318) X.1 X.2.1 dX7_read_311 rfl (fun hc9 => ?_) (fun hc9 => ?_)
      · have hw := hw.1 hc9
        refine lv_aload_n X.1 X.2.1 dX7_read_318 rfl (lv_at hl 0 rfl) ?_
        refine rf_text X hK hO dX7_read_319 ?_
        refine lv_bipush (v := 13) X.1 X.2.1 dX7_read_322 (by decide) ?_
        refine lv_aload_n X.1 X.2.1 dX7_read_324 rfl (lv_at hl 0 rfl) ?_
        refine rf_now X hK hO dX7_read_325 ?_
        refine lv_imul X.1 X.2.1 dX7_read_328 ?_
        refine lv_aload_n X.1 X.2.1 dX7_read_329 rfl (lv_at hl 0 rfl) ?_
        refine rf_above X hK hO dX7_read_330 ?_
        refine lv_aload_n X.1 X.2.1 dX7_read_333 rfl (lv_at hl 0 rfl) ?_
        refine rf_now X hK hO dX7_read_334 ?_
        obtain ⟨g337, hw⟩ := hw
        refine ra_above X.1 X.2.1 hK hO g337 dX7_read_337 ?_
        refine lv_iadd X.1 X.2.1 dX7_read_338 ?_
        obtain ⟨g339, hw⟩ := hw
        refine ra_text X.1 X.2.1 hK hO g339 dX7_read_339 ?_
        exact rB_read_340 X hr hlk hR hK hA (t293.2 8 (((13 : Int32) * (t293.1 18)) + (t293.2 11 (t293.1 18).toNatClampNeg)).toNatClampNeg) (t293.1 18) t293 H locs ls (lv_sub hl [0] rfl) hO hw
      · have hw := hw.2 hc9
        refine lv_iconst (v := -1) X.1 X.2.1 dX7_read_314 (by decide) ?_
        refine lv_goto (tgt := 340) X.1 X.2.1 dX7_read_315 rfl ?_
        exact rB_read_340 X hr hlk hR hK hA (-1 : Int32) (t293.1 18) t293 H locs ls (lv_sub hl [0] rfl) hO hw
    · have hw := hw.2 hc9
      refine lv_aload_n X.1 X.2.1 dX7_read_190 rfl (lv_at hl 0 rfl) ?_
      refine rf_sort X hK hO dX7_read_191 ?_
      refine lv_bipush (v := 13) X.1 X.2.1 dX7_read_194 (by decide) ?_
      refine lv_aload_n X.1 X.2.1 dX7_read_196 rfl (lv_at hl 0 rfl) ?_
      refine rf_now X hK hO dX7_read_197 ?_
      refine lv_imul X.1 X.2.1 dX7_read_200 ?_
      refine lv_iload_n X.1 X.2.1 dX7_read_201 rfl (lv_at hl 1 rfl) ?_
      refine lv_iadd X.1 X.2.1 dX7_read_202 ?_
      obtain ⟨g203, hw⟩ := hw
      refine ra_sort X.1 X.2.1 hK hO g203 dX7_read_203 ?_
      refine lv_bipush (v := 7) X.1 X.2.1 dX7_read_204 (by decide) ?_
      refine lv_icmp_ne (tgt := 257) X.1 X.2.1 dX7_read_206 rfl (fun hc9 => ?_) (fun hc9 => ?_)
      · have hw := hw.1 hc9
        exact rB_read_257 X hr hlk hR hK hA k182 x1 σ H locs ls (lv_sub hl [0, 1] rfl) hO hw
      · have hw := hw.2 hc9
        refine lv_aload_n X.1 X.2.1 dX7_read_209 rfl (lv_at hl 0 rfl) ?_
        refine rf_text X hK hO dX7_read_210 ?_
        refine lv_bipush (v := 13) X.1 X.2.1 dX7_read_213 (by decide) ?_
        refine lv_aload_n X.1 X.2.1 dX7_read_215 rfl (lv_at hl 0 rfl) ?_
        refine rf_now X hK hO dX7_read_216 ?_
        refine lv_imul X.1 X.2.1 dX7_read_219 ?_
        refine lv_iload_n X.1 X.2.1 dX7_read_220 rfl (lv_at hl 1 rfl) ?_
        refine lv_iadd X.1 X.2.1 dX7_read_221 ?_
        refine lv_aload_n X.1 X.2.1 dX7_read_222 rfl (lv_at hl 0 rfl) ?_
        refine rf_text X hK hO dX7_read_223 ?_
        refine lv_bipush (v := 13) X.1 X.2.1 dX7_read_226 (by decide) ?_
        refine lv_aload_n X.1 X.2.1 dX7_read_228 rfl (lv_at hl 0 rfl) ?_
        refine rf_now X hK hO dX7_read_229 ?_
        refine lv_imul X.1 X.2.1 dX7_read_232 ?_
        refine lv_aload_n X.1 X.2.1 dX7_read_233 rfl (lv_at hl 0 rfl) ?_
        refine rf_bytes X hK hO dX7_read_234 ?_
        refine lv_aload_n X.1 X.2.1 dX7_read_237 rfl (lv_at hl 0 rfl) ?_
        refine rf_place X hK hO dX7_read_238 ?_
        refine lv_bipush (v := 13) X.1 X.2.1 dX7_read_241 (by decide) ?_
        refine lv_aload_n X.1 X.2.1 dX7_read_243 rfl (lv_at hl 0 rfl) ?_
        refine rf_now X hK hO dX7_read_244 ?_
        refine lv_imul X.1 X.2.1 dX7_read_247 ?_
        refine lv_iload_n X.1 X.2.1 dX7_read_248 rfl (lv_at hl 1 rfl) ?_
        refine lv_iadd X.1 X.2.1 dX7_read_249 ?_
        obtain ⟨g250, hw⟩ := hw
        refine ra_place X.1 X.2.1 hK hO g250 dX7_read_250 ?_
        refine lv_iconst (v := 1) X.1 X.2.1 dX7_read_251 (by decide) ?_
        refine lv_iadd X.1 X.2.1 dX7_read_252 ?_
        obtain ⟨g253, hw⟩ := hw
        refine ra_bytes X.1 X.2.1 hK hO g253 dX7_read_253 ?_
        refine lv_iadd X.1 X.2.1 dX7_read_254 ?_
        obtain ⟨g255, hw⟩ := hw
        refine ra_text X.1 X.2.1 hK hO g255 dX7_read_255 ?_
        obtain ⟨g256, hw⟩ := hw
        refine rs_text X.1 X.2.1 hK hO g256 dX7_read_256 (fun H locs hO => ?_)
        obtain ⟨t256, e256⟩ : ∃ z, z = rA σ 8 (((13 : Int32) * (σ.1 18)) + x1) (σ.2 8 (((13 : Int32) * (σ.1 18)) + (σ.2 2 ((σ.2 7 (((13 : Int32) * (σ.1 18)) + x1).toNatClampNeg) + (1 : Int32)).toNatClampNeg)).toNatClampNeg) := ⟨_, rfl⟩
        have hw := hw t256 e256
        rw [← e256] at hO
        exact rB_read_257 X hr hlk hR hK hA k182 x1 t256 H locs ls (lv_sub hl [0, 1] rfl) hO hw
def R_read_b174 (Q : Int32 → rS → Prop) (K114 : Int32 → rS → Prop) (x1 : Int32) (σ : rS) : Prop :=
 ∀ v174 : Int32, v174 = x1 + (1 : Int32) → K114 v174 σ
set_option maxHeartbeats 4000000 in
set_option maxRecDepth 100000 in
theorem rB_read_174 {Q : Int32 → rS → Prop} {K114 : Int32 → rS → Prop} (X : CallFix p m c cX7_read 2 s args wsX7_read RX7) (hr : meth.sig.returnType = (some .int)) (hlk : meth.locks = false) (hR : 6 ≤ R.frames ∧ 142 ≤ R.locals) (hK : va_K (dC, dI) vwCl [(cI, .int), (cZ, .boolean)] s) (hA : ∀ q, s.heap.size ≤ q → A q) (k114 : ∀ (x1 : Int32) (σ : rS) (H : Heap) (locs : List Loc) (ls : Array Slot), lv_has ls 2 [(0, .ref h), (1, .int x1)] → rO dC dI h a cI cZ A s.heap σ H locs → K114 x1 σ → W p l e R s m args below meth c H locs 0 0 (MQ below (va_Qi Q (rAt dC dI A h a cI cZ) A) args s 0 0 A) (F0 m 114 ls [])) (x1 : Int32) (σ : rS) (H : Heap) (locs : List Loc) (ls : Array Slot) (hl : lv_has ls 2 [(0, .ref h), (1, .int x1)]) (hO : rO dC dI h a cI cZ A s.heap σ H locs) (hw : R_read_b174 Q K114 x1 σ) : W p l e R s m args below meth c H locs 0 0 (MQ below (va_Qi Q (rAt dC dI A h a cI cZ) A) args s 0 0 A) (F0 m 174 ls []) := by
  unfold R_read_b174 at hw
  obtain ⟨v174, e174⟩ : ∃ z, z = x1 + (1 : Int32) := ⟨_, rfl⟩
  have hw := hw v174 e174
  refine lv_iinc (lv' := [(1, .int v174), (0, .ref h)]) (k := 1) (v := v174) X.1 X.2.1 dX7_read_174 hl rfl (by rw [e174]; rfl) (by decide) rfl (fun ls hl => ?_)
  refine lv_goto (tgt := 114) X.1 X.2.1 dX7_read_177 rfl ?_
  exact k114 v174 σ H locs ls (lv_sub hl [1, 0] rfl) hO hw
def R_read_b114_s (Q : Int32 → rS → Prop) (K114 : Int32 → rS → Prop) (x1 : Int32) (σ : rS) : Prop :=
 ((σ.1 22) < x1 → R_read_b182 Q (1 : Int32) σ) ∧ (¬ (σ.1 22) < x1 → vp_in (((13 : Int32) * (σ.1 18)) + x1) 208 ∧ (¬ (σ.2 6 (((13 : Int32) * (σ.1 18)) + x1).toNatClampNeg) = (1 : Int32) → R_read_b174 Q K114 x1 σ) ∧ ((σ.2 6 (((13 : Int32) * (σ.1 18)) + x1).toNatClampNeg) = (1 : Int32) → vp_in (((13 : Int32) * (σ.1 18)) + x1) 208 ∧ R_number_w (fun r170 t170 => vp_in (((13 : Int32) * (σ.1 18)) + x1) 208 ∧ ∀ t173 : rS, t173 = rA t170 8 (((13 : Int32) * (σ.1 18)) + x1) r170 → R_read_b174 Q K114 x1 t173) ((σ.2 7 (((13 : Int32) * (σ.1 18)) + x1).toNatClampNeg) + (1 : Int32)) σ))
def R_read_b114_f (Q : Int32 → rS → Prop) : (Int32 × rS → Prop) → Int32 × rS → Prop :=
 fun K z => R_read_b114_s Q (fun x1 σ => K (x1, σ)) z.1 z.2
def R_read_b114 (Q : Int32 → rS → Prop) (x1 : Int32) (σ : rS) : Prop := ∃ n, fx (R_read_b114_f Q ) n (x1, σ)
set_option maxHeartbeats 4000000 in
set_option maxRecDepth 100000 in
theorem rB_read_114 {Q : Int32 → rS → Prop} (X : CallFix p m c cX7_read 2 s args wsX7_read RX7) (hr : meth.sig.returnType = (some .int)) (hlk : meth.locks = false) (hR : 6 ≤ R.frames ∧ 142 ≤ R.locals) (hK : va_K (dC, dI) vwCl [(cI, .int), (cZ, .boolean)] s) (hA : ∀ q, s.heap.size ≤ q → A q) : ∀ (n : Nat) (x1 : Int32) (σ : rS) (H : Heap) (locs : List Loc) (ls : Array Slot), lv_has ls 2 [(0, .ref h), (1, .int x1)] → rO dC dI h a cI cZ A s.heap σ H locs → fx (R_read_b114_f Q ) n (x1, σ) → W p l e R s m args below meth c H locs 0 0 (MQ below (va_Qi Q (rAt dC dI A h a cI cZ) A) args s 0 0 A) (F0 m 114 ls []) := by
  intro n
  induction n with
  | zero => intro x1 σ H locs ls hl hO hw; exact False.elim hw
  | succ n k114 =>
    intro x1 σ H locs ls hl hO hw
    have hw : R_read_b114_s Q (fun x1 σ => fx (R_read_b114_f Q ) n (x1, σ)) x1 σ := hw
    unfold R_read_b114_s at hw
    refine lv_iload_n X.1 X.2.1 dX7_read_114 rfl (lv_at hl 1 rfl) ?_
    refine lv_aload_n X.1 X.2.1 dX7_read_115 rfl (lv_at hl 0 rfl) ?_
    refine rf_constants X hK hO dX7_read_116 ?_
    refine lv_icmp_gt (tgt := 180) X.1 X.2.1 dX7_read_119 rfl (fun hc9 => ?_) (fun hc9 => ?_)
    · have hw := hw.1 hc9
      refine lv_iconst (v := 1) X.1 X.2.1 dX7_read_180 (by decide) ?_
      refine lv_istore_n (lv' := [(1, .int (1 : Int32)), (0, .ref h)]) X.1 X.2.1 dX7_read_181 rfl hl (by decide) rfl (fun ls hl => ?_)
      obtain ⟨n, hw⟩ := hw
      exact rB_read_182 X hr hlk hR hK hA n (1 : Int32) σ H locs ls (lv_sub hl [1, 0] rfl) hO hw
    · have hw := hw.2 hc9
      refine lv_aload_n X.1 X.2.1 dX7_read_122 rfl (lv_at hl 0 rfl) ?_
      refine rf_sort X hK hO dX7_read_123 ?_
      refine lv_bipush (v := 13) X.1 X.2.1 dX7_read_126 (by decide) ?_
      refine lv_aload_n X.1 X.2.1 dX7_read_128 rfl (lv_at hl 0 rfl) ?_
      refine rf_now X hK hO dX7_read_129 ?_
      refine lv_imul X.1 X.2.1 dX7_read_132 ?_
      refine lv_iload_n X.1 X.2.1 dX7_read_133 rfl (lv_at hl 1 rfl) ?_
      refine lv_iadd X.1 X.2.1 dX7_read_134 ?_
      obtain ⟨g135, hw⟩ := hw
      refine ra_sort X.1 X.2.1 hK hO g135 dX7_read_135 ?_
      refine lv_iconst (v := 1) X.1 X.2.1 dX7_read_136 (by decide) ?_
      refine lv_icmp_ne (tgt := 174) X.1 X.2.1 dX7_read_137 rfl (fun hc9 => ?_) (fun hc9 => ?_)
      · have hw := hw.1 hc9
        exact rB_read_174 X hr hlk hR hK hA k114 x1 σ H locs ls (lv_sub hl [0, 1] rfl) hO hw
      · have hw := hw.2 hc9
        refine lv_aload_n X.1 X.2.1 dX7_read_140 rfl (lv_at hl 0 rfl) ?_
        refine rf_text X hK hO dX7_read_141 ?_
        refine lv_bipush (v := 13) X.1 X.2.1 dX7_read_144 (by decide) ?_
        refine lv_aload_n X.1 X.2.1 dX7_read_146 rfl (lv_at hl 0 rfl) ?_
        refine rf_now X hK hO dX7_read_147 ?_
        refine lv_imul X.1 X.2.1 dX7_read_150 ?_
        refine lv_iload_n X.1 X.2.1 dX7_read_151 rfl (lv_at hl 1 rfl) ?_
        refine lv_iadd X.1 X.2.1 dX7_read_152 ?_
        refine lv_aload_n X.1 X.2.1 dX7_read_153 rfl (lv_at hl 0 rfl) ?_
        refine lv_aload_n X.1 X.2.1 dX7_read_154 rfl (lv_at hl 0 rfl) ?_
        refine rf_place X hK hO dX7_read_155 ?_
        refine lv_bipush (v := 13) X.1 X.2.1 dX7_read_158 (by decide) ?_
        refine lv_aload_n X.1 X.2.1 dX7_read_160 rfl (lv_at hl 0 rfl) ?_
        refine rf_now X hK hO dX7_read_161 ?_
        refine lv_imul X.1 X.2.1 dX7_read_164 ?_
        refine lv_iload_n X.1 X.2.1 dX7_read_165 rfl (lv_at hl 1 rfl) ?_
        refine lv_iadd X.1 X.2.1 dX7_read_166 ?_
        obtain ⟨g167, hw⟩ := hw
        refine ra_place X.1 X.2.1 hK hO g167 dX7_read_167 ?_
        refine lv_iconst (v := 1) X.1 X.2.1 dX7_read_168 (by decide) ?_
        refine lv_iadd X.1 X.2.1 dX7_read_169 ?_
        refine r_calli (rest := [.int (((13 : Int32) * (σ.1 18)) + x1), .ref (a 8)]) (As := [.int ((σ.2 7 (((13 : Int32) * (σ.1 18)) + x1).toNatClampNeg) + (1 : Int32))]) X (rC_number l dC dI h a cI cZ σ H.size ((σ.2 7 (((13 : Int32) * (σ.1 18)) + x1).toNatClampNeg) + (1 : Int32)) _ hw) (cwV 1 X.2.2.2.2 gX7_number rfl rfl rfl hdX7_number ⟨Nat.le_trans (by decide) hR.1, Nat.le_trans (by decide) hR.2⟩) hK hA hO rfl hl.1 rfl (Nat.le_of_ble_eq_true rfl) dX7_read_170 (fun r170 t170 H locs hO hw => ?_)
        obtain ⟨g173, hw⟩ := hw
        refine rs_text X.1 X.2.1 hK hO g173 dX7_read_173 (fun H locs hO => ?_)
        obtain ⟨t173, e173⟩ : ∃ z, z = rA t170 8 (((13 : Int32) * (σ.1 18)) + x1) r170 := ⟨_, rfl⟩
        have hw := hw t173 e173
        rw [← e173] at hO
        exact rB_read_174 X hr hlk hR hK hA k114 x1 t173 H locs ls (lv_sub hl [0, 1] rfl) hO hw
def R_read_b50_s (Q : Int32 → rS → Prop) (K50 : Int32 → rS → Prop) (x1 : Int32) (σ : rS) : Prop :=
 ((σ.1 1) ≤ x1 → ∀ t83 : rS, t83 = rI σ 1 (0 : Int32) → R_wholeFile_w (fun t87 => ((t87.1 23) = 0 → R_read_b114 Q (1 : Int32) t87) ∧ (¬ (t87.1 23) = 0 → Q (-(((1000 : Int32) * (t87.1 23)) + (t87.1 24))) t87)) t83) ∧ (¬ (σ.1 1) ≤ x1 → vp_in x1 120 ∧ vp_in ((σ.1 19) + x1) 1920 ∧ ∀ t74 : rS, t74 = rA σ 2 ((σ.1 19) + x1) (σ.2 0 x1.toNatClampNeg) → ∀ v75 : Int32, v75 = x1 + (1 : Int32) → K50 v75 t74)
def R_read_b50_f (Q : Int32 → rS → Prop) : (Int32 × rS → Prop) → Int32 × rS → Prop :=
 fun K z => R_read_b50_s Q (fun x1 σ => K (x1, σ)) z.1 z.2
def R_read_b50 (Q : Int32 → rS → Prop) (x1 : Int32) (σ : rS) : Prop := ∃ n, fx (R_read_b50_f Q ) n (x1, σ)
set_option maxHeartbeats 4000000 in
set_option maxRecDepth 100000 in
theorem rB_read_50 {Q : Int32 → rS → Prop} (X : CallFix p m c cX7_read 2 s args wsX7_read RX7) (hr : meth.sig.returnType = (some .int)) (hlk : meth.locks = false) (hR : 6 ≤ R.frames ∧ 142 ≤ R.locals) (hK : va_K (dC, dI) vwCl [(cI, .int), (cZ, .boolean)] s) (hA : ∀ q, s.heap.size ≤ q → A q) : ∀ (n : Nat) (x1 : Int32) (σ : rS) (H : Heap) (locs : List Loc) (ls : Array Slot), lv_has ls 2 [(0, .ref h), (1, .int x1)] → rO dC dI h a cI cZ A s.heap σ H locs → fx (R_read_b50_f Q ) n (x1, σ) → W p l e R s m args below meth c H locs 0 0 (MQ below (va_Qi Q (rAt dC dI A h a cI cZ) A) args s 0 0 A) (F0 m 50 ls []) := by
  intro n
  induction n with
  | zero => intro x1 σ H locs ls hl hO hw; exact False.elim hw
  | succ n k50 =>
    intro x1 σ H locs ls hl hO hw
    have hw : R_read_b50_s Q (fun x1 σ => fx (R_read_b50_f Q ) n (x1, σ)) x1 σ := hw
    unfold R_read_b50_s at hw
    refine lv_iload_n X.1 X.2.1 dX7_read_50 rfl (lv_at hl 1 rfl) ?_
    refine lv_aload_n X.1 X.2.1 dX7_read_51 rfl (lv_at hl 0 rfl) ?_
    refine rf_held X hK hO dX7_read_52 ?_
    refine lv_icmp_ge (tgt := 81) X.1 X.2.1 dX7_read_55 rfl (fun hc9 => ?_) (fun hc9 => ?_)
    · have hw := hw.1 hc9
      refine lv_aload_n X.1 X.2.1 dX7_read_81 rfl (lv_at hl 0 rfl) ?_
      refine lv_iconst (v := 0) X.1 X.2.1 dX7_read_82 (by decide) ?_
      refine rp_held X hK hO dX7_read_83 (fun H locs hO => ?_)
      obtain ⟨t83, e83⟩ : ∃ z, z = rI σ 1 (0 : Int32) := ⟨_, rfl⟩
      have hw := hw t83 e83
      rw [← e83] at hO
      refine lv_aload_n X.1 X.2.1 dX7_read_86 rfl (lv_at hl 0 rfl) ?_
      refine r_callv (rest := []) (As := []) X (rC_wholeFile l dC dI h a cI cZ t83 H.size _ hw) (cwV 0 X.2.2.2.2 gX7_wholeFile rfl rfl rfl hdX7_wholeFile ⟨Nat.le_trans (by decide) hR.1, Nat.le_trans (by decide) hR.2⟩) hK hA hO rfl hl.1 rfl (Nat.le_of_ble_eq_true rfl) dX7_read_87 (fun t87 H locs hO hw => ?_)
      refine lv_aload_n X.1 X.2.1 dX7_read_90 rfl (lv_at hl 0 rfl) ?_
      refine rf_reason X hK hO dX7_read_91 ?_
      refine lv_if_eq (tgt := 112) X.1 X.2.1 dX7_read_94 rfl (fun hc9 => ?_) (fun hc9 => ?_)
      · have hw := hw.1 hc9
        refine lv_iconst (v := 1) X.1 X.2.1 dX7_read_112 (by decide) ?_
        refine lv_istore_n (lv' := [(1, .int (1 : Int32)), (0, .ref h)]) X.1 X.2.1 dX7_read_113 rfl hl (by decide) rfl (fun ls hl => ?_)
        obtain ⟨n, hw⟩ := hw
        exact rB_read_114 X hr hlk hR hK hA n (1 : Int32) t87 H locs ls (lv_sub hl [1, 0] rfl) hO hw
      · have hw := hw.2 hc9
        refine lv_sipush (v := 1000) X.1 X.2.1 dX7_read_97 (by decide) ?_
        refine lv_aload_n X.1 X.2.1 dX7_read_100 rfl (lv_at hl 0 rfl) ?_
        refine rf_reason X hK hO dX7_read_101 ?_
        refine lv_imul X.1 X.2.1 dX7_read_104 ?_
        refine lv_aload_n X.1 X.2.1 dX7_read_105 rfl (lv_at hl 0 rfl) ?_
        refine rf_spot X hK hO dX7_read_106 ?_
        refine lv_iadd X.1 X.2.1 dX7_read_109 ?_
        refine lv_ineg X.1 X.2.1 dX7_read_110 ?_
        exact W.iret (v := (-(((1000 : Int32) * (t87.1 23)) + (t87.1 24)))) X.1 X.2.1 hr (fun t ht hW => ⟨⟨(-(((1000 : Int32) * (t87.1 23)) + (t87.1 24))), t87, rfl, hw, rO_end hO hK ht hW⟩, hO.2.2.F ht⟩) hO.2.2.2.2 dX7_read_111 hlk
    · have hw := hw.2 hc9
      refine lv_aload_n X.1 X.2.1 dX7_read_58 rfl (lv_at hl 0 rfl) ?_
      refine rf_bytes X hK hO dX7_read_59 ?_
      refine lv_aload_n X.1 X.2.1 dX7_read_62 rfl (lv_at hl 0 rfl) ?_
      refine rf_base X hK hO dX7_read_63 ?_
      refine lv_iload_n X.1 X.2.1 dX7_read_66 rfl (lv_at hl 1 rfl) ?_
      refine lv_iadd X.1 X.2.1 dX7_read_67 ?_
      refine lv_aload_n X.1 X.2.1 dX7_read_68 rfl (lv_at hl 0 rfl) ?_
      refine rf_buffer X hK hO dX7_read_69 ?_
      refine lv_iload_n X.1 X.2.1 dX7_read_72 rfl (lv_at hl 1 rfl) ?_
      obtain ⟨g73, hw⟩ := hw
      refine ra_buffer X.1 X.2.1 hK hO g73 dX7_read_73 ?_
      obtain ⟨g74, hw⟩ := hw
      refine rs_bytes X.1 X.2.1 hK hO g74 dX7_read_74 (fun H locs hO => ?_)
      obtain ⟨t74, e74⟩ : ∃ z, z = rA σ 2 ((σ.1 19) + x1) (σ.2 0 x1.toNatClampNeg) := ⟨_, rfl⟩
      have hw := hw t74 e74
      rw [← e74] at hO
      obtain ⟨v75, e75⟩ : ∃ z, z = x1 + (1 : Int32) := ⟨_, rfl⟩
      have hw := hw v75 e75
      refine lv_iinc (lv' := [(1, .int v75), (0, .ref h)]) (k := 1) (v := v75) X.1 X.2.1 dX7_read_75 hl rfl (by rw [e75]; rfl) (by decide) rfl (fun ls hl => ?_)
      refine lv_goto (tgt := 50) X.1 X.2.1 dX7_read_78 rfl ?_
      exact k50 v75 t74 H locs ls (lv_sub hl [1, 0] rfl) hO hw
def R_read_b0 (Q : Int32 → rS → Prop) (σ : rS) : Prop :=
 (¬ (σ.1 3) = (16 : Int32) → ∀ t16 : rS, t16 = rI σ 18 (σ.1 3) → ∀ t27 : rS, t27 = rI t16 19 ((120 : Int32) * (t16.1 18)) → ∀ t35 : rS, t35 = rI t27 20 (t27.1 1) → ∀ t40 : rS, t40 = rI t35 21 (0 : Int32) → ∀ t45 : rS, t45 = rI t40 23 (0 : Int32) → R_read_b50 Q (0 : Int32) t45) ∧ ((σ.1 3) = (16 : Int32) → Q (-1 : Int32) σ)
set_option maxHeartbeats 4000000 in
set_option maxRecDepth 100000 in
theorem rB_read_0 {Q : Int32 → rS → Prop} (X : CallFix p m c cX7_read 2 s args wsX7_read RX7) (hr : meth.sig.returnType = (some .int)) (hlk : meth.locks = false) (hR : 6 ≤ R.frames ∧ 142 ≤ R.locals) (hK : va_K (dC, dI) vwCl [(cI, .int), (cZ, .boolean)] s) (hA : ∀ q, s.heap.size ≤ q → A q) (σ : rS) (H : Heap) (locs : List Loc) (ls : Array Slot) (hl : lv_has ls 2 [(0, .ref h)]) (hO : rO dC dI h a cI cZ A s.heap σ H locs) (hw : R_read_b0 Q σ) : W p l e R s m args below meth c H locs 0 0 (MQ below (va_Qi Q (rAt dC dI A h a cI cZ) A) args s 0 0 A) (F0 m 0 ls []) := by
  unfold R_read_b0 at hw
  refine lv_aload_n X.1 X.2.1 dX7_read_0 rfl (lv_at hl 0 rfl) ?_
  refine rf_classes X hK hO dX7_read_1 ?_
  refine lv_bipush (v := 16) X.1 X.2.1 dX7_read_4 (by decide) ?_
  refine lv_icmp_ne (tgt := 11) X.1 X.2.1 dX7_read_6 rfl (fun hc9 => ?_) (fun hc9 => ?_)
  · have hw := hw.1 hc9
    refine lv_aload_n X.1 X.2.1 dX7_read_11 rfl (lv_at hl 0 rfl) ?_
    refine lv_aload_n X.1 X.2.1 dX7_read_12 rfl (lv_at hl 0 rfl) ?_
    refine rf_classes X hK hO dX7_read_13 ?_
    refine rp_now X hK hO dX7_read_16 (fun H locs hO => ?_)
    obtain ⟨t16, e16⟩ : ∃ z, z = rI σ 18 (σ.1 3) := ⟨_, rfl⟩
    have hw := hw t16 e16
    rw [← e16] at hO
    refine lv_aload_n X.1 X.2.1 dX7_read_19 rfl (lv_at hl 0 rfl) ?_
    refine lv_bipush (v := 120) X.1 X.2.1 dX7_read_20 (by decide) ?_
    refine lv_aload_n X.1 X.2.1 dX7_read_22 rfl (lv_at hl 0 rfl) ?_
    refine rf_now X hK hO dX7_read_23 ?_
    refine lv_imul X.1 X.2.1 dX7_read_26 ?_
    refine rp_base X hK hO dX7_read_27 (fun H locs hO => ?_)
    obtain ⟨t27, e27⟩ : ∃ z, z = rI t16 19 ((120 : Int32) * (t16.1 18)) := ⟨_, rfl⟩
    have hw := hw t27 e27
    rw [← e27] at hO
    refine lv_aload_n X.1 X.2.1 dX7_read_30 rfl (lv_at hl 0 rfl) ?_
    refine lv_aload_n X.1 X.2.1 dX7_read_31 rfl (lv_at hl 0 rfl) ?_
    refine rf_held X hK hO dX7_read_32 ?_
    refine rp_end X hK hO dX7_read_35 (fun H locs hO => ?_)
    obtain ⟨t35, e35⟩ : ∃ z, z = rI t27 20 (t27.1 1) := ⟨_, rfl⟩
    have hw := hw t35 e35
    rw [← e35] at hO
    refine lv_aload_n X.1 X.2.1 dX7_read_38 rfl (lv_at hl 0 rfl) ?_
    refine lv_iconst (v := 0) X.1 X.2.1 dX7_read_39 (by decide) ?_
    refine rp_at X hK hO dX7_read_40 (fun H locs hO => ?_)
    obtain ⟨t40, e40⟩ : ∃ z, z = rI t35 21 (0 : Int32) := ⟨_, rfl⟩
    have hw := hw t40 e40
    rw [← e40] at hO
    refine lv_aload_n X.1 X.2.1 dX7_read_43 rfl (lv_at hl 0 rfl) ?_
    refine lv_iconst (v := 0) X.1 X.2.1 dX7_read_44 (by decide) ?_
    refine rp_reason X hK hO dX7_read_45 (fun H locs hO => ?_)
    obtain ⟨t45, e45⟩ : ∃ z, z = rI t40 23 (0 : Int32) := ⟨_, rfl⟩
    have hw := hw t45 e45
    rw [← e45] at hO
    refine lv_iconst (v := 0) X.1 X.2.1 dX7_read_48 (by decide) ?_
    refine lv_istore_n (lv' := [(1, .int (0 : Int32)), (0, .ref h)]) X.1 X.2.1 dX7_read_49 rfl hl (by decide) rfl (fun ls hl => ?_)
    obtain ⟨n, hw⟩ := hw
    exact rB_read_50 X hr hlk hR hK hA n (0 : Int32) t45 H locs ls (lv_sub hl [1, 0] rfl) hO hw
  · have hw := hw.2 hc9
    refine lv_iconst (v := -1) X.1 X.2.1 dX7_read_9 (by decide) ?_
    exact W.iret (v := (-1 : Int32)) X.1 X.2.1 hr (fun t ht hW => ⟨⟨(-1 : Int32), σ, rfl, hw, rO_end hO hK ht hW⟩, hO.2.2.F ht⟩) hO.2.2.2.2 dX7_read_10 hlk
def R_read_w (Q : Int32 → rS → Prop) (σ : rS) : Prop := R_read_b0 Q σ
abbrev rmX7_read : Room := { frames := 6, cells := 0, slots := 0, locals := 142 }
set_option maxHeartbeats 4000000 in
set_option maxRecDepth 100000 in
theorem rC_read (l : Launch) (dC : Nat → ClassId) (dI : Nat → Nat → Nat) (h : Nat) (a : Nat → Nat) (cI cZ : ClassId) (σ : rS) (sz : Nat) (Q : Int32 → rS → Prop) (hw : R_read_w Q σ) : Met l yX7_read wsX7_read rmX7_read (rPc dC dI h a cI cZ sz σ [.ref h]) (va_Qi Q (rAt dC dI (va_A (rCells h a cI cZ σ) sz) h a cI cZ) (va_A (rCells h a cI cZ σ) sz)) 0 0 (va_A (rCells h a cI cZ σ) sz) := by
  refine Met.ofW (cc := cX7_read) (maxL := 2) (ret := (some .int)) (by decide) rfl ?_
  intro p e s m args below meth c s₁ B hml hv
  obtain ⟨hargs, hsz, hP, hK, hD0⟩ := hv
  have hts := atoms_spec (ws := wsX7_read) B.pre
  have hown : s.vm.findClass RX7 = some m.cls := findClass_of_methodNamed B.named
  subst hsz
  subst hargs
  have hD := hD0.self (sz := s.heap.size)
  generalize hAe : va_A (rCells h a cI cZ σ) s.heap.size = A at hD ⊢
  have hA : ∀ q : Nat, s.heap.size ≤ q → A q := fun q h => by rw [← hAe]; exact Or.inr h
  have hl := lv_entry ([.ref h]) (n := 2) (Nat.le_of_ble_eq_true rfl)
  rw [lg_entry_eq]
  generalize (lg_sl ([.ref h]) ++ List.replicate (2 - (lg_sl ([.ref h])).length) Slot.unset).toArray = ls at hl ⊢
  have hl : lv_has ls 2 [(0, .ref h)] := hl
  unfold R_read_w at hw
  exact rB_read_0 ⟨B.exec, B.bytes, hml, hown, hts⟩ B.returns B.notSynchronized ⟨Nat.le_of_ble_eq_true rfl, Nat.le_of_ble_eq_true rfl⟩ hK hA σ s.heap [] ls (lv_sub hl [0] rfl) ⟨hP, hD, va_S.rf⟩ hw
end
end
section
section
variable {p : Program} {l : Launch} {e : Env} {R : Room} {s : State} {m : MethodId} {args : Array Value} {below : List Frame} {meth : Method} {c : Code}
variable {dC : Nat → ClassId} {dI : Nat → Nat → Nat} {h : Nat} {a : Nat → Nat} {cI cZ : ClassId} {A : Nat → Prop}
def R_isClass_b17 (Q : Int32 → rS → Prop) (y0 : Int32) (σ : rS) : Prop :=
 zb y0 ∧ Q y0 σ
set_option maxHeartbeats 4000000 in
set_option maxRecDepth 100000 in
theorem rB_isClass_17 {Q : Int32 → rS → Prop} (X : CallFix p m c cX7_isClass 2 s args wsX7_isClass RX7) (hr : meth.sig.returnType = (some .boolean)) (hlk : meth.locks = false) (hR : 0 ≤ R.frames ∧ 0 ≤ R.locals) (hK : va_K (dC, dI) vwCl [(cI, .int), (cZ, .boolean)] s) (hA : ∀ q, s.heap.size ≤ q → A q) (y0 : Int32) (σ : rS) (H : Heap) (locs : List Loc) (ls : Array Slot) (hl : lv_has ls 2 [(0, .ref h)]) (hO : rO dC dI h a cI cZ A s.heap σ H locs) (hw : R_isClass_b17 Q y0 σ) : W p l e R s m args below meth c H locs 0 0 (MQ below (va_Qi Q (rAt dC dI A h a cI cZ) A) args s 0 0 A) (F0 m 17 ls [.int y0]) := by
  unfold R_isClass_b17 at hw
  obtain ⟨hz, hw⟩ := hw
  exact W.zret (v := y0) X.1 X.2.1 hr hz (fun t ht hW => ⟨⟨y0, σ, rfl, hw, rO_end hO hK ht hW⟩, hO.2.2.F ht⟩) hO.2.2.2.2 dX7_isClass_17 hlk
def R_isClass_b16 (Q : Int32 → rS → Prop) (σ : rS) : Prop :=
 R_isClass_b17 Q (0 : Int32) σ
set_option maxHeartbeats 4000000 in
set_option maxRecDepth 100000 in
theorem rB_isClass_16 {Q : Int32 → rS → Prop} (X : CallFix p m c cX7_isClass 2 s args wsX7_isClass RX7) (hr : meth.sig.returnType = (some .boolean)) (hlk : meth.locks = false) (hR : 0 ≤ R.frames ∧ 0 ≤ R.locals) (hK : va_K (dC, dI) vwCl [(cI, .int), (cZ, .boolean)] s) (hA : ∀ q, s.heap.size ≤ q → A q) (σ : rS) (H : Heap) (locs : List Loc) (ls : Array Slot) (hl : lv_has ls 2 [(0, .ref h)]) (hO : rO dC dI h a cI cZ A s.heap σ H locs) (hw : R_isClass_b16 Q σ) : W p l e R s m args below meth c H locs 0 0 (MQ below (va_Qi Q (rAt dC dI A h a cI cZ) A) args s 0 0 A) (F0 m 16 ls []) := by
  unfold R_isClass_b16 at hw
  refine lv_iconst (v := 0) X.1 X.2.1 dX7_isClass_16 (by decide) ?_
  exact rB_isClass_17 X hr hlk hR hK hA (0 : Int32) σ H locs ls (lv_sub hl [0] rfl) hO hw
def R_isClass_b0 (Q : Int32 → rS → Prop) (x1 : Int32) (σ : rS) : Prop :=
 (x1 < 0 → R_isClass_b16 Q σ) ∧ (¬ x1 < 0 → ((σ.1 3) ≤ x1 → R_isClass_b16 Q σ) ∧ (¬ (σ.1 3) ≤ x1 → R_isClass_b17 Q (1 : Int32) σ))
set_option maxHeartbeats 4000000 in
set_option maxRecDepth 100000 in
theorem rB_isClass_0 {Q : Int32 → rS → Prop} (X : CallFix p m c cX7_isClass 2 s args wsX7_isClass RX7) (hr : meth.sig.returnType = (some .boolean)) (hlk : meth.locks = false) (hR : 0 ≤ R.frames ∧ 0 ≤ R.locals) (hK : va_K (dC, dI) vwCl [(cI, .int), (cZ, .boolean)] s) (hA : ∀ q, s.heap.size ≤ q → A q) (x1 : Int32) (σ : rS) (H : Heap) (locs : List Loc) (ls : Array Slot) (hl : lv_has ls 2 [(0, .ref h), (1, .int x1)]) (hO : rO dC dI h a cI cZ A s.heap σ H locs) (hw : R_isClass_b0 Q x1 σ) : W p l e R s m args below meth c H locs 0 0 (MQ below (va_Qi Q (rAt dC dI A h a cI cZ) A) args s 0 0 A) (F0 m 0 ls []) := by
  unfold R_isClass_b0 at hw
  refine lv_iload_n X.1 X.2.1 dX7_isClass_0 rfl (lv_at hl 1 rfl) ?_
  refine lv_if_lt (tgt := 16) X.1 X.2.1 dX7_isClass_1 rfl (fun hc9 => ?_) (fun hc9 => ?_)
  · have hw := hw.1 hc9
    exact rB_isClass_16 X hr hlk hR hK hA σ H locs ls (lv_sub hl [0] rfl) hO hw
  · have hw := hw.2 hc9
    refine lv_iload_n X.1 X.2.1 dX7_isClass_4 rfl (lv_at hl 1 rfl) ?_
    refine lv_aload_n X.1 X.2.1 dX7_isClass_5 rfl (lv_at hl 0 rfl) ?_
    refine rf_classes X hK hO dX7_isClass_6 ?_
    refine lv_icmp_ge (tgt := 16) X.1 X.2.1 dX7_isClass_9 rfl (fun hc9 => ?_) (fun hc9 => ?_)
    · have hw := hw.1 hc9
      exact rB_isClass_16 X hr hlk hR hK hA σ H locs ls (lv_sub hl [0] rfl) hO hw
    · have hw := hw.2 hc9
      refine lv_iconst (v := 1) X.1 X.2.1 dX7_isClass_12 (by decide) ?_
      refine lv_goto (tgt := 17) X.1 X.2.1 dX7_isClass_13 rfl ?_
      exact rB_isClass_17 X hr hlk hR hK hA (1 : Int32) σ H locs ls (lv_sub hl [0] rfl) hO hw
def R_isClass_w (Q : Int32 → rS → Prop) (x1 : Int32) (σ : rS) : Prop := R_isClass_b0 Q x1 σ
abbrev rmX7_isClass : Room := { frames := 0, cells := 0, slots := 0, locals := 0 }
set_option maxHeartbeats 4000000 in
set_option maxRecDepth 100000 in
theorem rC_isClass (l : Launch) (dC : Nat → ClassId) (dI : Nat → Nat → Nat) (h : Nat) (a : Nat → Nat) (cI cZ : ClassId) (σ : rS) (sz : Nat) (x1 : Int32) (Q : Int32 → rS → Prop) (hw : R_isClass_w Q x1 σ) : Met l yX7_isClass wsX7_isClass rmX7_isClass (rPc dC dI h a cI cZ sz σ [.ref h, .int x1]) (va_Qi Q (rAt dC dI (va_A (rCells h a cI cZ σ) sz) h a cI cZ) (va_A (rCells h a cI cZ σ) sz)) 0 0 (va_A (rCells h a cI cZ σ) sz) := by
  refine Met.ofW (cc := cX7_isClass) (maxL := 2) (ret := (some .boolean)) (by decide) rfl ?_
  intro p e s m args below meth c s₁ B hml hv
  obtain ⟨hargs, hsz, hP, hK, hD0⟩ := hv
  have hts := atoms_spec (ws := wsX7_isClass) B.pre
  have hown : s.vm.findClass RX7 = some m.cls := findClass_of_methodNamed B.named
  subst hsz
  subst hargs
  have hD := hD0.self (sz := s.heap.size)
  generalize hAe : va_A (rCells h a cI cZ σ) s.heap.size = A at hD ⊢
  have hA : ∀ q : Nat, s.heap.size ≤ q → A q := fun q h => by rw [← hAe]; exact Or.inr h
  have hl := lv_entry ([.ref h, .int x1]) (n := 2) (Nat.le_of_ble_eq_true rfl)
  rw [lg_entry_eq]
  generalize (lg_sl ([.ref h, .int x1]) ++ List.replicate (2 - (lg_sl ([.ref h, .int x1])).length) Slot.unset).toArray = ls at hl ⊢
  have hl : lv_has ls 2 [(0, .ref h), (1, .int x1)] := hl
  unfold R_isClass_w at hw
  exact rB_isClass_0 ⟨B.exec, B.bytes, hml, hown, hts⟩ B.returns B.notSynchronized ⟨Nat.le_of_ble_eq_true rfl, Nat.le_of_ble_eq_true rfl⟩ hK hA x1 σ s.heap [] ls (lv_sub hl [0, 1] rfl) ⟨hP, hD, va_S.rf⟩ hw
def R_isText_b17 (Q : Int32 → rS → Prop) (y0 : Int32) (σ : rS) : Prop :=
 zb y0 ∧ Q y0 σ
set_option maxHeartbeats 4000000 in
set_option maxRecDepth 100000 in
theorem rB_isText_17 {Q : Int32 → rS → Prop} (X : CallFix p m c cX7_isText 2 s args wsX7_isText RX7) (hr : meth.sig.returnType = (some .boolean)) (hlk : meth.locks = false) (hR : 0 ≤ R.frames ∧ 0 ≤ R.locals) (hK : va_K (dC, dI) vwCl [(cI, .int), (cZ, .boolean)] s) (hA : ∀ q, s.heap.size ≤ q → A q) (y0 : Int32) (σ : rS) (H : Heap) (locs : List Loc) (ls : Array Slot) (hl : lv_has ls 2 [(0, .ref h)]) (hO : rO dC dI h a cI cZ A s.heap σ H locs) (hw : R_isText_b17 Q y0 σ) : W p l e R s m args below meth c H locs 0 0 (MQ below (va_Qi Q (rAt dC dI A h a cI cZ) A) args s 0 0 A) (F0 m 17 ls [.int y0]) := by
  unfold R_isText_b17 at hw
  obtain ⟨hz, hw⟩ := hw
  exact W.zret (v := y0) X.1 X.2.1 hr hz (fun t ht hW => ⟨⟨y0, σ, rfl, hw, rO_end hO hK ht hW⟩, hO.2.2.F ht⟩) hO.2.2.2.2 dX7_isText_17 hlk
def R_isText_b16 (Q : Int32 → rS → Prop) (σ : rS) : Prop :=
 R_isText_b17 Q (0 : Int32) σ
set_option maxHeartbeats 4000000 in
set_option maxRecDepth 100000 in
theorem rB_isText_16 {Q : Int32 → rS → Prop} (X : CallFix p m c cX7_isText 2 s args wsX7_isText RX7) (hr : meth.sig.returnType = (some .boolean)) (hlk : meth.locks = false) (hR : 0 ≤ R.frames ∧ 0 ≤ R.locals) (hK : va_K (dC, dI) vwCl [(cI, .int), (cZ, .boolean)] s) (hA : ∀ q, s.heap.size ≤ q → A q) (σ : rS) (H : Heap) (locs : List Loc) (ls : Array Slot) (hl : lv_has ls 2 [(0, .ref h)]) (hO : rO dC dI h a cI cZ A s.heap σ H locs) (hw : R_isText_b16 Q σ) : W p l e R s m args below meth c H locs 0 0 (MQ below (va_Qi Q (rAt dC dI A h a cI cZ) A) args s 0 0 A) (F0 m 16 ls []) := by
  unfold R_isText_b16 at hw
  refine lv_iconst (v := 0) X.1 X.2.1 dX7_isText_16 (by decide) ?_
  exact rB_isText_17 X hr hlk hR hK hA (0 : Int32) σ H locs ls (lv_sub hl [0] rfl) hO hw
def R_isText_b0 (Q : Int32 → rS → Prop) (x1 : Int32) (σ : rS) : Prop :=
 (x1 < 0 → R_isText_b16 Q σ) ∧ (¬ x1 < 0 → ((σ.1 5) ≤ x1 → R_isText_b16 Q σ) ∧ (¬ (σ.1 5) ≤ x1 → R_isText_b17 Q (1 : Int32) σ))
set_option maxHeartbeats 4000000 in
set_option maxRecDepth 100000 in
theorem rB_isText_0 {Q : Int32 → rS → Prop} (X : CallFix p m c cX7_isText 2 s args wsX7_isText RX7) (hr : meth.sig.returnType = (some .boolean)) (hlk : meth.locks = false) (hR : 0 ≤ R.frames ∧ 0 ≤ R.locals) (hK : va_K (dC, dI) vwCl [(cI, .int), (cZ, .boolean)] s) (hA : ∀ q, s.heap.size ≤ q → A q) (x1 : Int32) (σ : rS) (H : Heap) (locs : List Loc) (ls : Array Slot) (hl : lv_has ls 2 [(0, .ref h), (1, .int x1)]) (hO : rO dC dI h a cI cZ A s.heap σ H locs) (hw : R_isText_b0 Q x1 σ) : W p l e R s m args below meth c H locs 0 0 (MQ below (va_Qi Q (rAt dC dI A h a cI cZ) A) args s 0 0 A) (F0 m 0 ls []) := by
  unfold R_isText_b0 at hw
  refine lv_iload_n X.1 X.2.1 dX7_isText_0 rfl (lv_at hl 1 rfl) ?_
  refine lv_if_lt (tgt := 16) X.1 X.2.1 dX7_isText_1 rfl (fun hc9 => ?_) (fun hc9 => ?_)
  · have hw := hw.1 hc9
    exact rB_isText_16 X hr hlk hR hK hA σ H locs ls (lv_sub hl [0] rfl) hO hw
  · have hw := hw.2 hc9
    refine lv_iload_n X.1 X.2.1 dX7_isText_4 rfl (lv_at hl 1 rfl) ?_
    refine lv_aload_n X.1 X.2.1 dX7_isText_5 rfl (lv_at hl 0 rfl) ?_
    refine rf_texts X hK hO dX7_isText_6 ?_
    refine lv_icmp_ge (tgt := 16) X.1 X.2.1 dX7_isText_9 rfl (fun hc9 => ?_) (fun hc9 => ?_)
    · have hw := hw.1 hc9
      exact rB_isText_16 X hr hlk hR hK hA σ H locs ls (lv_sub hl [0] rfl) hO hw
    · have hw := hw.2 hc9
      refine lv_iconst (v := 1) X.1 X.2.1 dX7_isText_12 (by decide) ?_
      refine lv_goto (tgt := 17) X.1 X.2.1 dX7_isText_13 rfl ?_
      exact rB_isText_17 X hr hlk hR hK hA (1 : Int32) σ H locs ls (lv_sub hl [0] rfl) hO hw
def R_isText_w (Q : Int32 → rS → Prop) (x1 : Int32) (σ : rS) : Prop := R_isText_b0 Q x1 σ
abbrev rmX7_isText : Room := { frames := 0, cells := 0, slots := 0, locals := 0 }
set_option maxHeartbeats 4000000 in
set_option maxRecDepth 100000 in
theorem rC_isText (l : Launch) (dC : Nat → ClassId) (dI : Nat → Nat → Nat) (h : Nat) (a : Nat → Nat) (cI cZ : ClassId) (σ : rS) (sz : Nat) (x1 : Int32) (Q : Int32 → rS → Prop) (hw : R_isText_w Q x1 σ) : Met l yX7_isText wsX7_isText rmX7_isText (rPc dC dI h a cI cZ sz σ [.ref h, .int x1]) (va_Qi Q (rAt dC dI (va_A (rCells h a cI cZ σ) sz) h a cI cZ) (va_A (rCells h a cI cZ σ) sz)) 0 0 (va_A (rCells h a cI cZ σ) sz) := by
  refine Met.ofW (cc := cX7_isText) (maxL := 2) (ret := (some .boolean)) (by decide) rfl ?_
  intro p e s m args below meth c s₁ B hml hv
  obtain ⟨hargs, hsz, hP, hK, hD0⟩ := hv
  have hts := atoms_spec (ws := wsX7_isText) B.pre
  have hown : s.vm.findClass RX7 = some m.cls := findClass_of_methodNamed B.named
  subst hsz
  subst hargs
  have hD := hD0.self (sz := s.heap.size)
  generalize hAe : va_A (rCells h a cI cZ σ) s.heap.size = A at hD ⊢
  have hA : ∀ q : Nat, s.heap.size ≤ q → A q := fun q h => by rw [← hAe]; exact Or.inr h
  have hl := lv_entry ([.ref h, .int x1]) (n := 2) (Nat.le_of_ble_eq_true rfl)
  rw [lg_entry_eq]
  generalize (lg_sl ([.ref h, .int x1]) ++ List.replicate (2 - (lg_sl ([.ref h, .int x1])).length) Slot.unset).toArray = ls at hl ⊢
  have hl : lv_has ls 2 [(0, .ref h), (1, .int x1)] := hl
  unfold R_isText_w at hw
  exact rB_isText_0 ⟨B.exec, B.bytes, hml, hown, hts⟩ B.returns B.notSynchronized ⟨Nat.le_of_ble_eq_true rfl, Nat.le_of_ble_eq_true rfl⟩ hK hA x1 σ s.heap [] ls (lv_sub hl [0, 1] rfl) ⟨hP, hD, va_S.rf⟩ hw
def R_classes_b0 (Q : Int32 → rS → Prop) (σ : rS) : Prop :=
 Q (σ.1 3) σ
set_option maxHeartbeats 4000000 in
set_option maxRecDepth 100000 in
theorem rB_classes_0 {Q : Int32 → rS → Prop} (X : CallFix p m c cX7_classes 1 s args wsX7_classes RX7) (hr : meth.sig.returnType = (some .int)) (hlk : meth.locks = false) (hR : 0 ≤ R.frames ∧ 0 ≤ R.locals) (hK : va_K (dC, dI) vwCl [(cI, .int), (cZ, .boolean)] s) (hA : ∀ q, s.heap.size ≤ q → A q) (σ : rS) (H : Heap) (locs : List Loc) (ls : Array Slot) (hl : lv_has ls 1 [(0, .ref h)]) (hO : rO dC dI h a cI cZ A s.heap σ H locs) (hw : R_classes_b0 Q σ) : W p l e R s m args below meth c H locs 0 0 (MQ below (va_Qi Q (rAt dC dI A h a cI cZ) A) args s 0 0 A) (F0 m 0 ls []) := by
  unfold R_classes_b0 at hw
  refine lv_aload_n X.1 X.2.1 dX7_classes_0 rfl (lv_at hl 0 rfl) ?_
  refine rf_classes X hK hO dX7_classes_1 ?_
  exact W.iret (v := (σ.1 3)) X.1 X.2.1 hr (fun t ht hW => ⟨⟨(σ.1 3), σ, rfl, hw, rO_end hO hK ht hW⟩, hO.2.2.F ht⟩) hO.2.2.2.2 dX7_classes_4 hlk
def R_classes_w (Q : Int32 → rS → Prop) (σ : rS) : Prop := R_classes_b0 Q σ
abbrev rmX7_classes : Room := { frames := 0, cells := 0, slots := 0, locals := 0 }
set_option maxHeartbeats 4000000 in
set_option maxRecDepth 100000 in
theorem rC_classes (l : Launch) (dC : Nat → ClassId) (dI : Nat → Nat → Nat) (h : Nat) (a : Nat → Nat) (cI cZ : ClassId) (σ : rS) (sz : Nat) (Q : Int32 → rS → Prop) (hw : R_classes_w Q σ) : Met l yX7_classes wsX7_classes rmX7_classes (rPc dC dI h a cI cZ sz σ [.ref h]) (va_Qi Q (rAt dC dI (va_A (rCells h a cI cZ σ) sz) h a cI cZ) (va_A (rCells h a cI cZ σ) sz)) 0 0 (va_A (rCells h a cI cZ σ) sz) := by
  refine Met.ofW (cc := cX7_classes) (maxL := 1) (ret := (some .int)) (by decide) rfl ?_
  intro p e s m args below meth c s₁ B hml hv
  obtain ⟨hargs, hsz, hP, hK, hD0⟩ := hv
  have hts := atoms_spec (ws := wsX7_classes) B.pre
  have hown : s.vm.findClass RX7 = some m.cls := findClass_of_methodNamed B.named
  subst hsz
  subst hargs
  have hD := hD0.self (sz := s.heap.size)
  generalize hAe : va_A (rCells h a cI cZ σ) s.heap.size = A at hD ⊢
  have hA : ∀ q : Nat, s.heap.size ≤ q → A q := fun q h => by rw [← hAe]; exact Or.inr h
  have hl := lv_entry ([.ref h]) (n := 1) (Nat.le_of_ble_eq_true rfl)
  rw [lg_entry_eq]
  generalize (lg_sl ([.ref h]) ++ List.replicate (1 - (lg_sl ([.ref h])).length) Slot.unset).toArray = ls at hl ⊢
  have hl : lv_has ls 1 [(0, .ref h)] := hl
  unfold R_classes_w at hw
  exact rB_classes_0 ⟨B.exec, B.bytes, hml, hown, hts⟩ B.returns B.notSynchronized ⟨Nat.le_of_ble_eq_true rfl, Nat.le_of_ble_eq_true rfl⟩ hK hA σ s.heap [] ls (lv_sub hl [0] rfl) ⟨hP, hD, va_S.rf⟩ hw
def R_texts_b0 (Q : Int32 → rS → Prop) (σ : rS) : Prop :=
 Q (σ.1 5) σ
set_option maxHeartbeats 4000000 in
set_option maxRecDepth 100000 in
theorem rB_texts_0 {Q : Int32 → rS → Prop} (X : CallFix p m c cX7_texts 1 s args wsX7_texts RX7) (hr : meth.sig.returnType = (some .int)) (hlk : meth.locks = false) (hR : 0 ≤ R.frames ∧ 0 ≤ R.locals) (hK : va_K (dC, dI) vwCl [(cI, .int), (cZ, .boolean)] s) (hA : ∀ q, s.heap.size ≤ q → A q) (σ : rS) (H : Heap) (locs : List Loc) (ls : Array Slot) (hl : lv_has ls 1 [(0, .ref h)]) (hO : rO dC dI h a cI cZ A s.heap σ H locs) (hw : R_texts_b0 Q σ) : W p l e R s m args below meth c H locs 0 0 (MQ below (va_Qi Q (rAt dC dI A h a cI cZ) A) args s 0 0 A) (F0 m 0 ls []) := by
  unfold R_texts_b0 at hw
  refine lv_aload_n X.1 X.2.1 dX7_texts_0 rfl (lv_at hl 0 rfl) ?_
  refine rf_texts X hK hO dX7_texts_1 ?_
  exact W.iret (v := (σ.1 5)) X.1 X.2.1 hr (fun t ht hW => ⟨⟨(σ.1 5), σ, rfl, hw, rO_end hO hK ht hW⟩, hO.2.2.F ht⟩) hO.2.2.2.2 dX7_texts_4 hlk
def R_texts_w (Q : Int32 → rS → Prop) (σ : rS) : Prop := R_texts_b0 Q σ
abbrev rmX7_texts : Room := { frames := 0, cells := 0, slots := 0, locals := 0 }
set_option maxHeartbeats 4000000 in
set_option maxRecDepth 100000 in
theorem rC_texts (l : Launch) (dC : Nat → ClassId) (dI : Nat → Nat → Nat) (h : Nat) (a : Nat → Nat) (cI cZ : ClassId) (σ : rS) (sz : Nat) (Q : Int32 → rS → Prop) (hw : R_texts_w Q σ) : Met l yX7_texts wsX7_texts rmX7_texts (rPc dC dI h a cI cZ sz σ [.ref h]) (va_Qi Q (rAt dC dI (va_A (rCells h a cI cZ σ) sz) h a cI cZ) (va_A (rCells h a cI cZ σ) sz)) 0 0 (va_A (rCells h a cI cZ σ) sz) := by
  refine Met.ofW (cc := cX7_texts) (maxL := 1) (ret := (some .int)) (by decide) rfl ?_
  intro p e s m args below meth c s₁ B hml hv
  obtain ⟨hargs, hsz, hP, hK, hD0⟩ := hv
  have hts := atoms_spec (ws := wsX7_texts) B.pre
  have hown : s.vm.findClass RX7 = some m.cls := findClass_of_methodNamed B.named
  subst hsz
  subst hargs
  have hD := hD0.self (sz := s.heap.size)
  generalize hAe : va_A (rCells h a cI cZ σ) s.heap.size = A at hD ⊢
  have hA : ∀ q : Nat, s.heap.size ≤ q → A q := fun q h => by rw [← hAe]; exact Or.inr h
  have hl := lv_entry ([.ref h]) (n := 1) (Nat.le_of_ble_eq_true rfl)
  rw [lg_entry_eq]
  generalize (lg_sl ([.ref h]) ++ List.replicate (1 - (lg_sl ([.ref h])).length) Slot.unset).toArray = ls at hl ⊢
  have hl : lv_has ls 1 [(0, .ref h)] := hl
  unfold R_texts_w at hw
  exact rB_texts_0 ⟨B.exec, B.bytes, hml, hown, hts⟩ B.returns B.notSynchronized ⟨Nat.le_of_ble_eq_true rfl, Nat.le_of_ble_eq_true rfl⟩ hK hA σ s.heap [] ls (lv_sub hl [0] rfl) ⟨hP, hD, va_S.rf⟩ hw
def R_letter_b48 (Q : Int32 → rS → Prop) (y0 : Int32) (σ : rS) : Prop :=
 Q y0 σ
set_option maxHeartbeats 4000000 in
set_option maxRecDepth 100000 in
theorem rB_letter_48 {Q : Int32 → rS → Prop} (X : CallFix p m c cX7_letter 3 s args wsX7_letter RX7) (hr : meth.sig.returnType = (some .int)) (hlk : meth.locks = false) (hR : 1 ≤ R.frames ∧ 21 ≤ R.locals) (hK : va_K (dC, dI) vwCl [(cI, .int), (cZ, .boolean)] s) (hA : ∀ q, s.heap.size ≤ q → A q) (y0 : Int32) (σ : rS) (H : Heap) (locs : List Loc) (ls : Array Slot) (hl : lv_has ls 3 [(0, .ref h)]) (hO : rO dC dI h a cI cZ A s.heap σ H locs) (hw : R_letter_b48 Q y0 σ) : W p l e R s m args below meth c H locs 0 0 (MQ below (va_Qi Q (rAt dC dI A h a cI cZ) A) args s 0 0 A) (F0 m 48 ls [.int y0]) := by
  unfold R_letter_b48 at hw
  exact W.iret (v := y0) X.1 X.2.1 hr (fun t ht hW => ⟨⟨y0, σ, rfl, hw, rO_end hO hK ht hW⟩, hO.2.2.F ht⟩) hO.2.2.2.2 dX7_letter_48 hlk
def R_letter_b29 (Q : Int32 → rS → Prop) (σ : rS) : Prop :=
 R_letter_b48 Q (0 : Int32) σ
set_option maxHeartbeats 4000000 in
set_option maxRecDepth 100000 in
theorem rB_letter_29 {Q : Int32 → rS → Prop} (X : CallFix p m c cX7_letter 3 s args wsX7_letter RX7) (hr : meth.sig.returnType = (some .int)) (hlk : meth.locks = false) (hR : 1 ≤ R.frames ∧ 21 ≤ R.locals) (hK : va_K (dC, dI) vwCl [(cI, .int), (cZ, .boolean)] s) (hA : ∀ q, s.heap.size ≤ q → A q) (σ : rS) (H : Heap) (locs : List Loc) (ls : Array Slot) (hl : lv_has ls 3 [(0, .ref h)]) (hO : rO dC dI h a cI cZ A s.heap σ H locs) (hw : R_letter_b29 Q σ) : W p l e R s m args below meth c H locs 0 0 (MQ below (va_Qi Q (rAt dC dI A h a cI cZ) A) args s 0 0 A) (F0 m 29 ls []) := by
  unfold R_letter_b29 at hw
  refine lv_iconst (v := 0) X.1 X.2.1 dX7_letter_29 (by decide) ?_
  refine lv_goto (tgt := 48) X.1 X.2.1 dX7_letter_30 rfl ?_
  exact rB_letter_48 X hr hlk hR hK hA (0 : Int32) σ H locs ls (lv_sub hl [0] rfl) hO hw
def R_letter_b0 (Q : Int32 → rS → Prop) (x1 : Int32) (x2 : Int32) (σ : rS) : Prop :=
 R_isText_w (fun r2 t2 => (¬ r2 = 0 → (x2 < 0 → R_letter_b29 Q t2) ∧ (¬ x2 < 0 → vp_in x1 192 ∧ vp_in (t2.2 4 x1.toNatClampNeg) 1920 ∧ (x2 < (t2.2 2 (t2.2 4 x1.toNatClampNeg).toNatClampNeg) → vp_in x1 192 ∧ vp_in (((t2.2 4 x1.toNatClampNeg) + (1 : Int32)) + x2) 1920 ∧ R_letter_b48 Q (t2.2 2 (((t2.2 4 x1.toNatClampNeg) + (1 : Int32)) + x2).toNatClampNeg) t2) ∧ (¬ x2 < (t2.2 2 (t2.2 4 x1.toNatClampNeg).toNatClampNeg) → R_letter_b29 Q t2))) ∧ (r2 = 0 → Q (-1 : Int32) t2)) x1 σ
set_option maxHeartbeats 4000000 in
set_option maxRecDepth 100000 in
theorem rB_letter_0 {Q : Int32 → rS → Prop} (X : CallFix p m c cX7_letter 3 s args wsX7_letter RX7) (hr : meth.sig.returnType = (some .int)) (hlk : meth.locks = false) (hR : 1 ≤ R.frames ∧ 21 ≤ R.locals) (hK : va_K (dC, dI) vwCl [(cI, .int), (cZ, .boolean)] s) (hA : ∀ q, s.heap.size ≤ q → A q) (x1 : Int32) (x2 : Int32) (σ : rS) (H : Heap) (locs : List Loc) (ls : Array Slot) (hl : lv_has ls 3 [(0, .ref h), (1, .int x1), (2, .int x2)]) (hO : rO dC dI h a cI cZ A s.heap σ H locs) (hw : R_letter_b0 Q x1 x2 σ) : W p l e R s m args below meth c H locs 0 0 (MQ below (va_Qi Q (rAt dC dI A h a cI cZ) A) args s 0 0 A) (F0 m 0 ls []) := by
  unfold R_letter_b0 at hw
  refine lv_aload_n X.1 X.2.1 dX7_letter_0 rfl (lv_at hl 0 rfl) ?_
  refine lv_iload_n X.1 X.2.1 dX7_letter_1 rfl (lv_at hl 1 rfl) ?_
  refine r_calli (rest := []) (As := [.int x1]) X (rC_isText l dC dI h a cI cZ σ H.size x1 _ hw) (cwV 1 X.2.2.2.2 gX7_isText rfl rfl rfl hdX7_isText ⟨Nat.le_trans (by decide) hR.1, Nat.le_trans (by decide) hR.2⟩) hK hA hO rfl hl.1 rfl (Nat.le_of_ble_eq_true rfl) dX7_letter_2 (fun r2 t2 H locs hO hw => ?_)
  refine lv_if_ne (tgt := 10) X.1 X.2.1 dX7_letter_5 rfl (fun hc9 => ?_) (fun hc9 => ?_)
  · have hw := hw.1 hc9
    refine lv_iload_n X.1 X.2.1 dX7_letter_10 rfl (lv_at hl 2 rfl) ?_
    refine lv_if_lt (tgt := 29) X.1 X.2.1 dX7_letter_11 rfl (fun hc9 => ?_) (fun hc9 => ?_)
    · have hw := hw.1 hc9
      exact rB_letter_29 X hr hlk hR hK hA t2 H locs ls (lv_sub hl [0] rfl) hO hw
    · have hw := hw.2 hc9
      refine lv_iload_n X.1 X.2.1 dX7_letter_14 rfl (lv_at hl 2 rfl) ?_
      refine lv_aload_n X.1 X.2.1 dX7_letter_15 rfl (lv_at hl 0 rfl) ?_
      refine rf_bytes X hK hO dX7_letter_16 ?_
      refine lv_aload_n X.1 X.2.1 dX7_letter_19 rfl (lv_at hl 0 rfl) ?_
      refine rf_textAt X hK hO dX7_letter_20 ?_
      refine lv_iload_n X.1 X.2.1 dX7_letter_23 rfl (lv_at hl 1 rfl) ?_
      obtain ⟨g24, hw⟩ := hw
      refine ra_textAt X.1 X.2.1 hK hO g24 dX7_letter_24 ?_
      obtain ⟨g25, hw⟩ := hw
      refine ra_bytes X.1 X.2.1 hK hO g25 dX7_letter_25 ?_
      refine lv_icmp_lt (tgt := 33) X.1 X.2.1 dX7_letter_26 rfl (fun hc9 => ?_) (fun hc9 => ?_)
      · have hw := hw.1 hc9
        refine lv_aload_n X.1 X.2.1 dX7_letter_33 rfl (lv_at hl 0 rfl) ?_
        refine rf_bytes X hK hO dX7_letter_34 ?_
        refine lv_aload_n X.1 X.2.1 dX7_letter_37 rfl (lv_at hl 0 rfl) ?_
        refine rf_textAt X hK hO dX7_letter_38 ?_
        refine lv_iload_n X.1 X.2.1 dX7_letter_41 rfl (lv_at hl 1 rfl) ?_
        obtain ⟨g42, hw⟩ := hw
        refine ra_textAt X.1 X.2.1 hK hO g42 dX7_letter_42 ?_
        refine lv_iconst (v := 1) X.1 X.2.1 dX7_letter_43 (by decide) ?_
        refine lv_iadd X.1 X.2.1 dX7_letter_44 ?_
        refine lv_iload_n X.1 X.2.1 dX7_letter_45 rfl (lv_at hl 2 rfl) ?_
        refine lv_iadd X.1 X.2.1 dX7_letter_46 ?_
        obtain ⟨g47, hw⟩ := hw
        refine ra_bytes X.1 X.2.1 hK hO g47 dX7_letter_47 ?_
        exact rB_letter_48 X hr hlk hR hK hA (t2.2 2 (((t2.2 4 x1.toNatClampNeg) + (1 : Int32)) + x2).toNatClampNeg) t2 H locs ls (lv_sub hl [0] rfl) hO hw
      · have hw := hw.2 hc9
        exact rB_letter_29 X hr hlk hR hK hA t2 H locs ls (lv_sub hl [0] rfl) hO hw
  · have hw := hw.2 hc9
    refine lv_iconst (v := -1) X.1 X.2.1 dX7_letter_8 (by decide) ?_
    exact W.iret (v := (-1 : Int32)) X.1 X.2.1 hr (fun t ht hW => ⟨⟨(-1 : Int32), t2, rfl, hw, rO_end hO hK ht hW⟩, hO.2.2.F ht⟩) hO.2.2.2.2 dX7_letter_9 hlk
def R_letter_w (Q : Int32 → rS → Prop) (x1 : Int32) (x2 : Int32) (σ : rS) : Prop := R_letter_b0 Q x1 x2 σ
abbrev rmX7_letter : Room := { frames := 1, cells := 0, slots := 0, locals := 21 }
set_option maxHeartbeats 4000000 in
set_option maxRecDepth 100000 in
theorem rC_letter (l : Launch) (dC : Nat → ClassId) (dI : Nat → Nat → Nat) (h : Nat) (a : Nat → Nat) (cI cZ : ClassId) (σ : rS) (sz : Nat) (x1 : Int32) (x2 : Int32) (Q : Int32 → rS → Prop) (hw : R_letter_w Q x1 x2 σ) : Met l yX7_letter wsX7_letter rmX7_letter (rPc dC dI h a cI cZ sz σ [.ref h, .int x1, .int x2]) (va_Qi Q (rAt dC dI (va_A (rCells h a cI cZ σ) sz) h a cI cZ) (va_A (rCells h a cI cZ σ) sz)) 0 0 (va_A (rCells h a cI cZ σ) sz) := by
  refine Met.ofW (cc := cX7_letter) (maxL := 3) (ret := (some .int)) (by decide) rfl ?_
  intro p e s m args below meth c s₁ B hml hv
  obtain ⟨hargs, hsz, hP, hK, hD0⟩ := hv
  have hts := atoms_spec (ws := wsX7_letter) B.pre
  have hown : s.vm.findClass RX7 = some m.cls := findClass_of_methodNamed B.named
  subst hsz
  subst hargs
  have hD := hD0.self (sz := s.heap.size)
  generalize hAe : va_A (rCells h a cI cZ σ) s.heap.size = A at hD ⊢
  have hA : ∀ q : Nat, s.heap.size ≤ q → A q := fun q h => by rw [← hAe]; exact Or.inr h
  have hl := lv_entry ([.ref h, .int x1, .int x2]) (n := 3) (Nat.le_of_ble_eq_true rfl)
  rw [lg_entry_eq]
  generalize (lg_sl ([.ref h, .int x1, .int x2]) ++ List.replicate (3 - (lg_sl ([.ref h, .int x1, .int x2])).length) Slot.unset).toArray = ls at hl ⊢
  have hl : lv_has ls 3 [(0, .ref h), (1, .int x1), (2, .int x2)] := hl
  unfold R_letter_w at hw
  exact rB_letter_0 ⟨B.exec, B.bytes, hml, hown, hts⟩ B.returns B.notSynchronized ⟨Nat.le_of_ble_eq_true rfl, Nat.le_of_ble_eq_true rfl⟩ hK hA x1 x2 σ s.heap [] ls (lv_sub hl [0, 1, 2] rfl) ⟨hP, hD, va_S.rf⟩ hw
def R_find_b2_s (Q : Int32 → rS → Prop) (K2 : Int32 → Int32 → rS → Prop) (x1 : Int32) (x2 : Int32) (σ : rS) : Prop :=
 ((σ.1 3) ≤ x2 → Q (-1 : Int32) σ) ∧ (¬ (σ.1 3) ≤ x2 → vp_in x2 16 ∧ (¬ (σ.2 10 x2.toNatClampNeg) = x1 → ∀ v22 : Int32, v22 = x2 + (1 : Int32) → K2 x1 v22 σ) ∧ ((σ.2 10 x2.toNatClampNeg) = x1 → Q x2 σ))
def R_find_b2_f (Q : Int32 → rS → Prop) : (Int32 × Int32 × rS → Prop) → Int32 × Int32 × rS → Prop :=
 fun K z => R_find_b2_s Q (fun x1 x2 σ => K (x1, x2, σ)) z.1 z.2.1 z.2.2
def R_find_b2 (Q : Int32 → rS → Prop) (x1 : Int32) (x2 : Int32) (σ : rS) : Prop := ∃ n, fx (R_find_b2_f Q ) n (x1, x2, σ)
set_option maxHeartbeats 4000000 in
set_option maxRecDepth 100000 in
theorem rB_find_2 {Q : Int32 → rS → Prop} (X : CallFix p m c cX7_find 3 s args wsX7_find RX7) (hr : meth.sig.returnType = (some .int)) (hlk : meth.locks = false) (hR : 0 ≤ R.frames ∧ 0 ≤ R.locals) (hK : va_K (dC, dI) vwCl [(cI, .int), (cZ, .boolean)] s) (hA : ∀ q, s.heap.size ≤ q → A q) : ∀ (n : Nat) (x1 : Int32) (x2 : Int32) (σ : rS) (H : Heap) (locs : List Loc) (ls : Array Slot), lv_has ls 3 [(0, .ref h), (1, .int x1), (2, .int x2)] → rO dC dI h a cI cZ A s.heap σ H locs → fx (R_find_b2_f Q ) n (x1, x2, σ) → W p l e R s m args below meth c H locs 0 0 (MQ below (va_Qi Q (rAt dC dI A h a cI cZ) A) args s 0 0 A) (F0 m 2 ls []) := by
  intro n
  induction n with
  | zero => intro x1 x2 σ H locs ls hl hO hw; exact False.elim hw
  | succ n k2 =>
    intro x1 x2 σ H locs ls hl hO hw
    have hw : R_find_b2_s Q (fun x1 x2 σ => fx (R_find_b2_f Q ) n (x1, x2, σ)) x1 x2 σ := hw
    unfold R_find_b2_s at hw
    refine lv_iload_n X.1 X.2.1 dX7_find_2 rfl (lv_at hl 2 rfl) ?_
    refine lv_aload_n X.1 X.2.1 dX7_find_3 rfl (lv_at hl 0 rfl) ?_
    refine rf_classes X hK hO dX7_find_4 ?_
    refine lv_icmp_ge (tgt := 28) X.1 X.2.1 dX7_find_7 rfl (fun hc9 => ?_) (fun hc9 => ?_)
    · have hw := hw.1 hc9
      refine lv_iconst (v := -1) X.1 X.2.1 dX7_find_28 (by decide) ?_
      exact W.iret (v := (-1 : Int32)) X.1 X.2.1 hr (fun t ht hW => ⟨⟨(-1 : Int32), σ, rfl, hw, rO_end hO hK ht hW⟩, hO.2.2.F ht⟩) hO.2.2.2.2 dX7_find_29 hlk
    · have hw := hw.2 hc9
      refine lv_aload_n X.1 X.2.1 dX7_find_10 rfl (lv_at hl 0 rfl) ?_
      refine rf_self X hK hO dX7_find_11 ?_
      refine lv_iload_n X.1 X.2.1 dX7_find_14 rfl (lv_at hl 2 rfl) ?_
      obtain ⟨g15, hw⟩ := hw
      refine ra_self X.1 X.2.1 hK hO g15 dX7_find_15 ?_
      refine lv_iload_n X.1 X.2.1 dX7_find_16 rfl (lv_at hl 1 rfl) ?_
      refine lv_icmp_ne (tgt := 22) X.1 X.2.1 dX7_find_17 rfl (fun hc9 => ?_) (fun hc9 => ?_)
      · have hw := hw.1 hc9
        obtain ⟨v22, e22⟩ : ∃ z, z = x2 + (1 : Int32) := ⟨_, rfl⟩
        have hw := hw v22 e22
        refine lv_iinc (lv' := [(2, .int v22), (0, .ref h), (1, .int x1)]) (k := 2) (v := v22) X.1 X.2.1 dX7_find_22 hl rfl (by rw [e22]; rfl) (by decide) rfl (fun ls hl => ?_)
        refine lv_goto (tgt := 2) X.1 X.2.1 dX7_find_25 rfl ?_
        exact k2 x1 v22 σ H locs ls (lv_sub hl [1, 2, 0] rfl) hO hw
      · have hw := hw.2 hc9
        refine lv_iload_n X.1 X.2.1 dX7_find_20 rfl (lv_at hl 2 rfl) ?_
        exact W.iret (v := x2) X.1 X.2.1 hr (fun t ht hW => ⟨⟨x2, σ, rfl, hw, rO_end hO hK ht hW⟩, hO.2.2.F ht⟩) hO.2.2.2.2 dX7_find_21 hlk
def R_find_b0 (Q : Int32 → rS → Prop) (x1 : Int32) (σ : rS) : Prop :=
 R_find_b2 Q x1 (0 : Int32) σ
set_option maxHeartbeats 4000000 in
set_option maxRecDepth 100000 in
theorem rB_find_0 {Q : Int32 → rS → Prop} (X : CallFix p m c cX7_find 3 s args wsX7_find RX7) (hr : meth.sig.returnType = (some .int)) (hlk : meth.locks = false) (hR : 0 ≤ R.frames ∧ 0 ≤ R.locals) (hK : va_K (dC, dI) vwCl [(cI, .int), (cZ, .boolean)] s) (hA : ∀ q, s.heap.size ≤ q → A q) (x1 : Int32) (σ : rS) (H : Heap) (locs : List Loc) (ls : Array Slot) (hl : lv_has ls 3 [(0, .ref h), (1, .int x1)]) (hO : rO dC dI h a cI cZ A s.heap σ H locs) (hw : R_find_b0 Q x1 σ) : W p l e R s m args below meth c H locs 0 0 (MQ below (va_Qi Q (rAt dC dI A h a cI cZ) A) args s 0 0 A) (F0 m 0 ls []) := by
  unfold R_find_b0 at hw
  refine lv_iconst (v := 0) X.1 X.2.1 dX7_find_0 (by decide) ?_
  refine lv_istore_n (lv' := [(2, .int (0 : Int32)), (0, .ref h), (1, .int x1)]) X.1 X.2.1 dX7_find_1 rfl hl (by decide) rfl (fun ls hl => ?_)
  obtain ⟨n, hw⟩ := hw
  exact rB_find_2 X hr hlk hR hK hA n x1 (0 : Int32) σ H locs ls (lv_sub hl [1, 2, 0] rfl) hO hw
def R_find_w (Q : Int32 → rS → Prop) (x1 : Int32) (σ : rS) : Prop := R_find_b0 Q x1 σ
abbrev rmX7_find : Room := { frames := 0, cells := 0, slots := 0, locals := 0 }
set_option maxHeartbeats 4000000 in
set_option maxRecDepth 100000 in
theorem rC_find (l : Launch) (dC : Nat → ClassId) (dI : Nat → Nat → Nat) (h : Nat) (a : Nat → Nat) (cI cZ : ClassId) (σ : rS) (sz : Nat) (x1 : Int32) (Q : Int32 → rS → Prop) (hw : R_find_w Q x1 σ) : Met l yX7_find wsX7_find rmX7_find (rPc dC dI h a cI cZ sz σ [.ref h, .int x1]) (va_Qi Q (rAt dC dI (va_A (rCells h a cI cZ σ) sz) h a cI cZ) (va_A (rCells h a cI cZ σ) sz)) 0 0 (va_A (rCells h a cI cZ σ) sz) := by
  refine Met.ofW (cc := cX7_find) (maxL := 3) (ret := (some .int)) (by decide) rfl ?_
  intro p e s m args below meth c s₁ B hml hv
  obtain ⟨hargs, hsz, hP, hK, hD0⟩ := hv
  have hts := atoms_spec (ws := wsX7_find) B.pre
  have hown : s.vm.findClass RX7 = some m.cls := findClass_of_methodNamed B.named
  subst hsz
  subst hargs
  have hD := hD0.self (sz := s.heap.size)
  generalize hAe : va_A (rCells h a cI cZ σ) s.heap.size = A at hD ⊢
  have hA : ∀ q : Nat, s.heap.size ≤ q → A q := fun q h => by rw [← hAe]; exact Or.inr h
  have hl := lv_entry ([.ref h, .int x1]) (n := 3) (Nat.le_of_ble_eq_true rfl)
  rw [lg_entry_eq]
  generalize (lg_sl ([.ref h, .int x1]) ++ List.replicate (3 - (lg_sl ([.ref h, .int x1])).length) Slot.unset).toArray = ls at hl ⊢
  have hl : lv_has ls 3 [(0, .ref h), (1, .int x1)] := hl
  unfold R_find_w at hw
  exact rB_find_0 ⟨B.exec, B.bytes, hml, hown, hts⟩ B.returns B.notSynchronized ⟨Nat.le_of_ble_eq_true rfl, Nat.le_of_ble_eq_true rfl⟩ hK hA x1 σ s.heap [] ls (lv_sub hl [0, 1] rfl) ⟨hP, hD, va_S.rf⟩ hw
def R_name_b18 (Q : Int32 → rS → Prop) (y0 : Int32) (σ : rS) : Prop :=
 Q y0 σ
set_option maxHeartbeats 4000000 in
set_option maxRecDepth 100000 in
theorem rB_name_18 {Q : Int32 → rS → Prop} (X : CallFix p m c cX7_name 2 s args wsX7_name RX7) (hr : meth.sig.returnType = (some .int)) (hlk : meth.locks = false) (hR : 1 ≤ R.frames ∧ 21 ≤ R.locals) (hK : va_K (dC, dI) vwCl [(cI, .int), (cZ, .boolean)] s) (hA : ∀ q, s.heap.size ≤ q → A q) (y0 : Int32) (σ : rS) (H : Heap) (locs : List Loc) (ls : Array Slot) (hl : lv_has ls 2 [(0, .ref h)]) (hO : rO dC dI h a cI cZ A s.heap σ H locs) (hw : R_name_b18 Q y0 σ) : W p l e R s m args below meth c H locs 0 0 (MQ below (va_Qi Q (rAt dC dI A h a cI cZ) A) args s 0 0 A) (F0 m 18 ls [.int y0]) := by
  unfold R_name_b18 at hw
  exact W.iret (v := y0) X.1 X.2.1 hr (fun t ht hW => ⟨⟨y0, σ, rfl, hw, rO_end hO hK ht hW⟩, hO.2.2.F ht⟩) hO.2.2.2.2 dX7_name_18 hlk
def R_name_b0 (Q : Int32 → rS → Prop) (x1 : Int32) (σ : rS) : Prop :=
 R_isClass_w (fun r2 t2 => (r2 = 0 → R_name_b18 Q (-1 : Int32) t2) ∧ (¬ r2 = 0 → vp_in x1 16 ∧ R_name_b18 Q (t2.2 10 x1.toNatClampNeg) t2)) x1 σ
set_option maxHeartbeats 4000000 in
set_option maxRecDepth 100000 in
theorem rB_name_0 {Q : Int32 → rS → Prop} (X : CallFix p m c cX7_name 2 s args wsX7_name RX7) (hr : meth.sig.returnType = (some .int)) (hlk : meth.locks = false) (hR : 1 ≤ R.frames ∧ 21 ≤ R.locals) (hK : va_K (dC, dI) vwCl [(cI, .int), (cZ, .boolean)] s) (hA : ∀ q, s.heap.size ≤ q → A q) (x1 : Int32) (σ : rS) (H : Heap) (locs : List Loc) (ls : Array Slot) (hl : lv_has ls 2 [(0, .ref h), (1, .int x1)]) (hO : rO dC dI h a cI cZ A s.heap σ H locs) (hw : R_name_b0 Q x1 σ) : W p l e R s m args below meth c H locs 0 0 (MQ below (va_Qi Q (rAt dC dI A h a cI cZ) A) args s 0 0 A) (F0 m 0 ls []) := by
  unfold R_name_b0 at hw
  refine lv_aload_n X.1 X.2.1 dX7_name_0 rfl (lv_at hl 0 rfl) ?_
  refine lv_iload_n X.1 X.2.1 dX7_name_1 rfl (lv_at hl 1 rfl) ?_
  refine r_calli (rest := []) (As := [.int x1]) X (rC_isClass l dC dI h a cI cZ σ H.size x1 _ hw) (cwV 1 X.2.2.2.2 gX7_isClass rfl rfl rfl hdX7_isClass ⟨Nat.le_trans (by decide) hR.1, Nat.le_trans (by decide) hR.2⟩) hK hA hO rfl hl.1 rfl (Nat.le_of_ble_eq_true rfl) dX7_name_2 (fun r2 t2 H locs hO hw => ?_)
  refine lv_if_eq (tgt := 17) X.1 X.2.1 dX7_name_5 rfl (fun hc9 => ?_) (fun hc9 => ?_)
  · have hw := hw.1 hc9
    refine lv_iconst (v := -1) X.1 X.2.1 dX7_name_17 (by decide) ?_
    exact rB_name_18 X hr hlk hR hK hA (-1 : Int32) t2 H locs ls (lv_sub hl [0] rfl) hO hw
  · have hw := hw.2 hc9
    refine lv_aload_n X.1 X.2.1 dX7_name_8 rfl (lv_at hl 0 rfl) ?_
    refine rf_self X hK hO dX7_name_9 ?_
    refine lv_iload_n X.1 X.2.1 dX7_name_12 rfl (lv_at hl 1 rfl) ?_
    obtain ⟨g13, hw⟩ := hw
    refine ra_self X.1 X.2.1 hK hO g13 dX7_name_13 ?_
    refine lv_goto (tgt := 18) X.1 X.2.1 dX7_name_14 rfl ?_
    exact rB_name_18 X hr hlk hR hK hA (t2.2 10 x1.toNatClampNeg) t2 H locs ls (lv_sub hl [0] rfl) hO hw
def R_name_w (Q : Int32 → rS → Prop) (x1 : Int32) (σ : rS) : Prop := R_name_b0 Q x1 σ
abbrev rmX7_name : Room := { frames := 1, cells := 0, slots := 0, locals := 21 }
set_option maxHeartbeats 4000000 in
set_option maxRecDepth 100000 in
theorem rC_name (l : Launch) (dC : Nat → ClassId) (dI : Nat → Nat → Nat) (h : Nat) (a : Nat → Nat) (cI cZ : ClassId) (σ : rS) (sz : Nat) (x1 : Int32) (Q : Int32 → rS → Prop) (hw : R_name_w Q x1 σ) : Met l yX7_name wsX7_name rmX7_name (rPc dC dI h a cI cZ sz σ [.ref h, .int x1]) (va_Qi Q (rAt dC dI (va_A (rCells h a cI cZ σ) sz) h a cI cZ) (va_A (rCells h a cI cZ σ) sz)) 0 0 (va_A (rCells h a cI cZ σ) sz) := by
  refine Met.ofW (cc := cX7_name) (maxL := 2) (ret := (some .int)) (by decide) rfl ?_
  intro p e s m args below meth c s₁ B hml hv
  obtain ⟨hargs, hsz, hP, hK, hD0⟩ := hv
  have hts := atoms_spec (ws := wsX7_name) B.pre
  have hown : s.vm.findClass RX7 = some m.cls := findClass_of_methodNamed B.named
  subst hsz
  subst hargs
  have hD := hD0.self (sz := s.heap.size)
  generalize hAe : va_A (rCells h a cI cZ σ) s.heap.size = A at hD ⊢
  have hA : ∀ q : Nat, s.heap.size ≤ q → A q := fun q h => by rw [← hAe]; exact Or.inr h
  have hl := lv_entry ([.ref h, .int x1]) (n := 2) (Nat.le_of_ble_eq_true rfl)
  rw [lg_entry_eq]
  generalize (lg_sl ([.ref h, .int x1]) ++ List.replicate (2 - (lg_sl ([.ref h, .int x1])).length) Slot.unset).toArray = ls at hl ⊢
  have hl : lv_has ls 2 [(0, .ref h), (1, .int x1)] := hl
  unfold R_name_w at hw
  exact rB_name_0 ⟨B.exec, B.bytes, hml, hown, hts⟩ B.returns B.notSynchronized ⟨Nat.le_of_ble_eq_true rfl, Nat.le_of_ble_eq_true rfl⟩ hK hA x1 σ s.heap [] ls (lv_sub hl [0, 1] rfl) ⟨hP, hD, va_S.rf⟩ hw
def R_flags_b18 (Q : Int32 → rS → Prop) (y0 : Int32) (σ : rS) : Prop :=
 Q y0 σ
set_option maxHeartbeats 4000000 in
set_option maxRecDepth 100000 in
theorem rB_flags_18 {Q : Int32 → rS → Prop} (X : CallFix p m c cX7_flags 2 s args wsX7_flags RX7) (hr : meth.sig.returnType = (some .int)) (hlk : meth.locks = false) (hR : 1 ≤ R.frames ∧ 21 ≤ R.locals) (hK : va_K (dC, dI) vwCl [(cI, .int), (cZ, .boolean)] s) (hA : ∀ q, s.heap.size ≤ q → A q) (y0 : Int32) (σ : rS) (H : Heap) (locs : List Loc) (ls : Array Slot) (hl : lv_has ls 2 [(0, .ref h)]) (hO : rO dC dI h a cI cZ A s.heap σ H locs) (hw : R_flags_b18 Q y0 σ) : W p l e R s m args below meth c H locs 0 0 (MQ below (va_Qi Q (rAt dC dI A h a cI cZ) A) args s 0 0 A) (F0 m 18 ls [.int y0]) := by
  unfold R_flags_b18 at hw
  exact W.iret (v := y0) X.1 X.2.1 hr (fun t ht hW => ⟨⟨y0, σ, rfl, hw, rO_end hO hK ht hW⟩, hO.2.2.F ht⟩) hO.2.2.2.2 dX7_flags_18 hlk
def R_flags_b0 (Q : Int32 → rS → Prop) (x1 : Int32) (σ : rS) : Prop :=
 R_isClass_w (fun r2 t2 => (r2 = 0 → R_flags_b18 Q (-1 : Int32) t2) ∧ (¬ r2 = 0 → vp_in x1 16 ∧ R_flags_b18 Q (t2.2 9 x1.toNatClampNeg) t2)) x1 σ
set_option maxHeartbeats 4000000 in
set_option maxRecDepth 100000 in
theorem rB_flags_0 {Q : Int32 → rS → Prop} (X : CallFix p m c cX7_flags 2 s args wsX7_flags RX7) (hr : meth.sig.returnType = (some .int)) (hlk : meth.locks = false) (hR : 1 ≤ R.frames ∧ 21 ≤ R.locals) (hK : va_K (dC, dI) vwCl [(cI, .int), (cZ, .boolean)] s) (hA : ∀ q, s.heap.size ≤ q → A q) (x1 : Int32) (σ : rS) (H : Heap) (locs : List Loc) (ls : Array Slot) (hl : lv_has ls 2 [(0, .ref h), (1, .int x1)]) (hO : rO dC dI h a cI cZ A s.heap σ H locs) (hw : R_flags_b0 Q x1 σ) : W p l e R s m args below meth c H locs 0 0 (MQ below (va_Qi Q (rAt dC dI A h a cI cZ) A) args s 0 0 A) (F0 m 0 ls []) := by
  unfold R_flags_b0 at hw
  refine lv_aload_n X.1 X.2.1 dX7_flags_0 rfl (lv_at hl 0 rfl) ?_
  refine lv_iload_n X.1 X.2.1 dX7_flags_1 rfl (lv_at hl 1 rfl) ?_
  refine r_calli (rest := []) (As := [.int x1]) X (rC_isClass l dC dI h a cI cZ σ H.size x1 _ hw) (cwV 1 X.2.2.2.2 gX7_isClass rfl rfl rfl hdX7_isClass ⟨Nat.le_trans (by decide) hR.1, Nat.le_trans (by decide) hR.2⟩) hK hA hO rfl hl.1 rfl (Nat.le_of_ble_eq_true rfl) dX7_flags_2 (fun r2 t2 H locs hO hw => ?_)
  refine lv_if_eq (tgt := 17) X.1 X.2.1 dX7_flags_5 rfl (fun hc9 => ?_) (fun hc9 => ?_)
  · have hw := hw.1 hc9
    refine lv_iconst (v := -1) X.1 X.2.1 dX7_flags_17 (by decide) ?_
    exact rB_flags_18 X hr hlk hR hK hA (-1 : Int32) t2 H locs ls (lv_sub hl [0] rfl) hO hw
  · have hw := hw.2 hc9
    refine lv_aload_n X.1 X.2.1 dX7_flags_8 rfl (lv_at hl 0 rfl) ?_
    refine rf_flag X hK hO dX7_flags_9 ?_
    refine lv_iload_n X.1 X.2.1 dX7_flags_12 rfl (lv_at hl 1 rfl) ?_
    obtain ⟨g13, hw⟩ := hw
    refine ra_flag X.1 X.2.1 hK hO g13 dX7_flags_13 ?_
    refine lv_goto (tgt := 18) X.1 X.2.1 dX7_flags_14 rfl ?_
    exact rB_flags_18 X hr hlk hR hK hA (t2.2 9 x1.toNatClampNeg) t2 H locs ls (lv_sub hl [0] rfl) hO hw
def R_flags_w (Q : Int32 → rS → Prop) (x1 : Int32) (σ : rS) : Prop := R_flags_b0 Q x1 σ
abbrev rmX7_flags : Room := { frames := 1, cells := 0, slots := 0, locals := 21 }
set_option maxHeartbeats 4000000 in
set_option maxRecDepth 100000 in
theorem rC_flags (l : Launch) (dC : Nat → ClassId) (dI : Nat → Nat → Nat) (h : Nat) (a : Nat → Nat) (cI cZ : ClassId) (σ : rS) (sz : Nat) (x1 : Int32) (Q : Int32 → rS → Prop) (hw : R_flags_w Q x1 σ) : Met l yX7_flags wsX7_flags rmX7_flags (rPc dC dI h a cI cZ sz σ [.ref h, .int x1]) (va_Qi Q (rAt dC dI (va_A (rCells h a cI cZ σ) sz) h a cI cZ) (va_A (rCells h a cI cZ σ) sz)) 0 0 (va_A (rCells h a cI cZ σ) sz) := by
  refine Met.ofW (cc := cX7_flags) (maxL := 2) (ret := (some .int)) (by decide) rfl ?_
  intro p e s m args below meth c s₁ B hml hv
  obtain ⟨hargs, hsz, hP, hK, hD0⟩ := hv
  have hts := atoms_spec (ws := wsX7_flags) B.pre
  have hown : s.vm.findClass RX7 = some m.cls := findClass_of_methodNamed B.named
  subst hsz
  subst hargs
  have hD := hD0.self (sz := s.heap.size)
  generalize hAe : va_A (rCells h a cI cZ σ) s.heap.size = A at hD ⊢
  have hA : ∀ q : Nat, s.heap.size ≤ q → A q := fun q h => by rw [← hAe]; exact Or.inr h
  have hl := lv_entry ([.ref h, .int x1]) (n := 2) (Nat.le_of_ble_eq_true rfl)
  rw [lg_entry_eq]
  generalize (lg_sl ([.ref h, .int x1]) ++ List.replicate (2 - (lg_sl ([.ref h, .int x1])).length) Slot.unset).toArray = ls at hl ⊢
  have hl : lv_has ls 2 [(0, .ref h), (1, .int x1)] := hl
  unfold R_flags_w at hw
  exact rB_flags_0 ⟨B.exec, B.bytes, hml, hown, hts⟩ B.returns B.notSynchronized ⟨Nat.le_of_ble_eq_true rfl, Nat.le_of_ble_eq_true rfl⟩ hK hA x1 σ s.heap [] ls (lv_sub hl [0, 1] rfl) ⟨hP, hD, va_S.rf⟩ hw
def R_superName_b18 (Q : Int32 → rS → Prop) (y0 : Int32) (σ : rS) : Prop :=
 Q y0 σ
set_option maxHeartbeats 4000000 in
set_option maxRecDepth 100000 in
theorem rB_superName_18 {Q : Int32 → rS → Prop} (X : CallFix p m c cX7_superName 2 s args wsX7_superName RX7) (hr : meth.sig.returnType = (some .int)) (hlk : meth.locks = false) (hR : 1 ≤ R.frames ∧ 21 ≤ R.locals) (hK : va_K (dC, dI) vwCl [(cI, .int), (cZ, .boolean)] s) (hA : ∀ q, s.heap.size ≤ q → A q) (y0 : Int32) (σ : rS) (H : Heap) (locs : List Loc) (ls : Array Slot) (hl : lv_has ls 2 [(0, .ref h)]) (hO : rO dC dI h a cI cZ A s.heap σ H locs) (hw : R_superName_b18 Q y0 σ) : W p l e R s m args below meth c H locs 0 0 (MQ below (va_Qi Q (rAt dC dI A h a cI cZ) A) args s 0 0 A) (F0 m 18 ls [.int y0]) := by
  unfold R_superName_b18 at hw
  exact W.iret (v := y0) X.1 X.2.1 hr (fun t ht hW => ⟨⟨y0, σ, rfl, hw, rO_end hO hK ht hW⟩, hO.2.2.F ht⟩) hO.2.2.2.2 dX7_superName_18 hlk
def R_superName_b0 (Q : Int32 → rS → Prop) (x1 : Int32) (σ : rS) : Prop :=
 R_isClass_w (fun r2 t2 => (r2 = 0 → R_superName_b18 Q (-1 : Int32) t2) ∧ (¬ r2 = 0 → vp_in x1 16 ∧ R_superName_b18 Q (t2.2 11 x1.toNatClampNeg) t2)) x1 σ
set_option maxHeartbeats 4000000 in
set_option maxRecDepth 100000 in
theorem rB_superName_0 {Q : Int32 → rS → Prop} (X : CallFix p m c cX7_superName 2 s args wsX7_superName RX7) (hr : meth.sig.returnType = (some .int)) (hlk : meth.locks = false) (hR : 1 ≤ R.frames ∧ 21 ≤ R.locals) (hK : va_K (dC, dI) vwCl [(cI, .int), (cZ, .boolean)] s) (hA : ∀ q, s.heap.size ≤ q → A q) (x1 : Int32) (σ : rS) (H : Heap) (locs : List Loc) (ls : Array Slot) (hl : lv_has ls 2 [(0, .ref h), (1, .int x1)]) (hO : rO dC dI h a cI cZ A s.heap σ H locs) (hw : R_superName_b0 Q x1 σ) : W p l e R s m args below meth c H locs 0 0 (MQ below (va_Qi Q (rAt dC dI A h a cI cZ) A) args s 0 0 A) (F0 m 0 ls []) := by
  unfold R_superName_b0 at hw
  refine lv_aload_n X.1 X.2.1 dX7_superName_0 rfl (lv_at hl 0 rfl) ?_
  refine lv_iload_n X.1 X.2.1 dX7_superName_1 rfl (lv_at hl 1 rfl) ?_
  refine r_calli (rest := []) (As := [.int x1]) X (rC_isClass l dC dI h a cI cZ σ H.size x1 _ hw) (cwV 1 X.2.2.2.2 gX7_isClass rfl rfl rfl hdX7_isClass ⟨Nat.le_trans (by decide) hR.1, Nat.le_trans (by decide) hR.2⟩) hK hA hO rfl hl.1 rfl (Nat.le_of_ble_eq_true rfl) dX7_superName_2 (fun r2 t2 H locs hO hw => ?_)
  refine lv_if_eq (tgt := 17) X.1 X.2.1 dX7_superName_5 rfl (fun hc9 => ?_) (fun hc9 => ?_)
  · have hw := hw.1 hc9
    refine lv_iconst (v := -1) X.1 X.2.1 dX7_superName_17 (by decide) ?_
    exact rB_superName_18 X hr hlk hR hK hA (-1 : Int32) t2 H locs ls (lv_sub hl [0] rfl) hO hw
  · have hw := hw.2 hc9
    refine lv_aload_n X.1 X.2.1 dX7_superName_8 rfl (lv_at hl 0 rfl) ?_
    refine rf_above X hK hO dX7_superName_9 ?_
    refine lv_iload_n X.1 X.2.1 dX7_superName_12 rfl (lv_at hl 1 rfl) ?_
    obtain ⟨g13, hw⟩ := hw
    refine ra_above X.1 X.2.1 hK hO g13 dX7_superName_13 ?_
    refine lv_goto (tgt := 18) X.1 X.2.1 dX7_superName_14 rfl ?_
    exact rB_superName_18 X hr hlk hR hK hA (t2.2 11 x1.toNatClampNeg) t2 H locs ls (lv_sub hl [0] rfl) hO hw
def R_superName_w (Q : Int32 → rS → Prop) (x1 : Int32) (σ : rS) : Prop := R_superName_b0 Q x1 σ
abbrev rmX7_superName : Room := { frames := 1, cells := 0, slots := 0, locals := 21 }
set_option maxHeartbeats 4000000 in
set_option maxRecDepth 100000 in
theorem rC_superName (l : Launch) (dC : Nat → ClassId) (dI : Nat → Nat → Nat) (h : Nat) (a : Nat → Nat) (cI cZ : ClassId) (σ : rS) (sz : Nat) (x1 : Int32) (Q : Int32 → rS → Prop) (hw : R_superName_w Q x1 σ) : Met l yX7_superName wsX7_superName rmX7_superName (rPc dC dI h a cI cZ sz σ [.ref h, .int x1]) (va_Qi Q (rAt dC dI (va_A (rCells h a cI cZ σ) sz) h a cI cZ) (va_A (rCells h a cI cZ σ) sz)) 0 0 (va_A (rCells h a cI cZ σ) sz) := by
  refine Met.ofW (cc := cX7_superName) (maxL := 2) (ret := (some .int)) (by decide) rfl ?_
  intro p e s m args below meth c s₁ B hml hv
  obtain ⟨hargs, hsz, hP, hK, hD0⟩ := hv
  have hts := atoms_spec (ws := wsX7_superName) B.pre
  have hown : s.vm.findClass RX7 = some m.cls := findClass_of_methodNamed B.named
  subst hsz
  subst hargs
  have hD := hD0.self (sz := s.heap.size)
  generalize hAe : va_A (rCells h a cI cZ σ) s.heap.size = A at hD ⊢
  have hA : ∀ q : Nat, s.heap.size ≤ q → A q := fun q h => by rw [← hAe]; exact Or.inr h
  have hl := lv_entry ([.ref h, .int x1]) (n := 2) (Nat.le_of_ble_eq_true rfl)
  rw [lg_entry_eq]
  generalize (lg_sl ([.ref h, .int x1]) ++ List.replicate (2 - (lg_sl ([.ref h, .int x1])).length) Slot.unset).toArray = ls at hl ⊢
  have hl : lv_has ls 2 [(0, .ref h), (1, .int x1)] := hl
  unfold R_superName_w at hw
  exact rB_superName_0 ⟨B.exec, B.bytes, hml, hown, hts⟩ B.returns B.notSynchronized ⟨Nat.le_of_ble_eq_true rfl, Nat.le_of_ble_eq_true rfl⟩ hK hA x1 σ s.heap [] ls (lv_sub hl [0, 1] rfl) ⟨hP, hD, va_S.rf⟩ hw
def R_typeOf_b0 (Q : Int32 → rS → Prop) (x1 : Int32) (x2 : Int32) (σ : rS) : Prop :=
 vp_in (((4 : Int32) * x1) + x2) 64 ∧ vp_in (σ.2 16 (((4 : Int32) * x1) + x2).toNatClampNeg) 1920 ∧ vp_in (((13 : Int32) * x1) + (σ.2 2 (σ.2 16 (((4 : Int32) * x1) + x2).toNatClampNeg).toNatClampNeg)) 208 ∧ Q (σ.2 8 (((13 : Int32) * x1) + (σ.2 2 (σ.2 16 (((4 : Int32) * x1) + x2).toNatClampNeg).toNatClampNeg)).toNatClampNeg) σ
set_option maxHeartbeats 4000000 in
set_option maxRecDepth 100000 in
theorem rB_typeOf_0 {Q : Int32 → rS → Prop} (X : CallFix p m c cX7_typeOf 3 s args wsX7_typeOf RX7) (hr : meth.sig.returnType = (some .int)) (hlk : meth.locks = false) (hR : 0 ≤ R.frames ∧ 0 ≤ R.locals) (hK : va_K (dC, dI) vwCl [(cI, .int), (cZ, .boolean)] s) (hA : ∀ q, s.heap.size ≤ q → A q) (x1 : Int32) (x2 : Int32) (σ : rS) (H : Heap) (locs : List Loc) (ls : Array Slot) (hl : lv_has ls 3 [(0, .ref h), (1, .int x1), (2, .int x2)]) (hO : rO dC dI h a cI cZ A s.heap σ H locs) (hw : R_typeOf_b0 Q x1 x2 σ) : W p l e R s m args below meth c H locs 0 0 (MQ below (va_Qi Q (rAt dC dI A h a cI cZ) A) args s 0 0 A) (F0 m 0 ls []) := by
  unfold R_typeOf_b0 at hw
  refine lv_aload_n X.1 X.2.1 dX7_typeOf_0 rfl (lv_at hl 0 rfl) ?_
  refine rf_text X hK hO dX7_typeOf_1 ?_
  refine lv_bipush (v := 13) X.1 X.2.1 dX7_typeOf_4 (by decide) ?_
  refine lv_iload_n X.1 X.2.1 dX7_typeOf_6 rfl (lv_at hl 1 rfl) ?_
  refine lv_imul X.1 X.2.1 dX7_typeOf_7 ?_
  refine lv_aload_n X.1 X.2.1 dX7_typeOf_8 rfl (lv_at hl 0 rfl) ?_
  refine rf_bytes X hK hO dX7_typeOf_9 ?_
  refine lv_aload_n X.1 X.2.1 dX7_typeOf_12 rfl (lv_at hl 0 rfl) ?_
  refine rf_note X hK hO dX7_typeOf_13 ?_
  refine lv_iconst (v := 4) X.1 X.2.1 dX7_typeOf_16 (by decide) ?_
  refine lv_iload_n X.1 X.2.1 dX7_typeOf_17 rfl (lv_at hl 1 rfl) ?_
  refine lv_imul X.1 X.2.1 dX7_typeOf_18 ?_
  refine lv_iload_n X.1 X.2.1 dX7_typeOf_19 rfl (lv_at hl 2 rfl) ?_
  refine lv_iadd X.1 X.2.1 dX7_typeOf_20 ?_
  obtain ⟨g21, hw⟩ := hw
  refine ra_note X.1 X.2.1 hK hO g21 dX7_typeOf_21 ?_
  obtain ⟨g22, hw⟩ := hw
  refine ra_bytes X.1 X.2.1 hK hO g22 dX7_typeOf_22 ?_
  refine lv_iadd X.1 X.2.1 dX7_typeOf_23 ?_
  obtain ⟨g24, hw⟩ := hw
  refine ra_text X.1 X.2.1 hK hO g24 dX7_typeOf_24 ?_
  exact W.iret (v := (σ.2 8 (((13 : Int32) * x1) + (σ.2 2 (σ.2 16 (((4 : Int32) * x1) + x2).toNatClampNeg).toNatClampNeg)).toNatClampNeg)) X.1 X.2.1 hr (fun t ht hW => ⟨⟨(σ.2 8 (((13 : Int32) * x1) + (σ.2 2 (σ.2 16 (((4 : Int32) * x1) + x2).toNatClampNeg).toNatClampNeg)).toNatClampNeg), σ, rfl, hw, rO_end hO hK ht hW⟩, hO.2.2.F ht⟩) hO.2.2.2.2 dX7_typeOf_25 hlk
def R_typeOf_w (Q : Int32 → rS → Prop) (x1 : Int32) (x2 : Int32) (σ : rS) : Prop := R_typeOf_b0 Q x1 x2 σ
abbrev rmX7_typeOf : Room := { frames := 0, cells := 0, slots := 0, locals := 0 }
set_option maxHeartbeats 4000000 in
set_option maxRecDepth 100000 in
theorem rC_typeOf (l : Launch) (dC : Nat → ClassId) (dI : Nat → Nat → Nat) (h : Nat) (a : Nat → Nat) (cI cZ : ClassId) (σ : rS) (sz : Nat) (x1 : Int32) (x2 : Int32) (Q : Int32 → rS → Prop) (hw : R_typeOf_w Q x1 x2 σ) : Met l yX7_typeOf wsX7_typeOf rmX7_typeOf (rPc dC dI h a cI cZ sz σ [.ref h, .int x1, .int x2]) (va_Qi Q (rAt dC dI (va_A (rCells h a cI cZ σ) sz) h a cI cZ) (va_A (rCells h a cI cZ σ) sz)) 0 0 (va_A (rCells h a cI cZ σ) sz) := by
  refine Met.ofW (cc := cX7_typeOf) (maxL := 3) (ret := (some .int)) (by decide) rfl ?_
  intro p e s m args below meth c s₁ B hml hv
  obtain ⟨hargs, hsz, hP, hK, hD0⟩ := hv
  have hts := atoms_spec (ws := wsX7_typeOf) B.pre
  have hown : s.vm.findClass RX7 = some m.cls := findClass_of_methodNamed B.named
  subst hsz
  subst hargs
  have hD := hD0.self (sz := s.heap.size)
  generalize hAe : va_A (rCells h a cI cZ σ) s.heap.size = A at hD ⊢
  have hA : ∀ q : Nat, s.heap.size ≤ q → A q := fun q h => by rw [← hAe]; exact Or.inr h
  have hl := lv_entry ([.ref h, .int x1, .int x2]) (n := 3) (Nat.le_of_ble_eq_true rfl)
  rw [lg_entry_eq]
  generalize (lg_sl ([.ref h, .int x1, .int x2]) ++ List.replicate (3 - (lg_sl ([.ref h, .int x1, .int x2])).length) Slot.unset).toArray = ls at hl ⊢
  have hl : lv_has ls 3 [(0, .ref h), (1, .int x1), (2, .int x2)] := hl
  unfold R_typeOf_w at hw
  exact rB_typeOf_0 ⟨B.exec, B.bytes, hml, hown, hts⟩ B.returns B.notSynchronized ⟨Nat.le_of_ble_eq_true rfl, Nat.le_of_ble_eq_true rfl⟩ hK hA x1 x2 σ s.heap [] ls (lv_sub hl [0, 1, 2] rfl) ⟨hP, hD, va_S.rf⟩ hw
def R_markAbove_b143 (Q : Int32 → rS → Prop) (x3 : Int32) (σ : rS) : Prop :=
 zb x3 ∧ Q x3 σ
set_option maxHeartbeats 4000000 in
set_option maxRecDepth 100000 in
theorem rB_markAbove_143 {Q : Int32 → rS → Prop} (X : CallFix p m c cX7_markAbove 7 s args wsX7_markAbove RX7) (hr : meth.sig.returnType = (some .boolean)) (hlk : meth.locks = false) (hR : 1 ≤ R.frames ∧ 22 ≤ R.locals) (hK : va_K (dC, dI) vwCl [(cI, .int), (cZ, .boolean)] s) (hA : ∀ q, s.heap.size ≤ q → A q) (x3 : Int32) (σ : rS) (H : Heap) (locs : List Loc) (ls : Array Slot) (hl : lv_has ls 7 [(0, .ref h), (3, .int x3)]) (hO : rO dC dI h a cI cZ A s.heap σ H locs) (hw : R_markAbove_b143 Q x3 σ) : W p l e R s m args below meth c H locs 0 0 (MQ below (va_Qi Q (rAt dC dI A h a cI cZ) A) args s 0 0 A) (F0 m 143 ls []) := by
  unfold R_markAbove_b143 at hw
  refine lv_iload_n X.1 X.2.1 dX7_markAbove_143 rfl (lv_at hl 1 rfl) ?_
  obtain ⟨hz, hw⟩ := hw
  exact W.zret (v := x3) X.1 X.2.1 hr hz (fun t ht hW => ⟨⟨x3, σ, rfl, hw, rO_end hO hK ht hW⟩, hO.2.2.F ht⟩) hO.2.2.2.2 dX7_markAbove_144 hlk
def R_markAbove_b130 (Q : Int32 → rS → Prop) (x1 : Int32) (y0 : Int32) (σ : rS) : Prop :=
 vp_in x1 16 ∧ vp_in (σ.2 11 x1.toNatClampNeg) 192 ∧ ∀ t142 : rS, t142 = rA σ 27 (σ.2 11 x1.toNatClampNeg) (vp_nar .boolean (1 : Int32)) → R_markAbove_b143 Q y0 t142
set_option maxHeartbeats 4000000 in
set_option maxRecDepth 100000 in
theorem rB_markAbove_130 {Q : Int32 → rS → Prop} (X : CallFix p m c cX7_markAbove 7 s args wsX7_markAbove RX7) (hr : meth.sig.returnType = (some .boolean)) (hlk : meth.locks = false) (hR : 1 ≤ R.frames ∧ 22 ≤ R.locals) (hK : va_K (dC, dI) vwCl [(cI, .int), (cZ, .boolean)] s) (hA : ∀ q, s.heap.size ≤ q → A q) (x1 : Int32) (y0 : Int32) (σ : rS) (H : Heap) (locs : List Loc) (ls : Array Slot) (hl : lv_has ls 7 [(0, .ref h), (1, .int x1)]) (hO : rO dC dI h a cI cZ A s.heap σ H locs) (hw : R_markAbove_b130 Q x1 y0 σ) : W p l e R s m args below meth c H locs 0 0 (MQ below (va_Qi Q (rAt dC dI A h a cI cZ) A) args s 0 0 A) (F0 m 130 ls [.int y0]) := by
  unfold R_markAbove_b130 at hw
  refine lv_istore_n (lv' := [(3, .int y0), (0, .ref h), (1, .int x1)]) X.1 X.2.1 dX7_markAbove_130 rfl hl (by decide) rfl (fun ls hl => ?_)
  refine lv_aload_n X.1 X.2.1 dX7_markAbove_131 rfl (lv_at hl 1 rfl) ?_
  refine rf_marked X hK hO dX7_markAbove_132 ?_
  refine lv_aload_n X.1 X.2.1 dX7_markAbove_135 rfl (lv_at hl 1 rfl) ?_
  refine rf_above X hK hO dX7_markAbove_136 ?_
  refine lv_iload_n X.1 X.2.1 dX7_markAbove_139 rfl (lv_at hl 2 rfl) ?_
  obtain ⟨g140, hw⟩ := hw
  refine ra_above X.1 X.2.1 hK hO g140 dX7_markAbove_140 ?_
  refine lv_iconst (v := 1) X.1 X.2.1 dX7_markAbove_141 (by decide) ?_
  obtain ⟨g142, hw⟩ := hw
  refine rs_marked X.1 X.2.1 hK hO g142 dX7_markAbove_142 (fun H locs hO => ?_)
  obtain ⟨t142, e142⟩ : ∃ z, z = rA σ 27 (σ.2 11 x1.toNatClampNeg) (vp_nar .boolean (1 : Int32)) := ⟨_, rfl⟩
  have hw := hw t142 e142
  rw [← e142] at hO
  exact rB_markAbove_143 X hr hlk hR hK hA y0 t142 H locs ls (lv_sub hl [1, 0] rfl) hO hw
def R_markAbove_b125 (Q : Int32 → rS → Prop) (x1 : Int32) (σ : rS) : Prop :=
 R_markAbove_b130 Q x1 (1 : Int32) σ
set_option maxHeartbeats 4000000 in
set_option maxRecDepth 100000 in
theorem rB_markAbove_125 {Q : Int32 → rS → Prop} (X : CallFix p m c cX7_markAbove 7 s args wsX7_markAbove RX7) (hr : meth.sig.returnType = (some .boolean)) (hlk : meth.locks = false) (hR : 1 ≤ R.frames ∧ 22 ≤ R.locals) (hK : va_K (dC, dI) vwCl [(cI, .int), (cZ, .boolean)] s) (hA : ∀ q, s.heap.size ≤ q → A q) (x1 : Int32) (σ : rS) (H : Heap) (locs : List Loc) (ls : Array Slot) (hl : lv_has ls 7 [(0, .ref h), (1, .int x1)]) (hO : rO dC dI h a cI cZ A s.heap σ H locs) (hw : R_markAbove_b125 Q x1 σ) : W p l e R s m args below meth c H locs 0 0 (MQ below (va_Qi Q (rAt dC dI A h a cI cZ) A) args s 0 0 A) (F0 m 125 ls []) := by
  unfold R_markAbove_b125 at hw
  refine lv_iconst (v := 1) X.1 X.2.1 dX7_markAbove_125 (by decide) ?_
  refine lv_goto (tgt := 130) X.1 X.2.1 dX7_markAbove_126 rfl ?_
  exact rB_markAbove_130 X hr hlk hR hK hA x1 (1 : Int32) σ H locs ls (lv_sub hl [0, 1] rfl) hO hw
def R_markAbove_b79 (Q : Int32 → rS → Prop) (K26 : Int32 → Int32 → Int32 → Int32 → Int32 → rS → Prop) (x1 : Int32) (x2 : Int32) (x4 : Int32) (x5 : Int32) (x6 : Int32) (y0 : Int32) (σ : rS) : Prop :=
 vp_in x6 192 ∧ ∀ t87 : rS, t87 = rA σ 27 x6 (vp_nar .boolean (1 : Int32)) → ∀ v88 : Int32, v88 = x5 + (1 : Int32) → K26 x1 x2 y0 x4 v88 t87
set_option maxHeartbeats 4000000 in
set_option maxRecDepth 100000 in
theorem rB_markAbove_79 {Q : Int32 → rS → Prop} {K26 : Int32 → Int32 → Int32 → Int32 → Int32 → rS → Prop} (X : CallFix p m c cX7_markAbove 7 s args wsX7_markAbove RX7) (hr : meth.sig.returnType = (some .boolean)) (hlk : meth.locks = false) (hR : 1 ≤ R.frames ∧ 22 ≤ R.locals) (hK : va_K (dC, dI) vwCl [(cI, .int), (cZ, .boolean)] s) (hA : ∀ q, s.heap.size ≤ q → A q) (k26 : ∀ (x1 : Int32) (x2 : Int32) (x3 : Int32) (x4 : Int32) (x5 : Int32) (σ : rS) (H : Heap) (locs : List Loc) (ls : Array Slot), lv_has ls 7 [(0, .ref h), (1, .int x1), (2, .int x2), (3, .int x3), (4, .int x4), (5, .int x5)] → rO dC dI h a cI cZ A s.heap σ H locs → K26 x1 x2 x3 x4 x5 σ → W p l e R s m args below meth c H locs 0 0 (MQ below (va_Qi Q (rAt dC dI A h a cI cZ) A) args s 0 0 A) (F0 m 26 ls [])) (x1 : Int32) (x2 : Int32) (x4 : Int32) (x5 : Int32) (x6 : Int32) (y0 : Int32) (σ : rS) (H : Heap) (locs : List Loc) (ls : Array Slot) (hl : lv_has ls 7 [(0, .ref h), (1, .int x1), (2, .int x2), (4, .int x4), (5, .int x5), (6, .int x6)]) (hO : rO dC dI h a cI cZ A s.heap σ H locs) (hw : R_markAbove_b79 Q K26 x1 x2 x4 x5 x6 y0 σ) : W p l e R s m args below meth c H locs 0 0 (MQ below (va_Qi Q (rAt dC dI A h a cI cZ) A) args s 0 0 A) (F0 m 79 ls [.int y0]) := by
  unfold R_markAbove_b79 at hw
  refine lv_istore_n (lv' := [(3, .int y0), (0, .ref h), (1, .int x1), (2, .int x2), (4, .int x4), (5, .int x5), (6, .int x6)]) X.1 X.2.1 dX7_markAbove_79 rfl hl (by decide) rfl (fun ls hl => ?_)
  refine lv_aload_n X.1 X.2.1 dX7_markAbove_80 rfl (lv_at hl 1 rfl) ?_
  refine rf_marked X hK hO dX7_markAbove_81 ?_
  refine lv_iload X.1 X.2.1 dX7_markAbove_84 (lv_at hl 6 rfl) ?_
  refine lv_iconst (v := 1) X.1 X.2.1 dX7_markAbove_86 (by decide) ?_
  obtain ⟨g87, hw⟩ := hw
  refine rs_marked X.1 X.2.1 hK hO g87 dX7_markAbove_87 (fun H locs hO => ?_)
  obtain ⟨t87, e87⟩ : ∃ z, z = rA σ 27 x6 (vp_nar .boolean (1 : Int32)) := ⟨_, rfl⟩
  have hw := hw t87 e87
  rw [← e87] at hO
  obtain ⟨v88, e88⟩ : ∃ z, z = x5 + (1 : Int32) := ⟨_, rfl⟩
  have hw := hw v88 e88
  refine lv_iinc (lv' := [(5, .int v88), (3, .int y0), (0, .ref h), (1, .int x1), (2, .int x2), (4, .int x4), (6, .int x6)]) (k := 5) (v := v88) X.1 X.2.1 dX7_markAbove_88 hl rfl (by rw [e88]; rfl) (by decide) rfl (fun ls hl => ?_)
  refine lv_goto (tgt := 26) X.1 X.2.1 dX7_markAbove_91 rfl ?_
  exact k26 x1 x2 y0 x4 v88 t87 H locs ls (lv_sub hl [2, 3, 4, 1, 5, 0] rfl) hO hw
def R_markAbove_b74 (Q : Int32 → rS → Prop) (K26 : Int32 → Int32 → Int32 → Int32 → Int32 → rS → Prop) (x1 : Int32) (x2 : Int32) (x4 : Int32) (x5 : Int32) (x6 : Int32) (σ : rS) : Prop :=
 R_markAbove_b79 Q K26 x1 x2 x4 x5 x6 (1 : Int32) σ
set_option maxHeartbeats 4000000 in
set_option maxRecDepth 100000 in
theorem rB_markAbove_74 {Q : Int32 → rS → Prop} {K26 : Int32 → Int32 → Int32 → Int32 → Int32 → rS → Prop} (X : CallFix p m c cX7_markAbove 7 s args wsX7_markAbove RX7) (hr : meth.sig.returnType = (some .boolean)) (hlk : meth.locks = false) (hR : 1 ≤ R.frames ∧ 22 ≤ R.locals) (hK : va_K (dC, dI) vwCl [(cI, .int), (cZ, .boolean)] s) (hA : ∀ q, s.heap.size ≤ q → A q) (k26 : ∀ (x1 : Int32) (x2 : Int32) (x3 : Int32) (x4 : Int32) (x5 : Int32) (σ : rS) (H : Heap) (locs : List Loc) (ls : Array Slot), lv_has ls 7 [(0, .ref h), (1, .int x1), (2, .int x2), (3, .int x3), (4, .int x4), (5, .int x5)] → rO dC dI h a cI cZ A s.heap σ H locs → K26 x1 x2 x3 x4 x5 σ → W p l e R s m args below meth c H locs 0 0 (MQ below (va_Qi Q (rAt dC dI A h a cI cZ) A) args s 0 0 A) (F0 m 26 ls [])) (x1 : Int32) (x2 : Int32) (x4 : Int32) (x5 : Int32) (x6 : Int32) (σ : rS) (H : Heap) (locs : List Loc) (ls : Array Slot) (hl : lv_has ls 7 [(0, .ref h), (1, .int x1), (2, .int x2), (4, .int x4), (5, .int x5), (6, .int x6)]) (hO : rO dC dI h a cI cZ A s.heap σ H locs) (hw : R_markAbove_b74 Q K26 x1 x2 x4 x5 x6 σ) : W p l e R s m args below meth c H locs 0 0 (MQ below (va_Qi Q (rAt dC dI A h a cI cZ) A) args s 0 0 A) (F0 m 74 ls []) := by
  unfold R_markAbove_b74 at hw
  refine lv_iconst (v := 1) X.1 X.2.1 dX7_markAbove_74 (by decide) ?_
  refine lv_goto (tgt := 79) X.1 X.2.1 dX7_markAbove_75 rfl ?_
  exact rB_markAbove_79 X hr hlk hR hK hA k26 x1 x2 x4 x5 x6 (1 : Int32) σ H locs ls (lv_sub hl [0, 1, 2, 3, 4, 5] rfl) hO hw
def R_markAbove_b58 (Q : Int32 → rS → Prop) (K26 : Int32 → Int32 → Int32 → Int32 → Int32 → rS → Prop) (x1 : Int32) (x2 : Int32) (x3 : Int32) (x4 : Int32) (x5 : Int32) (y0 : Int32) (σ : rS) : Prop :=
 (¬ x3 = 0 → R_markAbove_b74 Q K26 x1 x2 x4 x5 y0 σ) ∧ (x3 = 0 → vp_in y0 192 ∧ (¬ (σ.2 27 y0.toNatClampNeg) = 0 → R_markAbove_b79 Q K26 x1 x2 x4 x5 y0 (0 : Int32) σ) ∧ ((σ.2 27 y0.toNatClampNeg) = 0 → R_markAbove_b74 Q K26 x1 x2 x4 x5 y0 σ))
set_option maxHeartbeats 4000000 in
set_option maxRecDepth 100000 in
theorem rB_markAbove_58 {Q : Int32 → rS → Prop} {K26 : Int32 → Int32 → Int32 → Int32 → Int32 → rS → Prop} (X : CallFix p m c cX7_markAbove 7 s args wsX7_markAbove RX7) (hr : meth.sig.returnType = (some .boolean)) (hlk : meth.locks = false) (hR : 1 ≤ R.frames ∧ 22 ≤ R.locals) (hK : va_K (dC, dI) vwCl [(cI, .int), (cZ, .boolean)] s) (hA : ∀ q, s.heap.size ≤ q → A q) (k26 : ∀ (x1 : Int32) (x2 : Int32) (x3 : Int32) (x4 : Int32) (x5 : Int32) (σ : rS) (H : Heap) (locs : List Loc) (ls : Array Slot), lv_has ls 7 [(0, .ref h), (1, .int x1), (2, .int x2), (3, .int x3), (4, .int x4), (5, .int x5)] → rO dC dI h a cI cZ A s.heap σ H locs → K26 x1 x2 x3 x4 x5 σ → W p l e R s m args below meth c H locs 0 0 (MQ below (va_Qi Q (rAt dC dI A h a cI cZ) A) args s 0 0 A) (F0 m 26 ls [])) (x1 : Int32) (x2 : Int32) (x3 : Int32) (x4 : Int32) (x5 : Int32) (y0 : Int32) (σ : rS) (H : Heap) (locs : List Loc) (ls : Array Slot) (hl : lv_has ls 7 [(0, .ref h), (1, .int x1), (2, .int x2), (3, .int x3), (4, .int x4), (5, .int x5)]) (hO : rO dC dI h a cI cZ A s.heap σ H locs) (hw : R_markAbove_b58 Q K26 x1 x2 x3 x4 x5 y0 σ) : W p l e R s m args below meth c H locs 0 0 (MQ below (va_Qi Q (rAt dC dI A h a cI cZ) A) args s 0 0 A) (F0 m 58 ls [.int y0]) := by
  unfold R_markAbove_b58 at hw
  refine lv_istore (lv' := [(6, .int y0), (0, .ref h), (1, .int x1), (2, .int x2), (3, .int x3), (4, .int x4), (5, .int x5)]) X.1 X.2.1 dX7_markAbove_58 hl (by decide) rfl (fun ls hl => ?_)
  refine lv_iload_n X.1 X.2.1 dX7_markAbove_60 rfl (lv_at hl 4 rfl) ?_
  refine lv_if_ne (tgt := 74) X.1 X.2.1 dX7_markAbove_61 rfl (fun hc9 => ?_) (fun hc9 => ?_)
  · have hw := hw.1 hc9
    exact rB_markAbove_74 X hr hlk hR hK hA k26 x1 x2 x4 x5 y0 σ H locs ls (lv_sub hl [1, 2, 3, 5, 6, 0] rfl) hO hw
  · have hw := hw.2 hc9
    refine lv_aload_n X.1 X.2.1 dX7_markAbove_64 rfl (lv_at hl 1 rfl) ?_
    refine rf_marked X hK hO dX7_markAbove_65 ?_
    refine lv_iload X.1 X.2.1 dX7_markAbove_68 (lv_at hl 0 rfl) ?_
    obtain ⟨g70, hw⟩ := hw
    refine ra_marked X.1 X.2.1 hK hO g70 dX7_markAbove_70 ?_
    refine lv_if_ne (tgt := 78) X.1 X.2.1 dX7_markAbove_71 rfl (fun hc9 => ?_) (fun hc9 => ?_)
    · have hw := hw.1 hc9
      refine lv_iconst (v := 0) X.1 X.2.1 dX7_markAbove_78 (by decide) ?_
      exact rB_markAbove_79 X hr hlk hR hK hA k26 x1 x2 x4 x5 y0 (0 : Int32) σ H locs ls (lv_sub hl [1, 2, 3, 5, 6, 0] rfl) hO hw
    · have hw := hw.2 hc9
      exact rB_markAbove_74 X hr hlk hR hK hA k26 x1 x2 x4 x5 y0 σ H locs ls (lv_sub hl [1, 2, 3, 5, 6, 0] rfl) hO hw
def R_markAbove_b26_s (Q : Int32 → rS → Prop) (K26 : Int32 → Int32 → Int32 → Int32 → Int32 → rS → Prop) (x1 : Int32) (x2 : Int32) (x3 : Int32) (x4 : Int32) (x5 : Int32) (σ : rS) : Prop :=
 (x4 ≤ x5 → (¬ x2 = 0 → R_markAbove_b143 Q x3 σ) ∧ (x2 = 0 → vp_in x1 16 ∧ ((σ.2 11 x1.toNatClampNeg) < 0 → R_markAbove_b143 Q x3 σ) ∧ (¬ (σ.2 11 x1.toNatClampNeg) < 0 → (¬ x3 = 0 → R_markAbove_b125 Q x1 σ) ∧ (x3 = 0 → vp_in x1 16 ∧ vp_in (σ.2 11 x1.toNatClampNeg) 192 ∧ (¬ (σ.2 27 (σ.2 11 x1.toNatClampNeg).toNatClampNeg) = 0 → R_markAbove_b130 Q x1 (0 : Int32) σ) ∧ ((σ.2 27 (σ.2 11 x1.toNatClampNeg).toNatClampNeg) = 0 → R_markAbove_b125 Q x1 σ))))) ∧ (¬ x4 ≤ x5 → (x2 = 0 → vp_in (((4 : Int32) * x1) + x5) 64 ∧ R_markAbove_b58 Q K26 x1 x2 x3 x4 x5 (σ.2 14 (((4 : Int32) * x1) + x5).toNatClampNeg) σ) ∧ (¬ x2 = 0 → R_typeOf_w (fun r41 t41 => R_markAbove_b58 Q K26 x1 x2 x3 x4 x5 r41 t41) x1 x5 σ))
def R_markAbove_b26_f (Q : Int32 → rS → Prop) : (Int32 × Int32 × Int32 × Int32 × Int32 × rS → Prop) → Int32 × Int32 × Int32 × Int32 × Int32 × rS → Prop :=
 fun K z => R_markAbove_b26_s Q (fun x1 x2 x3 x4 x5 σ => K (x1, x2, x3, x4, x5, σ)) z.1 z.2.1 z.2.2.1 z.2.2.2.1 z.2.2.2.2.1 z.2.2.2.2.2
def R_markAbove_b26 (Q : Int32 → rS → Prop) (x1 : Int32) (x2 : Int32) (x3 : Int32) (x4 : Int32) (x5 : Int32) (σ : rS) : Prop := ∃ n, fx (R_markAbove_b26_f Q ) n (x1, x2, x3, x4, x5, σ)
set_option maxHeartbeats 4000000 in
set_option maxRecDepth 100000 in
theorem rB_markAbove_26 {Q : Int32 → rS → Prop} (X : CallFix p m c cX7_markAbove 7 s args wsX7_markAbove RX7) (hr : meth.sig.returnType = (some .boolean)) (hlk : meth.locks = false) (hR : 1 ≤ R.frames ∧ 22 ≤ R.locals) (hK : va_K (dC, dI) vwCl [(cI, .int), (cZ, .boolean)] s) (hA : ∀ q, s.heap.size ≤ q → A q) : ∀ (n : Nat) (x1 : Int32) (x2 : Int32) (x3 : Int32) (x4 : Int32) (x5 : Int32) (σ : rS) (H : Heap) (locs : List Loc) (ls : Array Slot), lv_has ls 7 [(0, .ref h), (1, .int x1), (2, .int x2), (3, .int x3), (4, .int x4), (5, .int x5)] → rO dC dI h a cI cZ A s.heap σ H locs → fx (R_markAbove_b26_f Q ) n (x1, x2, x3, x4, x5, σ) → W p l e R s m args below meth c H locs 0 0 (MQ below (va_Qi Q (rAt dC dI A h a cI cZ) A) args s 0 0 A) (F0 m 26 ls []) := by
  intro n
  induction n with
  | zero => intro x1 x2 x3 x4 x5 σ H locs ls hl hO hw; exact False.elim hw
  | succ n k26 =>
    intro x1 x2 x3 x4 x5 σ H locs ls hl hO hw
    have hw : R_markAbove_b26_s Q (fun x1 x2 x3 x4 x5 σ => fx (R_markAbove_b26_f Q ) n (x1, x2, x3, x4, x5, σ)) x1 x2 x3 x4 x5 σ := hw
    unfold R_markAbove_b26_s at hw
    refine lv_iload X.1 X.2.1 dX7_markAbove_26 (lv_at hl 5 rfl) ?_
    refine lv_iload X.1 X.2.1 dX7_markAbove_28 (lv_at hl 4 rfl) ?_
    refine lv_icmp_ge (tgt := 94) X.1 X.2.1 dX7_markAbove_30 rfl (fun hc9 => ?_) (fun hc9 => ?_)
    · have hw := hw.1 hc9
      refine lv_iload_n X.1 X.2.1 dX7_markAbove_94 rfl (lv_at hl 2 rfl) ?_
      refine lv_if_ne (tgt := 143) X.1 X.2.1 dX7_markAbove_95 rfl (fun hc9 => ?_) (fun hc9 => ?_)
      · have hw := hw.1 hc9
        exact rB_markAbove_143 X hr hlk hR hK hA x3 σ H locs ls (lv_sub hl [0, 3] rfl) hO hw
      · have hw := hw.2 hc9
        refine lv_aload_n X.1 X.2.1 dX7_markAbove_98 rfl (lv_at hl 0 rfl) ?_
        refine rf_above X hK hO dX7_markAbove_99 ?_
        refine lv_iload_n X.1 X.2.1 dX7_markAbove_102 rfl (lv_at hl 1 rfl) ?_
        obtain ⟨g103, hw⟩ := hw
        refine ra_above X.1 X.2.1 hK hO g103 dX7_markAbove_103 ?_
        refine lv_if_lt (tgt := 143) X.1 X.2.1 dX7_markAbove_104 rfl (fun hc9 => ?_) (fun hc9 => ?_)
        · have hw := hw.1 hc9
          exact rB_markAbove_143 X hr hlk hR hK hA x3 σ H locs ls (lv_sub hl [0, 3] rfl) hO hw
        · have hw := hw.2 hc9
          refine lv_iload_n X.1 X.2.1 dX7_markAbove_107 rfl (lv_at hl 3 rfl) ?_
          refine lv_if_ne (tgt := 125) X.1 X.2.1 dX7_markAbove_108 rfl (fun hc9 => ?_) (fun hc9 => ?_)
          · have hw := hw.1 hc9
            exact rB_markAbove_125 X hr hlk hR hK hA x1 σ H locs ls (lv_sub hl [0, 1] rfl) hO hw
          · have hw := hw.2 hc9
            refine lv_aload_n X.1 X.2.1 dX7_markAbove_111 rfl (lv_at hl 0 rfl) ?_
            refine rf_marked X hK hO dX7_markAbove_112 ?_
            refine lv_aload_n X.1 X.2.1 dX7_markAbove_115 rfl (lv_at hl 0 rfl) ?_
            refine rf_above X hK hO dX7_markAbove_116 ?_
            refine lv_iload_n X.1 X.2.1 dX7_markAbove_119 rfl (lv_at hl 1 rfl) ?_
            obtain ⟨g120, hw⟩ := hw
            refine ra_above X.1 X.2.1 hK hO g120 dX7_markAbove_120 ?_
            obtain ⟨g121, hw⟩ := hw
            refine ra_marked X.1 X.2.1 hK hO g121 dX7_markAbove_121 ?_
            refine lv_if_ne (tgt := 129) X.1 X.2.1 dX7_markAbove_122 rfl (fun hc9 => ?_) (fun hc9 => ?_)
            · have hw := hw.1 hc9
              refine lv_iconst (v := 0) X.1 X.2.1 dX7_markAbove_129 (by decide) ?_
              exact rB_markAbove_130 X hr hlk hR hK hA x1 (0 : Int32) σ H locs ls (lv_sub hl [0, 1] rfl) hO hw
            · have hw := hw.2 hc9
              exact rB_markAbove_125 X hr hlk hR hK hA x1 σ H locs ls (lv_sub hl [0, 1] rfl) hO hw
    · have hw := hw.2 hc9
      refine lv_iload_n X.1 X.2.1 dX7_markAbove_33 rfl (lv_at hl 2 rfl) ?_
      refine lv_if_eq (tgt := 47) X.1 X.2.1 dX7_markAbove_34 rfl (fun hc9 => ?_) (fun hc9 => ?_)
      · have hw := hw.1 hc9
        refine lv_aload_n X.1 X.2.1 dX7_markAbove_47 rfl (lv_at hl 0 rfl) ?_
        refine rf_face X hK hO dX7_markAbove_48 ?_
        refine lv_iconst (v := 4) X.1 X.2.1 dX7_markAbove_51 (by decide) ?_
        refine lv_iload_n X.1 X.2.1 dX7_markAbove_52 rfl (lv_at hl 1 rfl) ?_
        refine lv_imul X.1 X.2.1 dX7_markAbove_53 ?_
        refine lv_iload X.1 X.2.1 dX7_markAbove_54 (lv_at hl 5 rfl) ?_
        refine lv_iadd X.1 X.2.1 dX7_markAbove_56 ?_
        obtain ⟨g57, hw⟩ := hw
        refine ra_face X.1 X.2.1 hK hO g57 dX7_markAbove_57 ?_
        exact rB_markAbove_58 X hr hlk hR hK hA k26 x1 x2 x3 x4 x5 (σ.2 14 (((4 : Int32) * x1) + x5).toNatClampNeg) σ H locs ls (lv_sub hl [0, 1, 2, 3, 4, 5] rfl) hO hw
      · have hw := hw.2 hc9
        refine lv_aload_n X.1 X.2.1 dX7_markAbove_37 rfl (lv_at hl 0 rfl) ?_
        refine lv_iload_n X.1 X.2.1 dX7_markAbove_38 rfl (lv_at hl 1 rfl) ?_
        refine lv_iload X.1 X.2.1 dX7_markAbove_39 (lv_at hl 5 rfl) ?_
        refine r_calli (rest := []) (As := [.int x1, .int x5]) X (rC_typeOf l dC dI h a cI cZ σ H.size x1 x5 _ hw) (cwV 2 X.2.2.2.2 gX7_typeOf rfl rfl rfl hdX7_typeOf ⟨Nat.le_trans (by decide) hR.1, Nat.le_trans (by decide) hR.2⟩) hK hA hO rfl hl.1 rfl (Nat.le_of_ble_eq_true rfl) dX7_markAbove_41 (fun r41 t41 H locs hO hw => ?_)
        refine lv_goto (tgt := 58) X.1 X.2.1 dX7_markAbove_44 rfl ?_
        exact rB_markAbove_58 X hr hlk hR hK hA k26 x1 x2 x3 x4 x5 r41 t41 H locs ls (lv_sub hl [0, 1, 2, 3, 4, 5] rfl) hO hw
def R_markAbove_b21 (Q : Int32 → rS → Prop) (x1 : Int32) (x2 : Int32) (x3 : Int32) (y0 : Int32) (σ : rS) : Prop :=
 R_markAbove_b26 Q x1 x2 x3 y0 (0 : Int32) σ
set_option maxHeartbeats 4000000 in
set_option maxRecDepth 100000 in
theorem rB_markAbove_21 {Q : Int32 → rS → Prop} (X : CallFix p m c cX7_markAbove 7 s args wsX7_markAbove RX7) (hr : meth.sig.returnType = (some .boolean)) (hlk : meth.locks = false) (hR : 1 ≤ R.frames ∧ 22 ≤ R.locals) (hK : va_K (dC, dI) vwCl [(cI, .int), (cZ, .boolean)] s) (hA : ∀ q, s.heap.size ≤ q → A q) (x1 : Int32) (x2 : Int32) (x3 : Int32) (y0 : Int32) (σ : rS) (H : Heap) (locs : List Loc) (ls : Array Slot) (hl : lv_has ls 7 [(0, .ref h), (1, .int x1), (2, .int x2), (3, .int x3)]) (hO : rO dC dI h a cI cZ A s.heap σ H locs) (hw : R_markAbove_b21 Q x1 x2 x3 y0 σ) : W p l e R s m args below meth c H locs 0 0 (MQ below (va_Qi Q (rAt dC dI A h a cI cZ) A) args s 0 0 A) (F0 m 21 ls [.int y0]) := by
  unfold R_markAbove_b21 at hw
  refine lv_istore (lv' := [(4, .int y0), (0, .ref h), (1, .int x1), (2, .int x2), (3, .int x3)]) X.1 X.2.1 dX7_markAbove_21 hl (by decide) rfl (fun ls hl => ?_)
  refine lv_iconst (v := 0) X.1 X.2.1 dX7_markAbove_23 (by decide) ?_
  refine lv_istore (lv' := [(5, .int (0 : Int32)), (4, .int y0), (0, .ref h), (1, .int x1), (2, .int x2), (3, .int x3)]) X.1 X.2.1 dX7_markAbove_24 hl (by decide) rfl (fun ls hl => ?_)
  obtain ⟨n, hw⟩ := hw
  exact rB_markAbove_26 X hr hlk hR hK hA n x1 x2 x3 y0 (0 : Int32) σ H locs ls (lv_sub hl [2, 3, 4, 5, 1, 0] rfl) hO hw
def R_markAbove_b0 (Q : Int32 → rS → Prop) (x1 : Int32) (x2 : Int32) (σ : rS) : Prop :=
 (x2 = 0 → vp_in x1 16 ∧ R_markAbove_b21 Q x1 x2 (0 : Int32) (σ.2 13 x1.toNatClampNeg) σ) ∧ (¬ x2 = 0 → vp_in x1 16 ∧ R_markAbove_b21 Q x1 x2 (0 : Int32) (σ.2 15 x1.toNatClampNeg) σ)
set_option maxHeartbeats 4000000 in
set_option maxRecDepth 100000 in
theorem rB_markAbove_0 {Q : Int32 → rS → Prop} (X : CallFix p m c cX7_markAbove 7 s args wsX7_markAbove RX7) (hr : meth.sig.returnType = (some .boolean)) (hlk : meth.locks = false) (hR : 1 ≤ R.frames ∧ 22 ≤ R.locals) (hK : va_K (dC, dI) vwCl [(cI, .int), (cZ, .boolean)] s) (hA : ∀ q, s.heap.size ≤ q → A q) (x1 : Int32) (x2 : Int32) (σ : rS) (H : Heap) (locs : List Loc) (ls : Array Slot) (hl : lv_has ls 7 [(0, .ref h), (1, .int x1), (2, .int x2)]) (hO : rO dC dI h a cI cZ A s.heap σ H locs) (hw : R_markAbove_b0 Q x1 x2 σ) : W p l e R s m args below meth c H locs 0 0 (MQ below (va_Qi Q (rAt dC dI A h a cI cZ) A) args s 0 0 A) (F0 m 0 ls []) := by
  unfold R_markAbove_b0 at hw
  refine lv_iconst (v := 0) X.1 X.2.1 dX7_markAbove_0 (by decide) ?_
  refine lv_istore_n (lv' := [(3, .int (0 : Int32)), (0, .ref h), (1, .int x1), (2, .int x2)]) X.1 X.2.1 dX7_markAbove_1 rfl hl (by decide) rfl (fun ls hl => ?_)
  refine lv_iload_n X.1 X.2.1 dX7_markAbove_2 rfl (lv_at hl 3 rfl) ?_
  refine lv_if_eq (tgt := 15) X.1 X.2.1 dX7_markAbove_3 rfl (fun hc9 => ?_) (fun hc9 => ?_)
  · have hw := hw.1 hc9
    refine lv_aload_n X.1 X.2.1 dX7_markAbove_15 rfl (lv_at hl 1 rfl) ?_
    refine rf_faceCount X hK hO dX7_markAbove_16 ?_
    refine lv_iload_n X.1 X.2.1 dX7_markAbove_19 rfl (lv_at hl 2 rfl) ?_
    obtain ⟨g20, hw⟩ := hw
    refine ra_faceCount X.1 X.2.1 hK hO g20 dX7_markAbove_20 ?_
    exact rB_markAbove_21 X hr hlk hR hK hA x1 x2 (0 : Int32) (σ.2 13 x1.toNatClampNeg) σ H locs ls (lv_sub hl [1, 2, 3, 0] rfl) hO hw
  · have hw := hw.2 hc9
    refine lv_aload_n X.1 X.2.1 dX7_markAbove_6 rfl (lv_at hl 1 rfl) ?_
    refine rf_noteCount X hK hO dX7_markAbove_7 ?_
    refine lv_iload_n X.1 X.2.1 dX7_markAbove_10 rfl (lv_at hl 2 rfl) ?_
    obtain ⟨g11, hw⟩ := hw
    refine ra_noteCount X.1 X.2.1 hK hO g11 dX7_markAbove_11 ?_
    refine lv_goto (tgt := 21) X.1 X.2.1 dX7_markAbove_12 rfl ?_
    exact rB_markAbove_21 X hr hlk hR hK hA x1 x2 (0 : Int32) (σ.2 15 x1.toNatClampNeg) σ H locs ls (lv_sub hl [1, 2, 3, 0] rfl) hO hw
def R_markAbove_w (Q : Int32 → rS → Prop) (x1 : Int32) (x2 : Int32) (σ : rS) : Prop := R_markAbove_b0 Q x1 x2 σ
abbrev rmX7_markAbove : Room := { frames := 1, cells := 0, slots := 0, locals := 22 }
set_option maxHeartbeats 4000000 in
set_option maxRecDepth 100000 in
theorem rC_markAbove (l : Launch) (dC : Nat → ClassId) (dI : Nat → Nat → Nat) (h : Nat) (a : Nat → Nat) (cI cZ : ClassId) (σ : rS) (sz : Nat) (x1 : Int32) (x2 : Int32) (Q : Int32 → rS → Prop) (hw : R_markAbove_w Q x1 x2 σ) : Met l yX7_markAbove wsX7_markAbove rmX7_markAbove (rPc dC dI h a cI cZ sz σ [.ref h, .int x1, .int x2]) (va_Qi Q (rAt dC dI (va_A (rCells h a cI cZ σ) sz) h a cI cZ) (va_A (rCells h a cI cZ σ) sz)) 0 0 (va_A (rCells h a cI cZ σ) sz) := by
  refine Met.ofW (cc := cX7_markAbove) (maxL := 7) (ret := (some .boolean)) (by decide) rfl ?_
  intro p e s m args below meth c s₁ B hml hv
  obtain ⟨hargs, hsz, hP, hK, hD0⟩ := hv
  have hts := atoms_spec (ws := wsX7_markAbove) B.pre
  have hown : s.vm.findClass RX7 = some m.cls := findClass_of_methodNamed B.named
  subst hsz
  subst hargs
  have hD := hD0.self (sz := s.heap.size)
  generalize hAe : va_A (rCells h a cI cZ σ) s.heap.size = A at hD ⊢
  have hA : ∀ q : Nat, s.heap.size ≤ q → A q := fun q h => by rw [← hAe]; exact Or.inr h
  have hl := lv_entry ([.ref h, .int x1, .int x2]) (n := 7) (Nat.le_of_ble_eq_true rfl)
  rw [lg_entry_eq]
  generalize (lg_sl ([.ref h, .int x1, .int x2]) ++ List.replicate (7 - (lg_sl ([.ref h, .int x1, .int x2])).length) Slot.unset).toArray = ls at hl ⊢
  have hl : lv_has ls 7 [(0, .ref h), (1, .int x1), (2, .int x2)] := hl
  unfold R_markAbove_w at hw
  exact rB_markAbove_0 ⟨B.exec, B.bytes, hml, hown, hts⟩ B.returns B.notSynchronized ⟨Nat.le_of_ble_eq_true rfl, Nat.le_of_ble_eq_true rfl⟩ hK hA x1 x2 σ s.heap [] ls (lv_sub hl [0, 1, 2] rfl) ⟨hP, hD, va_S.rf⟩ hw
end
end
section
section
variable {p : Program} {l : Launch} {e : Env} {R : Room} {s : State} {m : MethodId} {args : Array Value} {below : List Frame} {meth : Method} {c : Code}
variable {dC : Nat → ClassId} {dI : Nat → Nat → Nat} {h : Nat} {a : Nat → Nat} {cI cZ : ClassId} {A : Nat → Prop}
def R_reaches_b126 (Q : Int32 → rS → Prop) (x2 : Int32) (σ : rS) : Prop :=
 vp_in x2 192 ∧ zb (σ.2 27 x2.toNatClampNeg) ∧ Q (σ.2 27 x2.toNatClampNeg) σ
set_option maxHeartbeats 4000000 in
set_option maxRecDepth 100000 in
theorem rB_reaches_126 {Q : Int32 → rS → Prop} (X : CallFix p m c cX7_reaches 8 s args wsX7_reaches RX7) (hr : meth.sig.returnType = (some .boolean)) (hlk : meth.locks = false) (hR : 2 ≤ R.frames ∧ 48 ≤ R.locals) (hK : va_K (dC, dI) vwCl [(cI, .int), (cZ, .boolean)] s) (hA : ∀ q, s.heap.size ≤ q → A q) (x2 : Int32) (σ : rS) (H : Heap) (locs : List Loc) (ls : Array Slot) (hl : lv_has ls 8 [(0, .ref h), (2, .int x2)]) (hO : rO dC dI h a cI cZ A s.heap σ H locs) (hw : R_reaches_b126 Q x2 σ) : W p l e R s m args below meth c H locs 0 0 (MQ below (va_Qi Q (rAt dC dI A h a cI cZ) A) args s 0 0 A) (F0 m 126 ls []) := by
  unfold R_reaches_b126 at hw
  refine lv_aload_n X.1 X.2.1 dX7_reaches_126 rfl (lv_at hl 0 rfl) ?_
  refine rf_marked X hK hO dX7_reaches_127 ?_
  refine lv_iload_n X.1 X.2.1 dX7_reaches_130 rfl (lv_at hl 1 rfl) ?_
  obtain ⟨g131, hw⟩ := hw
  refine ra_marked X.1 X.2.1 hK hO g131 dX7_reaches_131 ?_
  obtain ⟨hz, hw⟩ := hw
  exact W.zret (v := (σ.2 27 x2.toNatClampNeg)) X.1 X.2.1 hr hz (fun t ht hW => ⟨⟨(σ.2 27 x2.toNatClampNeg), σ, rfl, hw, rO_end hO hK ht hW⟩, hO.2.2.F ht⟩) hO.2.2.2.2 dX7_reaches_132 hlk
def R_reaches_b112 (Q : Int32 → rS → Prop) (K37 : Int32 → Int32 → Int32 → Int32 → rS → Prop) (K56 : Int32 → Int32 → Int32 → Int32 → Int32 → rS → Prop) (x2 : Int32) (x3 : Int32) (x5 : Int32) (x6 : Int32) (y0 : Int32) (σ : rS) : Prop :=
 ∀ v114 : Int32, v114 = x6 + (1 : Int32) → K56 x2 x3 y0 x5 v114 σ
set_option maxHeartbeats 4000000 in
set_option maxRecDepth 100000 in
theorem rB_reaches_112 {Q : Int32 → rS → Prop} {K37 : Int32 → Int32 → Int32 → Int32 → rS → Prop} {K56 : Int32 → Int32 → Int32 → Int32 → Int32 → rS → Prop} (X : CallFix p m c cX7_reaches 8 s args wsX7_reaches RX7) (hr : meth.sig.returnType = (some .boolean)) (hlk : meth.locks = false) (hR : 2 ≤ R.frames ∧ 48 ≤ R.locals) (hK : va_K (dC, dI) vwCl [(cI, .int), (cZ, .boolean)] s) (hA : ∀ q, s.heap.size ≤ q → A q) (k37 : ∀ (x2 : Int32) (x3 : Int32) (x4 : Int32) (x5 : Int32) (σ : rS) (H : Heap) (locs : List Loc) (ls : Array Slot), lv_has ls 8 [(0, .ref h), (2, .int x2), (3, .int x3), (4, .int x4), (5, .int x5)] → rO dC dI h a cI cZ A s.heap σ H locs → K37 x2 x3 x4 x5 σ → W p l e R s m args below meth c H locs 0 0 (MQ below (va_Qi Q (rAt dC dI A h a cI cZ) A) args s 0 0 A) (F0 m 37 ls [])) (k56 : ∀ (x2 : Int32) (x3 : Int32) (x4 : Int32) (x5 : Int32) (x6 : Int32) (σ : rS) (H : Heap) (locs : List Loc) (ls : Array Slot), lv_has ls 8 [(0, .ref h), (2, .int x2), (3, .int x3), (4, .int x4), (5, .int x5), (6, .int x6)] → rO dC dI h a cI cZ A s.heap σ H locs → K56 x2 x3 x4 x5 x6 σ → W p l e R s m args below meth c H locs 0 0 (MQ below (va_Qi Q (rAt dC dI A h a cI cZ) A) args s 0 0 A) (F0 m 56 ls [])) (x2 : Int32) (x3 : Int32) (x5 : Int32) (x6 : Int32) (y0 : Int32) (σ : rS) (H : Heap) (locs : List Loc) (ls : Array Slot) (hl : lv_has ls 8 [(0, .ref h), (2, .int x2), (3, .int x3), (5, .int x5), (6, .int x6)]) (hO : rO dC dI h a cI cZ A s.heap σ H locs) (hw : R_reaches_b112 Q K37 K56 x2 x3 x5 x6 y0 σ) : W p l e R s m args below meth c H locs 0 0 (MQ below (va_Qi Q (rAt dC dI A h a cI cZ) A) args s 0 0 A) (F0 m 112 ls [.int y0]) := by
  unfold R_reaches_b112 at hw
  refine lv_istore (lv' := [(4, .int y0), (0, .ref h), (2, .int x2), (3, .int x3), (5, .int x5), (6, .int x6)]) X.1 X.2.1 dX7_reaches_112 hl (by decide) rfl (fun ls hl => ?_)
  obtain ⟨v114, e114⟩ : ∃ z, z = x6 + (1 : Int32) := ⟨_, rfl⟩
  have hw := hw v114 e114
  refine lv_iinc (lv' := [(6, .int v114), (4, .int y0), (0, .ref h), (2, .int x2), (3, .int x3), (5, .int x5)]) (k := 5) (v := v114) X.1 X.2.1 dX7_reaches_114 hl rfl (by rw [e114]; rfl) (by decide) rfl (fun ls hl => ?_)
  refine lv_goto (tgt := 56) X.1 X.2.1 dX7_reaches_117 rfl ?_
  exact k56 x2 x3 y0 x5 v114 σ H locs ls (lv_sub hl [2, 3, 4, 1, 5, 0] rfl) hO hw
def R_reaches_b107 (Q : Int32 → rS → Prop) (K37 : Int32 → Int32 → Int32 → Int32 → rS → Prop) (K56 : Int32 → Int32 → Int32 → Int32 → Int32 → rS → Prop) (x2 : Int32) (x3 : Int32) (x5 : Int32) (x6 : Int32) (σ : rS) : Prop :=
 R_reaches_b112 Q K37 K56 x2 x3 x5 x6 (1 : Int32) σ
set_option maxHeartbeats 4000000 in
set_option maxRecDepth 100000 in
theorem rB_reaches_107 {Q : Int32 → rS → Prop} {K37 : Int32 → Int32 → Int32 → Int32 → rS → Prop} {K56 : Int32 → Int32 → Int32 → Int32 → Int32 → rS → Prop} (X : CallFix p m c cX7_reaches 8 s args wsX7_reaches RX7) (hr : meth.sig.returnType = (some .boolean)) (hlk : meth.locks = false) (hR : 2 ≤ R.frames ∧ 48 ≤ R.locals) (hK : va_K (dC, dI) vwCl [(cI, .int), (cZ, .boolean)] s) (hA : ∀ q, s.heap.size ≤ q → A q) (k37 : ∀ (x2 : Int32) (x3 : Int32) (x4 : Int32) (x5 : Int32) (σ : rS) (H : Heap) (locs : List Loc) (ls : Array Slot), lv_has ls 8 [(0, .ref h), (2, .int x2), (3, .int x3), (4, .int x4), (5, .int x5)] → rO dC dI h a cI cZ A s.heap σ H locs → K37 x2 x3 x4 x5 σ → W p l e R s m args below meth c H locs 0 0 (MQ below (va_Qi Q (rAt dC dI A h a cI cZ) A) args s 0 0 A) (F0 m 37 ls [])) (k56 : ∀ (x2 : Int32) (x3 : Int32) (x4 : Int32) (x5 : Int32) (x6 : Int32) (σ : rS) (H : Heap) (locs : List Loc) (ls : Array Slot), lv_has ls 8 [(0, .ref h), (2, .int x2), (3, .int x3), (4, .int x4), (5, .int x5), (6, .int x6)] → rO dC dI h a cI cZ A s.heap σ H locs → K56 x2 x3 x4 x5 x6 σ → W p l e R s m args below meth c H locs 0 0 (MQ below (va_Qi Q (rAt dC dI A h a cI cZ) A) args s 0 0 A) (F0 m 56 ls [])) (x2 : Int32) (x3 : Int32) (x5 : Int32) (x6 : Int32) (σ : rS) (H : Heap) (locs : List Loc) (ls : Array Slot) (hl : lv_has ls 8 [(0, .ref h), (2, .int x2), (3, .int x3), (5, .int x5), (6, .int x6)]) (hO : rO dC dI h a cI cZ A s.heap σ H locs) (hw : R_reaches_b107 Q K37 K56 x2 x3 x5 x6 σ) : W p l e R s m args below meth c H locs 0 0 (MQ below (va_Qi Q (rAt dC dI A h a cI cZ) A) args s 0 0 A) (F0 m 107 ls []) := by
  unfold R_reaches_b107 at hw
  refine lv_iconst (v := 1) X.1 X.2.1 dX7_reaches_107 (by decide) ?_
  refine lv_goto (tgt := 112) X.1 X.2.1 dX7_reaches_108 rfl ?_
  exact rB_reaches_112 X hr hlk hR hK hA k37 k56 x2 x3 x5 x6 (1 : Int32) σ H locs ls (lv_sub hl [0, 1, 2, 3, 4] rfl) hO hw
def R_reaches_b95 (Q : Int32 → rS → Prop) (K37 : Int32 → Int32 → Int32 → Int32 → rS → Prop) (K56 : Int32 → Int32 → Int32 → Int32 → Int32 → rS → Prop) (x2 : Int32) (x3 : Int32) (x4 : Int32) (x5 : Int32) (x6 : Int32) (y0 : Int32) (σ : rS) : Prop :=
 (¬ x4 = 0 → R_reaches_b107 Q K37 K56 x2 x3 x5 x6 σ) ∧ (x4 = 0 → (y0 = 0 → R_reaches_b112 Q K37 K56 x2 x3 x5 x6 (0 : Int32) σ) ∧ (¬ y0 = 0 → R_reaches_b107 Q K37 K56 x2 x3 x5 x6 σ))
set_option maxHeartbeats 4000000 in
set_option maxRecDepth 100000 in
theorem rB_reaches_95 {Q : Int32 → rS → Prop} {K37 : Int32 → Int32 → Int32 → Int32 → rS → Prop} {K56 : Int32 → Int32 → Int32 → Int32 → Int32 → rS → Prop} (X : CallFix p m c cX7_reaches 8 s args wsX7_reaches RX7) (hr : meth.sig.returnType = (some .boolean)) (hlk : meth.locks = false) (hR : 2 ≤ R.frames ∧ 48 ≤ R.locals) (hK : va_K (dC, dI) vwCl [(cI, .int), (cZ, .boolean)] s) (hA : ∀ q, s.heap.size ≤ q → A q) (k37 : ∀ (x2 : Int32) (x3 : Int32) (x4 : Int32) (x5 : Int32) (σ : rS) (H : Heap) (locs : List Loc) (ls : Array Slot), lv_has ls 8 [(0, .ref h), (2, .int x2), (3, .int x3), (4, .int x4), (5, .int x5)] → rO dC dI h a cI cZ A s.heap σ H locs → K37 x2 x3 x4 x5 σ → W p l e R s m args below meth c H locs 0 0 (MQ below (va_Qi Q (rAt dC dI A h a cI cZ) A) args s 0 0 A) (F0 m 37 ls [])) (k56 : ∀ (x2 : Int32) (x3 : Int32) (x4 : Int32) (x5 : Int32) (x6 : Int32) (σ : rS) (H : Heap) (locs : List Loc) (ls : Array Slot), lv_has ls 8 [(0, .ref h), (2, .int x2), (3, .int x3), (4, .int x4), (5, .int x5), (6, .int x6)] → rO dC dI h a cI cZ A s.heap σ H locs → K56 x2 x3 x4 x5 x6 σ → W p l e R s m args below meth c H locs 0 0 (MQ below (va_Qi Q (rAt dC dI A h a cI cZ) A) args s 0 0 A) (F0 m 56 ls [])) (x2 : Int32) (x3 : Int32) (x4 : Int32) (x5 : Int32) (x6 : Int32) (y0 : Int32) (σ : rS) (H : Heap) (locs : List Loc) (ls : Array Slot) (hl : lv_has ls 8 [(0, .ref h), (2, .int x2), (3, .int x3), (4, .int x4), (5, .int x5), (6, .int x6)]) (hO : rO dC dI h a cI cZ A s.heap σ H locs) (hw : R_reaches_b95 Q K37 K56 x2 x3 x4 x5 x6 y0 σ) : W p l e R s m args below meth c H locs 0 0 (MQ below (va_Qi Q (rAt dC dI A h a cI cZ) A) args s 0 0 A) (F0 m 95 ls [.int y0]) := by
  unfold R_reaches_b95 at hw
  refine lv_istore (lv' := [(7, .int y0), (0, .ref h), (2, .int x2), (3, .int x3), (4, .int x4), (5, .int x5), (6, .int x6)]) X.1 X.2.1 dX7_reaches_95 hl (by decide) rfl (fun ls hl => ?_)
  refine lv_iload X.1 X.2.1 dX7_reaches_97 (lv_at hl 4 rfl) ?_
  refine lv_if_ne (tgt := 107) X.1 X.2.1 dX7_reaches_99 rfl (fun hc9 => ?_) (fun hc9 => ?_)
  · have hw := hw.1 hc9
    exact rB_reaches_107 X hr hlk hR hK hA k37 k56 x2 x3 x5 x6 σ H locs ls (lv_sub hl [1, 2, 3, 5, 6] rfl) hO hw
  · have hw := hw.2 hc9
    refine lv_iload X.1 X.2.1 dX7_reaches_102 (lv_at hl 0 rfl) ?_
    refine lv_if_eq (tgt := 111) X.1 X.2.1 dX7_reaches_104 rfl (fun hc9 => ?_) (fun hc9 => ?_)
    · have hw := hw.1 hc9
      refine lv_iconst (v := 0) X.1 X.2.1 dX7_reaches_111 (by decide) ?_
      exact rB_reaches_112 X hr hlk hR hK hA k37 k56 x2 x3 x5 x6 (0 : Int32) σ H locs ls (lv_sub hl [1, 2, 3, 5, 6] rfl) hO hw
    · have hw := hw.2 hc9
      exact rB_reaches_107 X hr hlk hR hK hA k37 k56 x2 x3 x5 x6 σ H locs ls (lv_sub hl [1, 2, 3, 5, 6] rfl) hO hw
def R_reaches_b94 (Q : Int32 → rS → Prop) (K37 : Int32 → Int32 → Int32 → Int32 → rS → Prop) (K56 : Int32 → Int32 → Int32 → Int32 → Int32 → rS → Prop) (x2 : Int32) (x3 : Int32) (x4 : Int32) (x5 : Int32) (x6 : Int32) (σ : rS) : Prop :=
 R_reaches_b95 Q K37 K56 x2 x3 x4 x5 x6 (0 : Int32) σ
set_option maxHeartbeats 4000000 in
set_option maxRecDepth 100000 in
theorem rB_reaches_94 {Q : Int32 → rS → Prop} {K37 : Int32 → Int32 → Int32 → Int32 → rS → Prop} {K56 : Int32 → Int32 → Int32 → Int32 → Int32 → rS → Prop} (X : CallFix p m c cX7_reaches 8 s args wsX7_reaches RX7) (hr : meth.sig.returnType = (some .boolean)) (hlk : meth.locks = false) (hR : 2 ≤ R.frames ∧ 48 ≤ R.locals) (hK : va_K (dC, dI) vwCl [(cI, .int), (cZ, .boolean)] s) (hA : ∀ q, s.heap.size ≤ q → A q) (k37 : ∀ (x2 : Int32) (x3 : Int32) (x4 : Int32) (x5 : Int32) (σ : rS) (H : Heap) (locs : List Loc) (ls : Array Slot), lv_has ls 8 [(0, .ref h), (2, .int x2), (3, .int x3), (4, .int x4), (5, .int x5)] → rO dC dI h a cI cZ A s.heap σ H locs → K37 x2 x3 x4 x5 σ → W p l e R s m args below meth c H locs 0 0 (MQ below (va_Qi Q (rAt dC dI A h a cI cZ) A) args s 0 0 A) (F0 m 37 ls [])) (k56 : ∀ (x2 : Int32) (x3 : Int32) (x4 : Int32) (x5 : Int32) (x6 : Int32) (σ : rS) (H : Heap) (locs : List Loc) (ls : Array Slot), lv_has ls 8 [(0, .ref h), (2, .int x2), (3, .int x3), (4, .int x4), (5, .int x5), (6, .int x6)] → rO dC dI h a cI cZ A s.heap σ H locs → K56 x2 x3 x4 x5 x6 σ → W p l e R s m args below meth c H locs 0 0 (MQ below (va_Qi Q (rAt dC dI A h a cI cZ) A) args s 0 0 A) (F0 m 56 ls [])) (x2 : Int32) (x3 : Int32) (x4 : Int32) (x5 : Int32) (x6 : Int32) (σ : rS) (H : Heap) (locs : List Loc) (ls : Array Slot) (hl : lv_has ls 8 [(0, .ref h), (2, .int x2), (3, .int x3), (4, .int x4), (5, .int x5), (6, .int x6)]) (hO : rO dC dI h a cI cZ A s.heap σ H locs) (hw : R_reaches_b94 Q K37 K56 x2 x3 x4 x5 x6 σ) : W p l e R s m args below meth c H locs 0 0 (MQ below (va_Qi Q (rAt dC dI A h a cI cZ) A) args s 0 0 A) (F0 m 94 ls []) := by
  unfold R_reaches_b94 at hw
  refine lv_iconst (v := 0) X.1 X.2.1 dX7_reaches_94 (by decide) ?_
  exact rB_reaches_95 X hr hlk hR hK hA k37 k56 x2 x3 x4 x5 x6 (0 : Int32) σ H locs ls (lv_sub hl [0, 1, 2, 3, 4, 5] rfl) hO hw
def R_reaches_b56_s (Q : Int32 → rS → Prop) (K37 : Int32 → Int32 → Int32 → Int32 → rS → Prop) (K56 : Int32 → Int32 → Int32 → Int32 → Int32 → rS → Prop) (x2 : Int32) (x3 : Int32) (x4 : Int32) (x5 : Int32) (x6 : Int32) (σ : rS) : Prop :=
 ((σ.1 3) ≤ x6 → ∀ v120 : Int32, v120 = x5 + (1 : Int32) → K37 x2 x3 x4 v120 σ) ∧ (¬ (σ.1 3) ≤ x6 → vp_in x6 16 ∧ vp_in (σ.2 10 x6.toNatClampNeg) 192 ∧ ((σ.2 27 (σ.2 10 x6.toNatClampNeg).toNatClampNeg) = 0 → R_reaches_b94 Q K37 K56 x2 x3 x4 x5 x6 σ) ∧ (¬ (σ.2 27 (σ.2 10 x6.toNatClampNeg).toNatClampNeg) = 0 → R_markAbove_w (fun r84 t84 => (r84 = 0 → R_reaches_b94 Q K37 K56 x2 x3 x4 x5 x6 t84) ∧ (¬ r84 = 0 → R_reaches_b95 Q K37 K56 x2 x3 x4 x5 x6 (1 : Int32) t84)) x6 x3 σ))
def R_reaches_b56_f (Q : Int32 → rS → Prop) (K37 : Int32 → Int32 → Int32 → Int32 → rS → Prop) : (Int32 × Int32 × Int32 × Int32 × Int32 × rS → Prop) → Int32 × Int32 × Int32 × Int32 × Int32 × rS → Prop :=
 fun K z => R_reaches_b56_s Q K37 (fun x2 x3 x4 x5 x6 σ => K (x2, x3, x4, x5, x6, σ)) z.1 z.2.1 z.2.2.1 z.2.2.2.1 z.2.2.2.2.1 z.2.2.2.2.2
def R_reaches_b56 (Q : Int32 → rS → Prop) (K37 : Int32 → Int32 → Int32 → Int32 → rS → Prop) (x2 : Int32) (x3 : Int32) (x4 : Int32) (x5 : Int32) (x6 : Int32) (σ : rS) : Prop := ∃ n, fx (R_reaches_b56_f Q K37) n (x2, x3, x4, x5, x6, σ)
set_option maxHeartbeats 4000000 in
set_option maxRecDepth 100000 in
theorem rB_reaches_56 {Q : Int32 → rS → Prop} {K37 : Int32 → Int32 → Int32 → Int32 → rS → Prop} (X : CallFix p m c cX7_reaches 8 s args wsX7_reaches RX7) (hr : meth.sig.returnType = (some .boolean)) (hlk : meth.locks = false) (hR : 2 ≤ R.frames ∧ 48 ≤ R.locals) (hK : va_K (dC, dI) vwCl [(cI, .int), (cZ, .boolean)] s) (hA : ∀ q, s.heap.size ≤ q → A q) (k37 : ∀ (x2 : Int32) (x3 : Int32) (x4 : Int32) (x5 : Int32) (σ : rS) (H : Heap) (locs : List Loc) (ls : Array Slot), lv_has ls 8 [(0, .ref h), (2, .int x2), (3, .int x3), (4, .int x4), (5, .int x5)] → rO dC dI h a cI cZ A s.heap σ H locs → K37 x2 x3 x4 x5 σ → W p l e R s m args below meth c H locs 0 0 (MQ below (va_Qi Q (rAt dC dI A h a cI cZ) A) args s 0 0 A) (F0 m 37 ls [])) : ∀ (n : Nat) (x2 : Int32) (x3 : Int32) (x4 : Int32) (x5 : Int32) (x6 : Int32) (σ : rS) (H : Heap) (locs : List Loc) (ls : Array Slot), lv_has ls 8 [(0, .ref h), (2, .int x2), (3, .int x3), (4, .int x4), (5, .int x5), (6, .int x6)] → rO dC dI h a cI cZ A s.heap σ H locs → fx (R_reaches_b56_f Q K37) n (x2, x3, x4, x5, x6, σ) → W p l e R s m args below meth c H locs 0 0 (MQ below (va_Qi Q (rAt dC dI A h a cI cZ) A) args s 0 0 A) (F0 m 56 ls []) := by
  intro n
  induction n with
  | zero => intro x2 x3 x4 x5 x6 σ H locs ls hl hO hw; exact False.elim hw
  | succ n k56 =>
    intro x2 x3 x4 x5 x6 σ H locs ls hl hO hw
    have hw : R_reaches_b56_s Q K37 (fun x2 x3 x4 x5 x6 σ => fx (R_reaches_b56_f Q K37) n (x2, x3, x4, x5, x6, σ)) x2 x3 x4 x5 x6 σ := hw
    unfold R_reaches_b56_s at hw
    refine lv_iload X.1 X.2.1 dX7_reaches_56 (lv_at hl 5 rfl) ?_
    refine lv_aload_n X.1 X.2.1 dX7_reaches_58 rfl (lv_at hl 0 rfl) ?_
    refine rf_classes X hK hO dX7_reaches_59 ?_
    refine lv_icmp_ge (tgt := 120) X.1 X.2.1 dX7_reaches_62 rfl (fun hc9 => ?_) (fun hc9 => ?_)
    · have hw := hw.1 hc9
      obtain ⟨v120, e120⟩ : ∃ z, z = x5 + (1 : Int32) := ⟨_, rfl⟩
      have hw := hw v120 e120
      refine lv_iinc (lv' := [(5, .int v120), (0, .ref h), (2, .int x2), (3, .int x3), (4, .int x4), (6, .int x6)]) (k := 4) (v := v120) X.1 X.2.1 dX7_reaches_120 hl rfl (by rw [e120]; rfl) (by decide) rfl (fun ls hl => ?_)
      refine lv_goto (tgt := 37) X.1 X.2.1 dX7_reaches_123 rfl ?_
      exact k37 x2 x3 x4 v120 σ H locs ls (lv_sub hl [1, 2, 3, 4, 0] rfl) hO hw
    · have hw := hw.2 hc9
      refine lv_aload_n X.1 X.2.1 dX7_reaches_65 rfl (lv_at hl 0 rfl) ?_
      refine rf_marked X hK hO dX7_reaches_66 ?_
      refine lv_aload_n X.1 X.2.1 dX7_reaches_69 rfl (lv_at hl 0 rfl) ?_
      refine rf_self X hK hO dX7_reaches_70 ?_
      refine lv_iload X.1 X.2.1 dX7_reaches_73 (lv_at hl 5 rfl) ?_
      obtain ⟨g75, hw⟩ := hw
      refine ra_self X.1 X.2.1 hK hO g75 dX7_reaches_75 ?_
      obtain ⟨g76, hw⟩ := hw
      refine ra_marked X.1 X.2.1 hK hO g76 dX7_reaches_76 ?_
      refine lv_if_eq (tgt := 94) X.1 X.2.1 dX7_reaches_77 rfl (fun hc9 => ?_) (fun hc9 => ?_)
      · have hw := hw.1 hc9
        exact rB_reaches_94 X hr hlk hR hK hA k37 k56 x2 x3 x4 x5 x6 σ H locs ls (lv_sub hl [0, 1, 2, 3, 4, 5] rfl) hO hw
      · have hw := hw.2 hc9
        refine lv_aload_n X.1 X.2.1 dX7_reaches_80 rfl (lv_at hl 0 rfl) ?_
        refine lv_iload X.1 X.2.1 dX7_reaches_81 (lv_at hl 5 rfl) ?_
        refine lv_iload_n X.1 X.2.1 dX7_reaches_83 rfl (lv_at hl 2 rfl) ?_
        refine r_calli (rest := []) (As := [.int x6, .int x3]) X (rC_markAbove l dC dI h a cI cZ σ H.size x6 x3 _ hw) (cwV 2 X.2.2.2.2 gX7_markAbove rfl rfl rfl hdX7_markAbove ⟨Nat.le_trans (by decide) hR.1, Nat.le_trans (by decide) hR.2⟩) hK hA hO rfl hl.1 rfl (Nat.le_of_ble_eq_true rfl) dX7_reaches_84 (fun r84 t84 H locs hO hw => ?_)
        refine lv_if_eq (tgt := 94) X.1 X.2.1 dX7_reaches_87 rfl (fun hc9 => ?_) (fun hc9 => ?_)
        · have hw := hw.1 hc9
          exact rB_reaches_94 X hr hlk hR hK hA k37 k56 x2 x3 x4 x5 x6 t84 H locs ls (lv_sub hl [0, 1, 2, 3, 4, 5] rfl) hO hw
        · have hw := hw.2 hc9
          refine lv_iconst (v := 1) X.1 X.2.1 dX7_reaches_90 (by decide) ?_
          refine lv_goto (tgt := 95) X.1 X.2.1 dX7_reaches_91 rfl ?_
          exact rB_reaches_95 X hr hlk hR hK hA k37 k56 x2 x3 x4 x5 x6 (1 : Int32) t84 H locs ls (lv_sub hl [0, 1, 2, 3, 4, 5] rfl) hO hw
def R_reaches_b37_s (Q : Int32 → rS → Prop) (K37 : Int32 → Int32 → Int32 → Int32 → rS → Prop) (x2 : Int32) (x3 : Int32) (x4 : Int32) (x5 : Int32) (σ : rS) : Prop :=
 ((192 : Int32) < x5 → R_reaches_b126 Q x2 σ) ∧ (¬ (192 : Int32) < x5 → (x4 = 0 → R_reaches_b126 Q x2 σ) ∧ (¬ x4 = 0 → R_reaches_b56 Q K37 x2 x3 (0 : Int32) x5 (0 : Int32) σ))
def R_reaches_b37_f (Q : Int32 → rS → Prop) : (Int32 × Int32 × Int32 × Int32 × rS → Prop) → Int32 × Int32 × Int32 × Int32 × rS → Prop :=
 fun K z => R_reaches_b37_s Q (fun x2 x3 x4 x5 σ => K (x2, x3, x4, x5, σ)) z.1 z.2.1 z.2.2.1 z.2.2.2.1 z.2.2.2.2
def R_reaches_b37 (Q : Int32 → rS → Prop) (x2 : Int32) (x3 : Int32) (x4 : Int32) (x5 : Int32) (σ : rS) : Prop := ∃ n, fx (R_reaches_b37_f Q ) n (x2, x3, x4, x5, σ)
set_option maxHeartbeats 4000000 in
set_option maxRecDepth 100000 in
theorem rB_reaches_37 {Q : Int32 → rS → Prop} (X : CallFix p m c cX7_reaches 8 s args wsX7_reaches RX7) (hr : meth.sig.returnType = (some .boolean)) (hlk : meth.locks = false) (hR : 2 ≤ R.frames ∧ 48 ≤ R.locals) (hK : va_K (dC, dI) vwCl [(cI, .int), (cZ, .boolean)] s) (hA : ∀ q, s.heap.size ≤ q → A q) : ∀ (n : Nat) (x2 : Int32) (x3 : Int32) (x4 : Int32) (x5 : Int32) (σ : rS) (H : Heap) (locs : List Loc) (ls : Array Slot), lv_has ls 8 [(0, .ref h), (2, .int x2), (3, .int x3), (4, .int x4), (5, .int x5)] → rO dC dI h a cI cZ A s.heap σ H locs → fx (R_reaches_b37_f Q ) n (x2, x3, x4, x5, σ) → W p l e R s m args below meth c H locs 0 0 (MQ below (va_Qi Q (rAt dC dI A h a cI cZ) A) args s 0 0 A) (F0 m 37 ls []) := by
  intro n
  induction n with
  | zero => intro x2 x3 x4 x5 σ H locs ls hl hO hw; exact False.elim hw
  | succ n k37 =>
    intro x2 x3 x4 x5 σ H locs ls hl hO hw
    have hw : R_reaches_b37_s Q (fun x2 x3 x4 x5 σ => fx (R_reaches_b37_f Q ) n (x2, x3, x4, x5, σ)) x2 x3 x4 x5 σ := hw
    unfold R_reaches_b37_s at hw
    refine lv_iload X.1 X.2.1 dX7_reaches_37 (lv_at hl 4 rfl) ?_
    refine lv_sipush (v := 192) X.1 X.2.1 dX7_reaches_39 (by decide) ?_
    refine lv_icmp_gt (tgt := 126) X.1 X.2.1 dX7_reaches_42 rfl (fun hc9 => ?_) (fun hc9 => ?_)
    · have hw := hw.1 hc9
      exact rB_reaches_126 X hr hlk hR hK hA x2 σ H locs ls (lv_sub hl [0, 1] rfl) hO hw
    · have hw := hw.2 hc9
      refine lv_iload X.1 X.2.1 dX7_reaches_45 (lv_at hl 3 rfl) ?_
      refine lv_if_eq (tgt := 126) X.1 X.2.1 dX7_reaches_47 rfl (fun hc9 => ?_) (fun hc9 => ?_)
      · have hw := hw.1 hc9
        exact rB_reaches_126 X hr hlk hR hK hA x2 σ H locs ls (lv_sub hl [0, 1] rfl) hO hw
      · have hw := hw.2 hc9
        refine lv_iconst (v := 0) X.1 X.2.1 dX7_reaches_50 (by decide) ?_
        refine lv_istore (lv' := [(4, .int (0 : Int32)), (0, .ref h), (2, .int x2), (3, .int x3), (5, .int x5)]) X.1 X.2.1 dX7_reaches_51 hl (by decide) rfl (fun ls hl => ?_)
        refine lv_iconst (v := 0) X.1 X.2.1 dX7_reaches_53 (by decide) ?_
        refine lv_istore (lv' := [(6, .int (0 : Int32)), (4, .int (0 : Int32)), (0, .ref h), (2, .int x2), (3, .int x3), (5, .int x5)]) X.1 X.2.1 dX7_reaches_54 hl (by decide) rfl (fun ls hl => ?_)
        obtain ⟨n, hw⟩ := hw
        exact rB_reaches_56 X hr hlk hR hK hA k37 n x2 x3 (0 : Int32) x5 (0 : Int32) σ H locs ls (lv_sub hl [2, 3, 4, 1, 5, 0] rfl) hO hw
def R_reaches_b3_s (Q : Int32 → rS → Prop) (K3 : Int32 → Int32 → Int32 → Int32 → rS → Prop) (x1 : Int32) (x2 : Int32) (x3 : Int32) (x4 : Int32) (σ : rS) : Prop :=
 ((σ.1 5) ≤ x4 → R_markAbove_w (fun r29 t29 => R_reaches_b37 Q x2 x3 r29 (0 : Int32) t29) x1 x3 σ) ∧ (¬ (σ.1 5) ≤ x4 → vp_in x4 192 ∧ ∀ t19 : rS, t19 = rA σ 27 x4 (vp_nar .boolean (0 : Int32)) → ∀ v20 : Int32, v20 = x4 + (1 : Int32) → K3 x1 x2 x3 v20 t19)
def R_reaches_b3_f (Q : Int32 → rS → Prop) : (Int32 × Int32 × Int32 × Int32 × rS → Prop) → Int32 × Int32 × Int32 × Int32 × rS → Prop :=
 fun K z => R_reaches_b3_s Q (fun x1 x2 x3 x4 σ => K (x1, x2, x3, x4, σ)) z.1 z.2.1 z.2.2.1 z.2.2.2.1 z.2.2.2.2
def R_reaches_b3 (Q : Int32 → rS → Prop) (x1 : Int32) (x2 : Int32) (x3 : Int32) (x4 : Int32) (σ : rS) : Prop := ∃ n, fx (R_reaches_b3_f Q ) n (x1, x2, x3, x4, σ)
set_option maxHeartbeats 4000000 in
set_option maxRecDepth 100000 in
theorem rB_reaches_3 {Q : Int32 → rS → Prop} (X : CallFix p m c cX7_reaches 8 s args wsX7_reaches RX7) (hr : meth.sig.returnType = (some .boolean)) (hlk : meth.locks = false) (hR : 2 ≤ R.frames ∧ 48 ≤ R.locals) (hK : va_K (dC, dI) vwCl [(cI, .int), (cZ, .boolean)] s) (hA : ∀ q, s.heap.size ≤ q → A q) : ∀ (n : Nat) (x1 : Int32) (x2 : Int32) (x3 : Int32) (x4 : Int32) (σ : rS) (H : Heap) (locs : List Loc) (ls : Array Slot), lv_has ls 8 [(0, .ref h), (1, .int x1), (2, .int x2), (3, .int x3), (4, .int x4)] → rO dC dI h a cI cZ A s.heap σ H locs → fx (R_reaches_b3_f Q ) n (x1, x2, x3, x4, σ) → W p l e R s m args below meth c H locs 0 0 (MQ below (va_Qi Q (rAt dC dI A h a cI cZ) A) args s 0 0 A) (F0 m 3 ls []) := by
  intro n
  induction n with
  | zero => intro x1 x2 x3 x4 σ H locs ls hl hO hw; exact False.elim hw
  | succ n k3 =>
    intro x1 x2 x3 x4 σ H locs ls hl hO hw
    have hw : R_reaches_b3_s Q (fun x1 x2 x3 x4 σ => fx (R_reaches_b3_f Q ) n (x1, x2, x3, x4, σ)) x1 x2 x3 x4 σ := hw
    unfold R_reaches_b3_s at hw
    refine lv_iload X.1 X.2.1 dX7_reaches_3 (lv_at hl 4 rfl) ?_
    refine lv_aload_n X.1 X.2.1 dX7_reaches_5 rfl (lv_at hl 0 rfl) ?_
    refine rf_texts X hK hO dX7_reaches_6 ?_
    refine lv_icmp_ge (tgt := 26) X.1 X.2.1 dX7_reaches_9 rfl (fun hc9 => ?_) (fun hc9 => ?_)
    · have hw := hw.1 hc9
      refine lv_aload_n X.1 X.2.1 dX7_reaches_26 rfl (lv_at hl 0 rfl) ?_
      refine lv_iload_n X.1 X.2.1 dX7_reaches_27 rfl (lv_at hl 1 rfl) ?_
      refine lv_iload_n X.1 X.2.1 dX7_reaches_28 rfl (lv_at hl 3 rfl) ?_
      refine r_calli (rest := []) (As := [.int x1, .int x3]) X (rC_markAbove l dC dI h a cI cZ σ H.size x1 x3 _ hw) (cwV 2 X.2.2.2.2 gX7_markAbove rfl rfl rfl hdX7_markAbove ⟨Nat.le_trans (by decide) hR.1, Nat.le_trans (by decide) hR.2⟩) hK hA hO rfl hl.1 rfl (Nat.le_of_ble_eq_true rfl) dX7_reaches_29 (fun r29 t29 H locs hO hw => ?_)
      refine lv_istore (lv' := [(4, .int r29), (0, .ref h), (1, .int x1), (2, .int x2), (3, .int x3)]) X.1 X.2.1 dX7_reaches_32 hl (by decide) rfl (fun ls hl => ?_)
      refine lv_iconst (v := 0) X.1 X.2.1 dX7_reaches_34 (by decide) ?_
      refine lv_istore (lv' := [(5, .int (0 : Int32)), (4, .int r29), (0, .ref h), (1, .int x1), (2, .int x2), (3, .int x3)]) X.1 X.2.1 dX7_reaches_35 hl (by decide) rfl (fun ls hl => ?_)
      obtain ⟨n, hw⟩ := hw
      exact rB_reaches_37 X hr hlk hR hK hA n x2 x3 r29 (0 : Int32) t29 H locs ls (lv_sub hl [2, 4, 5, 1, 0] rfl) hO hw
    · have hw := hw.2 hc9
      refine lv_aload_n X.1 X.2.1 dX7_reaches_12 rfl (lv_at hl 0 rfl) ?_
      refine rf_marked X hK hO dX7_reaches_13 ?_
      refine lv_iload X.1 X.2.1 dX7_reaches_16 (lv_at hl 4 rfl) ?_
      refine lv_iconst (v := 0) X.1 X.2.1 dX7_reaches_18 (by decide) ?_
      obtain ⟨g19, hw⟩ := hw
      refine rs_marked X.1 X.2.1 hK hO g19 dX7_reaches_19 (fun H locs hO => ?_)
      obtain ⟨t19, e19⟩ : ∃ z, z = rA σ 27 x4 (vp_nar .boolean (0 : Int32)) := ⟨_, rfl⟩
      have hw := hw t19 e19
      rw [← e19] at hO
      obtain ⟨v20, e20⟩ : ∃ z, z = x4 + (1 : Int32) := ⟨_, rfl⟩
      have hw := hw v20 e20
      refine lv_iinc (lv' := [(4, .int v20), (0, .ref h), (1, .int x1), (2, .int x2), (3, .int x3)]) (k := 4) (v := v20) X.1 X.2.1 dX7_reaches_20 hl rfl (by rw [e20]; rfl) (by decide) rfl (fun ls hl => ?_)
      refine lv_goto (tgt := 3) X.1 X.2.1 dX7_reaches_23 rfl ?_
      exact k3 x1 x2 x3 v20 t19 H locs ls (lv_sub hl [1, 2, 3, 4, 0] rfl) hO hw
def R_reaches_b0 (Q : Int32 → rS → Prop) (x1 : Int32) (x2 : Int32) (x3 : Int32) (σ : rS) : Prop :=
 R_reaches_b3 Q x1 x2 x3 (0 : Int32) σ
set_option maxHeartbeats 4000000 in
set_option maxRecDepth 100000 in
theorem rB_reaches_0 {Q : Int32 → rS → Prop} (X : CallFix p m c cX7_reaches 8 s args wsX7_reaches RX7) (hr : meth.sig.returnType = (some .boolean)) (hlk : meth.locks = false) (hR : 2 ≤ R.frames ∧ 48 ≤ R.locals) (hK : va_K (dC, dI) vwCl [(cI, .int), (cZ, .boolean)] s) (hA : ∀ q, s.heap.size ≤ q → A q) (x1 : Int32) (x2 : Int32) (x3 : Int32) (σ : rS) (H : Heap) (locs : List Loc) (ls : Array Slot) (hl : lv_has ls 8 [(0, .ref h), (1, .int x1), (2, .int x2), (3, .int x3)]) (hO : rO dC dI h a cI cZ A s.heap σ H locs) (hw : R_reaches_b0 Q x1 x2 x3 σ) : W p l e R s m args below meth c H locs 0 0 (MQ below (va_Qi Q (rAt dC dI A h a cI cZ) A) args s 0 0 A) (F0 m 0 ls []) := by
  unfold R_reaches_b0 at hw
  refine lv_iconst (v := 0) X.1 X.2.1 dX7_reaches_0 (by decide) ?_
  refine lv_istore (lv' := [(4, .int (0 : Int32)), (0, .ref h), (1, .int x1), (2, .int x2), (3, .int x3)]) X.1 X.2.1 dX7_reaches_1 hl (by decide) rfl (fun ls hl => ?_)
  obtain ⟨n, hw⟩ := hw
  exact rB_reaches_3 X hr hlk hR hK hA n x1 x2 x3 (0 : Int32) σ H locs ls (lv_sub hl [1, 2, 3, 4, 0] rfl) hO hw
def R_reaches_w (Q : Int32 → rS → Prop) (x1 : Int32) (x2 : Int32) (x3 : Int32) (σ : rS) : Prop := R_reaches_b0 Q x1 x2 x3 σ
abbrev rmX7_reaches : Room := { frames := 2, cells := 0, slots := 0, locals := 48 }
set_option maxHeartbeats 4000000 in
set_option maxRecDepth 100000 in
theorem rC_reaches (l : Launch) (dC : Nat → ClassId) (dI : Nat → Nat → Nat) (h : Nat) (a : Nat → Nat) (cI cZ : ClassId) (σ : rS) (sz : Nat) (x1 : Int32) (x2 : Int32) (x3 : Int32) (Q : Int32 → rS → Prop) (hw : R_reaches_w Q x1 x2 x3 σ) : Met l yX7_reaches wsX7_reaches rmX7_reaches (rPc dC dI h a cI cZ sz σ [.ref h, .int x1, .int x2, .int x3]) (va_Qi Q (rAt dC dI (va_A (rCells h a cI cZ σ) sz) h a cI cZ) (va_A (rCells h a cI cZ σ) sz)) 0 0 (va_A (rCells h a cI cZ σ) sz) := by
  refine Met.ofW (cc := cX7_reaches) (maxL := 8) (ret := (some .boolean)) (by decide) rfl ?_
  intro p e s m args below meth c s₁ B hml hv
  obtain ⟨hargs, hsz, hP, hK, hD0⟩ := hv
  have hts := atoms_spec (ws := wsX7_reaches) B.pre
  have hown : s.vm.findClass RX7 = some m.cls := findClass_of_methodNamed B.named
  subst hsz
  subst hargs
  have hD := hD0.self (sz := s.heap.size)
  generalize hAe : va_A (rCells h a cI cZ σ) s.heap.size = A at hD ⊢
  have hA : ∀ q : Nat, s.heap.size ≤ q → A q := fun q h => by rw [← hAe]; exact Or.inr h
  have hl := lv_entry ([.ref h, .int x1, .int x2, .int x3]) (n := 8) (Nat.le_of_ble_eq_true rfl)
  rw [lg_entry_eq]
  generalize (lg_sl ([.ref h, .int x1, .int x2, .int x3]) ++ List.replicate (8 - (lg_sl ([.ref h, .int x1, .int x2, .int x3])).length) Slot.unset).toArray = ls at hl ⊢
  have hl : lv_has ls 8 [(0, .ref h), (1, .int x1), (2, .int x2), (3, .int x3)] := hl
  unfold R_reaches_w at hw
  exact rB_reaches_0 ⟨B.exec, B.bytes, hml, hown, hts⟩ B.returns B.notSynchronized ⟨Nat.le_of_ble_eq_true rfl, Nat.le_of_ble_eq_true rfl⟩ hK hA x1 x2 x3 σ s.heap [] ls (lv_sub hl [0, 1, 2, 3] rfl) ⟨hP, hD, va_S.rf⟩ hw
def R_subtype_b31 (Q : Int32 → rS → Prop) (y0 : Int32) (σ : rS) : Prop :=
 zb y0 ∧ Q y0 σ
set_option maxHeartbeats 4000000 in
set_option maxRecDepth 100000 in
theorem rB_subtype_31 {Q : Int32 → rS → Prop} (X : CallFix p m c cX7_subtype 3 s args wsX7_subtype RX7) (hr : meth.sig.returnType = (some .boolean)) (hlk : meth.locks = false) (hR : 3 ≤ R.frames ∧ 75 ≤ R.locals) (hK : va_K (dC, dI) vwCl [(cI, .int), (cZ, .boolean)] s) (hA : ∀ q, s.heap.size ≤ q → A q) (y0 : Int32) (σ : rS) (H : Heap) (locs : List Loc) (ls : Array Slot) (hl : lv_has ls 3 [(0, .ref h)]) (hO : rO dC dI h a cI cZ A s.heap σ H locs) (hw : R_subtype_b31 Q y0 σ) : W p l e R s m args below meth c H locs 0 0 (MQ below (va_Qi Q (rAt dC dI A h a cI cZ) A) args s 0 0 A) (F0 m 31 ls [.int y0]) := by
  unfold R_subtype_b31 at hw
  obtain ⟨hz, hw⟩ := hw
  exact W.zret (v := y0) X.1 X.2.1 hr hz (fun t ht hW => ⟨⟨y0, σ, rfl, hw, rO_end hO hK ht hW⟩, hO.2.2.F ht⟩) hO.2.2.2.2 dX7_subtype_31 hlk
def R_subtype_b30 (Q : Int32 → rS → Prop) (σ : rS) : Prop :=
 R_subtype_b31 Q (0 : Int32) σ
set_option maxHeartbeats 4000000 in
set_option maxRecDepth 100000 in
theorem rB_subtype_30 {Q : Int32 → rS → Prop} (X : CallFix p m c cX7_subtype 3 s args wsX7_subtype RX7) (hr : meth.sig.returnType = (some .boolean)) (hlk : meth.locks = false) (hR : 3 ≤ R.frames ∧ 75 ≤ R.locals) (hK : va_K (dC, dI) vwCl [(cI, .int), (cZ, .boolean)] s) (hA : ∀ q, s.heap.size ≤ q → A q) (σ : rS) (H : Heap) (locs : List Loc) (ls : Array Slot) (hl : lv_has ls 3 [(0, .ref h)]) (hO : rO dC dI h a cI cZ A s.heap σ H locs) (hw : R_subtype_b30 Q σ) : W p l e R s m args below meth c H locs 0 0 (MQ below (va_Qi Q (rAt dC dI A h a cI cZ) A) args s 0 0 A) (F0 m 30 ls []) := by
  unfold R_subtype_b30 at hw
  refine lv_iconst (v := 0) X.1 X.2.1 dX7_subtype_30 (by decide) ?_
  exact rB_subtype_31 X hr hlk hR hK hA (0 : Int32) σ H locs ls (lv_sub hl [0] rfl) hO hw
def R_subtype_b0 (Q : Int32 → rS → Prop) (x1 : Int32) (x2 : Int32) (σ : rS) : Prop :=
 R_isClass_w (fun r2 t2 => (r2 = 0 → R_subtype_b30 Q t2) ∧ (¬ r2 = 0 → R_isText_w (fun r10 t10 => (r10 = 0 → R_subtype_b30 Q t10) ∧ (¬ r10 = 0 → R_reaches_w (fun r20 t20 => (r20 = 0 → R_subtype_b30 Q t20) ∧ (¬ r20 = 0 → R_subtype_b31 Q (1 : Int32) t20)) x1 x2 (0 : Int32) t10)) x2 t2)) x1 σ
set_option maxHeartbeats 4000000 in
set_option maxRecDepth 100000 in
theorem rB_subtype_0 {Q : Int32 → rS → Prop} (X : CallFix p m c cX7_subtype 3 s args wsX7_subtype RX7) (hr : meth.sig.returnType = (some .boolean)) (hlk : meth.locks = false) (hR : 3 ≤ R.frames ∧ 75 ≤ R.locals) (hK : va_K (dC, dI) vwCl [(cI, .int), (cZ, .boolean)] s) (hA : ∀ q, s.heap.size ≤ q → A q) (x1 : Int32) (x2 : Int32) (σ : rS) (H : Heap) (locs : List Loc) (ls : Array Slot) (hl : lv_has ls 3 [(0, .ref h), (1, .int x1), (2, .int x2)]) (hO : rO dC dI h a cI cZ A s.heap σ H locs) (hw : R_subtype_b0 Q x1 x2 σ) : W p l e R s m args below meth c H locs 0 0 (MQ below (va_Qi Q (rAt dC dI A h a cI cZ) A) args s 0 0 A) (F0 m 0 ls []) := by
  unfold R_subtype_b0 at hw
  refine lv_aload_n X.1 X.2.1 dX7_subtype_0 rfl (lv_at hl 0 rfl) ?_
  refine lv_iload_n X.1 X.2.1 dX7_subtype_1 rfl (lv_at hl 1 rfl) ?_
  refine r_calli (rest := []) (As := [.int x1]) X (rC_isClass l dC dI h a cI cZ σ H.size x1 _ hw) (cwV 1 X.2.2.2.2 gX7_isClass rfl rfl rfl hdX7_isClass ⟨Nat.le_trans (by decide) hR.1, Nat.le_trans (by decide) hR.2⟩) hK hA hO rfl hl.1 rfl (Nat.le_of_ble_eq_true rfl) dX7_subtype_2 (fun r2 t2 H locs hO hw => ?_)
  refine lv_if_eq (tgt := 30) X.1 X.2.1 dX7_subtype_5 rfl (fun hc9 => ?_) (fun hc9 => ?_)
  · have hw := hw.1 hc9
    exact rB_subtype_30 X hr hlk hR hK hA t2 H locs ls (lv_sub hl [0] rfl) hO hw
  · have hw := hw.2 hc9
    refine lv_aload_n X.1 X.2.1 dX7_subtype_8 rfl (lv_at hl 0 rfl) ?_
    refine lv_iload_n X.1 X.2.1 dX7_subtype_9 rfl (lv_at hl 2 rfl) ?_
    refine r_calli (rest := []) (As := [.int x2]) X (rC_isText l dC dI h a cI cZ t2 H.size x2 _ hw) (cwV 1 X.2.2.2.2 gX7_isText rfl rfl rfl hdX7_isText ⟨Nat.le_trans (by decide) hR.1, Nat.le_trans (by decide) hR.2⟩) hK hA hO rfl hl.1 rfl (Nat.le_of_ble_eq_true rfl) dX7_subtype_10 (fun r10 t10 H locs hO hw => ?_)
    refine lv_if_eq (tgt := 30) X.1 X.2.1 dX7_subtype_13 rfl (fun hc9 => ?_) (fun hc9 => ?_)
    · have hw := hw.1 hc9
      exact rB_subtype_30 X hr hlk hR hK hA t10 H locs ls (lv_sub hl [0] rfl) hO hw
    · have hw := hw.2 hc9
      refine lv_aload_n X.1 X.2.1 dX7_subtype_16 rfl (lv_at hl 0 rfl) ?_
      refine lv_iload_n X.1 X.2.1 dX7_subtype_17 rfl (lv_at hl 1 rfl) ?_
      refine lv_iload_n X.1 X.2.1 dX7_subtype_18 rfl (lv_at hl 2 rfl) ?_
      refine lv_iconst (v := 0) X.1 X.2.1 dX7_subtype_19 (by decide) ?_
      refine r_calli (rest := []) (As := [.int x1, .int x2, .int (0 : Int32)]) X (rC_reaches l dC dI h a cI cZ t10 H.size x1 x2 (0 : Int32) _ hw) (cwV 3 X.2.2.2.2 gX7_reaches rfl rfl rfl hdX7_reaches ⟨Nat.le_trans (by decide) hR.1, Nat.le_trans (by decide) hR.2⟩) hK hA hO rfl hl.1 rfl (Nat.le_of_ble_eq_true rfl) dX7_subtype_20 (fun r20 t20 H locs hO hw => ?_)
      refine lv_if_eq (tgt := 30) X.1 X.2.1 dX7_subtype_23 rfl (fun hc9 => ?_) (fun hc9 => ?_)
      · have hw := hw.1 hc9
        exact rB_subtype_30 X hr hlk hR hK hA t20 H locs ls (lv_sub hl [0] rfl) hO hw
      · have hw := hw.2 hc9
        refine lv_iconst (v := 1) X.1 X.2.1 dX7_subtype_26 (by decide) ?_
        refine lv_goto (tgt := 31) X.1 X.2.1 dX7_subtype_27 rfl ?_
        exact rB_subtype_31 X hr hlk hR hK hA (1 : Int32) t20 H locs ls (lv_sub hl [0] rfl) hO hw
def R_subtype_w (Q : Int32 → rS → Prop) (x1 : Int32) (x2 : Int32) (σ : rS) : Prop := R_subtype_b0 Q x1 x2 σ
abbrev rmX7_subtype : Room := { frames := 3, cells := 0, slots := 0, locals := 75 }
set_option maxHeartbeats 4000000 in
set_option maxRecDepth 100000 in
theorem rC_subtype (l : Launch) (dC : Nat → ClassId) (dI : Nat → Nat → Nat) (h : Nat) (a : Nat → Nat) (cI cZ : ClassId) (σ : rS) (sz : Nat) (x1 : Int32) (x2 : Int32) (Q : Int32 → rS → Prop) (hw : R_subtype_w Q x1 x2 σ) : Met l yX7_subtype wsX7_subtype rmX7_subtype (rPc dC dI h a cI cZ sz σ [.ref h, .int x1, .int x2]) (va_Qi Q (rAt dC dI (va_A (rCells h a cI cZ σ) sz) h a cI cZ) (va_A (rCells h a cI cZ σ) sz)) 0 0 (va_A (rCells h a cI cZ σ) sz) := by
  refine Met.ofW (cc := cX7_subtype) (maxL := 3) (ret := (some .boolean)) (by decide) rfl ?_
  intro p e s m args below meth c s₁ B hml hv
  obtain ⟨hargs, hsz, hP, hK, hD0⟩ := hv
  have hts := atoms_spec (ws := wsX7_subtype) B.pre
  have hown : s.vm.findClass RX7 = some m.cls := findClass_of_methodNamed B.named
  subst hsz
  subst hargs
  have hD := hD0.self (sz := s.heap.size)
  generalize hAe : va_A (rCells h a cI cZ σ) s.heap.size = A at hD ⊢
  have hA : ∀ q : Nat, s.heap.size ≤ q → A q := fun q h => by rw [← hAe]; exact Or.inr h
  have hl := lv_entry ([.ref h, .int x1, .int x2]) (n := 3) (Nat.le_of_ble_eq_true rfl)
  rw [lg_entry_eq]
  generalize (lg_sl ([.ref h, .int x1, .int x2]) ++ List.replicate (3 - (lg_sl ([.ref h, .int x1, .int x2])).length) Slot.unset).toArray = ls at hl ⊢
  have hl : lv_has ls 3 [(0, .ref h), (1, .int x1), (2, .int x2)] := hl
  unfold R_subtype_w at hw
  exact rB_subtype_0 ⟨B.exec, B.bytes, hml, hown, hts⟩ B.returns B.notSynchronized ⟨Nat.le_of_ble_eq_true rfl, Nat.le_of_ble_eq_true rfl⟩ hK hA x1 x2 σ s.heap [] ls (lv_sub hl [0, 1, 2] rfl) ⟨hP, hD, va_S.rf⟩ hw
def R_subtypeAt_b12 (Q : Int32 → rS → Prop) (σ : rS) : Prop :=
 Q (-1 : Int32) σ
set_option maxHeartbeats 4000000 in
set_option maxRecDepth 100000 in
theorem rB_subtypeAt_12 {Q : Int32 → rS → Prop} (X : CallFix p m c cX7_subtypeAt 5 s args wsX7_subtypeAt RX7) (hr : meth.sig.returnType = (some .int)) (hlk : meth.locks = false) (hR : 3 ≤ R.frames ∧ 75 ≤ R.locals) (hK : va_K (dC, dI) vwCl [(cI, .int), (cZ, .boolean)] s) (hA : ∀ q, s.heap.size ≤ q → A q) (σ : rS) (H : Heap) (locs : List Loc) (ls : Array Slot) (hl : lv_has ls 5 [(0, .ref h)]) (hO : rO dC dI h a cI cZ A s.heap σ H locs) (hw : R_subtypeAt_b12 Q σ) : W p l e R s m args below meth c H locs 0 0 (MQ below (va_Qi Q (rAt dC dI A h a cI cZ) A) args s 0 0 A) (F0 m 12 ls []) := by
  unfold R_subtypeAt_b12 at hw
  refine lv_iconst (v := -1) X.1 X.2.1 dX7_subtypeAt_12 (by decide) ?_
  exact W.iret (v := (-1 : Int32)) X.1 X.2.1 hr (fun t ht hW => ⟨⟨(-1 : Int32), σ, rfl, hw, rO_end hO hK ht hW⟩, hO.2.2.F ht⟩) hO.2.2.2.2 dX7_subtypeAt_13 hlk
def R_subtypeAt_b50 (Q : Int32 → rS → Prop) (K19 : Int32 → Int32 → Int32 → Int32 → rS → Prop) (x1 : Int32) (x2 : Int32) (x3 : Int32) (x4 : Int32) (σ : rS) : Prop :=
 ∀ v50 : Int32, v50 = x4 + (1 : Int32) → K19 x1 x2 x3 v50 σ
set_option maxHeartbeats 4000000 in
set_option maxRecDepth 100000 in
theorem rB_subtypeAt_50 {Q : Int32 → rS → Prop} {K19 : Int32 → Int32 → Int32 → Int32 → rS → Prop} (X : CallFix p m c cX7_subtypeAt 5 s args wsX7_subtypeAt RX7) (hr : meth.sig.returnType = (some .int)) (hlk : meth.locks = false) (hR : 3 ≤ R.frames ∧ 75 ≤ R.locals) (hK : va_K (dC, dI) vwCl [(cI, .int), (cZ, .boolean)] s) (hA : ∀ q, s.heap.size ≤ q → A q) (k19 : ∀ (x1 : Int32) (x2 : Int32) (x3 : Int32) (x4 : Int32) (σ : rS) (H : Heap) (locs : List Loc) (ls : Array Slot), lv_has ls 5 [(0, .ref h), (1, .int x1), (2, .int x2), (3, .int x3), (4, .int x4)] → rO dC dI h a cI cZ A s.heap σ H locs → K19 x1 x2 x3 x4 σ → W p l e R s m args below meth c H locs 0 0 (MQ below (va_Qi Q (rAt dC dI A h a cI cZ) A) args s 0 0 A) (F0 m 19 ls [])) (x1 : Int32) (x2 : Int32) (x3 : Int32) (x4 : Int32) (σ : rS) (H : Heap) (locs : List Loc) (ls : Array Slot) (hl : lv_has ls 5 [(0, .ref h), (1, .int x1), (2, .int x2), (3, .int x3), (4, .int x4)]) (hO : rO dC dI h a cI cZ A s.heap σ H locs) (hw : R_subtypeAt_b50 Q K19 x1 x2 x3 x4 σ) : W p l e R s m args below meth c H locs 0 0 (MQ below (va_Qi Q (rAt dC dI A h a cI cZ) A) args s 0 0 A) (F0 m 50 ls []) := by
  unfold R_subtypeAt_b50 at hw
  obtain ⟨v50, e50⟩ : ∃ z, z = x4 + (1 : Int32) := ⟨_, rfl⟩
  have hw := hw v50 e50
  refine lv_iinc (lv' := [(4, .int v50), (0, .ref h), (1, .int x1), (2, .int x2), (3, .int x3)]) (k := 4) (v := v50) X.1 X.2.1 dX7_subtypeAt_50 hl rfl (by rw [e50]; rfl) (by decide) rfl (fun ls hl => ?_)
  refine lv_goto (tgt := 19) X.1 X.2.1 dX7_subtypeAt_53 rfl ?_
  exact k19 x1 x2 x3 v50 σ H locs ls (lv_sub hl [1, 2, 3, 4, 0] rfl) hO hw
def R_subtypeAt_b19_s (Q : Int32 → rS → Prop) (K19 : Int32 → Int32 → Int32 → Int32 → rS → Prop) (x1 : Int32) (x2 : Int32) (x3 : Int32) (x4 : Int32) (σ : rS) : Prop :=
 ((σ.1 3) ≤ x4 → Q (-1 : Int32) σ) ∧ (¬ (σ.1 3) ≤ x4 → R_reaches_w (fun r33 t33 => (r33 = 0 → R_subtypeAt_b50 Q K19 x1 x2 x3 x4 t33) ∧ (¬ r33 = 0 → (¬ x3 = x2 → ∀ v47 : Int32, v47 = x3 + (1 : Int32) → R_subtypeAt_b50 Q K19 x1 x2 v47 x4 t33) ∧ (x3 = x2 → Q x4 t33))) x4 x1 (0 : Int32) σ)
def R_subtypeAt_b19_f (Q : Int32 → rS → Prop) : (Int32 × Int32 × Int32 × Int32 × rS → Prop) → Int32 × Int32 × Int32 × Int32 × rS → Prop :=
 fun K z => R_subtypeAt_b19_s Q (fun x1 x2 x3 x4 σ => K (x1, x2, x3, x4, σ)) z.1 z.2.1 z.2.2.1 z.2.2.2.1 z.2.2.2.2
def R_subtypeAt_b19 (Q : Int32 → rS → Prop) (x1 : Int32) (x2 : Int32) (x3 : Int32) (x4 : Int32) (σ : rS) : Prop := ∃ n, fx (R_subtypeAt_b19_f Q ) n (x1, x2, x3, x4, σ)
set_option maxHeartbeats 4000000 in
set_option maxRecDepth 100000 in
theorem rB_subtypeAt_19 {Q : Int32 → rS → Prop} (X : CallFix p m c cX7_subtypeAt 5 s args wsX7_subtypeAt RX7) (hr : meth.sig.returnType = (some .int)) (hlk : meth.locks = false) (hR : 3 ≤ R.frames ∧ 75 ≤ R.locals) (hK : va_K (dC, dI) vwCl [(cI, .int), (cZ, .boolean)] s) (hA : ∀ q, s.heap.size ≤ q → A q) : ∀ (n : Nat) (x1 : Int32) (x2 : Int32) (x3 : Int32) (x4 : Int32) (σ : rS) (H : Heap) (locs : List Loc) (ls : Array Slot), lv_has ls 5 [(0, .ref h), (1, .int x1), (2, .int x2), (3, .int x3), (4, .int x4)] → rO dC dI h a cI cZ A s.heap σ H locs → fx (R_subtypeAt_b19_f Q ) n (x1, x2, x3, x4, σ) → W p l e R s m args below meth c H locs 0 0 (MQ below (va_Qi Q (rAt dC dI A h a cI cZ) A) args s 0 0 A) (F0 m 19 ls []) := by
  intro n
  induction n with
  | zero => intro x1 x2 x3 x4 σ H locs ls hl hO hw; exact False.elim hw
  | succ n k19 =>
    intro x1 x2 x3 x4 σ H locs ls hl hO hw
    have hw : R_subtypeAt_b19_s Q (fun x1 x2 x3 x4 σ => fx (R_subtypeAt_b19_f Q ) n (x1, x2, x3, x4, σ)) x1 x2 x3 x4 σ := hw
    unfold R_subtypeAt_b19_s at hw
    refine lv_iload X.1 X.2.1 dX7_subtypeAt_19 (lv_at hl 4 rfl) ?_
    refine lv_aload_n X.1 X.2.1 dX7_subtypeAt_21 rfl (lv_at hl 0 rfl) ?_
    refine rf_classes X hK hO dX7_subtypeAt_22 ?_
    refine lv_icmp_ge (tgt := 56) X.1 X.2.1 dX7_subtypeAt_25 rfl (fun hc9 => ?_) (fun hc9 => ?_)
    · have hw := hw.1 hc9
      refine lv_iconst (v := -1) X.1 X.2.1 dX7_subtypeAt_56 (by decide) ?_
      exact W.iret (v := (-1 : Int32)) X.1 X.2.1 hr (fun t ht hW => ⟨⟨(-1 : Int32), σ, rfl, hw, rO_end hO hK ht hW⟩, hO.2.2.F ht⟩) hO.2.2.2.2 dX7_subtypeAt_57 hlk
    · have hw := hw.2 hc9
      refine lv_aload_n X.1 X.2.1 dX7_subtypeAt_28 rfl (lv_at hl 0 rfl) ?_
      refine lv_iload X.1 X.2.1 dX7_subtypeAt_29 (lv_at hl 4 rfl) ?_
      refine lv_iload_n X.1 X.2.1 dX7_subtypeAt_31 rfl (lv_at hl 1 rfl) ?_
      refine lv_iconst (v := 0) X.1 X.2.1 dX7_subtypeAt_32 (by decide) ?_
      refine r_calli (rest := []) (As := [.int x4, .int x1, .int (0 : Int32)]) X (rC_reaches l dC dI h a cI cZ σ H.size x4 x1 (0 : Int32) _ hw) (cwV 3 X.2.2.2.2 gX7_reaches rfl rfl rfl hdX7_reaches ⟨Nat.le_trans (by decide) hR.1, Nat.le_trans (by decide) hR.2⟩) hK hA hO rfl hl.1 rfl (Nat.le_of_ble_eq_true rfl) dX7_subtypeAt_33 (fun r33 t33 H locs hO hw => ?_)
      refine lv_if_eq (tgt := 50) X.1 X.2.1 dX7_subtypeAt_36 rfl (fun hc9 => ?_) (fun hc9 => ?_)
      · have hw := hw.1 hc9
        exact rB_subtypeAt_50 X hr hlk hR hK hA k19 x1 x2 x3 x4 t33 H locs ls (lv_sub hl [0, 1, 2, 3, 4] rfl) hO hw
      · have hw := hw.2 hc9
        refine lv_iload_n X.1 X.2.1 dX7_subtypeAt_39 rfl (lv_at hl 3 rfl) ?_
        refine lv_iload_n X.1 X.2.1 dX7_subtypeAt_40 rfl (lv_at hl 2 rfl) ?_
        refine lv_icmp_ne (tgt := 47) X.1 X.2.1 dX7_subtypeAt_41 rfl (fun hc9 => ?_) (fun hc9 => ?_)
        · have hw := hw.1 hc9
          obtain ⟨v47, e47⟩ : ∃ z, z = x3 + (1 : Int32) := ⟨_, rfl⟩
          have hw := hw v47 e47
          refine lv_iinc (lv' := [(3, .int v47), (0, .ref h), (1, .int x1), (2, .int x2), (4, .int x4)]) (k := 3) (v := v47) X.1 X.2.1 dX7_subtypeAt_47 hl rfl (by rw [e47]; rfl) (by decide) rfl (fun ls hl => ?_)
          exact rB_subtypeAt_50 X hr hlk hR hK hA k19 x1 x2 v47 x4 t33 H locs ls (lv_sub hl [1, 2, 3, 0, 4] rfl) hO hw
        · have hw := hw.2 hc9
          refine lv_iload X.1 X.2.1 dX7_subtypeAt_44 (lv_at hl 4 rfl) ?_
          exact W.iret (v := x4) X.1 X.2.1 hr (fun t ht hW => ⟨⟨x4, t33, rfl, hw, rO_end hO hK ht hW⟩, hO.2.2.F ht⟩) hO.2.2.2.2 dX7_subtypeAt_46 hlk
def R_subtypeAt_b0 (Q : Int32 → rS → Prop) (x1 : Int32) (x2 : Int32) (σ : rS) : Prop :=
 R_isText_w (fun r2 t2 => (r2 = 0 → R_subtypeAt_b12 Q t2) ∧ (¬ r2 = 0 → (0 ≤ x2 → R_subtypeAt_b19 Q x1 x2 (0 : Int32) (0 : Int32) t2) ∧ (¬ 0 ≤ x2 → R_subtypeAt_b12 Q t2))) x1 σ
set_option maxHeartbeats 4000000 in
set_option maxRecDepth 100000 in
theorem rB_subtypeAt_0 {Q : Int32 → rS → Prop} (X : CallFix p m c cX7_subtypeAt 5 s args wsX7_subtypeAt RX7) (hr : meth.sig.returnType = (some .int)) (hlk : meth.locks = false) (hR : 3 ≤ R.frames ∧ 75 ≤ R.locals) (hK : va_K (dC, dI) vwCl [(cI, .int), (cZ, .boolean)] s) (hA : ∀ q, s.heap.size ≤ q → A q) (x1 : Int32) (x2 : Int32) (σ : rS) (H : Heap) (locs : List Loc) (ls : Array Slot) (hl : lv_has ls 5 [(0, .ref h), (1, .int x1), (2, .int x2)]) (hO : rO dC dI h a cI cZ A s.heap σ H locs) (hw : R_subtypeAt_b0 Q x1 x2 σ) : W p l e R s m args below meth c H locs 0 0 (MQ below (va_Qi Q (rAt dC dI A h a cI cZ) A) args s 0 0 A) (F0 m 0 ls []) := by
  unfold R_subtypeAt_b0 at hw
  refine lv_aload_n X.1 X.2.1 dX7_subtypeAt_0 rfl (lv_at hl 0 rfl) ?_
  refine lv_iload_n X.1 X.2.1 dX7_subtypeAt_1 rfl (lv_at hl 1 rfl) ?_
  refine r_calli (rest := []) (As := [.int x1]) X (rC_isText l dC dI h a cI cZ σ H.size x1 _ hw) (cwV 1 X.2.2.2.2 gX7_isText rfl rfl rfl hdX7_isText ⟨Nat.le_trans (by decide) hR.1, Nat.le_trans (by decide) hR.2⟩) hK hA hO rfl hl.1 rfl (Nat.le_of_ble_eq_true rfl) dX7_subtypeAt_2 (fun r2 t2 H locs hO hw => ?_)
  refine lv_if_eq (tgt := 12) X.1 X.2.1 dX7_subtypeAt_5 rfl (fun hc9 => ?_) (fun hc9 => ?_)
  · have hw := hw.1 hc9
    exact rB_subtypeAt_12 X hr hlk hR hK hA t2 H locs ls (lv_sub hl [0] rfl) hO hw
  · have hw := hw.2 hc9
    refine lv_iload_n X.1 X.2.1 dX7_subtypeAt_8 rfl (lv_at hl 2 rfl) ?_
    refine lv_if_ge (tgt := 14) X.1 X.2.1 dX7_subtypeAt_9 rfl (fun hc9 => ?_) (fun hc9 => ?_)
    · have hw := hw.1 hc9
      refine lv_iconst (v := 0) X.1 X.2.1 dX7_subtypeAt_14 (by decide) ?_
      refine lv_istore_n (lv' := [(3, .int (0 : Int32)), (0, .ref h), (1, .int x1), (2, .int x2)]) X.1 X.2.1 dX7_subtypeAt_15 rfl hl (by decide) rfl (fun ls hl => ?_)
      refine lv_iconst (v := 0) X.1 X.2.1 dX7_subtypeAt_16 (by decide) ?_
      refine lv_istore (lv' := [(4, .int (0 : Int32)), (3, .int (0 : Int32)), (0, .ref h), (1, .int x1), (2, .int x2)]) X.1 X.2.1 dX7_subtypeAt_17 hl (by decide) rfl (fun ls hl => ?_)
      obtain ⟨n, hw⟩ := hw
      exact rB_subtypeAt_19 X hr hlk hR hK hA n x1 x2 (0 : Int32) (0 : Int32) t2 H locs ls (lv_sub hl [2, 3, 4, 1, 0] rfl) hO hw
    · have hw := hw.2 hc9
      exact rB_subtypeAt_12 X hr hlk hR hK hA t2 H locs ls (lv_sub hl [0] rfl) hO hw
def R_subtypeAt_w (Q : Int32 → rS → Prop) (x1 : Int32) (x2 : Int32) (σ : rS) : Prop := R_subtypeAt_b0 Q x1 x2 σ
abbrev rmX7_subtypeAt : Room := { frames := 3, cells := 0, slots := 0, locals := 75 }
set_option maxHeartbeats 4000000 in
set_option maxRecDepth 100000 in
theorem rC_subtypeAt (l : Launch) (dC : Nat → ClassId) (dI : Nat → Nat → Nat) (h : Nat) (a : Nat → Nat) (cI cZ : ClassId) (σ : rS) (sz : Nat) (x1 : Int32) (x2 : Int32) (Q : Int32 → rS → Prop) (hw : R_subtypeAt_w Q x1 x2 σ) : Met l yX7_subtypeAt wsX7_subtypeAt rmX7_subtypeAt (rPc dC dI h a cI cZ sz σ [.ref h, .int x1, .int x2]) (va_Qi Q (rAt dC dI (va_A (rCells h a cI cZ σ) sz) h a cI cZ) (va_A (rCells h a cI cZ σ) sz)) 0 0 (va_A (rCells h a cI cZ σ) sz) := by
  refine Met.ofW (cc := cX7_subtypeAt) (maxL := 5) (ret := (some .int)) (by decide) rfl ?_
  intro p e s m args below meth c s₁ B hml hv
  obtain ⟨hargs, hsz, hP, hK, hD0⟩ := hv
  have hts := atoms_spec (ws := wsX7_subtypeAt) B.pre
  have hown : s.vm.findClass RX7 = some m.cls := findClass_of_methodNamed B.named
  subst hsz
  subst hargs
  have hD := hD0.self (sz := s.heap.size)
  generalize hAe : va_A (rCells h a cI cZ σ) s.heap.size = A at hD ⊢
  have hA : ∀ q : Nat, s.heap.size ≤ q → A q := fun q h => by rw [← hAe]; exact Or.inr h
  have hl := lv_entry ([.ref h, .int x1, .int x2]) (n := 5) (Nat.le_of_ble_eq_true rfl)
  rw [lg_entry_eq]
  generalize (lg_sl ([.ref h, .int x1, .int x2]) ++ List.replicate (5 - (lg_sl ([.ref h, .int x1, .int x2])).length) Slot.unset).toArray = ls at hl ⊢
  have hl : lv_has ls 5 [(0, .ref h), (1, .int x1), (2, .int x2)] := hl
  unfold R_subtypeAt_w at hw
  exact rB_subtypeAt_0 ⟨B.exec, B.bytes, hml, hown, hts⟩ B.returns B.notSynchronized ⟨Nat.le_of_ble_eq_true rfl, Nat.le_of_ble_eq_true rfl⟩ hK hA x1 x2 σ s.heap [] ls (lv_sub hl [0, 1, 2] rfl) ⟨hP, hD, va_S.rf⟩ hw
def R_meta_b31 (Q : Int32 → rS → Prop) (y0 : Int32) (σ : rS) : Prop :=
 zb y0 ∧ Q y0 σ
set_option maxHeartbeats 4000000 in
set_option maxRecDepth 100000 in
theorem rB_meta_31 {Q : Int32 → rS → Prop} (X : CallFix p m c cX7_meta 3 s args wsX7_meta RX7) (hr : meth.sig.returnType = (some .boolean)) (hlk : meth.locks = false) (hR : 3 ≤ R.frames ∧ 75 ≤ R.locals) (hK : va_K (dC, dI) vwCl [(cI, .int), (cZ, .boolean)] s) (hA : ∀ q, s.heap.size ≤ q → A q) (y0 : Int32) (σ : rS) (H : Heap) (locs : List Loc) (ls : Array Slot) (hl : lv_has ls 3 [(0, .ref h)]) (hO : rO dC dI h a cI cZ A s.heap σ H locs) (hw : R_meta_b31 Q y0 σ) : W p l e R s m args below meth c H locs 0 0 (MQ below (va_Qi Q (rAt dC dI A h a cI cZ) A) args s 0 0 A) (F0 m 31 ls [.int y0]) := by
  unfold R_meta_b31 at hw
  obtain ⟨hz, hw⟩ := hw
  exact W.zret (v := y0) X.1 X.2.1 hr hz (fun t ht hW => ⟨⟨y0, σ, rfl, hw, rO_end hO hK ht hW⟩, hO.2.2.F ht⟩) hO.2.2.2.2 dX7_meta_31 hlk
def R_meta_b30 (Q : Int32 → rS → Prop) (σ : rS) : Prop :=
 R_meta_b31 Q (0 : Int32) σ
set_option maxHeartbeats 4000000 in
set_option maxRecDepth 100000 in
theorem rB_meta_30 {Q : Int32 → rS → Prop} (X : CallFix p m c cX7_meta 3 s args wsX7_meta RX7) (hr : meth.sig.returnType = (some .boolean)) (hlk : meth.locks = false) (hR : 3 ≤ R.frames ∧ 75 ≤ R.locals) (hK : va_K (dC, dI) vwCl [(cI, .int), (cZ, .boolean)] s) (hA : ∀ q, s.heap.size ≤ q → A q) (σ : rS) (H : Heap) (locs : List Loc) (ls : Array Slot) (hl : lv_has ls 3 [(0, .ref h)]) (hO : rO dC dI h a cI cZ A s.heap σ H locs) (hw : R_meta_b30 Q σ) : W p l e R s m args below meth c H locs 0 0 (MQ below (va_Qi Q (rAt dC dI A h a cI cZ) A) args s 0 0 A) (F0 m 30 ls []) := by
  unfold R_meta_b30 at hw
  refine lv_iconst (v := 0) X.1 X.2.1 dX7_meta_30 (by decide) ?_
  exact rB_meta_31 X hr hlk hR hK hA (0 : Int32) σ H locs ls (lv_sub hl [0] rfl) hO hw
def R_meta_b0 (Q : Int32 → rS → Prop) (x1 : Int32) (x2 : Int32) (σ : rS) : Prop :=
 R_isClass_w (fun r2 t2 => (r2 = 0 → R_meta_b30 Q t2) ∧ (¬ r2 = 0 → R_isText_w (fun r10 t10 => (r10 = 0 → R_meta_b30 Q t10) ∧ (¬ r10 = 0 → R_reaches_w (fun r20 t20 => (r20 = 0 → R_meta_b30 Q t20) ∧ (¬ r20 = 0 → R_meta_b31 Q (1 : Int32) t20)) x1 x2 (1 : Int32) t10)) x2 t2)) x1 σ
set_option maxHeartbeats 4000000 in
set_option maxRecDepth 100000 in
theorem rB_meta_0 {Q : Int32 → rS → Prop} (X : CallFix p m c cX7_meta 3 s args wsX7_meta RX7) (hr : meth.sig.returnType = (some .boolean)) (hlk : meth.locks = false) (hR : 3 ≤ R.frames ∧ 75 ≤ R.locals) (hK : va_K (dC, dI) vwCl [(cI, .int), (cZ, .boolean)] s) (hA : ∀ q, s.heap.size ≤ q → A q) (x1 : Int32) (x2 : Int32) (σ : rS) (H : Heap) (locs : List Loc) (ls : Array Slot) (hl : lv_has ls 3 [(0, .ref h), (1, .int x1), (2, .int x2)]) (hO : rO dC dI h a cI cZ A s.heap σ H locs) (hw : R_meta_b0 Q x1 x2 σ) : W p l e R s m args below meth c H locs 0 0 (MQ below (va_Qi Q (rAt dC dI A h a cI cZ) A) args s 0 0 A) (F0 m 0 ls []) := by
  unfold R_meta_b0 at hw
  refine lv_aload_n X.1 X.2.1 dX7_meta_0 rfl (lv_at hl 0 rfl) ?_
  refine lv_iload_n X.1 X.2.1 dX7_meta_1 rfl (lv_at hl 1 rfl) ?_
  refine r_calli (rest := []) (As := [.int x1]) X (rC_isClass l dC dI h a cI cZ σ H.size x1 _ hw) (cwV 1 X.2.2.2.2 gX7_isClass rfl rfl rfl hdX7_isClass ⟨Nat.le_trans (by decide) hR.1, Nat.le_trans (by decide) hR.2⟩) hK hA hO rfl hl.1 rfl (Nat.le_of_ble_eq_true rfl) dX7_meta_2 (fun r2 t2 H locs hO hw => ?_)
  refine lv_if_eq (tgt := 30) X.1 X.2.1 dX7_meta_5 rfl (fun hc9 => ?_) (fun hc9 => ?_)
  · have hw := hw.1 hc9
    exact rB_meta_30 X hr hlk hR hK hA t2 H locs ls (lv_sub hl [0] rfl) hO hw
  · have hw := hw.2 hc9
    refine lv_aload_n X.1 X.2.1 dX7_meta_8 rfl (lv_at hl 0 rfl) ?_
    refine lv_iload_n X.1 X.2.1 dX7_meta_9 rfl (lv_at hl 2 rfl) ?_
    refine r_calli (rest := []) (As := [.int x2]) X (rC_isText l dC dI h a cI cZ t2 H.size x2 _ hw) (cwV 1 X.2.2.2.2 gX7_isText rfl rfl rfl hdX7_isText ⟨Nat.le_trans (by decide) hR.1, Nat.le_trans (by decide) hR.2⟩) hK hA hO rfl hl.1 rfl (Nat.le_of_ble_eq_true rfl) dX7_meta_10 (fun r10 t10 H locs hO hw => ?_)
    refine lv_if_eq (tgt := 30) X.1 X.2.1 dX7_meta_13 rfl (fun hc9 => ?_) (fun hc9 => ?_)
    · have hw := hw.1 hc9
      exact rB_meta_30 X hr hlk hR hK hA t10 H locs ls (lv_sub hl [0] rfl) hO hw
    · have hw := hw.2 hc9
      refine lv_aload_n X.1 X.2.1 dX7_meta_16 rfl (lv_at hl 0 rfl) ?_
      refine lv_iload_n X.1 X.2.1 dX7_meta_17 rfl (lv_at hl 1 rfl) ?_
      refine lv_iload_n X.1 X.2.1 dX7_meta_18 rfl (lv_at hl 2 rfl) ?_
      refine lv_iconst (v := 1) X.1 X.2.1 dX7_meta_19 (by decide) ?_
      refine r_calli (rest := []) (As := [.int x1, .int x2, .int (1 : Int32)]) X (rC_reaches l dC dI h a cI cZ t10 H.size x1 x2 (1 : Int32) _ hw) (cwV 3 X.2.2.2.2 gX7_reaches rfl rfl rfl hdX7_reaches ⟨Nat.le_trans (by decide) hR.1, Nat.le_trans (by decide) hR.2⟩) hK hA hO rfl hl.1 rfl (Nat.le_of_ble_eq_true rfl) dX7_meta_20 (fun r20 t20 H locs hO hw => ?_)
      refine lv_if_eq (tgt := 30) X.1 X.2.1 dX7_meta_23 rfl (fun hc9 => ?_) (fun hc9 => ?_)
      · have hw := hw.1 hc9
        exact rB_meta_30 X hr hlk hR hK hA t20 H locs ls (lv_sub hl [0] rfl) hO hw
      · have hw := hw.2 hc9
        refine lv_iconst (v := 1) X.1 X.2.1 dX7_meta_26 (by decide) ?_
        refine lv_goto (tgt := 31) X.1 X.2.1 dX7_meta_27 rfl ?_
        exact rB_meta_31 X hr hlk hR hK hA (1 : Int32) t20 H locs ls (lv_sub hl [0] rfl) hO hw
def R_meta_w (Q : Int32 → rS → Prop) (x1 : Int32) (x2 : Int32) (σ : rS) : Prop := R_meta_b0 Q x1 x2 σ
abbrev rmX7_meta : Room := { frames := 3, cells := 0, slots := 0, locals := 75 }
set_option maxHeartbeats 4000000 in
set_option maxRecDepth 100000 in
theorem rC_meta (l : Launch) (dC : Nat → ClassId) (dI : Nat → Nat → Nat) (h : Nat) (a : Nat → Nat) (cI cZ : ClassId) (σ : rS) (sz : Nat) (x1 : Int32) (x2 : Int32) (Q : Int32 → rS → Prop) (hw : R_meta_w Q x1 x2 σ) : Met l yX7_meta wsX7_meta rmX7_meta (rPc dC dI h a cI cZ sz σ [.ref h, .int x1, .int x2]) (va_Qi Q (rAt dC dI (va_A (rCells h a cI cZ σ) sz) h a cI cZ) (va_A (rCells h a cI cZ σ) sz)) 0 0 (va_A (rCells h a cI cZ σ) sz) := by
  refine Met.ofW (cc := cX7_meta) (maxL := 3) (ret := (some .boolean)) (by decide) rfl ?_
  intro p e s m args below meth c s₁ B hml hv
  obtain ⟨hargs, hsz, hP, hK, hD0⟩ := hv
  have hts := atoms_spec (ws := wsX7_meta) B.pre
  have hown : s.vm.findClass RX7 = some m.cls := findClass_of_methodNamed B.named
  subst hsz
  subst hargs
  have hD := hD0.self (sz := s.heap.size)
  generalize hAe : va_A (rCells h a cI cZ σ) s.heap.size = A at hD ⊢
  have hA : ∀ q : Nat, s.heap.size ≤ q → A q := fun q h => by rw [← hAe]; exact Or.inr h
  have hl := lv_entry ([.ref h, .int x1, .int x2]) (n := 3) (Nat.le_of_ble_eq_true rfl)
  rw [lg_entry_eq]
  generalize (lg_sl ([.ref h, .int x1, .int x2]) ++ List.replicate (3 - (lg_sl ([.ref h, .int x1, .int x2])).length) Slot.unset).toArray = ls at hl ⊢
  have hl : lv_has ls 3 [(0, .ref h), (1, .int x1), (2, .int x2)] := hl
  unfold R_meta_w at hw
  exact rB_meta_0 ⟨B.exec, B.bytes, hml, hown, hts⟩ B.returns B.notSynchronized ⟨Nat.le_of_ble_eq_true rfl, Nat.le_of_ble_eq_true rfl⟩ hK hA x1 x2 σ s.heap [] ls (lv_sub hl [0, 1, 2] rfl) ⟨hP, hD, va_S.rf⟩ hw
def R_inherited_b26 (Q : Int32 → rS → Prop) (y0 : Int32) (σ : rS) : Prop :=
 zb y0 ∧ Q y0 σ
set_option maxHeartbeats 4000000 in
set_option maxRecDepth 100000 in
theorem rB_inherited_26 {Q : Int32 → rS → Prop} (X : CallFix p m c cX7_inherited 3 s args wsX7_inherited RX7) (hr : meth.sig.returnType = (some .boolean)) (hlk : meth.locks = false) (hR : 1 ≤ R.frames ∧ 22 ≤ R.locals) (hK : va_K (dC, dI) vwCl [(cI, .int), (cZ, .boolean)] s) (hA : ∀ q, s.heap.size ≤ q → A q) (y0 : Int32) (σ : rS) (H : Heap) (locs : List Loc) (ls : Array Slot) (hl : lv_has ls 3 [(0, .ref h)]) (hO : rO dC dI h a cI cZ A s.heap σ H locs) (hw : R_inherited_b26 Q y0 σ) : W p l e R s m args below meth c H locs 0 0 (MQ below (va_Qi Q (rAt dC dI A h a cI cZ) A) args s 0 0 A) (F0 m 26 ls [.int y0]) := by
  unfold R_inherited_b26 at hw
  obtain ⟨hz, hw⟩ := hw
  exact W.zret (v := y0) X.1 X.2.1 hr hz (fun t ht hW => ⟨⟨y0, σ, rfl, hw, rO_end hO hK ht hW⟩, hO.2.2.F ht⟩) hO.2.2.2.2 dX7_inherited_26 hlk
def R_inherited_b25 (Q : Int32 → rS → Prop) (σ : rS) : Prop :=
 R_inherited_b26 Q (0 : Int32) σ
set_option maxHeartbeats 4000000 in
set_option maxRecDepth 100000 in
theorem rB_inherited_25 {Q : Int32 → rS → Prop} (X : CallFix p m c cX7_inherited 3 s args wsX7_inherited RX7) (hr : meth.sig.returnType = (some .boolean)) (hlk : meth.locks = false) (hR : 1 ≤ R.frames ∧ 22 ≤ R.locals) (hK : va_K (dC, dI) vwCl [(cI, .int), (cZ, .boolean)] s) (hA : ∀ q, s.heap.size ≤ q → A q) (σ : rS) (H : Heap) (locs : List Loc) (ls : Array Slot) (hl : lv_has ls 3 [(0, .ref h)]) (hO : rO dC dI h a cI cZ A s.heap σ H locs) (hw : R_inherited_b25 Q σ) : W p l e R s m args below meth c H locs 0 0 (MQ below (va_Qi Q (rAt dC dI A h a cI cZ) A) args s 0 0 A) (F0 m 25 ls []) := by
  unfold R_inherited_b25 at hw
  refine lv_iconst (v := 0) X.1 X.2.1 dX7_inherited_25 (by decide) ?_
  exact rB_inherited_26 X hr hlk hR hK hA (0 : Int32) σ H locs ls (lv_sub hl [0] rfl) hO hw
def R_inherited_b0 (Q : Int32 → rS → Prop) (x1 : Int32) (σ : rS) : Prop :=
 R_find_w (fun r2 t2 => (r2 < 0 → R_inherited_b25 Q t2) ∧ (¬ r2 < 0 → vp_in r2 16 ∧ (((t2.2 9 r2.toNatClampNeg) &&& (2 : Int32)) = 0 → R_inherited_b25 Q t2) ∧ (¬ ((t2.2 9 r2.toNatClampNeg) &&& (2 : Int32)) = 0 → R_inherited_b26 Q (1 : Int32) t2))) x1 σ
set_option maxHeartbeats 4000000 in
set_option maxRecDepth 100000 in
theorem rB_inherited_0 {Q : Int32 → rS → Prop} (X : CallFix p m c cX7_inherited 3 s args wsX7_inherited RX7) (hr : meth.sig.returnType = (some .boolean)) (hlk : meth.locks = false) (hR : 1 ≤ R.frames ∧ 22 ≤ R.locals) (hK : va_K (dC, dI) vwCl [(cI, .int), (cZ, .boolean)] s) (hA : ∀ q, s.heap.size ≤ q → A q) (x1 : Int32) (σ : rS) (H : Heap) (locs : List Loc) (ls : Array Slot) (hl : lv_has ls 3 [(0, .ref h), (1, .int x1)]) (hO : rO dC dI h a cI cZ A s.heap σ H locs) (hw : R_inherited_b0 Q x1 σ) : W p l e R s m args below meth c H locs 0 0 (MQ below (va_Qi Q (rAt dC dI A h a cI cZ) A) args s 0 0 A) (F0 m 0 ls []) := by
  unfold R_inherited_b0 at hw
  refine lv_aload_n X.1 X.2.1 dX7_inherited_0 rfl (lv_at hl 0 rfl) ?_
  refine lv_iload_n X.1 X.2.1 dX7_inherited_1 rfl (lv_at hl 1 rfl) ?_
  refine r_calli (rest := []) (As := [.int x1]) X (rC_find l dC dI h a cI cZ σ H.size x1 _ hw) (cwV 1 X.2.2.2.2 gX7_find rfl rfl rfl hdX7_find ⟨Nat.le_trans (by decide) hR.1, Nat.le_trans (by decide) hR.2⟩) hK hA hO rfl hl.1 rfl (Nat.le_of_ble_eq_true rfl) dX7_inherited_2 (fun r2 t2 H locs hO hw => ?_)
  refine lv_istore_n (lv' := [(2, .int r2), (0, .ref h), (1, .int x1)]) X.1 X.2.1 dX7_inherited_5 rfl hl (by decide) rfl (fun ls hl => ?_)
  refine lv_iload_n X.1 X.2.1 dX7_inherited_6 rfl (lv_at hl 0 rfl) ?_
  refine lv_if_lt (tgt := 25) X.1 X.2.1 dX7_inherited_7 rfl (fun hc9 => ?_) (fun hc9 => ?_)
  · have hw := hw.1 hc9
    exact rB_inherited_25 X hr hlk hR hK hA t2 H locs ls (lv_sub hl [1] rfl) hO hw
  · have hw := hw.2 hc9
    refine lv_aload_n X.1 X.2.1 dX7_inherited_10 rfl (lv_at hl 1 rfl) ?_
    refine rf_flag X hK hO dX7_inherited_11 ?_
    refine lv_iload_n X.1 X.2.1 dX7_inherited_14 rfl (lv_at hl 0 rfl) ?_
    obtain ⟨g15, hw⟩ := hw
    refine ra_flag X.1 X.2.1 hK hO g15 dX7_inherited_15 ?_
    refine lv_iconst (v := 2) X.1 X.2.1 dX7_inherited_16 (by decide) ?_
    refine lv_iand X.1 X.2.1 dX7_inherited_17 ?_
    refine lv_if_eq (tgt := 25) X.1 X.2.1 dX7_inherited_18 rfl (fun hc9 => ?_) (fun hc9 => ?_)
    · have hw := hw.1 hc9
      exact rB_inherited_25 X hr hlk hR hK hA t2 H locs ls (lv_sub hl [1] rfl) hO hw
    · have hw := hw.2 hc9
      refine lv_iconst (v := 1) X.1 X.2.1 dX7_inherited_21 (by decide) ?_
      refine lv_goto (tgt := 26) X.1 X.2.1 dX7_inherited_22 rfl ?_
      exact rB_inherited_26 X hr hlk hR hK hA (1 : Int32) t2 H locs ls (lv_sub hl [1] rfl) hO hw
def R_inherited_w (Q : Int32 → rS → Prop) (x1 : Int32) (σ : rS) : Prop := R_inherited_b0 Q x1 σ
abbrev rmX7_inherited : Room := { frames := 1, cells := 0, slots := 0, locals := 22 }
set_option maxHeartbeats 4000000 in
set_option maxRecDepth 100000 in
theorem rC_inherited (l : Launch) (dC : Nat → ClassId) (dI : Nat → Nat → Nat) (h : Nat) (a : Nat → Nat) (cI cZ : ClassId) (σ : rS) (sz : Nat) (x1 : Int32) (Q : Int32 → rS → Prop) (hw : R_inherited_w Q x1 σ) : Met l yX7_inherited wsX7_inherited rmX7_inherited (rPc dC dI h a cI cZ sz σ [.ref h, .int x1]) (va_Qi Q (rAt dC dI (va_A (rCells h a cI cZ σ) sz) h a cI cZ) (va_A (rCells h a cI cZ σ) sz)) 0 0 (va_A (rCells h a cI cZ σ) sz) := by
  refine Met.ofW (cc := cX7_inherited) (maxL := 3) (ret := (some .boolean)) (by decide) rfl ?_
  intro p e s m args below meth c s₁ B hml hv
  obtain ⟨hargs, hsz, hP, hK, hD0⟩ := hv
  have hts := atoms_spec (ws := wsX7_inherited) B.pre
  have hown : s.vm.findClass RX7 = some m.cls := findClass_of_methodNamed B.named
  subst hsz
  subst hargs
  have hD := hD0.self (sz := s.heap.size)
  generalize hAe : va_A (rCells h a cI cZ σ) s.heap.size = A at hD ⊢
  have hA : ∀ q : Nat, s.heap.size ≤ q → A q := fun q h => by rw [← hAe]; exact Or.inr h
  have hl := lv_entry ([.ref h, .int x1]) (n := 3) (Nat.le_of_ble_eq_true rfl)
  rw [lg_entry_eq]
  generalize (lg_sl ([.ref h, .int x1]) ++ List.replicate (3 - (lg_sl ([.ref h, .int x1])).length) Slot.unset).toArray = ls at hl ⊢
  have hl : lv_has ls 3 [(0, .ref h), (1, .int x1)] := hl
  unfold R_inherited_w at hw
  exact rB_inherited_0 ⟨B.exec, B.bytes, hml, hown, hts⟩ B.returns B.notSynchronized ⟨Nat.le_of_ble_eq_true rfl, Nat.le_of_ble_eq_true rfl⟩ hK hA x1 σ s.heap [] ls (lv_sub hl [0, 1] rfl) ⟨hP, hD, va_S.rf⟩ hw
def R_firstNote_b2_s (Q : Int32 → rS → Prop) (K2 : Int32 → Int32 → Int32 → rS → Prop) (x1 : Int32) (x2 : Int32) (x3 : Int32) (σ : rS) : Prop :=
 vp_in x1 16 ∧ ((σ.2 15 x1.toNatClampNeg) ≤ x3 → Q (-1 : Int32) σ) ∧ (¬ (σ.2 15 x1.toNatClampNeg) ≤ x3 → R_typeOf_w (fun r15 t15 => (¬ r15 = x2 → ∀ v24 : Int32, v24 = x3 + (1 : Int32) → K2 x1 x2 v24 t15) ∧ (r15 = x2 → Q x3 t15)) x1 x3 σ)
def R_firstNote_b2_f (Q : Int32 → rS → Prop) : (Int32 × Int32 × Int32 × rS → Prop) → Int32 × Int32 × Int32 × rS → Prop :=
 fun K z => R_firstNote_b2_s Q (fun x1 x2 x3 σ => K (x1, x2, x3, σ)) z.1 z.2.1 z.2.2.1 z.2.2.2
def R_firstNote_b2 (Q : Int32 → rS → Prop) (x1 : Int32) (x2 : Int32) (x3 : Int32) (σ : rS) : Prop := ∃ n, fx (R_firstNote_b2_f Q ) n (x1, x2, x3, σ)
set_option maxHeartbeats 4000000 in
set_option maxRecDepth 100000 in
theorem rB_firstNote_2 {Q : Int32 → rS → Prop} (X : CallFix p m c cX7_firstNote 4 s args wsX7_firstNote RX7) (hr : meth.sig.returnType = (some .int)) (hlk : meth.locks = false) (hR : 1 ≤ R.frames ∧ 22 ≤ R.locals) (hK : va_K (dC, dI) vwCl [(cI, .int), (cZ, .boolean)] s) (hA : ∀ q, s.heap.size ≤ q → A q) : ∀ (n : Nat) (x1 : Int32) (x2 : Int32) (x3 : Int32) (σ : rS) (H : Heap) (locs : List Loc) (ls : Array Slot), lv_has ls 4 [(0, .ref h), (1, .int x1), (2, .int x2), (3, .int x3)] → rO dC dI h a cI cZ A s.heap σ H locs → fx (R_firstNote_b2_f Q ) n (x1, x2, x3, σ) → W p l e R s m args below meth c H locs 0 0 (MQ below (va_Qi Q (rAt dC dI A h a cI cZ) A) args s 0 0 A) (F0 m 2 ls []) := by
  intro n
  induction n with
  | zero => intro x1 x2 x3 σ H locs ls hl hO hw; exact False.elim hw
  | succ n k2 =>
    intro x1 x2 x3 σ H locs ls hl hO hw
    have hw : R_firstNote_b2_s Q (fun x1 x2 x3 σ => fx (R_firstNote_b2_f Q ) n (x1, x2, x3, σ)) x1 x2 x3 σ := hw
    unfold R_firstNote_b2_s at hw
    refine lv_iload_n X.1 X.2.1 dX7_firstNote_2 rfl (lv_at hl 3 rfl) ?_
    refine lv_aload_n X.1 X.2.1 dX7_firstNote_3 rfl (lv_at hl 0 rfl) ?_
    refine rf_noteCount X hK hO dX7_firstNote_4 ?_
    refine lv_iload_n X.1 X.2.1 dX7_firstNote_7 rfl (lv_at hl 1 rfl) ?_
    obtain ⟨g8, hw⟩ := hw
    refine ra_noteCount X.1 X.2.1 hK hO g8 dX7_firstNote_8 ?_
    refine lv_icmp_ge (tgt := 30) X.1 X.2.1 dX7_firstNote_9 rfl (fun hc9 => ?_) (fun hc9 => ?_)
    · have hw := hw.1 hc9
      refine lv_iconst (v := -1) X.1 X.2.1 dX7_firstNote_30 (by decide) ?_
      exact W.iret (v := (-1 : Int32)) X.1 X.2.1 hr (fun t ht hW => ⟨⟨(-1 : Int32), σ, rfl, hw, rO_end hO hK ht hW⟩, hO.2.2.F ht⟩) hO.2.2.2.2 dX7_firstNote_31 hlk
    · have hw := hw.2 hc9
      refine lv_aload_n X.1 X.2.1 dX7_firstNote_12 rfl (lv_at hl 0 rfl) ?_
      refine lv_iload_n X.1 X.2.1 dX7_firstNote_13 rfl (lv_at hl 1 rfl) ?_
      refine lv_iload_n X.1 X.2.1 dX7_firstNote_14 rfl (lv_at hl 3 rfl) ?_
      refine r_calli (rest := []) (As := [.int x1, .int x3]) X (rC_typeOf l dC dI h a cI cZ σ H.size x1 x3 _ hw) (cwV 2 X.2.2.2.2 gX7_typeOf rfl rfl rfl hdX7_typeOf ⟨Nat.le_trans (by decide) hR.1, Nat.le_trans (by decide) hR.2⟩) hK hA hO rfl hl.1 rfl (Nat.le_of_ble_eq_true rfl) dX7_firstNote_15 (fun r15 t15 H locs hO hw => ?_)
      refine lv_iload_n X.1 X.2.1 dX7_firstNote_18 rfl (lv_at hl 2 rfl) ?_
      refine lv_icmp_ne (tgt := 24) X.1 X.2.1 dX7_firstNote_19 rfl (fun hc9 => ?_) (fun hc9 => ?_)
      · have hw := hw.1 hc9
        obtain ⟨v24, e24⟩ : ∃ z, z = x3 + (1 : Int32) := ⟨_, rfl⟩
        have hw := hw v24 e24
        refine lv_iinc (lv' := [(3, .int v24), (0, .ref h), (1, .int x1), (2, .int x2)]) (k := 3) (v := v24) X.1 X.2.1 dX7_firstNote_24 hl rfl (by rw [e24]; rfl) (by decide) rfl (fun ls hl => ?_)
        refine lv_goto (tgt := 2) X.1 X.2.1 dX7_firstNote_27 rfl ?_
        exact k2 x1 x2 v24 t15 H locs ls (lv_sub hl [1, 2, 3, 0] rfl) hO hw
      · have hw := hw.2 hc9
        refine lv_iload_n X.1 X.2.1 dX7_firstNote_22 rfl (lv_at hl 3 rfl) ?_
        exact W.iret (v := x3) X.1 X.2.1 hr (fun t ht hW => ⟨⟨x3, t15, rfl, hw, rO_end hO hK ht hW⟩, hO.2.2.F ht⟩) hO.2.2.2.2 dX7_firstNote_23 hlk
def R_firstNote_b0 (Q : Int32 → rS → Prop) (x1 : Int32) (x2 : Int32) (σ : rS) : Prop :=
 R_firstNote_b2 Q x1 x2 (0 : Int32) σ
set_option maxHeartbeats 4000000 in
set_option maxRecDepth 100000 in
theorem rB_firstNote_0 {Q : Int32 → rS → Prop} (X : CallFix p m c cX7_firstNote 4 s args wsX7_firstNote RX7) (hr : meth.sig.returnType = (some .int)) (hlk : meth.locks = false) (hR : 1 ≤ R.frames ∧ 22 ≤ R.locals) (hK : va_K (dC, dI) vwCl [(cI, .int), (cZ, .boolean)] s) (hA : ∀ q, s.heap.size ≤ q → A q) (x1 : Int32) (x2 : Int32) (σ : rS) (H : Heap) (locs : List Loc) (ls : Array Slot) (hl : lv_has ls 4 [(0, .ref h), (1, .int x1), (2, .int x2)]) (hO : rO dC dI h a cI cZ A s.heap σ H locs) (hw : R_firstNote_b0 Q x1 x2 σ) : W p l e R s m args below meth c H locs 0 0 (MQ below (va_Qi Q (rAt dC dI A h a cI cZ) A) args s 0 0 A) (F0 m 0 ls []) := by
  unfold R_firstNote_b0 at hw
  refine lv_iconst (v := 0) X.1 X.2.1 dX7_firstNote_0 (by decide) ?_
  refine lv_istore_n (lv' := [(3, .int (0 : Int32)), (0, .ref h), (1, .int x1), (2, .int x2)]) X.1 X.2.1 dX7_firstNote_1 rfl hl (by decide) rfl (fun ls hl => ?_)
  obtain ⟨n, hw⟩ := hw
  exact rB_firstNote_2 X hr hlk hR hK hA n x1 x2 (0 : Int32) σ H locs ls (lv_sub hl [1, 2, 3, 0] rfl) hO hw
def R_firstNote_w (Q : Int32 → rS → Prop) (x1 : Int32) (x2 : Int32) (σ : rS) : Prop := R_firstNote_b0 Q x1 x2 σ
abbrev rmX7_firstNote : Room := { frames := 1, cells := 0, slots := 0, locals := 22 }
set_option maxHeartbeats 4000000 in
set_option maxRecDepth 100000 in
theorem rC_firstNote (l : Launch) (dC : Nat → ClassId) (dI : Nat → Nat → Nat) (h : Nat) (a : Nat → Nat) (cI cZ : ClassId) (σ : rS) (sz : Nat) (x1 : Int32) (x2 : Int32) (Q : Int32 → rS → Prop) (hw : R_firstNote_w Q x1 x2 σ) : Met l yX7_firstNote wsX7_firstNote rmX7_firstNote (rPc dC dI h a cI cZ sz σ [.ref h, .int x1, .int x2]) (va_Qi Q (rAt dC dI (va_A (rCells h a cI cZ σ) sz) h a cI cZ) (va_A (rCells h a cI cZ σ) sz)) 0 0 (va_A (rCells h a cI cZ σ) sz) := by
  refine Met.ofW (cc := cX7_firstNote) (maxL := 4) (ret := (some .int)) (by decide) rfl ?_
  intro p e s m args below meth c s₁ B hml hv
  obtain ⟨hargs, hsz, hP, hK, hD0⟩ := hv
  have hts := atoms_spec (ws := wsX7_firstNote) B.pre
  have hown : s.vm.findClass RX7 = some m.cls := findClass_of_methodNamed B.named
  subst hsz
  subst hargs
  have hD := hD0.self (sz := s.heap.size)
  generalize hAe : va_A (rCells h a cI cZ σ) s.heap.size = A at hD ⊢
  have hA : ∀ q : Nat, s.heap.size ≤ q → A q := fun q h => by rw [← hAe]; exact Or.inr h
  have hl := lv_entry ([.ref h, .int x1, .int x2]) (n := 4) (Nat.le_of_ble_eq_true rfl)
  rw [lg_entry_eq]
  generalize (lg_sl ([.ref h, .int x1, .int x2]) ++ List.replicate (4 - (lg_sl ([.ref h, .int x1, .int x2])).length) Slot.unset).toArray = ls at hl ⊢
  have hl : lv_has ls 4 [(0, .ref h), (1, .int x1), (2, .int x2)] := hl
  unfold R_firstNote_w at hw
  exact rB_firstNote_0 ⟨B.exec, B.bytes, hml, hown, hts⟩ B.returns B.notSynchronized ⟨Nat.le_of_ble_eq_true rfl, Nat.le_of_ble_eq_true rfl⟩ hK hA x1 x2 σ s.heap [] ls (lv_sub hl [0, 1, 2] rfl) ⟨hP, hD, va_S.rf⟩ hw
def R_holder_b16 (Q : Int32 → rS → Prop) (σ : rS) : Prop :=
 Q (-1 : Int32) σ
set_option maxHeartbeats 4000000 in
set_option maxRecDepth 100000 in
theorem rB_holder_16 {Q : Int32 → rS → Prop} (X : CallFix p m c cX7_holder 6 s args wsX7_holder RX7) (hr : meth.sig.returnType = (some .int)) (hlk : meth.locks = false) (hR : 2 ≤ R.frames ∧ 45 ≤ R.locals) (hK : va_K (dC, dI) vwCl [(cI, .int), (cZ, .boolean)] s) (hA : ∀ q, s.heap.size ≤ q → A q) (σ : rS) (H : Heap) (locs : List Loc) (ls : Array Slot) (hl : lv_has ls 6 [(0, .ref h)]) (hO : rO dC dI h a cI cZ A s.heap σ H locs) (hw : R_holder_b16 Q σ) : W p l e R s m args below meth c H locs 0 0 (MQ below (va_Qi Q (rAt dC dI A h a cI cZ) A) args s 0 0 A) (F0 m 16 ls []) := by
  unfold R_holder_b16 at hw
  refine lv_iconst (v := -1) X.1 X.2.1 dX7_holder_16 (by decide) ?_
  exact W.iret (v := (-1 : Int32)) X.1 X.2.1 hr (fun t ht hW => ⟨⟨(-1 : Int32), σ, rfl, hw, rO_end hO hK ht hW⟩, hO.2.2.F ht⟩) hO.2.2.2.2 dX7_holder_17 hlk
def R_holder_b92 (Q : Int32 → rS → Prop) (σ : rS) : Prop :=
 Q (-1 : Int32) σ
set_option maxHeartbeats 4000000 in
set_option maxRecDepth 100000 in
theorem rB_holder_92 {Q : Int32 → rS → Prop} (X : CallFix p m c cX7_holder 6 s args wsX7_holder RX7) (hr : meth.sig.returnType = (some .int)) (hlk : meth.locks = false) (hR : 2 ≤ R.frames ∧ 45 ≤ R.locals) (hK : va_K (dC, dI) vwCl [(cI, .int), (cZ, .boolean)] s) (hA : ∀ q, s.heap.size ≤ q → A q) (σ : rS) (H : Heap) (locs : List Loc) (ls : Array Slot) (hl : lv_has ls 6 [(0, .ref h)]) (hO : rO dC dI h a cI cZ A s.heap σ H locs) (hw : R_holder_b92 Q σ) : W p l e R s m args below meth c H locs 0 0 (MQ below (va_Qi Q (rAt dC dI A h a cI cZ) A) args s 0 0 A) (F0 m 92 ls []) := by
  unfold R_holder_b92 at hw
  refine lv_iconst (v := -1) X.1 X.2.1 dX7_holder_92 (by decide) ?_
  exact W.iret (v := (-1 : Int32)) X.1 X.2.1 hr (fun t ht hW => ⟨⟨(-1 : Int32), σ, rfl, hw, rO_end hO hK ht hW⟩, hO.2.2.F ht⟩) hO.2.2.2.2 dX7_holder_93 hlk
def R_holder_b84 (Q : Int32 → rS → Prop) (K30 : Int32 → Int32 → Int32 → Int32 → rS → Prop) (x2 : Int32) (x3 : Int32) (x5 : Int32) (y0 : Int32) (σ : rS) : Prop :=
 ∀ v86 : Int32, v86 = x5 + (1 : Int32) → K30 x2 x3 y0 v86 σ
set_option maxHeartbeats 4000000 in
set_option maxRecDepth 100000 in
theorem rB_holder_84 {Q : Int32 → rS → Prop} {K30 : Int32 → Int32 → Int32 → Int32 → rS → Prop} (X : CallFix p m c cX7_holder 6 s args wsX7_holder RX7) (hr : meth.sig.returnType = (some .int)) (hlk : meth.locks = false) (hR : 2 ≤ R.frames ∧ 45 ≤ R.locals) (hK : va_K (dC, dI) vwCl [(cI, .int), (cZ, .boolean)] s) (hA : ∀ q, s.heap.size ≤ q → A q) (k30 : ∀ (x2 : Int32) (x3 : Int32) (x4 : Int32) (x5 : Int32) (σ : rS) (H : Heap) (locs : List Loc) (ls : Array Slot), lv_has ls 6 [(0, .ref h), (2, .int x2), (3, .int x3), (4, .int x4), (5, .int x5)] → rO dC dI h a cI cZ A s.heap σ H locs → K30 x2 x3 x4 x5 σ → W p l e R s m args below meth c H locs 0 0 (MQ below (va_Qi Q (rAt dC dI A h a cI cZ) A) args s 0 0 A) (F0 m 30 ls [])) (x2 : Int32) (x3 : Int32) (x5 : Int32) (y0 : Int32) (σ : rS) (H : Heap) (locs : List Loc) (ls : Array Slot) (hl : lv_has ls 6 [(0, .ref h), (2, .int x2), (3, .int x3), (5, .int x5)]) (hO : rO dC dI h a cI cZ A s.heap σ H locs) (hw : R_holder_b84 Q K30 x2 x3 x5 y0 σ) : W p l e R s m args below meth c H locs 0 0 (MQ below (va_Qi Q (rAt dC dI A h a cI cZ) A) args s 0 0 A) (F0 m 84 ls [.int y0]) := by
  unfold R_holder_b84 at hw
  refine lv_istore (lv' := [(4, .int y0), (0, .ref h), (2, .int x2), (3, .int x3), (5, .int x5)]) X.1 X.2.1 dX7_holder_84 hl (by decide) rfl (fun ls hl => ?_)
  obtain ⟨v86, e86⟩ : ∃ z, z = x5 + (1 : Int32) := ⟨_, rfl⟩
  have hw := hw v86 e86
  refine lv_iinc (lv' := [(5, .int v86), (4, .int y0), (0, .ref h), (2, .int x2), (3, .int x3)]) (k := 4) (v := v86) X.1 X.2.1 dX7_holder_86 hl rfl (by rw [e86]; rfl) (by decide) rfl (fun ls hl => ?_)
  refine lv_goto (tgt := 30) X.1 X.2.1 dX7_holder_89 rfl ?_
  exact k30 x2 x3 y0 v86 σ H locs ls (lv_sub hl [2, 3, 4, 1, 0] rfl) hO hw
def R_holder_b83 (Q : Int32 → rS → Prop) (K30 : Int32 → Int32 → Int32 → Int32 → rS → Prop) (x2 : Int32) (x3 : Int32) (x5 : Int32) (σ : rS) : Prop :=
 R_holder_b84 Q K30 x2 x3 x5 (-1 : Int32) σ
set_option maxHeartbeats 4000000 in
set_option maxRecDepth 100000 in
theorem rB_holder_83 {Q : Int32 → rS → Prop} {K30 : Int32 → Int32 → Int32 → Int32 → rS → Prop} (X : CallFix p m c cX7_holder 6 s args wsX7_holder RX7) (hr : meth.sig.returnType = (some .int)) (hlk : meth.locks = false) (hR : 2 ≤ R.frames ∧ 45 ≤ R.locals) (hK : va_K (dC, dI) vwCl [(cI, .int), (cZ, .boolean)] s) (hA : ∀ q, s.heap.size ≤ q → A q) (k30 : ∀ (x2 : Int32) (x3 : Int32) (x4 : Int32) (x5 : Int32) (σ : rS) (H : Heap) (locs : List Loc) (ls : Array Slot), lv_has ls 6 [(0, .ref h), (2, .int x2), (3, .int x3), (4, .int x4), (5, .int x5)] → rO dC dI h a cI cZ A s.heap σ H locs → K30 x2 x3 x4 x5 σ → W p l e R s m args below meth c H locs 0 0 (MQ below (va_Qi Q (rAt dC dI A h a cI cZ) A) args s 0 0 A) (F0 m 30 ls [])) (x2 : Int32) (x3 : Int32) (x5 : Int32) (σ : rS) (H : Heap) (locs : List Loc) (ls : Array Slot) (hl : lv_has ls 6 [(0, .ref h), (2, .int x2), (3, .int x3), (5, .int x5)]) (hO : rO dC dI h a cI cZ A s.heap σ H locs) (hw : R_holder_b83 Q K30 x2 x3 x5 σ) : W p l e R s m args below meth c H locs 0 0 (MQ below (va_Qi Q (rAt dC dI A h a cI cZ) A) args s 0 0 A) (F0 m 83 ls []) := by
  unfold R_holder_b83 at hw
  refine lv_iconst (v := -1) X.1 X.2.1 dX7_holder_83 (by decide) ?_
  exact rB_holder_84 X hr hlk hR hK hA k30 x2 x3 x5 (-1 : Int32) σ H locs ls (lv_sub hl [0, 1, 2, 3] rfl) hO hw
def R_holder_b30_s (Q : Int32 → rS → Prop) (K30 : Int32 → Int32 → Int32 → Int32 → rS → Prop) (x2 : Int32) (x3 : Int32) (x4 : Int32) (x5 : Int32) (σ : rS) : Prop :=
 ((16 : Int32) < x5 → R_holder_b92 Q σ) ∧ (¬ (16 : Int32) < x5 → (x4 < 0 → R_holder_b92 Q σ) ∧ (¬ x4 < 0 → R_firstNote_w (fun r46 t46 => (r46 < 0 → (x3 = 0 → R_holder_b83 Q K30 x2 x3 x5 t46) ∧ (¬ x3 = 0 → vp_in x4 16 ∧ ((t46.2 11 x4.toNatClampNeg) < 0 → R_holder_b83 Q K30 x2 x3 x5 t46) ∧ (¬ (t46.2 11 x4.toNatClampNeg) < 0 → vp_in x4 16 ∧ R_find_w (fun r77 t77 => R_holder_b84 Q K30 x2 x3 x5 r77 t77) (t46.2 11 x4.toNatClampNeg) t46))) ∧ (¬ r46 < 0 → Q x4 t46)) x4 x2 σ))
def R_holder_b30_f (Q : Int32 → rS → Prop) : (Int32 × Int32 × Int32 × Int32 × rS → Prop) → Int32 × Int32 × Int32 × Int32 × rS → Prop :=
 fun K z => R_holder_b30_s Q (fun x2 x3 x4 x5 σ => K (x2, x3, x4, x5, σ)) z.1 z.2.1 z.2.2.1 z.2.2.2.1 z.2.2.2.2
def R_holder_b30 (Q : Int32 → rS → Prop) (x2 : Int32) (x3 : Int32) (x4 : Int32) (x5 : Int32) (σ : rS) : Prop := ∃ n, fx (R_holder_b30_f Q ) n (x2, x3, x4, x5, σ)
set_option maxHeartbeats 4000000 in
set_option maxRecDepth 100000 in
theorem rB_holder_30 {Q : Int32 → rS → Prop} (X : CallFix p m c cX7_holder 6 s args wsX7_holder RX7) (hr : meth.sig.returnType = (some .int)) (hlk : meth.locks = false) (hR : 2 ≤ R.frames ∧ 45 ≤ R.locals) (hK : va_K (dC, dI) vwCl [(cI, .int), (cZ, .boolean)] s) (hA : ∀ q, s.heap.size ≤ q → A q) : ∀ (n : Nat) (x2 : Int32) (x3 : Int32) (x4 : Int32) (x5 : Int32) (σ : rS) (H : Heap) (locs : List Loc) (ls : Array Slot), lv_has ls 6 [(0, .ref h), (2, .int x2), (3, .int x3), (4, .int x4), (5, .int x5)] → rO dC dI h a cI cZ A s.heap σ H locs → fx (R_holder_b30_f Q ) n (x2, x3, x4, x5, σ) → W p l e R s m args below meth c H locs 0 0 (MQ below (va_Qi Q (rAt dC dI A h a cI cZ) A) args s 0 0 A) (F0 m 30 ls []) := by
  intro n
  induction n with
  | zero => intro x2 x3 x4 x5 σ H locs ls hl hO hw; exact False.elim hw
  | succ n k30 =>
    intro x2 x3 x4 x5 σ H locs ls hl hO hw
    have hw : R_holder_b30_s Q (fun x2 x3 x4 x5 σ => fx (R_holder_b30_f Q ) n (x2, x3, x4, x5, σ)) x2 x3 x4 x5 σ := hw
    unfold R_holder_b30_s at hw
    refine lv_iload X.1 X.2.1 dX7_holder_30 (lv_at hl 4 rfl) ?_
    refine lv_bipush (v := 16) X.1 X.2.1 dX7_holder_32 (by decide) ?_
    refine lv_icmp_gt (tgt := 92) X.1 X.2.1 dX7_holder_34 rfl (fun hc9 => ?_) (fun hc9 => ?_)
    · have hw := hw.1 hc9
      exact rB_holder_92 X hr hlk hR hK hA σ H locs ls (lv_sub hl [0] rfl) hO hw
    · have hw := hw.2 hc9
      refine lv_iload X.1 X.2.1 dX7_holder_37 (lv_at hl 3 rfl) ?_
      refine lv_if_lt (tgt := 92) X.1 X.2.1 dX7_holder_39 rfl (fun hc9 => ?_) (fun hc9 => ?_)
      · have hw := hw.1 hc9
        exact rB_holder_92 X hr hlk hR hK hA σ H locs ls (lv_sub hl [0] rfl) hO hw
      · have hw := hw.2 hc9
        refine lv_aload_n X.1 X.2.1 dX7_holder_42 rfl (lv_at hl 0 rfl) ?_
        refine lv_iload X.1 X.2.1 dX7_holder_43 (lv_at hl 3 rfl) ?_
        refine lv_iload_n X.1 X.2.1 dX7_holder_45 rfl (lv_at hl 1 rfl) ?_
        refine r_calli (rest := []) (As := [.int x4, .int x2]) X (rC_firstNote l dC dI h a cI cZ σ H.size x4 x2 _ hw) (cwV 2 X.2.2.2.2 gX7_firstNote rfl rfl rfl hdX7_firstNote ⟨Nat.le_trans (by decide) hR.1, Nat.le_trans (by decide) hR.2⟩) hK hA hO rfl hl.1 rfl (Nat.le_of_ble_eq_true rfl) dX7_holder_46 (fun r46 t46 H locs hO hw => ?_)
        refine lv_if_lt (tgt := 55) X.1 X.2.1 dX7_holder_49 rfl (fun hc9 => ?_) (fun hc9 => ?_)
        · have hw := hw.1 hc9
          refine lv_iload_n X.1 X.2.1 dX7_holder_55 rfl (lv_at hl 2 rfl) ?_
          refine lv_if_eq (tgt := 83) X.1 X.2.1 dX7_holder_56 rfl (fun hc9 => ?_) (fun hc9 => ?_)
          · have hw := hw.1 hc9
            exact rB_holder_83 X hr hlk hR hK hA k30 x2 x3 x5 t46 H locs ls (lv_sub hl [0, 1, 2, 4] rfl) hO hw
          · have hw := hw.2 hc9
            refine lv_aload_n X.1 X.2.1 dX7_holder_59 rfl (lv_at hl 0 rfl) ?_
            refine rf_above X hK hO dX7_holder_60 ?_
            refine lv_iload X.1 X.2.1 dX7_holder_63 (lv_at hl 3 rfl) ?_
            obtain ⟨g65, hw⟩ := hw
            refine ra_above X.1 X.2.1 hK hO g65 dX7_holder_65 ?_
            refine lv_if_lt (tgt := 83) X.1 X.2.1 dX7_holder_66 rfl (fun hc9 => ?_) (fun hc9 => ?_)
            · have hw := hw.1 hc9
              exact rB_holder_83 X hr hlk hR hK hA k30 x2 x3 x5 t46 H locs ls (lv_sub hl [0, 1, 2, 4] rfl) hO hw
            · have hw := hw.2 hc9
              refine lv_aload_n X.1 X.2.1 dX7_holder_69 rfl (lv_at hl 0 rfl) ?_
              refine lv_aload_n X.1 X.2.1 dX7_holder_70 rfl (lv_at hl 0 rfl) ?_
              refine rf_above X hK hO dX7_holder_71 ?_
              refine lv_iload X.1 X.2.1 dX7_holder_74 (lv_at hl 3 rfl) ?_
              obtain ⟨g76, hw⟩ := hw
              refine ra_above X.1 X.2.1 hK hO g76 dX7_holder_76 ?_
              refine r_calli (rest := []) (As := [.int (t46.2 11 x4.toNatClampNeg)]) X (rC_find l dC dI h a cI cZ t46 H.size (t46.2 11 x4.toNatClampNeg) _ hw) (cwV 1 X.2.2.2.2 gX7_find rfl rfl rfl hdX7_find ⟨Nat.le_trans (by decide) hR.1, Nat.le_trans (by decide) hR.2⟩) hK hA hO rfl hl.1 rfl (Nat.le_of_ble_eq_true rfl) dX7_holder_77 (fun r77 t77 H locs hO hw => ?_)
              refine lv_goto (tgt := 84) X.1 X.2.1 dX7_holder_80 rfl ?_
              exact rB_holder_84 X hr hlk hR hK hA k30 x2 x3 x5 r77 t77 H locs ls (lv_sub hl [0, 1, 2, 4] rfl) hO hw
        · have hw := hw.2 hc9
          refine lv_iload X.1 X.2.1 dX7_holder_52 (lv_at hl 3 rfl) ?_
          exact W.iret (v := x4) X.1 X.2.1 hr (fun t ht hW => ⟨⟨x4, t46, rfl, hw, rO_end hO hK ht hW⟩, hO.2.2.F ht⟩) hO.2.2.2.2 dX7_holder_54 hlk
def R_holder_b0 (Q : Int32 → rS → Prop) (x1 : Int32) (x2 : Int32) (σ : rS) : Prop :=
 R_isClass_w (fun r2 t2 => (r2 = 0 → R_holder_b16 Q t2) ∧ (¬ r2 = 0 → R_isText_w (fun r10 t10 => (¬ r10 = 0 → R_inherited_w (fun r20 t20 => R_holder_b30 Q x2 r20 x1 (0 : Int32) t20) x2 t10) ∧ (r10 = 0 → R_holder_b16 Q t10)) x2 t2)) x1 σ
set_option maxHeartbeats 4000000 in
set_option maxRecDepth 100000 in
theorem rB_holder_0 {Q : Int32 → rS → Prop} (X : CallFix p m c cX7_holder 6 s args wsX7_holder RX7) (hr : meth.sig.returnType = (some .int)) (hlk : meth.locks = false) (hR : 2 ≤ R.frames ∧ 45 ≤ R.locals) (hK : va_K (dC, dI) vwCl [(cI, .int), (cZ, .boolean)] s) (hA : ∀ q, s.heap.size ≤ q → A q) (x1 : Int32) (x2 : Int32) (σ : rS) (H : Heap) (locs : List Loc) (ls : Array Slot) (hl : lv_has ls 6 [(0, .ref h), (1, .int x1), (2, .int x2)]) (hO : rO dC dI h a cI cZ A s.heap σ H locs) (hw : R_holder_b0 Q x1 x2 σ) : W p l e R s m args below meth c H locs 0 0 (MQ below (va_Qi Q (rAt dC dI A h a cI cZ) A) args s 0 0 A) (F0 m 0 ls []) := by
  unfold R_holder_b0 at hw
  refine lv_aload_n X.1 X.2.1 dX7_holder_0 rfl (lv_at hl 0 rfl) ?_
  refine lv_iload_n X.1 X.2.1 dX7_holder_1 rfl (lv_at hl 1 rfl) ?_
  refine r_calli (rest := []) (As := [.int x1]) X (rC_isClass l dC dI h a cI cZ σ H.size x1 _ hw) (cwV 1 X.2.2.2.2 gX7_isClass rfl rfl rfl hdX7_isClass ⟨Nat.le_trans (by decide) hR.1, Nat.le_trans (by decide) hR.2⟩) hK hA hO rfl hl.1 rfl (Nat.le_of_ble_eq_true rfl) dX7_holder_2 (fun r2 t2 H locs hO hw => ?_)
  refine lv_if_eq (tgt := 16) X.1 X.2.1 dX7_holder_5 rfl (fun hc9 => ?_) (fun hc9 => ?_)
  · have hw := hw.1 hc9
    exact rB_holder_16 X hr hlk hR hK hA t2 H locs ls (lv_sub hl [0] rfl) hO hw
  · have hw := hw.2 hc9
    refine lv_aload_n X.1 X.2.1 dX7_holder_8 rfl (lv_at hl 0 rfl) ?_
    refine lv_iload_n X.1 X.2.1 dX7_holder_9 rfl (lv_at hl 2 rfl) ?_
    refine r_calli (rest := []) (As := [.int x2]) X (rC_isText l dC dI h a cI cZ t2 H.size x2 _ hw) (cwV 1 X.2.2.2.2 gX7_isText rfl rfl rfl hdX7_isText ⟨Nat.le_trans (by decide) hR.1, Nat.le_trans (by decide) hR.2⟩) hK hA hO rfl hl.1 rfl (Nat.le_of_ble_eq_true rfl) dX7_holder_10 (fun r10 t10 H locs hO hw => ?_)
    refine lv_if_ne (tgt := 18) X.1 X.2.1 dX7_holder_13 rfl (fun hc9 => ?_) (fun hc9 => ?_)
    · have hw := hw.1 hc9
      refine lv_aload_n X.1 X.2.1 dX7_holder_18 rfl (lv_at hl 0 rfl) ?_
      refine lv_iload_n X.1 X.2.1 dX7_holder_19 rfl (lv_at hl 2 rfl) ?_
      refine r_calli (rest := []) (As := [.int x2]) X (rC_inherited l dC dI h a cI cZ t10 H.size x2 _ hw) (cwV 1 X.2.2.2.2 gX7_inherited rfl rfl rfl hdX7_inherited ⟨Nat.le_trans (by decide) hR.1, Nat.le_trans (by decide) hR.2⟩) hK hA hO rfl hl.1 rfl (Nat.le_of_ble_eq_true rfl) dX7_holder_20 (fun r20 t20 H locs hO hw => ?_)
      refine lv_istore_n (lv' := [(3, .int r20), (0, .ref h), (1, .int x1), (2, .int x2)]) X.1 X.2.1 dX7_holder_23 rfl hl (by decide) rfl (fun ls hl => ?_)
      refine lv_iload_n X.1 X.2.1 dX7_holder_24 rfl (lv_at hl 2 rfl) ?_
      refine lv_istore (lv' := [(4, .int x1), (3, .int r20), (0, .ref h), (1, .int x1), (2, .int x2)]) X.1 X.2.1 dX7_holder_25 hl (by decide) rfl (fun ls hl => ?_)
      refine lv_iconst (v := 0) X.1 X.2.1 dX7_holder_27 (by decide) ?_
      refine lv_istore (lv' := [(5, .int (0 : Int32)), (4, .int x1), (3, .int r20), (0, .ref h), (1, .int x1), (2, .int x2)]) X.1 X.2.1 dX7_holder_28 hl (by decide) rfl (fun ls hl => ?_)
      obtain ⟨n, hw⟩ := hw
      exact rB_holder_30 X hr hlk hR hK hA n x2 r20 x1 (0 : Int32) t20 H locs ls (lv_sub hl [3, 5, 2, 1, 0] rfl) hO hw
    · have hw := hw.2 hc9
      exact rB_holder_16 X hr hlk hR hK hA t10 H locs ls (lv_sub hl [0] rfl) hO hw
def R_holder_w (Q : Int32 → rS → Prop) (x1 : Int32) (x2 : Int32) (σ : rS) : Prop := R_holder_b0 Q x1 x2 σ
abbrev rmX7_holder : Room := { frames := 2, cells := 0, slots := 0, locals := 45 }
set_option maxHeartbeats 4000000 in
set_option maxRecDepth 100000 in
theorem rC_holder (l : Launch) (dC : Nat → ClassId) (dI : Nat → Nat → Nat) (h : Nat) (a : Nat → Nat) (cI cZ : ClassId) (σ : rS) (sz : Nat) (x1 : Int32) (x2 : Int32) (Q : Int32 → rS → Prop) (hw : R_holder_w Q x1 x2 σ) : Met l yX7_holder wsX7_holder rmX7_holder (rPc dC dI h a cI cZ sz σ [.ref h, .int x1, .int x2]) (va_Qi Q (rAt dC dI (va_A (rCells h a cI cZ σ) sz) h a cI cZ) (va_A (rCells h a cI cZ σ) sz)) 0 0 (va_A (rCells h a cI cZ σ) sz) := by
  refine Met.ofW (cc := cX7_holder) (maxL := 6) (ret := (some .int)) (by decide) rfl ?_
  intro p e s m args below meth c s₁ B hml hv
  obtain ⟨hargs, hsz, hP, hK, hD0⟩ := hv
  have hts := atoms_spec (ws := wsX7_holder) B.pre
  have hown : s.vm.findClass RX7 = some m.cls := findClass_of_methodNamed B.named
  subst hsz
  subst hargs
  have hD := hD0.self (sz := s.heap.size)
  generalize hAe : va_A (rCells h a cI cZ σ) s.heap.size = A at hD ⊢
  have hA : ∀ q : Nat, s.heap.size ≤ q → A q := fun q h => by rw [← hAe]; exact Or.inr h
  have hl := lv_entry ([.ref h, .int x1, .int x2]) (n := 6) (Nat.le_of_ble_eq_true rfl)
  rw [lg_entry_eq]
  generalize (lg_sl ([.ref h, .int x1, .int x2]) ++ List.replicate (6 - (lg_sl ([.ref h, .int x1, .int x2])).length) Slot.unset).toArray = ls at hl ⊢
  have hl : lv_has ls 6 [(0, .ref h), (1, .int x1), (2, .int x2)] := hl
  unfold R_holder_w at hw
  exact rB_holder_0 ⟨B.exec, B.bytes, hml, hown, hts⟩ B.returns B.notSynchronized ⟨Nat.le_of_ble_eq_true rfl, Nat.le_of_ble_eq_true rfl⟩ hK hA x1 x2 σ s.heap [] ls (lv_sub hl [0, 1, 2] rfl) ⟨hP, hD, va_S.rf⟩ hw
end
end
section
section
variable {p : Program} {l : Launch} {e : Env} {R : Room} {s : State} {m : MethodId} {args : Array Value} {below : List Frame} {meth : Method} {c : Code}
variable {dC : Nat → ClassId} {dI : Nat → Nat → Nat} {h : Nat} {a : Nat → Nat} {cI cZ : ClassId} {A : Nat → Prop}
def R_behind_b145 (Q : Int32 → rS → Prop) (K18 : Int32 → Int32 → rS → Prop) (x2 : Int32) (x3 : Int32) (σ : rS) : Prop :=
 K18 x2 x3 σ
set_option maxHeartbeats 4000000 in
set_option maxRecDepth 100000 in
theorem rB_behind_145 {Q : Int32 → rS → Prop} {K18 : Int32 → Int32 → rS → Prop} (X : CallFix p m c cX7_behind 5 s args wsX7_behind RX7) (hr : meth.sig.returnType = (some .int)) (hlk : meth.locks = false) (hR : 0 ≤ R.frames ∧ 0 ≤ R.locals) (hK : va_K (dC, dI) vwCl [(cI, .int), (cZ, .boolean)] s) (hA : ∀ q, s.heap.size ≤ q → A q) (k18 : ∀ (x2 : Int32) (x3 : Int32) (σ : rS) (H : Heap) (locs : List Loc) (ls : Array Slot), lv_has ls 5 [(0, .ref h), (2, .int x2), (3, .int x3)] → rO dC dI h a cI cZ A s.heap σ H locs → K18 x2 x3 σ → W p l e R s m args below meth c H locs 0 0 (MQ below (va_Qi Q (rAt dC dI A h a cI cZ) A) args s 0 0 A) (F0 m 18 ls [])) (x2 : Int32) (x3 : Int32) (σ : rS) (H : Heap) (locs : List Loc) (ls : Array Slot) (hl : lv_has ls 5 [(0, .ref h), (2, .int x2), (3, .int x3)]) (hO : rO dC dI h a cI cZ A s.heap σ H locs) (hw : R_behind_b145 Q K18 x2 x3 σ) : W p l e R s m args below meth c H locs 0 0 (MQ below (va_Qi Q (rAt dC dI A h a cI cZ) A) args s 0 0 A) (F0 m 145 ls []) := by
  unfold R_behind_b145 at hw
  refine lv_goto (tgt := 18) X.1 X.2.1 dX7_behind_145 rfl ?_
  exact k18 x2 x3 σ H locs ls (lv_sub hl [0, 1, 2] rfl) hO hw
def R_behind_b135 (Q : Int32 → rS → Prop) (K18 : Int32 → Int32 → rS → Prop) (x2 : Int32) (x3 : Int32) (y0 : Int32) (y1 : Int32) (σ : rS) : Prop :=
 vp_in y1 7 ∧ ∀ t135 : rS, t135 = rA σ 26 y1 (vp_nar .boolean y0) → ∀ v136 : Int32, v136 = x2 + (1 : Int32) → R_behind_b145 Q K18 v136 x3 t135
set_option maxHeartbeats 4000000 in
set_option maxRecDepth 100000 in
theorem rB_behind_135 {Q : Int32 → rS → Prop} {K18 : Int32 → Int32 → rS → Prop} (X : CallFix p m c cX7_behind 5 s args wsX7_behind RX7) (hr : meth.sig.returnType = (some .int)) (hlk : meth.locks = false) (hR : 0 ≤ R.frames ∧ 0 ≤ R.locals) (hK : va_K (dC, dI) vwCl [(cI, .int), (cZ, .boolean)] s) (hA : ∀ q, s.heap.size ≤ q → A q) (k18 : ∀ (x2 : Int32) (x3 : Int32) (σ : rS) (H : Heap) (locs : List Loc) (ls : Array Slot), lv_has ls 5 [(0, .ref h), (2, .int x2), (3, .int x3)] → rO dC dI h a cI cZ A s.heap σ H locs → K18 x2 x3 σ → W p l e R s m args below meth c H locs 0 0 (MQ below (va_Qi Q (rAt dC dI A h a cI cZ) A) args s 0 0 A) (F0 m 18 ls [])) (x2 : Int32) (x3 : Int32) (y0 : Int32) (y1 : Int32) (σ : rS) (H : Heap) (locs : List Loc) (ls : Array Slot) (hl : lv_has ls 5 [(0, .ref h), (2, .int x2), (3, .int x3)]) (hO : rO dC dI h a cI cZ A s.heap σ H locs) (hw : R_behind_b135 Q K18 x2 x3 y0 y1 σ) : W p l e R s m args below meth c H locs 0 0 (MQ below (va_Qi Q (rAt dC dI A h a cI cZ) A) args s 0 0 A) (F0 m 135 ls [.int y0, .int y1, .ref (a 26)]) := by
  unfold R_behind_b135 at hw
  obtain ⟨g135, hw⟩ := hw
  refine rs_named X.1 X.2.1 hK hO g135 dX7_behind_135 (fun H locs hO => ?_)
  obtain ⟨t135, e135⟩ : ∃ z, z = rA σ 26 y1 (vp_nar .boolean y0) := ⟨_, rfl⟩
  have hw := hw t135 e135
  rw [← e135] at hO
  obtain ⟨v136, e136⟩ : ∃ z, z = x2 + (1 : Int32) := ⟨_, rfl⟩
  have hw := hw v136 e136
  refine lv_iinc (lv' := [(2, .int v136), (0, .ref h), (3, .int x3)]) (k := 1) (v := v136) X.1 X.2.1 dX7_behind_136 hl rfl (by rw [e136]; rfl) (by decide) rfl (fun ls hl => ?_)
  refine lv_goto (tgt := 145) X.1 X.2.1 dX7_behind_139 rfl ?_
  exact rB_behind_145 X hr hlk hR hK hA k18 v136 x3 t135 H locs ls (lv_sub hl [1, 0, 2] rfl) hO hw
def R_behind_b102 (Q : Int32 → rS → Prop) (K18 : Int32 → Int32 → rS → Prop) (x3 : Int32) (x4 : Int32) (y0 : Int32) (σ : rS) : Prop :=
 ∀ v103 : Int32, v103 = x3 + (1 : Int32) → vp_in y0 1920 ∧ vp_in v103 7 ∧ ∀ t117 : rS, t117 = rA σ 25 v103 (σ.2 2 y0.toNatClampNeg) → (¬ x4 = (64 : Int32) → R_behind_b135 Q K18 y0 v103 (0 : Int32) v103 t117) ∧ (x4 = (64 : Int32) → R_behind_b135 Q K18 y0 v103 (1 : Int32) v103 t117)
set_option maxHeartbeats 4000000 in
set_option maxRecDepth 100000 in
theorem rB_behind_102 {Q : Int32 → rS → Prop} {K18 : Int32 → Int32 → rS → Prop} (X : CallFix p m c cX7_behind 5 s args wsX7_behind RX7) (hr : meth.sig.returnType = (some .int)) (hlk : meth.locks = false) (hR : 0 ≤ R.frames ∧ 0 ≤ R.locals) (hK : va_K (dC, dI) vwCl [(cI, .int), (cZ, .boolean)] s) (hA : ∀ q, s.heap.size ≤ q → A q) (k18 : ∀ (x2 : Int32) (x3 : Int32) (σ : rS) (H : Heap) (locs : List Loc) (ls : Array Slot), lv_has ls 5 [(0, .ref h), (2, .int x2), (3, .int x3)] → rO dC dI h a cI cZ A s.heap σ H locs → K18 x2 x3 σ → W p l e R s m args below meth c H locs 0 0 (MQ below (va_Qi Q (rAt dC dI A h a cI cZ) A) args s 0 0 A) (F0 m 18 ls [])) (x3 : Int32) (x4 : Int32) (y0 : Int32) (σ : rS) (H : Heap) (locs : List Loc) (ls : Array Slot) (hl : lv_has ls 5 [(0, .ref h), (3, .int x3), (4, .int x4)]) (hO : rO dC dI h a cI cZ A s.heap σ H locs) (hw : R_behind_b102 Q K18 x3 x4 y0 σ) : W p l e R s m args below meth c H locs 0 0 (MQ below (va_Qi Q (rAt dC dI A h a cI cZ) A) args s 0 0 A) (F0 m 102 ls [.int y0]) := by
  unfold R_behind_b102 at hw
  refine lv_istore_n (lv' := [(2, .int y0), (0, .ref h), (3, .int x3), (4, .int x4)]) X.1 X.2.1 dX7_behind_102 rfl hl (by decide) rfl (fun ls hl => ?_)
  obtain ⟨v103, e103⟩ : ∃ z, z = x3 + (1 : Int32) := ⟨_, rfl⟩
  have hw := hw v103 e103
  refine lv_iinc (lv' := [(3, .int v103), (2, .int y0), (0, .ref h), (4, .int x4)]) (k := 2) (v := v103) X.1 X.2.1 dX7_behind_103 hl rfl (by rw [e103]; rfl) (by decide) rfl (fun ls hl => ?_)
  refine lv_aload_n X.1 X.2.1 dX7_behind_106 rfl (lv_at hl 2 rfl) ?_
  refine rf_left X hK hO dX7_behind_107 ?_
  refine lv_iload_n X.1 X.2.1 dX7_behind_110 rfl (lv_at hl 0 rfl) ?_
  refine lv_aload_n X.1 X.2.1 dX7_behind_111 rfl (lv_at hl 2 rfl) ?_
  refine rf_bytes X hK hO dX7_behind_112 ?_
  refine lv_iload_n X.1 X.2.1 dX7_behind_115 rfl (lv_at hl 1 rfl) ?_
  obtain ⟨g116, hw⟩ := hw
  refine ra_bytes X.1 X.2.1 hK hO g116 dX7_behind_116 ?_
  obtain ⟨g117, hw⟩ := hw
  refine rs_left X.1 X.2.1 hK hO g117 dX7_behind_117 (fun H locs hO => ?_)
  obtain ⟨t117, e117⟩ : ∃ z, z = rA σ 25 v103 (σ.2 2 y0.toNatClampNeg) := ⟨_, rfl⟩
  have hw := hw t117 e117
  rw [← e117] at hO
  refine lv_aload_n X.1 X.2.1 dX7_behind_118 rfl (lv_at hl 2 rfl) ?_
  refine rf_named X hK hO dX7_behind_119 ?_
  refine lv_iload_n X.1 X.2.1 dX7_behind_122 rfl (lv_at hl 0 rfl) ?_
  refine lv_iload X.1 X.2.1 dX7_behind_123 (lv_at hl 3 rfl) ?_
  refine lv_bipush (v := 64) X.1 X.2.1 dX7_behind_125 (by decide) ?_
  refine lv_icmp_ne (tgt := 134) X.1 X.2.1 dX7_behind_127 rfl (fun hc9 => ?_) (fun hc9 => ?_)
  · have hw := hw.1 hc9
    refine lv_iconst (v := 0) X.1 X.2.1 dX7_behind_134 (by decide) ?_
    exact rB_behind_135 X hr hlk hR hK hA k18 y0 v103 (0 : Int32) v103 t117 H locs ls (lv_sub hl [2, 1, 0] rfl) hO hw
  · have hw := hw.2 hc9
    refine lv_iconst (v := 1) X.1 X.2.1 dX7_behind_130 (by decide) ?_
    refine lv_goto (tgt := 135) X.1 X.2.1 dX7_behind_131 rfl ?_
    exact rB_behind_135 X hr hlk hR hK hA k18 y0 v103 (1 : Int32) v103 t117 H locs ls (lv_sub hl [2, 1, 0] rfl) hO hw
def R_behind_b86 (Q : Int32 → rS → Prop) (K18 : Int32 → Int32 → rS → Prop) (x2 : Int32) (x3 : Int32) (x4 : Int32) (σ : rS) : Prop :=
 (¬ x4 = (64 : Int32) → R_behind_b102 Q K18 x3 x4 (x2 + (1 : Int32)) σ) ∧ (x4 = (64 : Int32) → R_behind_b102 Q K18 x3 x4 (x2 + (2 : Int32)) σ)
set_option maxHeartbeats 4000000 in
set_option maxRecDepth 100000 in
theorem rB_behind_86 {Q : Int32 → rS → Prop} {K18 : Int32 → Int32 → rS → Prop} (X : CallFix p m c cX7_behind 5 s args wsX7_behind RX7) (hr : meth.sig.returnType = (some .int)) (hlk : meth.locks = false) (hR : 0 ≤ R.frames ∧ 0 ≤ R.locals) (hK : va_K (dC, dI) vwCl [(cI, .int), (cZ, .boolean)] s) (hA : ∀ q, s.heap.size ≤ q → A q) (k18 : ∀ (x2 : Int32) (x3 : Int32) (σ : rS) (H : Heap) (locs : List Loc) (ls : Array Slot), lv_has ls 5 [(0, .ref h), (2, .int x2), (3, .int x3)] → rO dC dI h a cI cZ A s.heap σ H locs → K18 x2 x3 σ → W p l e R s m args below meth c H locs 0 0 (MQ below (va_Qi Q (rAt dC dI A h a cI cZ) A) args s 0 0 A) (F0 m 18 ls [])) (x2 : Int32) (x3 : Int32) (x4 : Int32) (σ : rS) (H : Heap) (locs : List Loc) (ls : Array Slot) (hl : lv_has ls 5 [(0, .ref h), (2, .int x2), (3, .int x3), (4, .int x4)]) (hO : rO dC dI h a cI cZ A s.heap σ H locs) (hw : R_behind_b86 Q K18 x2 x3 x4 σ) : W p l e R s m args below meth c H locs 0 0 (MQ below (va_Qi Q (rAt dC dI A h a cI cZ) A) args s 0 0 A) (F0 m 86 ls []) := by
  unfold R_behind_b86 at hw
  refine lv_iload X.1 X.2.1 dX7_behind_86 (lv_at hl 3 rfl) ?_
  refine lv_bipush (v := 64) X.1 X.2.1 dX7_behind_88 (by decide) ?_
  refine lv_icmp_ne (tgt := 99) X.1 X.2.1 dX7_behind_90 rfl (fun hc9 => ?_) (fun hc9 => ?_)
  · have hw := hw.1 hc9
    refine lv_iload_n X.1 X.2.1 dX7_behind_99 rfl (lv_at hl 1 rfl) ?_
    refine lv_iconst (v := 1) X.1 X.2.1 dX7_behind_100 (by decide) ?_
    refine lv_iadd X.1 X.2.1 dX7_behind_101 ?_
    exact rB_behind_102 X hr hlk hR hK hA k18 x3 x4 (x2 + (1 : Int32)) σ H locs ls (lv_sub hl [0, 2, 3] rfl) hO hw
  · have hw := hw.2 hc9
    refine lv_iload_n X.1 X.2.1 dX7_behind_93 rfl (lv_at hl 1 rfl) ?_
    refine lv_iconst (v := 2) X.1 X.2.1 dX7_behind_94 (by decide) ?_
    refine lv_iadd X.1 X.2.1 dX7_behind_95 ?_
    refine lv_goto (tgt := 102) X.1 X.2.1 dX7_behind_96 rfl ?_
    exact rB_behind_102 X hr hlk hR hK hA k18 x3 x4 (x2 + (2 : Int32)) σ H locs ls (lv_sub hl [0, 2, 3] rfl) hO hw
def R_behind_b63 (Q : Int32 → rS → Prop) (K18 : Int32 → Int32 → rS → Prop) (x3 : Int32) (y0 : Int32) (σ : rS) : Prop :=
 vp_in y0 1920 ∧ ∀ v70 : Int32, v70 = (σ.2 2 y0.toNatClampNeg) → (v70 = (91 : Int32) → R_behind_b86 Q K18 y0 x3 v70 σ) ∧ (¬ v70 = (91 : Int32) → (¬ v70 = (64 : Int32) → ∀ v142 : Int32, v142 = y0 + (2 : Int32) → R_behind_b145 Q K18 v142 x3 σ) ∧ (v70 = (64 : Int32) → R_behind_b86 Q K18 y0 x3 v70 σ))
set_option maxHeartbeats 4000000 in
set_option maxRecDepth 100000 in
theorem rB_behind_63 {Q : Int32 → rS → Prop} {K18 : Int32 → Int32 → rS → Prop} (X : CallFix p m c cX7_behind 5 s args wsX7_behind RX7) (hr : meth.sig.returnType = (some .int)) (hlk : meth.locks = false) (hR : 0 ≤ R.frames ∧ 0 ≤ R.locals) (hK : va_K (dC, dI) vwCl [(cI, .int), (cZ, .boolean)] s) (hA : ∀ q, s.heap.size ≤ q → A q) (k18 : ∀ (x2 : Int32) (x3 : Int32) (σ : rS) (H : Heap) (locs : List Loc) (ls : Array Slot), lv_has ls 5 [(0, .ref h), (2, .int x2), (3, .int x3)] → rO dC dI h a cI cZ A s.heap σ H locs → K18 x2 x3 σ → W p l e R s m args below meth c H locs 0 0 (MQ below (va_Qi Q (rAt dC dI A h a cI cZ) A) args s 0 0 A) (F0 m 18 ls [])) (x3 : Int32) (y0 : Int32) (σ : rS) (H : Heap) (locs : List Loc) (ls : Array Slot) (hl : lv_has ls 5 [(0, .ref h), (3, .int x3)]) (hO : rO dC dI h a cI cZ A s.heap σ H locs) (hw : R_behind_b63 Q K18 x3 y0 σ) : W p l e R s m args below meth c H locs 0 0 (MQ below (va_Qi Q (rAt dC dI A h a cI cZ) A) args s 0 0 A) (F0 m 63 ls [.int y0]) := by
  unfold R_behind_b63 at hw
  refine lv_istore_n (lv' := [(2, .int y0), (0, .ref h), (3, .int x3)]) X.1 X.2.1 dX7_behind_63 rfl hl (by decide) rfl (fun ls hl => ?_)
  refine lv_aload_n X.1 X.2.1 dX7_behind_64 rfl (lv_at hl 1 rfl) ?_
  refine rf_bytes X hK hO dX7_behind_65 ?_
  refine lv_iload_n X.1 X.2.1 dX7_behind_68 rfl (lv_at hl 0 rfl) ?_
  obtain ⟨g69, hw⟩ := hw
  refine ra_bytes X.1 X.2.1 hK hO g69 dX7_behind_69 ?_
  refine lv_topi (fun v70 e70 => ?_)
  have hw := hw v70 e70
  refine lv_istore (lv' := [(4, .int v70), (2, .int y0), (0, .ref h), (3, .int x3)]) X.1 X.2.1 dX7_behind_70 hl (by decide) rfl (fun ls hl => ?_)
  refine lv_iload X.1 X.2.1 dX7_behind_72 (lv_at hl 0 rfl) ?_
  refine lv_bipush (v := 91) X.1 X.2.1 dX7_behind_74 (by decide) ?_
  refine lv_icmp_eq (tgt := 86) X.1 X.2.1 dX7_behind_76 rfl (fun hc9 => ?_) (fun hc9 => ?_)
  · have hw := hw.1 hc9
    exact rB_behind_86 X hr hlk hR hK hA k18 y0 x3 v70 σ H locs ls (lv_sub hl [2, 1, 3, 0] rfl) hO hw
  · have hw := hw.2 hc9
    refine lv_iload X.1 X.2.1 dX7_behind_79 (lv_at hl 0 rfl) ?_
    refine lv_bipush (v := 64) X.1 X.2.1 dX7_behind_81 (by decide) ?_
    refine lv_icmp_ne (tgt := 142) X.1 X.2.1 dX7_behind_83 rfl (fun hc9 => ?_) (fun hc9 => ?_)
    · have hw := hw.1 hc9
      obtain ⟨v142, e142⟩ : ∃ z, z = y0 + (2 : Int32) := ⟨_, rfl⟩
      have hw := hw v142 e142
      refine lv_iinc (lv' := [(2, .int v142), (4, .int v70), (0, .ref h), (3, .int x3)]) (k := 1) (v := v142) X.1 X.2.1 dX7_behind_142 hl rfl (by rw [e142]; rfl) (by decide) rfl (fun ls hl => ?_)
      exact rB_behind_145 X hr hlk hR hK hA k18 v142 x3 σ H locs ls (lv_sub hl [2, 0, 3] rfl) hO hw
    · have hw := hw.2 hc9
      exact rB_behind_86 X hr hlk hR hK hA k18 y0 x3 v70 σ H locs ls (lv_sub hl [2, 1, 3, 0] rfl) hO hw
def R_behind_b18_s (Q : Int32 → rS → Prop) (K18 : Int32 → Int32 → rS → Prop) (x2 : Int32) (x3 : Int32) (σ : rS) : Prop :=
 (x3 ≤ 0 → Q x2 σ) ∧ (¬ x3 ≤ 0 → vp_in x3 7 ∧ (¬ (σ.2 25 x3.toNatClampNeg) = 0 → vp_in x3 7 ∧ vp_in x3 7 ∧ ∀ t46 : rS, t46 = rA σ 25 x3 ((σ.2 25 x3.toNatClampNeg) - (1 : Int32)) → vp_in x3 7 ∧ ((t46.2 26 x3.toNatClampNeg) = 0 → R_behind_b63 Q K18 x3 x2 t46) ∧ (¬ (t46.2 26 x3.toNatClampNeg) = 0 → R_behind_b63 Q K18 x3 (x2 + (1 : Int32)) t46)) ∧ ((σ.2 25 x3.toNatClampNeg) = 0 → ∀ v31 : Int32, v31 = x3 + (-1 : Int32) → K18 x2 v31 σ))
def R_behind_b18_f (Q : Int32 → rS → Prop) : (Int32 × Int32 × rS → Prop) → Int32 × Int32 × rS → Prop :=
 fun K z => R_behind_b18_s Q (fun x2 x3 σ => K (x2, x3, σ)) z.1 z.2.1 z.2.2
def R_behind_b18 (Q : Int32 → rS → Prop) (x2 : Int32) (x3 : Int32) (σ : rS) : Prop := ∃ n, fx (R_behind_b18_f Q ) n (x2, x3, σ)
set_option maxHeartbeats 4000000 in
set_option maxRecDepth 100000 in
theorem rB_behind_18 {Q : Int32 → rS → Prop} (X : CallFix p m c cX7_behind 5 s args wsX7_behind RX7) (hr : meth.sig.returnType = (some .int)) (hlk : meth.locks = false) (hR : 0 ≤ R.frames ∧ 0 ≤ R.locals) (hK : va_K (dC, dI) vwCl [(cI, .int), (cZ, .boolean)] s) (hA : ∀ q, s.heap.size ≤ q → A q) : ∀ (n : Nat) (x2 : Int32) (x3 : Int32) (σ : rS) (H : Heap) (locs : List Loc) (ls : Array Slot), lv_has ls 5 [(0, .ref h), (2, .int x2), (3, .int x3)] → rO dC dI h a cI cZ A s.heap σ H locs → fx (R_behind_b18_f Q ) n (x2, x3, σ) → W p l e R s m args below meth c H locs 0 0 (MQ below (va_Qi Q (rAt dC dI A h a cI cZ) A) args s 0 0 A) (F0 m 18 ls []) := by
  intro n
  induction n with
  | zero => intro x2 x3 σ H locs ls hl hO hw; exact False.elim hw
  | succ n k18 =>
    intro x2 x3 σ H locs ls hl hO hw
    have hw : R_behind_b18_s Q (fun x2 x3 σ => fx (R_behind_b18_f Q ) n (x2, x3, σ)) x2 x3 σ := hw
    unfold R_behind_b18_s at hw
    refine lv_iload_n X.1 X.2.1 dX7_behind_18 rfl (lv_at hl 2 rfl) ?_
    refine lv_if_le (tgt := 148) X.1 X.2.1 dX7_behind_19 rfl (fun hc9 => ?_) (fun hc9 => ?_)
    · have hw := hw.1 hc9
      refine lv_iload_n X.1 X.2.1 dX7_behind_148 rfl (lv_at hl 1 rfl) ?_
      exact W.iret (v := x2) X.1 X.2.1 hr (fun t ht hW => ⟨⟨x2, σ, rfl, hw, rO_end hO hK ht hW⟩, hO.2.2.F ht⟩) hO.2.2.2.2 dX7_behind_149 hlk
    · have hw := hw.2 hc9
      refine lv_aload_n X.1 X.2.1 dX7_behind_22 rfl (lv_at hl 0 rfl) ?_
      refine rf_left X hK hO dX7_behind_23 ?_
      refine lv_iload_n X.1 X.2.1 dX7_behind_26 rfl (lv_at hl 2 rfl) ?_
      obtain ⟨g27, hw⟩ := hw
      refine ra_left X.1 X.2.1 hK hO g27 dX7_behind_27 ?_
      refine lv_if_ne (tgt := 37) X.1 X.2.1 dX7_behind_28 rfl (fun hc9 => ?_) (fun hc9 => ?_)
      · have hw := hw.1 hc9
        refine lv_aload_n X.1 X.2.1 dX7_behind_37 rfl (lv_at hl 0 rfl) ?_
        refine rf_left X hK hO dX7_behind_38 ?_
        refine lv_iload_n X.1 X.2.1 dX7_behind_41 rfl (lv_at hl 2 rfl) ?_
        refine lv_dup2_11 X.1 X.2.1 dX7_behind_42 rfl rfl ?_
        obtain ⟨g43, hw⟩ := hw
        refine ra_left X.1 X.2.1 hK hO g43 dX7_behind_43 ?_
        refine lv_iconst (v := 1) X.1 X.2.1 dX7_behind_44 (by decide) ?_
        refine lv_isub X.1 X.2.1 dX7_behind_45 ?_
        obtain ⟨g46, hw⟩ := hw
        refine rs_left X.1 X.2.1 hK hO g46 dX7_behind_46 (fun H locs hO => ?_)
        obtain ⟨t46, e46⟩ : ∃ z, z = rA σ 25 x3 ((σ.2 25 x3.toNatClampNeg) - (1 : Int32)) := ⟨_, rfl⟩
        have hw := hw t46 e46
        rw [← e46] at hO
        refine lv_aload_n X.1 X.2.1 dX7_behind_47 rfl (lv_at hl 0 rfl) ?_
        refine rf_named X hK hO dX7_behind_48 ?_
        refine lv_iload_n X.1 X.2.1 dX7_behind_51 rfl (lv_at hl 2 rfl) ?_
        obtain ⟨g52, hw⟩ := hw
        refine ra_named X.1 X.2.1 hK hO g52 dX7_behind_52 ?_
        refine lv_if_eq (tgt := 62) X.1 X.2.1 dX7_behind_53 rfl (fun hc9 => ?_) (fun hc9 => ?_)
        · have hw := hw.1 hc9
          refine lv_iload_n X.1 X.2.1 dX7_behind_62 rfl (lv_at hl 1 rfl) ?_
          exact rB_behind_63 X hr hlk hR hK hA k18 x3 x2 t46 H locs ls (lv_sub hl [0, 2] rfl) hO hw
        · have hw := hw.2 hc9
          refine lv_iload_n X.1 X.2.1 dX7_behind_56 rfl (lv_at hl 1 rfl) ?_
          refine lv_iconst (v := 1) X.1 X.2.1 dX7_behind_57 (by decide) ?_
          refine lv_iadd X.1 X.2.1 dX7_behind_58 ?_
          refine lv_goto (tgt := 63) X.1 X.2.1 dX7_behind_59 rfl ?_
          exact rB_behind_63 X hr hlk hR hK hA k18 x3 (x2 + (1 : Int32)) t46 H locs ls (lv_sub hl [0, 2] rfl) hO hw
      · have hw := hw.2 hc9
        obtain ⟨v31, e31⟩ : ∃ z, z = x3 + (-1 : Int32) := ⟨_, rfl⟩
        have hw := hw v31 e31
        refine lv_iinc (lv' := [(3, .int v31), (0, .ref h), (2, .int x2)]) (k := 2) (v := v31) X.1 X.2.1 dX7_behind_31 hl rfl (by rw [e31]; rfl) (by decide) rfl (fun ls hl => ?_)
        refine lv_goto (tgt := 18) X.1 X.2.1 dX7_behind_34 rfl ?_
        exact k18 x2 v31 σ H locs ls (lv_sub hl [1, 2, 0] rfl) hO hw
def R_behind_b0 (Q : Int32 → rS → Prop) (x1 : Int32) (σ : rS) : Prop :=
 ∀ t10 : rS, t10 = rA σ 25 (1 : Int32) (1 : Int32) → ∀ t17 : rS, t17 = rA t10 26 (1 : Int32) (vp_nar .boolean (0 : Int32)) → R_behind_b18 Q x1 (1 : Int32) t17
set_option maxHeartbeats 4000000 in
set_option maxRecDepth 100000 in
theorem rB_behind_0 {Q : Int32 → rS → Prop} (X : CallFix p m c cX7_behind 5 s args wsX7_behind RX7) (hr : meth.sig.returnType = (some .int)) (hlk : meth.locks = false) (hR : 0 ≤ R.frames ∧ 0 ≤ R.locals) (hK : va_K (dC, dI) vwCl [(cI, .int), (cZ, .boolean)] s) (hA : ∀ q, s.heap.size ≤ q → A q) (x1 : Int32) (σ : rS) (H : Heap) (locs : List Loc) (ls : Array Slot) (hl : lv_has ls 5 [(0, .ref h), (1, .int x1)]) (hO : rO dC dI h a cI cZ A s.heap σ H locs) (hw : R_behind_b0 Q x1 σ) : W p l e R s m args below meth c H locs 0 0 (MQ below (va_Qi Q (rAt dC dI A h a cI cZ) A) args s 0 0 A) (F0 m 0 ls []) := by
  unfold R_behind_b0 at hw
  refine lv_iload_n X.1 X.2.1 dX7_behind_0 rfl (lv_at hl 1 rfl) ?_
  refine lv_istore_n (lv' := [(2, .int x1), (0, .ref h), (1, .int x1)]) X.1 X.2.1 dX7_behind_1 rfl hl (by decide) rfl (fun ls hl => ?_)
  refine lv_iconst (v := 1) X.1 X.2.1 dX7_behind_2 (by decide) ?_
  refine lv_istore_n (lv' := [(3, .int (1 : Int32)), (2, .int x1), (0, .ref h), (1, .int x1)]) X.1 X.2.1 dX7_behind_3 rfl hl (by decide) rfl (fun ls hl => ?_)
  refine lv_aload_n X.1 X.2.1 dX7_behind_4 rfl (lv_at hl 2 rfl) ?_
  refine rf_left X hK hO dX7_behind_5 ?_
  refine lv_iconst (v := 1) X.1 X.2.1 dX7_behind_8 (by decide) ?_
  refine lv_iconst (v := 1) X.1 X.2.1 dX7_behind_9 (by decide) ?_
  refine rs_left X.1 X.2.1 hK hO (by unfold vp_in; decide) dX7_behind_10 (fun H locs hO => ?_)
  obtain ⟨t10, e10⟩ : ∃ z, z = rA σ 25 (1 : Int32) (1 : Int32) := ⟨_, rfl⟩
  have hw := hw t10 e10
  rw [← e10] at hO
  refine lv_aload_n X.1 X.2.1 dX7_behind_11 rfl (lv_at hl 2 rfl) ?_
  refine rf_named X hK hO dX7_behind_12 ?_
  refine lv_iconst (v := 1) X.1 X.2.1 dX7_behind_15 (by decide) ?_
  refine lv_iconst (v := 0) X.1 X.2.1 dX7_behind_16 (by decide) ?_
  refine rs_named X.1 X.2.1 hK hO (by unfold vp_in; decide) dX7_behind_17 (fun H locs hO => ?_)
  obtain ⟨t17, e17⟩ : ∃ z, z = rA t10 26 (1 : Int32) (vp_nar .boolean (0 : Int32)) := ⟨_, rfl⟩
  have hw := hw t17 e17
  rw [← e17] at hO
  obtain ⟨n, hw⟩ := hw
  exact rB_behind_18 X hr hlk hR hK hA n x1 (1 : Int32) t17 H locs ls (lv_sub hl [2, 1, 0] rfl) hO hw
def R_behind_w (Q : Int32 → rS → Prop) (x1 : Int32) (σ : rS) : Prop := R_behind_b0 Q x1 σ
abbrev rmX7_behind : Room := { frames := 0, cells := 0, slots := 0, locals := 0 }
set_option maxHeartbeats 4000000 in
set_option maxRecDepth 100000 in
theorem rC_behind (l : Launch) (dC : Nat → ClassId) (dI : Nat → Nat → Nat) (h : Nat) (a : Nat → Nat) (cI cZ : ClassId) (σ : rS) (sz : Nat) (x1 : Int32) (Q : Int32 → rS → Prop) (hw : R_behind_w Q x1 σ) : Met l yX7_behind wsX7_behind rmX7_behind (rPc dC dI h a cI cZ sz σ [.ref h, .int x1]) (va_Qi Q (rAt dC dI (va_A (rCells h a cI cZ σ) sz) h a cI cZ) (va_A (rCells h a cI cZ σ) sz)) 0 0 (va_A (rCells h a cI cZ σ) sz) := by
  refine Met.ofW (cc := cX7_behind) (maxL := 5) (ret := (some .int)) (by decide) rfl ?_
  intro p e s m args below meth c s₁ B hml hv
  obtain ⟨hargs, hsz, hP, hK, hD0⟩ := hv
  have hts := atoms_spec (ws := wsX7_behind) B.pre
  have hown : s.vm.findClass RX7 = some m.cls := findClass_of_methodNamed B.named
  subst hsz
  subst hargs
  have hD := hD0.self (sz := s.heap.size)
  generalize hAe : va_A (rCells h a cI cZ σ) s.heap.size = A at hD ⊢
  have hA : ∀ q : Nat, s.heap.size ≤ q → A q := fun q h => by rw [← hAe]; exact Or.inr h
  have hl := lv_entry ([.ref h, .int x1]) (n := 5) (Nat.le_of_ble_eq_true rfl)
  rw [lg_entry_eq]
  generalize (lg_sl ([.ref h, .int x1]) ++ List.replicate (5 - (lg_sl ([.ref h, .int x1])).length) Slot.unset).toArray = ls at hl ⊢
  have hl : lv_has ls 5 [(0, .ref h), (1, .int x1)] := hl
  unfold R_behind_w at hw
  exact rB_behind_0 ⟨B.exec, B.bytes, hml, hown, hts⟩ B.returns B.notSynchronized ⟨Nat.le_of_ble_eq_true rfl, Nat.le_of_ble_eq_true rfl⟩ hK hA x1 σ s.heap [] ls (lv_sub hl [0, 1] rfl) ⟨hP, hD, va_S.rf⟩ hw
def R_inRow_b38 (Q : Int32 → rS → Prop) (σ : rS) : Prop :=
 Q (0 : Int32) σ
set_option maxHeartbeats 4000000 in
set_option maxRecDepth 100000 in
theorem rB_inRow_38 {Q : Int32 → rS → Prop} (X : CallFix p m c cX7_inRow 8 s args wsX7_inRow RX7) (hr : meth.sig.returnType = (some .int)) (hlk : meth.locks = false) (hR : 1 ≤ R.frames ∧ 24 ≤ R.locals) (hK : va_K (dC, dI) vwCl [(cI, .int), (cZ, .boolean)] s) (hA : ∀ q, s.heap.size ≤ q → A q) (σ : rS) (H : Heap) (locs : List Loc) (ls : Array Slot) (hl : lv_has ls 8 [(0, .ref h)]) (hO : rO dC dI h a cI cZ A s.heap σ H locs) (hw : R_inRow_b38 Q σ) : W p l e R s m args below meth c H locs 0 0 (MQ below (va_Qi Q (rAt dC dI A h a cI cZ) A) args s 0 0 A) (F0 m 38 ls []) := by
  unfold R_inRow_b38 at hw
  refine lv_iconst (v := 0) X.1 X.2.1 dX7_inRow_38 (by decide) ?_
  exact W.iret (v := (0 : Int32)) X.1 X.2.1 hr (fun t ht hW => ⟨⟨(0 : Int32), σ, rfl, hw, rO_end hO hK ht hW⟩, hO.2.2.F ht⟩) hO.2.2.2.2 dX7_inRow_39 hlk
def R_inRow_b104 (Q : Int32 → rS → Prop) (K52 : Int32 → Int32 → Int32 → Int32 → Int32 → Int32 → rS → Prop) (x1 : Int32) (x3 : Int32) (x4 : Int32) (x5 : Int32) (x6 : Int32) (x7 : Int32) (σ : rS) : Prop :=
 R_behind_w (fun r107 t107 => ∀ v112 : Int32, v112 = x7 + (1 : Int32) → K52 x1 x3 x4 x5 r107 v112 t107) x6 σ
set_option maxHeartbeats 4000000 in
set_option maxRecDepth 100000 in
theorem rB_inRow_104 {Q : Int32 → rS → Prop} {K52 : Int32 → Int32 → Int32 → Int32 → Int32 → Int32 → rS → Prop} (X : CallFix p m c cX7_inRow 8 s args wsX7_inRow RX7) (hr : meth.sig.returnType = (some .int)) (hlk : meth.locks = false) (hR : 1 ≤ R.frames ∧ 24 ≤ R.locals) (hK : va_K (dC, dI) vwCl [(cI, .int), (cZ, .boolean)] s) (hA : ∀ q, s.heap.size ≤ q → A q) (k52 : ∀ (x1 : Int32) (x3 : Int32) (x4 : Int32) (x5 : Int32) (x6 : Int32) (x7 : Int32) (σ : rS) (H : Heap) (locs : List Loc) (ls : Array Slot), lv_has ls 8 [(0, .ref h), (1, .int x1), (3, .int x3), (4, .int x4), (5, .int x5), (6, .int x6), (7, .int x7)] → rO dC dI h a cI cZ A s.heap σ H locs → K52 x1 x3 x4 x5 x6 x7 σ → W p l e R s m args below meth c H locs 0 0 (MQ below (va_Qi Q (rAt dC dI A h a cI cZ) A) args s 0 0 A) (F0 m 52 ls [])) (x1 : Int32) (x3 : Int32) (x4 : Int32) (x5 : Int32) (x6 : Int32) (x7 : Int32) (σ : rS) (H : Heap) (locs : List Loc) (ls : Array Slot) (hl : lv_has ls 8 [(0, .ref h), (1, .int x1), (3, .int x3), (4, .int x4), (5, .int x5), (6, .int x6), (7, .int x7)]) (hO : rO dC dI h a cI cZ A s.heap σ H locs) (hw : R_inRow_b104 Q K52 x1 x3 x4 x5 x6 x7 σ) : W p l e R s m args below meth c H locs 0 0 (MQ below (va_Qi Q (rAt dC dI A h a cI cZ) A) args s 0 0 A) (F0 m 104 ls []) := by
  unfold R_inRow_b104 at hw
  refine lv_aload_n X.1 X.2.1 dX7_inRow_104 rfl (lv_at hl 0 rfl) ?_
  refine lv_iload X.1 X.2.1 dX7_inRow_105 (lv_at hl 5 rfl) ?_
  refine r_calli (rest := []) (As := [.int x6]) X (rC_behind l dC dI h a cI cZ σ H.size x6 _ hw) (cwV 1 X.2.2.2.2 gX7_behind rfl rfl rfl hdX7_behind ⟨Nat.le_trans (by decide) hR.1, Nat.le_trans (by decide) hR.2⟩) hK hA hO rfl hl.1 rfl (Nat.le_of_ble_eq_true rfl) dX7_inRow_107 (fun r107 t107 H locs hO hw => ?_)
  refine lv_istore (lv' := [(6, .int r107), (0, .ref h), (1, .int x1), (3, .int x3), (4, .int x4), (5, .int x5), (7, .int x7)]) X.1 X.2.1 dX7_inRow_110 hl (by decide) rfl (fun ls hl => ?_)
  obtain ⟨v112, e112⟩ : ∃ z, z = x7 + (1 : Int32) := ⟨_, rfl⟩
  have hw := hw v112 e112
  refine lv_iinc (lv' := [(7, .int v112), (6, .int r107), (0, .ref h), (1, .int x1), (3, .int x3), (4, .int x4), (5, .int x5)]) (k := 6) (v := v112) X.1 X.2.1 dX7_inRow_112 hl rfl (by rw [e112]; rfl) (by decide) rfl (fun ls hl => ?_)
  refine lv_goto (tgt := 52) X.1 X.2.1 dX7_inRow_115 rfl ?_
  exact k52 x1 x3 x4 x5 r107 v112 t107 H locs ls (lv_sub hl [2, 3, 4, 5, 6, 1, 0] rfl) hO hw
def R_inRow_b52_s (Q : Int32 → rS → Prop) (K52 : Int32 → Int32 → Int32 → Int32 → Int32 → Int32 → rS → Prop) (x1 : Int32) (x3 : Int32) (x4 : Int32) (x5 : Int32) (x6 : Int32) (x7 : Int32) (σ : rS) : Prop :=
 vp_in (x4 + (4 : Int32)) 1920 ∧ ((σ.2 2 (x4 + (4 : Int32)).toNatClampNeg) ≤ x7 → Q x5 σ) ∧ (¬ (σ.2 2 (x4 + (4 : Int32)).toNatClampNeg) ≤ x7 → vp_in x6 1920 ∧ (¬ (σ.2 2 x6.toNatClampNeg) = (64 : Int32) → R_inRow_b104 Q K52 x1 x3 x4 x5 x6 x7 σ) ∧ ((σ.2 2 x6.toNatClampNeg) = (64 : Int32) → vp_in (x6 + (1 : Int32)) 1920 ∧ vp_in (((13 : Int32) * x1) + (σ.2 2 (x6 + (1 : Int32)).toNatClampNeg)) 208 ∧ (¬ (σ.2 8 (((13 : Int32) * x1) + (σ.2 2 (x6 + (1 : Int32)).toNatClampNeg)).toNatClampNeg) = x3 → R_inRow_b104 Q K52 x1 x3 x4 x5 x6 x7 σ) ∧ ((σ.2 8 (((13 : Int32) * x1) + (σ.2 2 (x6 + (1 : Int32)).toNatClampNeg)).toNatClampNeg) = x3 → ∀ v101 : Int32, v101 = x5 + (1 : Int32) → R_inRow_b104 Q K52 x1 x3 x4 v101 x6 x7 σ)))
def R_inRow_b52_f (Q : Int32 → rS → Prop) : (Int32 × Int32 × Int32 × Int32 × Int32 × Int32 × rS → Prop) → Int32 × Int32 × Int32 × Int32 × Int32 × Int32 × rS → Prop :=
 fun K z => R_inRow_b52_s Q (fun x1 x3 x4 x5 x6 x7 σ => K (x1, x3, x4, x5, x6, x7, σ)) z.1 z.2.1 z.2.2.1 z.2.2.2.1 z.2.2.2.2.1 z.2.2.2.2.2.1 z.2.2.2.2.2.2
def R_inRow_b52 (Q : Int32 → rS → Prop) (x1 : Int32) (x3 : Int32) (x4 : Int32) (x5 : Int32) (x6 : Int32) (x7 : Int32) (σ : rS) : Prop := ∃ n, fx (R_inRow_b52_f Q ) n (x1, x3, x4, x5, x6, x7, σ)
set_option maxHeartbeats 4000000 in
set_option maxRecDepth 100000 in
theorem rB_inRow_52 {Q : Int32 → rS → Prop} (X : CallFix p m c cX7_inRow 8 s args wsX7_inRow RX7) (hr : meth.sig.returnType = (some .int)) (hlk : meth.locks = false) (hR : 1 ≤ R.frames ∧ 24 ≤ R.locals) (hK : va_K (dC, dI) vwCl [(cI, .int), (cZ, .boolean)] s) (hA : ∀ q, s.heap.size ≤ q → A q) : ∀ (n : Nat) (x1 : Int32) (x3 : Int32) (x4 : Int32) (x5 : Int32) (x6 : Int32) (x7 : Int32) (σ : rS) (H : Heap) (locs : List Loc) (ls : Array Slot), lv_has ls 8 [(0, .ref h), (1, .int x1), (3, .int x3), (4, .int x4), (5, .int x5), (6, .int x6), (7, .int x7)] → rO dC dI h a cI cZ A s.heap σ H locs → fx (R_inRow_b52_f Q ) n (x1, x3, x4, x5, x6, x7, σ) → W p l e R s m args below meth c H locs 0 0 (MQ below (va_Qi Q (rAt dC dI A h a cI cZ) A) args s 0 0 A) (F0 m 52 ls []) := by
  intro n
  induction n with
  | zero => intro x1 x3 x4 x5 x6 x7 σ H locs ls hl hO hw; exact False.elim hw
  | succ n k52 =>
    intro x1 x3 x4 x5 x6 x7 σ H locs ls hl hO hw
    have hw : R_inRow_b52_s Q (fun x1 x3 x4 x5 x6 x7 σ => fx (R_inRow_b52_f Q ) n (x1, x3, x4, x5, x6, x7, σ)) x1 x3 x4 x5 x6 x7 σ := hw
    unfold R_inRow_b52_s at hw
    refine lv_iload X.1 X.2.1 dX7_inRow_52 (lv_at hl 6 rfl) ?_
    refine lv_aload_n X.1 X.2.1 dX7_inRow_54 rfl (lv_at hl 0 rfl) ?_
    refine rf_bytes X hK hO dX7_inRow_55 ?_
    refine lv_iload X.1 X.2.1 dX7_inRow_58 (lv_at hl 3 rfl) ?_
    refine lv_iconst (v := 4) X.1 X.2.1 dX7_inRow_60 (by decide) ?_
    refine lv_iadd X.1 X.2.1 dX7_inRow_61 ?_
    obtain ⟨g62, hw⟩ := hw
    refine ra_bytes X.1 X.2.1 hK hO g62 dX7_inRow_62 ?_
    refine lv_icmp_ge (tgt := 118) X.1 X.2.1 dX7_inRow_63 rfl (fun hc9 => ?_) (fun hc9 => ?_)
    · have hw := hw.1 hc9
      refine lv_iload X.1 X.2.1 dX7_inRow_118 (lv_at hl 4 rfl) ?_
      exact W.iret (v := x5) X.1 X.2.1 hr (fun t ht hW => ⟨⟨x5, σ, rfl, hw, rO_end hO hK ht hW⟩, hO.2.2.F ht⟩) hO.2.2.2.2 dX7_inRow_120 hlk
    · have hw := hw.2 hc9
      refine lv_aload_n X.1 X.2.1 dX7_inRow_66 rfl (lv_at hl 0 rfl) ?_
      refine rf_bytes X hK hO dX7_inRow_67 ?_
      refine lv_iload X.1 X.2.1 dX7_inRow_70 (lv_at hl 5 rfl) ?_
      obtain ⟨g72, hw⟩ := hw
      refine ra_bytes X.1 X.2.1 hK hO g72 dX7_inRow_72 ?_
      refine lv_bipush (v := 64) X.1 X.2.1 dX7_inRow_73 (by decide) ?_
      refine lv_icmp_ne (tgt := 104) X.1 X.2.1 dX7_inRow_75 rfl (fun hc9 => ?_) (fun hc9 => ?_)
      · have hw := hw.1 hc9
        exact rB_inRow_104 X hr hlk hR hK hA k52 x1 x3 x4 x5 x6 x7 σ H locs ls (lv_sub hl [0, 1, 2, 3, 4, 5, 6] rfl) hO hw
      · have hw := hw.2 hc9
        refine lv_aload_n X.1 X.2.1 dX7_inRow_78 rfl (lv_at hl 0 rfl) ?_
        refine rf_text X hK hO dX7_inRow_79 ?_
        refine lv_bipush (v := 13) X.1 X.2.1 dX7_inRow_82 (by decide) ?_
        refine lv_iload_n X.1 X.2.1 dX7_inRow_84 rfl (lv_at hl 1 rfl) ?_
        refine lv_imul X.1 X.2.1 dX7_inRow_85 ?_
        refine lv_aload_n X.1 X.2.1 dX7_inRow_86 rfl (lv_at hl 0 rfl) ?_
        refine rf_bytes X hK hO dX7_inRow_87 ?_
        refine lv_iload X.1 X.2.1 dX7_inRow_90 (lv_at hl 5 rfl) ?_
        refine lv_iconst (v := 1) X.1 X.2.1 dX7_inRow_92 (by decide) ?_
        refine lv_iadd X.1 X.2.1 dX7_inRow_93 ?_
        obtain ⟨g94, hw⟩ := hw
        refine ra_bytes X.1 X.2.1 hK hO g94 dX7_inRow_94 ?_
        refine lv_iadd X.1 X.2.1 dX7_inRow_95 ?_
        obtain ⟨g96, hw⟩ := hw
        refine ra_text X.1 X.2.1 hK hO g96 dX7_inRow_96 ?_
        refine lv_iload_n X.1 X.2.1 dX7_inRow_97 rfl (lv_at hl 2 rfl) ?_
        refine lv_icmp_ne (tgt := 104) X.1 X.2.1 dX7_inRow_98 rfl (fun hc9 => ?_) (fun hc9 => ?_)
        · have hw := hw.1 hc9
          exact rB_inRow_104 X hr hlk hR hK hA k52 x1 x3 x4 x5 x6 x7 σ H locs ls (lv_sub hl [0, 1, 2, 3, 4, 5, 6] rfl) hO hw
        · have hw := hw.2 hc9
          obtain ⟨v101, e101⟩ : ∃ z, z = x5 + (1 : Int32) := ⟨_, rfl⟩
          have hw := hw v101 e101
          refine lv_iinc (lv' := [(5, .int v101), (0, .ref h), (1, .int x1), (3, .int x3), (4, .int x4), (6, .int x6), (7, .int x7)]) (k := 4) (v := v101) X.1 X.2.1 dX7_inRow_101 hl rfl (by rw [e101]; rfl) (by decide) rfl (fun ls hl => ?_)
          exact rB_inRow_104 X hr hlk hR hK hA k52 x1 x3 x4 v101 x6 x7 σ H locs ls (lv_sub hl [1, 2, 3, 4, 0, 5, 6] rfl) hO hw
def R_inRow_b0 (Q : Int32 → rS → Prop) (x1 : Int32) (x2 : Int32) (x3 : Int32) (σ : rS) : Prop :=
 vp_in (((4 : Int32) * x1) + x2) 64 ∧ ∀ v10 : Int32, v10 = (σ.2 16 (((4 : Int32) * x1) + x2).toNatClampNeg) → vp_in (v10 + (1 : Int32)) 1920 ∧ ((σ.2 2 (v10 + (1 : Int32)).toNatClampNeg) = 0 → R_inRow_b38 Q σ) ∧ (¬ (σ.2 2 (v10 + (1 : Int32)).toNatClampNeg) = 0 → vp_in (v10 + (3 : Int32)) 1920 ∧ ((σ.2 2 (v10 + (3 : Int32)).toNatClampNeg) = (91 : Int32) → ∀ v47 : Int32, v47 = (v10 + (5 : Int32)) → R_inRow_b52 Q x1 x3 v10 (0 : Int32) v47 (0 : Int32) σ) ∧ (¬ (σ.2 2 (v10 + (3 : Int32)).toNatClampNeg) = (91 : Int32) → R_inRow_b38 Q σ))
set_option maxHeartbeats 4000000 in
set_option maxRecDepth 100000 in
theorem rB_inRow_0 {Q : Int32 → rS → Prop} (X : CallFix p m c cX7_inRow 8 s args wsX7_inRow RX7) (hr : meth.sig.returnType = (some .int)) (hlk : meth.locks = false) (hR : 1 ≤ R.frames ∧ 24 ≤ R.locals) (hK : va_K (dC, dI) vwCl [(cI, .int), (cZ, .boolean)] s) (hA : ∀ q, s.heap.size ≤ q → A q) (x1 : Int32) (x2 : Int32) (x3 : Int32) (σ : rS) (H : Heap) (locs : List Loc) (ls : Array Slot) (hl : lv_has ls 8 [(0, .ref h), (1, .int x1), (2, .int x2), (3, .int x3)]) (hO : rO dC dI h a cI cZ A s.heap σ H locs) (hw : R_inRow_b0 Q x1 x2 x3 σ) : W p l e R s m args below meth c H locs 0 0 (MQ below (va_Qi Q (rAt dC dI A h a cI cZ) A) args s 0 0 A) (F0 m 0 ls []) := by
  unfold R_inRow_b0 at hw
  refine lv_aload_n X.1 X.2.1 dX7_inRow_0 rfl (lv_at hl 0 rfl) ?_
  refine rf_note X hK hO dX7_inRow_1 ?_
  refine lv_iconst (v := 4) X.1 X.2.1 dX7_inRow_4 (by decide) ?_
  refine lv_iload_n X.1 X.2.1 dX7_inRow_5 rfl (lv_at hl 1 rfl) ?_
  refine lv_imul X.1 X.2.1 dX7_inRow_6 ?_
  refine lv_iload_n X.1 X.2.1 dX7_inRow_7 rfl (lv_at hl 2 rfl) ?_
  refine lv_iadd X.1 X.2.1 dX7_inRow_8 ?_
  obtain ⟨g9, hw⟩ := hw
  refine ra_note X.1 X.2.1 hK hO g9 dX7_inRow_9 ?_
  refine lv_topi (fun v10 e10 => ?_)
  have hw := hw v10 e10
  refine lv_istore (lv' := [(4, .int v10), (0, .ref h), (1, .int x1), (2, .int x2), (3, .int x3)]) X.1 X.2.1 dX7_inRow_10 hl (by decide) rfl (fun ls hl => ?_)
  refine lv_aload_n X.1 X.2.1 dX7_inRow_12 rfl (lv_at hl 1 rfl) ?_
  refine rf_bytes X hK hO dX7_inRow_13 ?_
  refine lv_iload X.1 X.2.1 dX7_inRow_16 (lv_at hl 0 rfl) ?_
  refine lv_iconst (v := 1) X.1 X.2.1 dX7_inRow_18 (by decide) ?_
  refine lv_iadd X.1 X.2.1 dX7_inRow_19 ?_
  obtain ⟨g20, hw⟩ := hw
  refine ra_bytes X.1 X.2.1 hK hO g20 dX7_inRow_20 ?_
  refine lv_if_eq (tgt := 38) X.1 X.2.1 dX7_inRow_21 rfl (fun hc9 => ?_) (fun hc9 => ?_)
  · have hw := hw.1 hc9
    exact rB_inRow_38 X hr hlk hR hK hA σ H locs ls (lv_sub hl [1] rfl) hO hw
  · have hw := hw.2 hc9
    refine lv_aload_n X.1 X.2.1 dX7_inRow_24 rfl (lv_at hl 1 rfl) ?_
    refine rf_bytes X hK hO dX7_inRow_25 ?_
    refine lv_iload X.1 X.2.1 dX7_inRow_28 (lv_at hl 0 rfl) ?_
    refine lv_iconst (v := 3) X.1 X.2.1 dX7_inRow_30 (by decide) ?_
    refine lv_iadd X.1 X.2.1 dX7_inRow_31 ?_
    obtain ⟨g32, hw⟩ := hw
    refine ra_bytes X.1 X.2.1 hK hO g32 dX7_inRow_32 ?_
    refine lv_bipush (v := 91) X.1 X.2.1 dX7_inRow_33 (by decide) ?_
    refine lv_icmp_eq (tgt := 40) X.1 X.2.1 dX7_inRow_35 rfl (fun hc9 => ?_) (fun hc9 => ?_)
    · have hw := hw.1 hc9
      refine lv_iconst (v := 0) X.1 X.2.1 dX7_inRow_40 (by decide) ?_
      refine lv_istore (lv' := [(5, .int (0 : Int32)), (4, .int v10), (0, .ref h), (1, .int x1), (2, .int x2), (3, .int x3)]) X.1 X.2.1 dX7_inRow_41 hl (by decide) rfl (fun ls hl => ?_)
      refine lv_iload X.1 X.2.1 dX7_inRow_43 (lv_at hl 1 rfl) ?_
      refine lv_iconst (v := 5) X.1 X.2.1 dX7_inRow_45 (by decide) ?_
      refine lv_iadd X.1 X.2.1 dX7_inRow_46 ?_
      refine lv_topi (fun v47 e47 => ?_)
      have hw := hw v47 e47
      refine lv_istore (lv' := [(6, .int v47), (5, .int (0 : Int32)), (4, .int v10), (0, .ref h), (1, .int x1), (2, .int x2), (3, .int x3)]) X.1 X.2.1 dX7_inRow_47 hl (by decide) rfl (fun ls hl => ?_)
      refine lv_iconst (v := 0) X.1 X.2.1 dX7_inRow_49 (by decide) ?_
      refine lv_istore (lv' := [(7, .int (0 : Int32)), (6, .int v47), (5, .int (0 : Int32)), (4, .int v10), (0, .ref h), (1, .int x1), (2, .int x2), (3, .int x3)]) X.1 X.2.1 dX7_inRow_50 hl (by decide) rfl (fun ls hl => ?_)
      obtain ⟨n, hw⟩ := hw
      exact rB_inRow_52 X hr hlk hR hK hA n x1 x3 v10 (0 : Int32) v47 (0 : Int32) σ H locs ls (lv_sub hl [4, 5, 7, 3, 2, 1, 0] rfl) hO hw
    · have hw := hw.2 hc9
      exact rB_inRow_38 X hr hlk hR hK hA σ H locs ls (lv_sub hl [1] rfl) hO hw
def R_inRow_w (Q : Int32 → rS → Prop) (x1 : Int32) (x2 : Int32) (x3 : Int32) (σ : rS) : Prop := R_inRow_b0 Q x1 x2 x3 σ
abbrev rmX7_inRow : Room := { frames := 1, cells := 0, slots := 0, locals := 24 }
set_option maxHeartbeats 4000000 in
set_option maxRecDepth 100000 in
theorem rC_inRow (l : Launch) (dC : Nat → ClassId) (dI : Nat → Nat → Nat) (h : Nat) (a : Nat → Nat) (cI cZ : ClassId) (σ : rS) (sz : Nat) (x1 : Int32) (x2 : Int32) (x3 : Int32) (Q : Int32 → rS → Prop) (hw : R_inRow_w Q x1 x2 x3 σ) : Met l yX7_inRow wsX7_inRow rmX7_inRow (rPc dC dI h a cI cZ sz σ [.ref h, .int x1, .int x2, .int x3]) (va_Qi Q (rAt dC dI (va_A (rCells h a cI cZ σ) sz) h a cI cZ) (va_A (rCells h a cI cZ σ) sz)) 0 0 (va_A (rCells h a cI cZ σ) sz) := by
  refine Met.ofW (cc := cX7_inRow) (maxL := 8) (ret := (some .int)) (by decide) rfl ?_
  intro p e s m args below meth c s₁ B hml hv
  obtain ⟨hargs, hsz, hP, hK, hD0⟩ := hv
  have hts := atoms_spec (ws := wsX7_inRow) B.pre
  have hown : s.vm.findClass RX7 = some m.cls := findClass_of_methodNamed B.named
  subst hsz
  subst hargs
  have hD := hD0.self (sz := s.heap.size)
  generalize hAe : va_A (rCells h a cI cZ σ) s.heap.size = A at hD ⊢
  have hA : ∀ q : Nat, s.heap.size ≤ q → A q := fun q h => by rw [← hAe]; exact Or.inr h
  have hl := lv_entry ([.ref h, .int x1, .int x2, .int x3]) (n := 8) (Nat.le_of_ble_eq_true rfl)
  rw [lg_entry_eq]
  generalize (lg_sl ([.ref h, .int x1, .int x2, .int x3]) ++ List.replicate (8 - (lg_sl ([.ref h, .int x1, .int x2, .int x3])).length) Slot.unset).toArray = ls at hl ⊢
  have hl : lv_has ls 8 [(0, .ref h), (1, .int x1), (2, .int x2), (3, .int x3)] := hl
  unfold R_inRow_w at hw
  exact rB_inRow_0 ⟨B.exec, B.bytes, hml, hown, hts⟩ B.returns B.notSynchronized ⟨Nat.le_of_ble_eq_true rfl, Nat.le_of_ble_eq_true rfl⟩ hK hA x1 x2 x3 σ s.heap [] ls (lv_sub hl [0, 1, 2, 3] rfl) ⟨hP, hD, va_S.rf⟩ hw
def R_countAt_b69 (Q : Int32 → rS → Prop) (K12 : Int32 → Int32 → Int32 → Int32 → Int32 → rS → Prop) (x1 : Int32) (x2 : Int32) (x3 : Int32) (x4 : Int32) (x5 : Int32) (σ : rS) : Prop :=
 ∀ v69 : Int32, v69 = x5 + (1 : Int32) → K12 x1 x2 x3 x4 v69 σ
set_option maxHeartbeats 4000000 in
set_option maxRecDepth 100000 in
theorem rB_countAt_69 {Q : Int32 → rS → Prop} {K12 : Int32 → Int32 → Int32 → Int32 → Int32 → rS → Prop} (X : CallFix p m c cX7_countAt 7 s args wsX7_countAt RX7) (hr : meth.sig.returnType = (some .int)) (hlk : meth.locks = false) (hR : 2 ≤ R.frames ∧ 51 ≤ R.locals) (hK : va_K (dC, dI) vwCl [(cI, .int), (cZ, .boolean)] s) (hA : ∀ q, s.heap.size ≤ q → A q) (k12 : ∀ (x1 : Int32) (x2 : Int32) (x3 : Int32) (x4 : Int32) (x5 : Int32) (σ : rS) (H : Heap) (locs : List Loc) (ls : Array Slot), lv_has ls 7 [(0, .ref h), (1, .int x1), (2, .int x2), (3, .int x3), (4, .int x4), (5, .int x5)] → rO dC dI h a cI cZ A s.heap σ H locs → K12 x1 x2 x3 x4 x5 σ → W p l e R s m args below meth c H locs 0 0 (MQ below (va_Qi Q (rAt dC dI A h a cI cZ) A) args s 0 0 A) (F0 m 12 ls [])) (x1 : Int32) (x2 : Int32) (x3 : Int32) (x4 : Int32) (x5 : Int32) (σ : rS) (H : Heap) (locs : List Loc) (ls : Array Slot) (hl : lv_has ls 7 [(0, .ref h), (1, .int x1), (2, .int x2), (3, .int x3), (4, .int x4), (5, .int x5)]) (hO : rO dC dI h a cI cZ A s.heap σ H locs) (hw : R_countAt_b69 Q K12 x1 x2 x3 x4 x5 σ) : W p l e R s m args below meth c H locs 0 0 (MQ below (va_Qi Q (rAt dC dI A h a cI cZ) A) args s 0 0 A) (F0 m 69 ls []) := by
  unfold R_countAt_b69 at hw
  obtain ⟨v69, e69⟩ : ∃ z, z = x5 + (1 : Int32) := ⟨_, rfl⟩
  have hw := hw v69 e69
  refine lv_iinc (lv' := [(5, .int v69), (0, .ref h), (1, .int x1), (2, .int x2), (3, .int x3), (4, .int x4)]) (k := 5) (v := v69) X.1 X.2.1 dX7_countAt_69 hl rfl (by rw [e69]; rfl) (by decide) rfl (fun ls hl => ?_)
  refine lv_goto (tgt := 12) X.1 X.2.1 dX7_countAt_72 rfl ?_
  exact k12 x1 x2 x3 x4 v69 σ H locs ls (lv_sub hl [1, 2, 3, 4, 5, 0] rfl) hO hw
def R_countAt_b41 (Q : Int32 → rS → Prop) (K12 : Int32 → Int32 → Int32 → Int32 → Int32 → rS → Prop) (x1 : Int32) (x2 : Int32) (x3 : Int32) (x4 : Int32) (x5 : Int32) (x6 : Int32) (σ : rS) : Prop :=
 (x3 < 0 → R_countAt_b69 Q K12 x1 x2 x3 x4 x5 σ) ∧ (¬ x3 < 0 → vp_in x3 16 ∧ (¬ (σ.2 12 x3.toNatClampNeg) = x6 → R_countAt_b69 Q K12 x1 x2 x3 x4 x5 σ) ∧ ((σ.2 12 x3.toNatClampNeg) = x6 → R_inRow_w (fun r63 t63 => ∀ v67 : Int32, v67 = (x4 + r63) → R_countAt_b69 Q K12 x1 x2 x3 v67 x5 t63) x1 x5 x2 σ))
set_option maxHeartbeats 4000000 in
set_option maxRecDepth 100000 in
theorem rB_countAt_41 {Q : Int32 → rS → Prop} {K12 : Int32 → Int32 → Int32 → Int32 → Int32 → rS → Prop} (X : CallFix p m c cX7_countAt 7 s args wsX7_countAt RX7) (hr : meth.sig.returnType = (some .int)) (hlk : meth.locks = false) (hR : 2 ≤ R.frames ∧ 51 ≤ R.locals) (hK : va_K (dC, dI) vwCl [(cI, .int), (cZ, .boolean)] s) (hA : ∀ q, s.heap.size ≤ q → A q) (k12 : ∀ (x1 : Int32) (x2 : Int32) (x3 : Int32) (x4 : Int32) (x5 : Int32) (σ : rS) (H : Heap) (locs : List Loc) (ls : Array Slot), lv_has ls 7 [(0, .ref h), (1, .int x1), (2, .int x2), (3, .int x3), (4, .int x4), (5, .int x5)] → rO dC dI h a cI cZ A s.heap σ H locs → K12 x1 x2 x3 x4 x5 σ → W p l e R s m args below meth c H locs 0 0 (MQ below (va_Qi Q (rAt dC dI A h a cI cZ) A) args s 0 0 A) (F0 m 12 ls [])) (x1 : Int32) (x2 : Int32) (x3 : Int32) (x4 : Int32) (x5 : Int32) (x6 : Int32) (σ : rS) (H : Heap) (locs : List Loc) (ls : Array Slot) (hl : lv_has ls 7 [(0, .ref h), (1, .int x1), (2, .int x2), (3, .int x3), (4, .int x4), (5, .int x5), (6, .int x6)]) (hO : rO dC dI h a cI cZ A s.heap σ H locs) (hw : R_countAt_b41 Q K12 x1 x2 x3 x4 x5 x6 σ) : W p l e R s m args below meth c H locs 0 0 (MQ below (va_Qi Q (rAt dC dI A h a cI cZ) A) args s 0 0 A) (F0 m 41 ls []) := by
  unfold R_countAt_b41 at hw
  refine lv_iload_n X.1 X.2.1 dX7_countAt_41 rfl (lv_at hl 3 rfl) ?_
  refine lv_if_lt (tgt := 69) X.1 X.2.1 dX7_countAt_42 rfl (fun hc9 => ?_) (fun hc9 => ?_)
  · have hw := hw.1 hc9
    exact rB_countAt_69 X hr hlk hR hK hA k12 x1 x2 x3 x4 x5 σ H locs ls (lv_sub hl [0, 1, 2, 3, 4, 5] rfl) hO hw
  · have hw := hw.2 hc9
    refine lv_aload_n X.1 X.2.1 dX7_countAt_45 rfl (lv_at hl 0 rfl) ?_
    refine rf_box X hK hO dX7_countAt_46 ?_
    refine lv_iload_n X.1 X.2.1 dX7_countAt_49 rfl (lv_at hl 3 rfl) ?_
    obtain ⟨g50, hw⟩ := hw
    refine ra_box X.1 X.2.1 hK hO g50 dX7_countAt_50 ?_
    refine lv_iload X.1 X.2.1 dX7_countAt_51 (lv_at hl 6 rfl) ?_
    refine lv_icmp_ne (tgt := 69) X.1 X.2.1 dX7_countAt_53 rfl (fun hc9 => ?_) (fun hc9 => ?_)
    · have hw := hw.1 hc9
      exact rB_countAt_69 X hr hlk hR hK hA k12 x1 x2 x3 x4 x5 σ H locs ls (lv_sub hl [0, 1, 2, 3, 4, 5] rfl) hO hw
    · have hw := hw.2 hc9
      refine lv_iload X.1 X.2.1 dX7_countAt_56 (lv_at hl 4 rfl) ?_
      refine lv_aload_n X.1 X.2.1 dX7_countAt_58 rfl (lv_at hl 0 rfl) ?_
      refine lv_iload_n X.1 X.2.1 dX7_countAt_59 rfl (lv_at hl 1 rfl) ?_
      refine lv_iload X.1 X.2.1 dX7_countAt_60 (lv_at hl 5 rfl) ?_
      refine lv_iload_n X.1 X.2.1 dX7_countAt_62 rfl (lv_at hl 2 rfl) ?_
      refine r_calli (rest := [.int x4]) (As := [.int x1, .int x5, .int x2]) X (rC_inRow l dC dI h a cI cZ σ H.size x1 x5 x2 _ hw) (cwV 3 X.2.2.2.2 gX7_inRow rfl rfl rfl hdX7_inRow ⟨Nat.le_trans (by decide) hR.1, Nat.le_trans (by decide) hR.2⟩) hK hA hO rfl hl.1 rfl (Nat.le_of_ble_eq_true rfl) dX7_countAt_63 (fun r63 t63 H locs hO hw => ?_)
      refine lv_iadd X.1 X.2.1 dX7_countAt_66 ?_
      refine lv_topi (fun v67 e67 => ?_)
      have hw := hw v67 e67
      refine lv_istore (lv' := [(4, .int v67), (0, .ref h), (1, .int x1), (2, .int x2), (3, .int x3), (5, .int x5), (6, .int x6)]) X.1 X.2.1 dX7_countAt_67 hl (by decide) rfl (fun ls hl => ?_)
      exact rB_countAt_69 X hr hlk hR hK hA k12 x1 x2 x3 v67 x5 t63 H locs ls (lv_sub hl [1, 2, 3, 4, 0, 5] rfl) hO hw
def R_countAt_b12_s (Q : Int32 → rS → Prop) (K12 : Int32 → Int32 → Int32 → Int32 → Int32 → rS → Prop) (x1 : Int32) (x2 : Int32) (x3 : Int32) (x4 : Int32) (x5 : Int32) (σ : rS) : Prop :=
 vp_in x1 16 ∧ ((σ.2 15 x1.toNatClampNeg) ≤ x5 → Q x4 σ) ∧ (¬ (σ.2 15 x1.toNatClampNeg) ≤ x5 → R_typeOf_w (fun r27 t27 => (¬ r27 = x2 → R_countAt_b41 Q K12 x1 x2 x3 x4 x5 r27 t27) ∧ (r27 = x2 → ∀ v38 : Int32, v38 = x4 + (1 : Int32) → R_countAt_b41 Q K12 x1 x2 x3 v38 x5 r27 t27)) x1 x5 σ)
def R_countAt_b12_f (Q : Int32 → rS → Prop) : (Int32 × Int32 × Int32 × Int32 × Int32 × rS → Prop) → Int32 × Int32 × Int32 × Int32 × Int32 × rS → Prop :=
 fun K z => R_countAt_b12_s Q (fun x1 x2 x3 x4 x5 σ => K (x1, x2, x3, x4, x5, σ)) z.1 z.2.1 z.2.2.1 z.2.2.2.1 z.2.2.2.2.1 z.2.2.2.2.2
def R_countAt_b12 (Q : Int32 → rS → Prop) (x1 : Int32) (x2 : Int32) (x3 : Int32) (x4 : Int32) (x5 : Int32) (σ : rS) : Prop := ∃ n, fx (R_countAt_b12_f Q ) n (x1, x2, x3, x4, x5, σ)
set_option maxHeartbeats 4000000 in
set_option maxRecDepth 100000 in
theorem rB_countAt_12 {Q : Int32 → rS → Prop} (X : CallFix p m c cX7_countAt 7 s args wsX7_countAt RX7) (hr : meth.sig.returnType = (some .int)) (hlk : meth.locks = false) (hR : 2 ≤ R.frames ∧ 51 ≤ R.locals) (hK : va_K (dC, dI) vwCl [(cI, .int), (cZ, .boolean)] s) (hA : ∀ q, s.heap.size ≤ q → A q) : ∀ (n : Nat) (x1 : Int32) (x2 : Int32) (x3 : Int32) (x4 : Int32) (x5 : Int32) (σ : rS) (H : Heap) (locs : List Loc) (ls : Array Slot), lv_has ls 7 [(0, .ref h), (1, .int x1), (2, .int x2), (3, .int x3), (4, .int x4), (5, .int x5)] → rO dC dI h a cI cZ A s.heap σ H locs → fx (R_countAt_b12_f Q ) n (x1, x2, x3, x4, x5, σ) → W p l e R s m args below meth c H locs 0 0 (MQ below (va_Qi Q (rAt dC dI A h a cI cZ) A) args s 0 0 A) (F0 m 12 ls []) := by
  intro n
  induction n with
  | zero => intro x1 x2 x3 x4 x5 σ H locs ls hl hO hw; exact False.elim hw
  | succ n k12 =>
    intro x1 x2 x3 x4 x5 σ H locs ls hl hO hw
    have hw : R_countAt_b12_s Q (fun x1 x2 x3 x4 x5 σ => fx (R_countAt_b12_f Q ) n (x1, x2, x3, x4, x5, σ)) x1 x2 x3 x4 x5 σ := hw
    unfold R_countAt_b12_s at hw
    refine lv_iload X.1 X.2.1 dX7_countAt_12 (lv_at hl 5 rfl) ?_
    refine lv_aload_n X.1 X.2.1 dX7_countAt_14 rfl (lv_at hl 0 rfl) ?_
    refine rf_noteCount X hK hO dX7_countAt_15 ?_
    refine lv_iload_n X.1 X.2.1 dX7_countAt_18 rfl (lv_at hl 1 rfl) ?_
    obtain ⟨g19, hw⟩ := hw
    refine ra_noteCount X.1 X.2.1 hK hO g19 dX7_countAt_19 ?_
    refine lv_icmp_ge (tgt := 75) X.1 X.2.1 dX7_countAt_20 rfl (fun hc9 => ?_) (fun hc9 => ?_)
    · have hw := hw.1 hc9
      refine lv_iload X.1 X.2.1 dX7_countAt_75 (lv_at hl 4 rfl) ?_
      exact W.iret (v := x4) X.1 X.2.1 hr (fun t ht hW => ⟨⟨x4, σ, rfl, hw, rO_end hO hK ht hW⟩, hO.2.2.F ht⟩) hO.2.2.2.2 dX7_countAt_77 hlk
    · have hw := hw.2 hc9
      refine lv_aload_n X.1 X.2.1 dX7_countAt_23 rfl (lv_at hl 0 rfl) ?_
      refine lv_iload_n X.1 X.2.1 dX7_countAt_24 rfl (lv_at hl 1 rfl) ?_
      refine lv_iload X.1 X.2.1 dX7_countAt_25 (lv_at hl 5 rfl) ?_
      refine r_calli (rest := []) (As := [.int x1, .int x5]) X (rC_typeOf l dC dI h a cI cZ σ H.size x1 x5 _ hw) (cwV 2 X.2.2.2.2 gX7_typeOf rfl rfl rfl hdX7_typeOf ⟨Nat.le_trans (by decide) hR.1, Nat.le_trans (by decide) hR.2⟩) hK hA hO rfl hl.1 rfl (Nat.le_of_ble_eq_true rfl) dX7_countAt_27 (fun r27 t27 H locs hO hw => ?_)
      refine lv_istore (lv' := [(6, .int r27), (0, .ref h), (1, .int x1), (2, .int x2), (3, .int x3), (4, .int x4), (5, .int x5)]) X.1 X.2.1 dX7_countAt_30 hl (by decide) rfl (fun ls hl => ?_)
      refine lv_iload X.1 X.2.1 dX7_countAt_32 (lv_at hl 0 rfl) ?_
      refine lv_iload_n X.1 X.2.1 dX7_countAt_34 rfl (lv_at hl 3 rfl) ?_
      refine lv_icmp_ne (tgt := 41) X.1 X.2.1 dX7_countAt_35 rfl (fun hc9 => ?_) (fun hc9 => ?_)
      · have hw := hw.1 hc9
        exact rB_countAt_41 X hr hlk hR hK hA k12 x1 x2 x3 x4 x5 r27 t27 H locs ls (lv_sub hl [1, 2, 3, 4, 5, 6, 0] rfl) hO hw
      · have hw := hw.2 hc9
        obtain ⟨v38, e38⟩ : ∃ z, z = x4 + (1 : Int32) := ⟨_, rfl⟩
        have hw := hw v38 e38
        refine lv_iinc (lv' := [(4, .int v38), (6, .int r27), (0, .ref h), (1, .int x1), (2, .int x2), (3, .int x3), (5, .int x5)]) (k := 5) (v := v38) X.1 X.2.1 dX7_countAt_38 hl rfl (by rw [e38]; rfl) (by decide) rfl (fun ls hl => ?_)
        exact rB_countAt_41 X hr hlk hR hK hA k12 x1 x2 x3 v38 x5 r27 t27 H locs ls (lv_sub hl [2, 3, 4, 5, 0, 6, 1] rfl) hO hw
def R_countAt_b0 (Q : Int32 → rS → Prop) (x1 : Int32) (x2 : Int32) (σ : rS) : Prop :=
 R_find_w (fun r2 t2 => R_countAt_b12 Q x1 x2 r2 (0 : Int32) (0 : Int32) t2) x2 σ
set_option maxHeartbeats 4000000 in
set_option maxRecDepth 100000 in
theorem rB_countAt_0 {Q : Int32 → rS → Prop} (X : CallFix p m c cX7_countAt 7 s args wsX7_countAt RX7) (hr : meth.sig.returnType = (some .int)) (hlk : meth.locks = false) (hR : 2 ≤ R.frames ∧ 51 ≤ R.locals) (hK : va_K (dC, dI) vwCl [(cI, .int), (cZ, .boolean)] s) (hA : ∀ q, s.heap.size ≤ q → A q) (x1 : Int32) (x2 : Int32) (σ : rS) (H : Heap) (locs : List Loc) (ls : Array Slot) (hl : lv_has ls 7 [(0, .ref h), (1, .int x1), (2, .int x2)]) (hO : rO dC dI h a cI cZ A s.heap σ H locs) (hw : R_countAt_b0 Q x1 x2 σ) : W p l e R s m args below meth c H locs 0 0 (MQ below (va_Qi Q (rAt dC dI A h a cI cZ) A) args s 0 0 A) (F0 m 0 ls []) := by
  unfold R_countAt_b0 at hw
  refine lv_aload_n X.1 X.2.1 dX7_countAt_0 rfl (lv_at hl 0 rfl) ?_
  refine lv_iload_n X.1 X.2.1 dX7_countAt_1 rfl (lv_at hl 2 rfl) ?_
  refine r_calli (rest := []) (As := [.int x2]) X (rC_find l dC dI h a cI cZ σ H.size x2 _ hw) (cwV 1 X.2.2.2.2 gX7_find rfl rfl rfl hdX7_find ⟨Nat.le_trans (by decide) hR.1, Nat.le_trans (by decide) hR.2⟩) hK hA hO rfl hl.1 rfl (Nat.le_of_ble_eq_true rfl) dX7_countAt_2 (fun r2 t2 H locs hO hw => ?_)
  refine lv_istore_n (lv' := [(3, .int r2), (0, .ref h), (1, .int x1), (2, .int x2)]) X.1 X.2.1 dX7_countAt_5 rfl hl (by decide) rfl (fun ls hl => ?_)
  refine lv_iconst (v := 0) X.1 X.2.1 dX7_countAt_6 (by decide) ?_
  refine lv_istore (lv' := [(4, .int (0 : Int32)), (3, .int r2), (0, .ref h), (1, .int x1), (2, .int x2)]) X.1 X.2.1 dX7_countAt_7 hl (by decide) rfl (fun ls hl => ?_)
  refine lv_iconst (v := 0) X.1 X.2.1 dX7_countAt_9 (by decide) ?_
  refine lv_istore (lv' := [(5, .int (0 : Int32)), (4, .int (0 : Int32)), (3, .int r2), (0, .ref h), (1, .int x1), (2, .int x2)]) X.1 X.2.1 dX7_countAt_10 hl (by decide) rfl (fun ls hl => ?_)
  obtain ⟨n, hw⟩ := hw
  exact rB_countAt_12 X hr hlk hR hK hA n x1 x2 r2 (0 : Int32) (0 : Int32) t2 H locs ls (lv_sub hl [3, 4, 5, 2, 1, 0] rfl) hO hw
def R_countAt_w (Q : Int32 → rS → Prop) (x1 : Int32) (x2 : Int32) (σ : rS) : Prop := R_countAt_b0 Q x1 x2 σ
abbrev rmX7_countAt : Room := { frames := 2, cells := 0, slots := 0, locals := 51 }
set_option maxHeartbeats 4000000 in
set_option maxRecDepth 100000 in
theorem rC_countAt (l : Launch) (dC : Nat → ClassId) (dI : Nat → Nat → Nat) (h : Nat) (a : Nat → Nat) (cI cZ : ClassId) (σ : rS) (sz : Nat) (x1 : Int32) (x2 : Int32) (Q : Int32 → rS → Prop) (hw : R_countAt_w Q x1 x2 σ) : Met l yX7_countAt wsX7_countAt rmX7_countAt (rPc dC dI h a cI cZ sz σ [.ref h, .int x1, .int x2]) (va_Qi Q (rAt dC dI (va_A (rCells h a cI cZ σ) sz) h a cI cZ) (va_A (rCells h a cI cZ σ) sz)) 0 0 (va_A (rCells h a cI cZ σ) sz) := by
  refine Met.ofW (cc := cX7_countAt) (maxL := 7) (ret := (some .int)) (by decide) rfl ?_
  intro p e s m args below meth c s₁ B hml hv
  obtain ⟨hargs, hsz, hP, hK, hD0⟩ := hv
  have hts := atoms_spec (ws := wsX7_countAt) B.pre
  have hown : s.vm.findClass RX7 = some m.cls := findClass_of_methodNamed B.named
  subst hsz
  subst hargs
  have hD := hD0.self (sz := s.heap.size)
  generalize hAe : va_A (rCells h a cI cZ σ) s.heap.size = A at hD ⊢
  have hA : ∀ q : Nat, s.heap.size ≤ q → A q := fun q h => by rw [← hAe]; exact Or.inr h
  have hl := lv_entry ([.ref h, .int x1, .int x2]) (n := 7) (Nat.le_of_ble_eq_true rfl)
  rw [lg_entry_eq]
  generalize (lg_sl ([.ref h, .int x1, .int x2]) ++ List.replicate (7 - (lg_sl ([.ref h, .int x1, .int x2])).length) Slot.unset).toArray = ls at hl ⊢
  have hl : lv_has ls 7 [(0, .ref h), (1, .int x1), (2, .int x2)] := hl
  unfold R_countAt_w at hw
  exact rB_countAt_0 ⟨B.exec, B.bytes, hml, hown, hts⟩ B.returns B.notSynchronized ⟨Nat.le_of_ble_eq_true rfl, Nat.le_of_ble_eq_true rfl⟩ hK hA x1 x2 σ s.heap [] ls (lv_sub hl [0, 1, 2] rfl) ⟨hP, hD, va_S.rf⟩ hw
def R_count_b16 (Q : Int32 → rS → Prop) (σ : rS) : Prop :=
 Q (0 : Int32) σ
set_option maxHeartbeats 4000000 in
set_option maxRecDepth 100000 in
theorem rB_count_16 {Q : Int32 → rS → Prop} (X : CallFix p m c cX7_count 7 s args wsX7_count RX7) (hr : meth.sig.returnType = (some .int)) (hlk : meth.locks = false) (hR : 3 ≤ R.frames ∧ 77 ≤ R.locals) (hK : va_K (dC, dI) vwCl [(cI, .int), (cZ, .boolean)] s) (hA : ∀ q, s.heap.size ≤ q → A q) (σ : rS) (H : Heap) (locs : List Loc) (ls : Array Slot) (hl : lv_has ls 7 [(0, .ref h)]) (hO : rO dC dI h a cI cZ A s.heap σ H locs) (hw : R_count_b16 Q σ) : W p l e R s m args below meth c H locs 0 0 (MQ below (va_Qi Q (rAt dC dI A h a cI cZ) A) args s 0 0 A) (F0 m 16 ls []) := by
  unfold R_count_b16 at hw
  refine lv_iconst (v := 0) X.1 X.2.1 dX7_count_16 (by decide) ?_
  exact W.iret (v := (0 : Int32)) X.1 X.2.1 hr (fun t ht hW => ⟨⟨(0 : Int32), σ, rfl, hw, rO_end hO hK ht hW⟩, hO.2.2.F ht⟩) hO.2.2.2.2 dX7_count_17 hlk
def R_count_b96 (Q : Int32 → rS → Prop) (x5 : Int32) (σ : rS) : Prop :=
 Q x5 σ
set_option maxHeartbeats 4000000 in
set_option maxRecDepth 100000 in
theorem rB_count_96 {Q : Int32 → rS → Prop} (X : CallFix p m c cX7_count 7 s args wsX7_count RX7) (hr : meth.sig.returnType = (some .int)) (hlk : meth.locks = false) (hR : 3 ≤ R.frames ∧ 77 ≤ R.locals) (hK : va_K (dC, dI) vwCl [(cI, .int), (cZ, .boolean)] s) (hA : ∀ q, s.heap.size ≤ q → A q) (x5 : Int32) (σ : rS) (H : Heap) (locs : List Loc) (ls : Array Slot) (hl : lv_has ls 7 [(0, .ref h), (5, .int x5)]) (hO : rO dC dI h a cI cZ A s.heap σ H locs) (hw : R_count_b96 Q x5 σ) : W p l e R s m args below meth c H locs 0 0 (MQ below (va_Qi Q (rAt dC dI A h a cI cZ) A) args s 0 0 A) (F0 m 96 ls []) := by
  unfold R_count_b96 at hw
  refine lv_iload X.1 X.2.1 dX7_count_96 (lv_at hl 1 rfl) ?_
  exact W.iret (v := x5) X.1 X.2.1 hr (fun t ht hW => ⟨⟨x5, σ, rfl, hw, rO_end hO hK ht hW⟩, hO.2.2.F ht⟩) hO.2.2.2.2 dX7_count_98 hlk
def R_count_b88 (Q : Int32 → rS → Prop) (K33 : Int32 → Int32 → Int32 → Int32 → Int32 → rS → Prop) (x2 : Int32) (x3 : Int32) (x5 : Int32) (x6 : Int32) (y0 : Int32) (σ : rS) : Prop :=
 ∀ v90 : Int32, v90 = x6 + (1 : Int32) → K33 x2 x3 y0 x5 v90 σ
set_option maxHeartbeats 4000000 in
set_option maxRecDepth 100000 in
theorem rB_count_88 {Q : Int32 → rS → Prop} {K33 : Int32 → Int32 → Int32 → Int32 → Int32 → rS → Prop} (X : CallFix p m c cX7_count 7 s args wsX7_count RX7) (hr : meth.sig.returnType = (some .int)) (hlk : meth.locks = false) (hR : 3 ≤ R.frames ∧ 77 ≤ R.locals) (hK : va_K (dC, dI) vwCl [(cI, .int), (cZ, .boolean)] s) (hA : ∀ q, s.heap.size ≤ q → A q) (k33 : ∀ (x2 : Int32) (x3 : Int32) (x4 : Int32) (x5 : Int32) (x6 : Int32) (σ : rS) (H : Heap) (locs : List Loc) (ls : Array Slot), lv_has ls 7 [(0, .ref h), (2, .int x2), (3, .int x3), (4, .int x4), (5, .int x5), (6, .int x6)] → rO dC dI h a cI cZ A s.heap σ H locs → K33 x2 x3 x4 x5 x6 σ → W p l e R s m args below meth c H locs 0 0 (MQ below (va_Qi Q (rAt dC dI A h a cI cZ) A) args s 0 0 A) (F0 m 33 ls [])) (x2 : Int32) (x3 : Int32) (x5 : Int32) (x6 : Int32) (y0 : Int32) (σ : rS) (H : Heap) (locs : List Loc) (ls : Array Slot) (hl : lv_has ls 7 [(0, .ref h), (2, .int x2), (3, .int x3), (5, .int x5), (6, .int x6)]) (hO : rO dC dI h a cI cZ A s.heap σ H locs) (hw : R_count_b88 Q K33 x2 x3 x5 x6 y0 σ) : W p l e R s m args below meth c H locs 0 0 (MQ below (va_Qi Q (rAt dC dI A h a cI cZ) A) args s 0 0 A) (F0 m 88 ls [.int y0]) := by
  unfold R_count_b88 at hw
  refine lv_istore (lv' := [(4, .int y0), (0, .ref h), (2, .int x2), (3, .int x3), (5, .int x5), (6, .int x6)]) X.1 X.2.1 dX7_count_88 hl (by decide) rfl (fun ls hl => ?_)
  obtain ⟨v90, e90⟩ : ∃ z, z = x6 + (1 : Int32) := ⟨_, rfl⟩
  have hw := hw v90 e90
  refine lv_iinc (lv' := [(6, .int v90), (4, .int y0), (0, .ref h), (2, .int x2), (3, .int x3), (5, .int x5)]) (k := 5) (v := v90) X.1 X.2.1 dX7_count_90 hl rfl (by rw [e90]; rfl) (by decide) rfl (fun ls hl => ?_)
  refine lv_goto (tgt := 33) X.1 X.2.1 dX7_count_93 rfl ?_
  exact k33 x2 x3 y0 x5 v90 σ H locs ls (lv_sub hl [2, 3, 4, 1, 5, 0] rfl) hO hw
def R_count_b87 (Q : Int32 → rS → Prop) (K33 : Int32 → Int32 → Int32 → Int32 → Int32 → rS → Prop) (x2 : Int32) (x3 : Int32) (x5 : Int32) (x6 : Int32) (σ : rS) : Prop :=
 R_count_b88 Q K33 x2 x3 x5 x6 (-1 : Int32) σ
set_option maxHeartbeats 4000000 in
set_option maxRecDepth 100000 in
theorem rB_count_87 {Q : Int32 → rS → Prop} {K33 : Int32 → Int32 → Int32 → Int32 → Int32 → rS → Prop} (X : CallFix p m c cX7_count 7 s args wsX7_count RX7) (hr : meth.sig.returnType = (some .int)) (hlk : meth.locks = false) (hR : 3 ≤ R.frames ∧ 77 ≤ R.locals) (hK : va_K (dC, dI) vwCl [(cI, .int), (cZ, .boolean)] s) (hA : ∀ q, s.heap.size ≤ q → A q) (k33 : ∀ (x2 : Int32) (x3 : Int32) (x4 : Int32) (x5 : Int32) (x6 : Int32) (σ : rS) (H : Heap) (locs : List Loc) (ls : Array Slot), lv_has ls 7 [(0, .ref h), (2, .int x2), (3, .int x3), (4, .int x4), (5, .int x5), (6, .int x6)] → rO dC dI h a cI cZ A s.heap σ H locs → K33 x2 x3 x4 x5 x6 σ → W p l e R s m args below meth c H locs 0 0 (MQ below (va_Qi Q (rAt dC dI A h a cI cZ) A) args s 0 0 A) (F0 m 33 ls [])) (x2 : Int32) (x3 : Int32) (x5 : Int32) (x6 : Int32) (σ : rS) (H : Heap) (locs : List Loc) (ls : Array Slot) (hl : lv_has ls 7 [(0, .ref h), (2, .int x2), (3, .int x3), (5, .int x5), (6, .int x6)]) (hO : rO dC dI h a cI cZ A s.heap σ H locs) (hw : R_count_b87 Q K33 x2 x3 x5 x6 σ) : W p l e R s m args below meth c H locs 0 0 (MQ below (va_Qi Q (rAt dC dI A h a cI cZ) A) args s 0 0 A) (F0 m 87 ls []) := by
  unfold R_count_b87 at hw
  refine lv_iconst (v := -1) X.1 X.2.1 dX7_count_87 (by decide) ?_
  exact rB_count_88 X hr hlk hR hK hA k33 x2 x3 x5 x6 (-1 : Int32) σ H locs ls (lv_sub hl [0, 1, 2, 3, 4] rfl) hO hw
def R_count_b33_s (Q : Int32 → rS → Prop) (K33 : Int32 → Int32 → Int32 → Int32 → Int32 → rS → Prop) (x2 : Int32) (x3 : Int32) (x4 : Int32) (x5 : Int32) (x6 : Int32) (σ : rS) : Prop :=
 ((16 : Int32) < x6 → R_count_b96 Q x5 σ) ∧ (¬ (16 : Int32) < x6 → (x4 < 0 → R_count_b96 Q x5 σ) ∧ (¬ x4 < 0 → (¬ x5 = 0 → R_count_b96 Q x5 σ) ∧ (x5 = 0 → R_countAt_w (fun r54 t54 => (x3 = 0 → R_count_b87 Q K33 x2 x3 r54 x6 t54) ∧ (¬ x3 = 0 → vp_in x4 16 ∧ ((t54.2 11 x4.toNatClampNeg) < 0 → R_count_b87 Q K33 x2 x3 r54 x6 t54) ∧ (¬ (t54.2 11 x4.toNatClampNeg) < 0 → vp_in x4 16 ∧ R_find_w (fun r81 t81 => R_count_b88 Q K33 x2 x3 r54 x6 r81 t81) (t54.2 11 x4.toNatClampNeg) t54))) x4 x2 σ)))
def R_count_b33_f (Q : Int32 → rS → Prop) : (Int32 × Int32 × Int32 × Int32 × Int32 × rS → Prop) → Int32 × Int32 × Int32 × Int32 × Int32 × rS → Prop :=
 fun K z => R_count_b33_s Q (fun x2 x3 x4 x5 x6 σ => K (x2, x3, x4, x5, x6, σ)) z.1 z.2.1 z.2.2.1 z.2.2.2.1 z.2.2.2.2.1 z.2.2.2.2.2
def R_count_b33 (Q : Int32 → rS → Prop) (x2 : Int32) (x3 : Int32) (x4 : Int32) (x5 : Int32) (x6 : Int32) (σ : rS) : Prop := ∃ n, fx (R_count_b33_f Q ) n (x2, x3, x4, x5, x6, σ)
set_option maxHeartbeats 4000000 in
set_option maxRecDepth 100000 in
theorem rB_count_33 {Q : Int32 → rS → Prop} (X : CallFix p m c cX7_count 7 s args wsX7_count RX7) (hr : meth.sig.returnType = (some .int)) (hlk : meth.locks = false) (hR : 3 ≤ R.frames ∧ 77 ≤ R.locals) (hK : va_K (dC, dI) vwCl [(cI, .int), (cZ, .boolean)] s) (hA : ∀ q, s.heap.size ≤ q → A q) : ∀ (n : Nat) (x2 : Int32) (x3 : Int32) (x4 : Int32) (x5 : Int32) (x6 : Int32) (σ : rS) (H : Heap) (locs : List Loc) (ls : Array Slot), lv_has ls 7 [(0, .ref h), (2, .int x2), (3, .int x3), (4, .int x4), (5, .int x5), (6, .int x6)] → rO dC dI h a cI cZ A s.heap σ H locs → fx (R_count_b33_f Q ) n (x2, x3, x4, x5, x6, σ) → W p l e R s m args below meth c H locs 0 0 (MQ below (va_Qi Q (rAt dC dI A h a cI cZ) A) args s 0 0 A) (F0 m 33 ls []) := by
  intro n
  induction n with
  | zero => intro x2 x3 x4 x5 x6 σ H locs ls hl hO hw; exact False.elim hw
  | succ n k33 =>
    intro x2 x3 x4 x5 x6 σ H locs ls hl hO hw
    have hw : R_count_b33_s Q (fun x2 x3 x4 x5 x6 σ => fx (R_count_b33_f Q ) n (x2, x3, x4, x5, x6, σ)) x2 x3 x4 x5 x6 σ := hw
    unfold R_count_b33_s at hw
    refine lv_iload X.1 X.2.1 dX7_count_33 (lv_at hl 5 rfl) ?_
    refine lv_bipush (v := 16) X.1 X.2.1 dX7_count_35 (by decide) ?_
    refine lv_icmp_gt (tgt := 96) X.1 X.2.1 dX7_count_37 rfl (fun hc9 => ?_) (fun hc9 => ?_)
    · have hw := hw.1 hc9
      exact rB_count_96 X hr hlk hR hK hA x5 σ H locs ls (lv_sub hl [0, 4] rfl) hO hw
    · have hw := hw.2 hc9
      refine lv_iload X.1 X.2.1 dX7_count_40 (lv_at hl 3 rfl) ?_
      refine lv_if_lt (tgt := 96) X.1 X.2.1 dX7_count_42 rfl (fun hc9 => ?_) (fun hc9 => ?_)
      · have hw := hw.1 hc9
        exact rB_count_96 X hr hlk hR hK hA x5 σ H locs ls (lv_sub hl [0, 4] rfl) hO hw
      · have hw := hw.2 hc9
        refine lv_iload X.1 X.2.1 dX7_count_45 (lv_at hl 4 rfl) ?_
        refine lv_if_ne (tgt := 96) X.1 X.2.1 dX7_count_47 rfl (fun hc9 => ?_) (fun hc9 => ?_)
        · have hw := hw.1 hc9
          exact rB_count_96 X hr hlk hR hK hA x5 σ H locs ls (lv_sub hl [0, 4] rfl) hO hw
        · have hw := hw.2 hc9
          refine lv_aload_n X.1 X.2.1 dX7_count_50 rfl (lv_at hl 0 rfl) ?_
          refine lv_iload X.1 X.2.1 dX7_count_51 (lv_at hl 3 rfl) ?_
          refine lv_iload_n X.1 X.2.1 dX7_count_53 rfl (lv_at hl 1 rfl) ?_
          refine r_calli (rest := []) (As := [.int x4, .int x2]) X (rC_countAt l dC dI h a cI cZ σ H.size x4 x2 _ hw) (cwV 2 X.2.2.2.2 gX7_countAt rfl rfl rfl hdX7_countAt ⟨Nat.le_trans (by decide) hR.1, Nat.le_trans (by decide) hR.2⟩) hK hA hO rfl hl.1 rfl (Nat.le_of_ble_eq_true rfl) dX7_count_54 (fun r54 t54 H locs hO hw => ?_)
          refine lv_istore (lv' := [(5, .int r54), (0, .ref h), (2, .int x2), (3, .int x3), (4, .int x4), (6, .int x6)]) X.1 X.2.1 dX7_count_57 hl (by decide) rfl (fun ls hl => ?_)
          refine lv_iload_n X.1 X.2.1 dX7_count_59 rfl (lv_at hl 3 rfl) ?_
          refine lv_if_eq (tgt := 87) X.1 X.2.1 dX7_count_60 rfl (fun hc9 => ?_) (fun hc9 => ?_)
          · have hw := hw.1 hc9
            exact rB_count_87 X hr hlk hR hK hA k33 x2 x3 r54 x6 t54 H locs ls (lv_sub hl [1, 2, 3, 0, 5] rfl) hO hw
          · have hw := hw.2 hc9
            refine lv_aload_n X.1 X.2.1 dX7_count_63 rfl (lv_at hl 1 rfl) ?_
            refine rf_above X hK hO dX7_count_64 ?_
            refine lv_iload X.1 X.2.1 dX7_count_67 (lv_at hl 4 rfl) ?_
            obtain ⟨g69, hw⟩ := hw
            refine ra_above X.1 X.2.1 hK hO g69 dX7_count_69 ?_
            refine lv_if_lt (tgt := 87) X.1 X.2.1 dX7_count_70 rfl (fun hc9 => ?_) (fun hc9 => ?_)
            · have hw := hw.1 hc9
              exact rB_count_87 X hr hlk hR hK hA k33 x2 x3 r54 x6 t54 H locs ls (lv_sub hl [1, 2, 3, 0, 5] rfl) hO hw
            · have hw := hw.2 hc9
              refine lv_aload_n X.1 X.2.1 dX7_count_73 rfl (lv_at hl 1 rfl) ?_
              refine lv_aload_n X.1 X.2.1 dX7_count_74 rfl (lv_at hl 1 rfl) ?_
              refine rf_above X hK hO dX7_count_75 ?_
              refine lv_iload X.1 X.2.1 dX7_count_78 (lv_at hl 4 rfl) ?_
              obtain ⟨g80, hw⟩ := hw
              refine ra_above X.1 X.2.1 hK hO g80 dX7_count_80 ?_
              refine r_calli (rest := []) (As := [.int (t54.2 11 x4.toNatClampNeg)]) X (rC_find l dC dI h a cI cZ t54 H.size (t54.2 11 x4.toNatClampNeg) _ hw) (cwV 1 X.2.2.2.2 gX7_find rfl rfl rfl hdX7_find ⟨Nat.le_trans (by decide) hR.1, Nat.le_trans (by decide) hR.2⟩) hK hA hO rfl hl.1 rfl (Nat.le_of_ble_eq_true rfl) dX7_count_81 (fun r81 t81 H locs hO hw => ?_)
              refine lv_goto (tgt := 88) X.1 X.2.1 dX7_count_84 rfl ?_
              exact rB_count_88 X hr hlk hR hK hA k33 x2 x3 r54 x6 r81 t81 H locs ls (lv_sub hl [1, 2, 3, 0, 5] rfl) hO hw
def R_count_b0 (Q : Int32 → rS → Prop) (x1 : Int32) (x2 : Int32) (σ : rS) : Prop :=
 R_isClass_w (fun r2 t2 => (r2 = 0 → R_count_b16 Q t2) ∧ (¬ r2 = 0 → R_isText_w (fun r10 t10 => (¬ r10 = 0 → R_inherited_w (fun r20 t20 => R_count_b33 Q x2 r20 x1 (0 : Int32) (0 : Int32) t20) x2 t10) ∧ (r10 = 0 → R_count_b16 Q t10)) x2 t2)) x1 σ
set_option maxHeartbeats 4000000 in
set_option maxRecDepth 100000 in
theorem rB_count_0 {Q : Int32 → rS → Prop} (X : CallFix p m c cX7_count 7 s args wsX7_count RX7) (hr : meth.sig.returnType = (some .int)) (hlk : meth.locks = false) (hR : 3 ≤ R.frames ∧ 77 ≤ R.locals) (hK : va_K (dC, dI) vwCl [(cI, .int), (cZ, .boolean)] s) (hA : ∀ q, s.heap.size ≤ q → A q) (x1 : Int32) (x2 : Int32) (σ : rS) (H : Heap) (locs : List Loc) (ls : Array Slot) (hl : lv_has ls 7 [(0, .ref h), (1, .int x1), (2, .int x2)]) (hO : rO dC dI h a cI cZ A s.heap σ H locs) (hw : R_count_b0 Q x1 x2 σ) : W p l e R s m args below meth c H locs 0 0 (MQ below (va_Qi Q (rAt dC dI A h a cI cZ) A) args s 0 0 A) (F0 m 0 ls []) := by
  unfold R_count_b0 at hw
  refine lv_aload_n X.1 X.2.1 dX7_count_0 rfl (lv_at hl 0 rfl) ?_
  refine lv_iload_n X.1 X.2.1 dX7_count_1 rfl (lv_at hl 1 rfl) ?_
  refine r_calli (rest := []) (As := [.int x1]) X (rC_isClass l dC dI h a cI cZ σ H.size x1 _ hw) (cwV 1 X.2.2.2.2 gX7_isClass rfl rfl rfl hdX7_isClass ⟨Nat.le_trans (by decide) hR.1, Nat.le_trans (by decide) hR.2⟩) hK hA hO rfl hl.1 rfl (Nat.le_of_ble_eq_true rfl) dX7_count_2 (fun r2 t2 H locs hO hw => ?_)
  refine lv_if_eq (tgt := 16) X.1 X.2.1 dX7_count_5 rfl (fun hc9 => ?_) (fun hc9 => ?_)
  · have hw := hw.1 hc9
    exact rB_count_16 X hr hlk hR hK hA t2 H locs ls (lv_sub hl [0] rfl) hO hw
  · have hw := hw.2 hc9
    refine lv_aload_n X.1 X.2.1 dX7_count_8 rfl (lv_at hl 0 rfl) ?_
    refine lv_iload_n X.1 X.2.1 dX7_count_9 rfl (lv_at hl 2 rfl) ?_
    refine r_calli (rest := []) (As := [.int x2]) X (rC_isText l dC dI h a cI cZ t2 H.size x2 _ hw) (cwV 1 X.2.2.2.2 gX7_isText rfl rfl rfl hdX7_isText ⟨Nat.le_trans (by decide) hR.1, Nat.le_trans (by decide) hR.2⟩) hK hA hO rfl hl.1 rfl (Nat.le_of_ble_eq_true rfl) dX7_count_10 (fun r10 t10 H locs hO hw => ?_)
    refine lv_if_ne (tgt := 18) X.1 X.2.1 dX7_count_13 rfl (fun hc9 => ?_) (fun hc9 => ?_)
    · have hw := hw.1 hc9
      refine lv_aload_n X.1 X.2.1 dX7_count_18 rfl (lv_at hl 0 rfl) ?_
      refine lv_iload_n X.1 X.2.1 dX7_count_19 rfl (lv_at hl 2 rfl) ?_
      refine r_calli (rest := []) (As := [.int x2]) X (rC_inherited l dC dI h a cI cZ t10 H.size x2 _ hw) (cwV 1 X.2.2.2.2 gX7_inherited rfl rfl rfl hdX7_inherited ⟨Nat.le_trans (by decide) hR.1, Nat.le_trans (by decide) hR.2⟩) hK hA hO rfl hl.1 rfl (Nat.le_of_ble_eq_true rfl) dX7_count_20 (fun r20 t20 H locs hO hw => ?_)
      refine lv_istore_n (lv' := [(3, .int r20), (0, .ref h), (1, .int x1), (2, .int x2)]) X.1 X.2.1 dX7_count_23 rfl hl (by decide) rfl (fun ls hl => ?_)
      refine lv_iload_n X.1 X.2.1 dX7_count_24 rfl (lv_at hl 2 rfl) ?_
      refine lv_istore (lv' := [(4, .int x1), (3, .int r20), (0, .ref h), (1, .int x1), (2, .int x2)]) X.1 X.2.1 dX7_count_25 hl (by decide) rfl (fun ls hl => ?_)
      refine lv_iconst (v := 0) X.1 X.2.1 dX7_count_27 (by decide) ?_
      refine lv_istore (lv' := [(5, .int (0 : Int32)), (4, .int x1), (3, .int r20), (0, .ref h), (1, .int x1), (2, .int x2)]) X.1 X.2.1 dX7_count_28 hl (by decide) rfl (fun ls hl => ?_)
      refine lv_iconst (v := 0) X.1 X.2.1 dX7_count_30 (by decide) ?_
      refine lv_istore (lv' := [(6, .int (0 : Int32)), (5, .int (0 : Int32)), (4, .int x1), (3, .int r20), (0, .ref h), (1, .int x1), (2, .int x2)]) X.1 X.2.1 dX7_count_31 hl (by decide) rfl (fun ls hl => ?_)
      obtain ⟨n, hw⟩ := hw
      exact rB_count_33 X hr hlk hR hK hA n x2 r20 x1 (0 : Int32) (0 : Int32) t20 H locs ls (lv_sub hl [4, 6, 3, 2, 1, 0] rfl) hO hw
    · have hw := hw.2 hc9
      exact rB_count_16 X hr hlk hR hK hA t10 H locs ls (lv_sub hl [0] rfl) hO hw
def R_count_w (Q : Int32 → rS → Prop) (x1 : Int32) (x2 : Int32) (σ : rS) : Prop := R_count_b0 Q x1 x2 σ
abbrev rmX7_count : Room := { frames := 3, cells := 0, slots := 0, locals := 77 }
set_option maxHeartbeats 4000000 in
set_option maxRecDepth 100000 in
theorem rC_count (l : Launch) (dC : Nat → ClassId) (dI : Nat → Nat → Nat) (h : Nat) (a : Nat → Nat) (cI cZ : ClassId) (σ : rS) (sz : Nat) (x1 : Int32) (x2 : Int32) (Q : Int32 → rS → Prop) (hw : R_count_w Q x1 x2 σ) : Met l yX7_count wsX7_count rmX7_count (rPc dC dI h a cI cZ sz σ [.ref h, .int x1, .int x2]) (va_Qi Q (rAt dC dI (va_A (rCells h a cI cZ σ) sz) h a cI cZ) (va_A (rCells h a cI cZ σ) sz)) 0 0 (va_A (rCells h a cI cZ σ) sz) := by
  refine Met.ofW (cc := cX7_count) (maxL := 7) (ret := (some .int)) (by decide) rfl ?_
  intro p e s m args below meth c s₁ B hml hv
  obtain ⟨hargs, hsz, hP, hK, hD0⟩ := hv
  have hts := atoms_spec (ws := wsX7_count) B.pre
  have hown : s.vm.findClass RX7 = some m.cls := findClass_of_methodNamed B.named
  subst hsz
  subst hargs
  have hD := hD0.self (sz := s.heap.size)
  generalize hAe : va_A (rCells h a cI cZ σ) s.heap.size = A at hD ⊢
  have hA : ∀ q : Nat, s.heap.size ≤ q → A q := fun q h => by rw [← hAe]; exact Or.inr h
  have hl := lv_entry ([.ref h, .int x1, .int x2]) (n := 7) (Nat.le_of_ble_eq_true rfl)
  rw [lg_entry_eq]
  generalize (lg_sl ([.ref h, .int x1, .int x2]) ++ List.replicate (7 - (lg_sl ([.ref h, .int x1, .int x2])).length) Slot.unset).toArray = ls at hl ⊢
  have hl : lv_has ls 7 [(0, .ref h), (1, .int x1), (2, .int x2)] := hl
  unfold R_count_w at hw
  exact rB_count_0 ⟨B.exec, B.bytes, hml, hown, hts⟩ B.returns B.notSynchronized ⟨Nat.le_of_ble_eq_true rfl, Nat.le_of_ble_eq_true rfl⟩ hK hA x1 x2 σ s.heap [] ls (lv_sub hl [0, 1, 2] rfl) ⟨hP, hD, va_S.rf⟩ hw
end
end
section
section
variable {p : Program} {l : Launch} {e : Env} {R : Room} {s : State} {m : MethodId} {args : Array Value} {below : List Frame} {meth : Method} {c : Code}
variable {dC : Nat → ClassId} {dI : Nat → Nat → Nat} {h : Nat} {a : Nat → Nat} {cI cZ : ClassId} {A : Nat → Prop}
def R_lookUp_b8_s (Q : Int32 → rS → Prop) (K8 : Int32 → Int32 → Int32 → Int32 → Int32 → rS → Prop) (x1 : Int32) (x2 : Int32) (x3 : Int32) (x4 : Int32) (x5 : Int32) (σ : rS) : Prop :=
 vp_in x2 1920 ∧ ((σ.2 2 x2.toNatClampNeg) ≤ x5 → Q (-1 : Int32) σ) ∧ (¬ (σ.2 2 x2.toNatClampNeg) ≤ x5 → vp_in x4 1920 ∧ vp_in (((13 : Int32) * x1) + (σ.2 2 x4.toNatClampNeg)) 208 ∧ (¬ (σ.2 8 (((13 : Int32) * x1) + (σ.2 2 x4.toNatClampNeg)).toNatClampNeg) = x3 → R_behind_w (fun r50 t50 => ∀ v55 : Int32, v55 = x5 + (1 : Int32) → K8 x1 x2 x3 r50 v55 t50) (x4 + (1 : Int32)) σ) ∧ ((σ.2 8 (((13 : Int32) * x1) + (σ.2 2 x4.toNatClampNeg)).toNatClampNeg) = x3 → Q (x4 + (1 : Int32)) σ))
def R_lookUp_b8_f (Q : Int32 → rS → Prop) : (Int32 × Int32 × Int32 × Int32 × Int32 × rS → Prop) → Int32 × Int32 × Int32 × Int32 × Int32 × rS → Prop :=
 fun K z => R_lookUp_b8_s Q (fun x1 x2 x3 x4 x5 σ => K (x1, x2, x3, x4, x5, σ)) z.1 z.2.1 z.2.2.1 z.2.2.2.1 z.2.2.2.2.1 z.2.2.2.2.2
def R_lookUp_b8 (Q : Int32 → rS → Prop) (x1 : Int32) (x2 : Int32) (x3 : Int32) (x4 : Int32) (x5 : Int32) (σ : rS) : Prop := ∃ n, fx (R_lookUp_b8_f Q ) n (x1, x2, x3, x4, x5, σ)
set_option maxHeartbeats 4000000 in
set_option maxRecDepth 100000 in
theorem rB_lookUp_8 {Q : Int32 → rS → Prop} (X : CallFix p m c cX7_lookUp 6 s args wsX7_lookUp RX7) (hr : meth.sig.returnType = (some .int)) (hlk : meth.locks = false) (hR : 1 ≤ R.frames ∧ 24 ≤ R.locals) (hK : va_K (dC, dI) vwCl [(cI, .int), (cZ, .boolean)] s) (hA : ∀ q, s.heap.size ≤ q → A q) : ∀ (n : Nat) (x1 : Int32) (x2 : Int32) (x3 : Int32) (x4 : Int32) (x5 : Int32) (σ : rS) (H : Heap) (locs : List Loc) (ls : Array Slot), lv_has ls 6 [(0, .ref h), (1, .int x1), (2, .int x2), (3, .int x3), (4, .int x4), (5, .int x5)] → rO dC dI h a cI cZ A s.heap σ H locs → fx (R_lookUp_b8_f Q ) n (x1, x2, x3, x4, x5, σ) → W p l e R s m args below meth c H locs 0 0 (MQ below (va_Qi Q (rAt dC dI A h a cI cZ) A) args s 0 0 A) (F0 m 8 ls []) := by
  intro n
  induction n with
  | zero => intro x1 x2 x3 x4 x5 σ H locs ls hl hO hw; exact False.elim hw
  | succ n k8 =>
    intro x1 x2 x3 x4 x5 σ H locs ls hl hO hw
    have hw : R_lookUp_b8_s Q (fun x1 x2 x3 x4 x5 σ => fx (R_lookUp_b8_f Q ) n (x1, x2, x3, x4, x5, σ)) x1 x2 x3 x4 x5 σ := hw
    unfold R_lookUp_b8_s at hw
    refine lv_iload X.1 X.2.1 dX7_lookUp_8 (lv_at hl 5 rfl) ?_
    refine lv_aload_n X.1 X.2.1 dX7_lookUp_10 rfl (lv_at hl 0 rfl) ?_
    refine rf_bytes X hK hO dX7_lookUp_11 ?_
    refine lv_iload_n X.1 X.2.1 dX7_lookUp_14 rfl (lv_at hl 2 rfl) ?_
    obtain ⟨g15, hw⟩ := hw
    refine ra_bytes X.1 X.2.1 hK hO g15 dX7_lookUp_15 ?_
    refine lv_icmp_ge (tgt := 61) X.1 X.2.1 dX7_lookUp_16 rfl (fun hc9 => ?_) (fun hc9 => ?_)
    · have hw := hw.1 hc9
      refine lv_iconst (v := -1) X.1 X.2.1 dX7_lookUp_61 (by decide) ?_
      exact W.iret (v := (-1 : Int32)) X.1 X.2.1 hr (fun t ht hW => ⟨⟨(-1 : Int32), σ, rfl, hw, rO_end hO hK ht hW⟩, hO.2.2.F ht⟩) hO.2.2.2.2 dX7_lookUp_62 hlk
    · have hw := hw.2 hc9
      refine lv_aload_n X.1 X.2.1 dX7_lookUp_19 rfl (lv_at hl 0 rfl) ?_
      refine rf_text X hK hO dX7_lookUp_20 ?_
      refine lv_bipush (v := 13) X.1 X.2.1 dX7_lookUp_23 (by decide) ?_
      refine lv_iload_n X.1 X.2.1 dX7_lookUp_25 rfl (lv_at hl 1 rfl) ?_
      refine lv_imul X.1 X.2.1 dX7_lookUp_26 ?_
      refine lv_aload_n X.1 X.2.1 dX7_lookUp_27 rfl (lv_at hl 0 rfl) ?_
      refine rf_bytes X hK hO dX7_lookUp_28 ?_
      refine lv_iload X.1 X.2.1 dX7_lookUp_31 (lv_at hl 4 rfl) ?_
      obtain ⟨g33, hw⟩ := hw
      refine ra_bytes X.1 X.2.1 hK hO g33 dX7_lookUp_33 ?_
      refine lv_iadd X.1 X.2.1 dX7_lookUp_34 ?_
      obtain ⟨g35, hw⟩ := hw
      refine ra_text X.1 X.2.1 hK hO g35 dX7_lookUp_35 ?_
      refine lv_iload_n X.1 X.2.1 dX7_lookUp_36 rfl (lv_at hl 3 rfl) ?_
      refine lv_icmp_ne (tgt := 45) X.1 X.2.1 dX7_lookUp_37 rfl (fun hc9 => ?_) (fun hc9 => ?_)
      · have hw := hw.1 hc9
        refine lv_aload_n X.1 X.2.1 dX7_lookUp_45 rfl (lv_at hl 0 rfl) ?_
        refine lv_iload X.1 X.2.1 dX7_lookUp_46 (lv_at hl 4 rfl) ?_
        refine lv_iconst (v := 1) X.1 X.2.1 dX7_lookUp_48 (by decide) ?_
        refine lv_iadd X.1 X.2.1 dX7_lookUp_49 ?_
        refine r_calli (rest := []) (As := [.int (x4 + (1 : Int32))]) X (rC_behind l dC dI h a cI cZ σ H.size (x4 + (1 : Int32)) _ hw) (cwV 1 X.2.2.2.2 gX7_behind rfl rfl rfl hdX7_behind ⟨Nat.le_trans (by decide) hR.1, Nat.le_trans (by decide) hR.2⟩) hK hA hO rfl hl.1 rfl (Nat.le_of_ble_eq_true rfl) dX7_lookUp_50 (fun r50 t50 H locs hO hw => ?_)
        refine lv_istore (lv' := [(4, .int r50), (0, .ref h), (1, .int x1), (2, .int x2), (3, .int x3), (5, .int x5)]) X.1 X.2.1 dX7_lookUp_53 hl (by decide) rfl (fun ls hl => ?_)
        obtain ⟨v55, e55⟩ : ∃ z, z = x5 + (1 : Int32) := ⟨_, rfl⟩
        have hw := hw v55 e55
        refine lv_iinc (lv' := [(5, .int v55), (4, .int r50), (0, .ref h), (1, .int x1), (2, .int x2), (3, .int x3)]) (k := 5) (v := v55) X.1 X.2.1 dX7_lookUp_55 hl rfl (by rw [e55]; rfl) (by decide) rfl (fun ls hl => ?_)
        refine lv_goto (tgt := 8) X.1 X.2.1 dX7_lookUp_58 rfl ?_
        exact k8 x1 x2 x3 r50 v55 t50 H locs ls (lv_sub hl [2, 3, 4, 5, 1, 0] rfl) hO hw
      · have hw := hw.2 hc9
        refine lv_iload X.1 X.2.1 dX7_lookUp_40 (lv_at hl 4 rfl) ?_
        refine lv_iconst (v := 1) X.1 X.2.1 dX7_lookUp_42 (by decide) ?_
        refine lv_iadd X.1 X.2.1 dX7_lookUp_43 ?_
        exact W.iret (v := (x4 + (1 : Int32))) X.1 X.2.1 hr (fun t ht hW => ⟨⟨(x4 + (1 : Int32)), σ, rfl, hw, rO_end hO hK ht hW⟩, hO.2.2.F ht⟩) hO.2.2.2.2 dX7_lookUp_44 hlk
def R_lookUp_b0 (Q : Int32 → rS → Prop) (x1 : Int32) (x2 : Int32) (x3 : Int32) (σ : rS) : Prop :=
 ∀ v3 : Int32, v3 = (x2 + (1 : Int32)) → R_lookUp_b8 Q x1 x2 x3 v3 (0 : Int32) σ
set_option maxHeartbeats 4000000 in
set_option maxRecDepth 100000 in
theorem rB_lookUp_0 {Q : Int32 → rS → Prop} (X : CallFix p m c cX7_lookUp 6 s args wsX7_lookUp RX7) (hr : meth.sig.returnType = (some .int)) (hlk : meth.locks = false) (hR : 1 ≤ R.frames ∧ 24 ≤ R.locals) (hK : va_K (dC, dI) vwCl [(cI, .int), (cZ, .boolean)] s) (hA : ∀ q, s.heap.size ≤ q → A q) (x1 : Int32) (x2 : Int32) (x3 : Int32) (σ : rS) (H : Heap) (locs : List Loc) (ls : Array Slot) (hl : lv_has ls 6 [(0, .ref h), (1, .int x1), (2, .int x2), (3, .int x3)]) (hO : rO dC dI h a cI cZ A s.heap σ H locs) (hw : R_lookUp_b0 Q x1 x2 x3 σ) : W p l e R s m args below meth c H locs 0 0 (MQ below (va_Qi Q (rAt dC dI A h a cI cZ) A) args s 0 0 A) (F0 m 0 ls []) := by
  unfold R_lookUp_b0 at hw
  refine lv_iload_n X.1 X.2.1 dX7_lookUp_0 rfl (lv_at hl 2 rfl) ?_
  refine lv_iconst (v := 1) X.1 X.2.1 dX7_lookUp_1 (by decide) ?_
  refine lv_iadd X.1 X.2.1 dX7_lookUp_2 ?_
  refine lv_topi (fun v3 e3 => ?_)
  have hw := hw v3 e3
  refine lv_istore (lv' := [(4, .int v3), (0, .ref h), (1, .int x1), (2, .int x2), (3, .int x3)]) X.1 X.2.1 dX7_lookUp_3 hl (by decide) rfl (fun ls hl => ?_)
  refine lv_iconst (v := 0) X.1 X.2.1 dX7_lookUp_5 (by decide) ?_
  refine lv_istore (lv' := [(5, .int (0 : Int32)), (4, .int v3), (0, .ref h), (1, .int x1), (2, .int x2), (3, .int x3)]) X.1 X.2.1 dX7_lookUp_6 hl (by decide) rfl (fun ls hl => ?_)
  obtain ⟨n, hw⟩ := hw
  exact rB_lookUp_8 X hr hlk hR hK hA n x1 x2 x3 v3 (0 : Int32) σ H locs ls (lv_sub hl [2, 3, 4, 5, 1, 0] rfl) hO hw
def R_lookUp_w (Q : Int32 → rS → Prop) (x1 : Int32) (x2 : Int32) (x3 : Int32) (σ : rS) : Prop := R_lookUp_b0 Q x1 x2 x3 σ
abbrev rmX7_lookUp : Room := { frames := 1, cells := 0, slots := 0, locals := 24 }
set_option maxHeartbeats 4000000 in
set_option maxRecDepth 100000 in
theorem rC_lookUp (l : Launch) (dC : Nat → ClassId) (dI : Nat → Nat → Nat) (h : Nat) (a : Nat → Nat) (cI cZ : ClassId) (σ : rS) (sz : Nat) (x1 : Int32) (x2 : Int32) (x3 : Int32) (Q : Int32 → rS → Prop) (hw : R_lookUp_w Q x1 x2 x3 σ) : Met l yX7_lookUp wsX7_lookUp rmX7_lookUp (rPc dC dI h a cI cZ sz σ [.ref h, .int x1, .int x2, .int x3]) (va_Qi Q (rAt dC dI (va_A (rCells h a cI cZ σ) sz) h a cI cZ) (va_A (rCells h a cI cZ σ) sz)) 0 0 (va_A (rCells h a cI cZ σ) sz) := by
  refine Met.ofW (cc := cX7_lookUp) (maxL := 6) (ret := (some .int)) (by decide) rfl ?_
  intro p e s m args below meth c s₁ B hml hv
  obtain ⟨hargs, hsz, hP, hK, hD0⟩ := hv
  have hts := atoms_spec (ws := wsX7_lookUp) B.pre
  have hown : s.vm.findClass RX7 = some m.cls := findClass_of_methodNamed B.named
  subst hsz
  subst hargs
  have hD := hD0.self (sz := s.heap.size)
  generalize hAe : va_A (rCells h a cI cZ σ) s.heap.size = A at hD ⊢
  have hA : ∀ q : Nat, s.heap.size ≤ q → A q := fun q h => by rw [← hAe]; exact Or.inr h
  have hl := lv_entry ([.ref h, .int x1, .int x2, .int x3]) (n := 6) (Nat.le_of_ble_eq_true rfl)
  rw [lg_entry_eq]
  generalize (lg_sl ([.ref h, .int x1, .int x2, .int x3]) ++ List.replicate (6 - (lg_sl ([.ref h, .int x1, .int x2, .int x3])).length) Slot.unset).toArray = ls at hl ⊢
  have hl : lv_has ls 6 [(0, .ref h), (1, .int x1), (2, .int x2), (3, .int x3)] := hl
  unfold R_lookUp_w at hw
  exact rB_lookUp_0 ⟨B.exec, B.bytes, hml, hown, hts⟩ B.returns B.notSynchronized ⟨Nat.le_of_ble_eq_true rfl, Nat.le_of_ble_eq_true rfl⟩ hK hA x1 x2 x3 σ s.heap [] ls (lv_sub hl [0, 1, 2, 3] rfl) ⟨hP, hD, va_S.rf⟩ hw
def R_inside_b54 (Q : Int32 → rS → Prop) (σ : rS) : Prop :=
 Q (-1 : Int32) σ
set_option maxHeartbeats 4000000 in
set_option maxRecDepth 100000 in
theorem rB_inside_54 {Q : Int32 → rS → Prop} (X : CallFix p m c cX7_inside 6 s args wsX7_inside RX7) (hr : meth.sig.returnType = (some .int)) (hlk : meth.locks = false) (hR : 1 ≤ R.frames ∧ 24 ≤ R.locals) (hK : va_K (dC, dI) vwCl [(cI, .int), (cZ, .boolean)] s) (hA : ∀ q, s.heap.size ≤ q → A q) (σ : rS) (H : Heap) (locs : List Loc) (ls : Array Slot) (hl : lv_has ls 6 [(0, .ref h)]) (hO : rO dC dI h a cI cZ A s.heap σ H locs) (hw : R_inside_b54 Q σ) : W p l e R s m args below meth c H locs 0 0 (MQ below (va_Qi Q (rAt dC dI A h a cI cZ) A) args s 0 0 A) (F0 m 54 ls []) := by
  unfold R_inside_b54 at hw
  refine lv_iconst (v := -1) X.1 X.2.1 dX7_inside_54 (by decide) ?_
  exact W.iret (v := (-1 : Int32)) X.1 X.2.1 hr (fun t ht hW => ⟨⟨(-1 : Int32), σ, rfl, hw, rO_end hO hK ht hW⟩, hO.2.2.F ht⟩) hO.2.2.2.2 dX7_inside_55 hlk
def R_inside_b107 (Q : Int32 → rS → Prop) (K78 : Int32 → Int32 → Int32 → Int32 → rS → Prop) (x2 : Int32) (x3 : Int32) (x5 : Int32) (y0 : Int32) (σ : rS) : Prop :=
 ∀ v109 : Int32, v109 = x5 + (1 : Int32) → K78 x2 x3 y0 v109 σ
set_option maxHeartbeats 4000000 in
set_option maxRecDepth 100000 in
theorem rB_inside_107 {Q : Int32 → rS → Prop} {K78 : Int32 → Int32 → Int32 → Int32 → rS → Prop} (X : CallFix p m c cX7_inside 6 s args wsX7_inside RX7) (hr : meth.sig.returnType = (some .int)) (hlk : meth.locks = false) (hR : 1 ≤ R.frames ∧ 24 ≤ R.locals) (hK : va_K (dC, dI) vwCl [(cI, .int), (cZ, .boolean)] s) (hA : ∀ q, s.heap.size ≤ q → A q) (k78 : ∀ (x2 : Int32) (x3 : Int32) (x4 : Int32) (x5 : Int32) (σ : rS) (H : Heap) (locs : List Loc) (ls : Array Slot), lv_has ls 6 [(0, .ref h), (2, .int x2), (3, .int x3), (4, .int x4), (5, .int x5)] → rO dC dI h a cI cZ A s.heap σ H locs → K78 x2 x3 x4 x5 σ → W p l e R s m args below meth c H locs 0 0 (MQ below (va_Qi Q (rAt dC dI A h a cI cZ) A) args s 0 0 A) (F0 m 78 ls [])) (x2 : Int32) (x3 : Int32) (x5 : Int32) (y0 : Int32) (σ : rS) (H : Heap) (locs : List Loc) (ls : Array Slot) (hl : lv_has ls 6 [(0, .ref h), (2, .int x2), (3, .int x3), (5, .int x5)]) (hO : rO dC dI h a cI cZ A s.heap σ H locs) (hw : R_inside_b107 Q K78 x2 x3 x5 y0 σ) : W p l e R s m args below meth c H locs 0 0 (MQ below (va_Qi Q (rAt dC dI A h a cI cZ) A) args s 0 0 A) (F0 m 107 ls [.int y0]) := by
  unfold R_inside_b107 at hw
  refine lv_istore (lv' := [(4, .int y0), (0, .ref h), (2, .int x2), (3, .int x3), (5, .int x5)]) X.1 X.2.1 dX7_inside_107 hl (by decide) rfl (fun ls hl => ?_)
  obtain ⟨v109, e109⟩ : ∃ z, z = x5 + (1 : Int32) := ⟨_, rfl⟩
  have hw := hw v109 e109
  refine lv_iinc (lv' := [(5, .int v109), (4, .int y0), (0, .ref h), (2, .int x2), (3, .int x3)]) (k := 4) (v := v109) X.1 X.2.1 dX7_inside_109 hl rfl (by rw [e109]; rfl) (by decide) rfl (fun ls hl => ?_)
  refine lv_goto (tgt := 78) X.1 X.2.1 dX7_inside_112 rfl ?_
  exact k78 x2 x3 y0 v109 σ H locs ls (lv_sub hl [2, 3, 4, 1, 0] rfl) hO hw
def R_inside_b78_s (Q : Int32 → rS → Prop) (K78 : Int32 → Int32 → Int32 → Int32 → rS → Prop) (x2 : Int32) (x3 : Int32) (x4 : Int32) (x5 : Int32) (σ : rS) : Prop :=
 (x2 ≤ x5 → Q x4 σ) ∧ (¬ x2 ≤ x5 → R_behind_w (fun r87 t87 => (¬ x3 = (64 : Int32) → R_inside_b107 Q K78 x2 x3 x5 r87 t87) ∧ (x3 = (64 : Int32) → R_inside_b107 Q K78 x2 x3 x5 (r87 + (1 : Int32)) t87)) x4 σ)
def R_inside_b78_f (Q : Int32 → rS → Prop) : (Int32 × Int32 × Int32 × Int32 × rS → Prop) → Int32 × Int32 × Int32 × Int32 × rS → Prop :=
 fun K z => R_inside_b78_s Q (fun x2 x3 x4 x5 σ => K (x2, x3, x4, x5, σ)) z.1 z.2.1 z.2.2.1 z.2.2.2.1 z.2.2.2.2
def R_inside_b78 (Q : Int32 → rS → Prop) (x2 : Int32) (x3 : Int32) (x4 : Int32) (x5 : Int32) (σ : rS) : Prop := ∃ n, fx (R_inside_b78_f Q ) n (x2, x3, x4, x5, σ)
set_option maxHeartbeats 4000000 in
set_option maxRecDepth 100000 in
theorem rB_inside_78 {Q : Int32 → rS → Prop} (X : CallFix p m c cX7_inside 6 s args wsX7_inside RX7) (hr : meth.sig.returnType = (some .int)) (hlk : meth.locks = false) (hR : 1 ≤ R.frames ∧ 24 ≤ R.locals) (hK : va_K (dC, dI) vwCl [(cI, .int), (cZ, .boolean)] s) (hA : ∀ q, s.heap.size ≤ q → A q) : ∀ (n : Nat) (x2 : Int32) (x3 : Int32) (x4 : Int32) (x5 : Int32) (σ : rS) (H : Heap) (locs : List Loc) (ls : Array Slot), lv_has ls 6 [(0, .ref h), (2, .int x2), (3, .int x3), (4, .int x4), (5, .int x5)] → rO dC dI h a cI cZ A s.heap σ H locs → fx (R_inside_b78_f Q ) n (x2, x3, x4, x5, σ) → W p l e R s m args below meth c H locs 0 0 (MQ below (va_Qi Q (rAt dC dI A h a cI cZ) A) args s 0 0 A) (F0 m 78 ls []) := by
  intro n
  induction n with
  | zero => intro x2 x3 x4 x5 σ H locs ls hl hO hw; exact False.elim hw
  | succ n k78 =>
    intro x2 x3 x4 x5 σ H locs ls hl hO hw
    have hw : R_inside_b78_s Q (fun x2 x3 x4 x5 σ => fx (R_inside_b78_f Q ) n (x2, x3, x4, x5, σ)) x2 x3 x4 x5 σ := hw
    unfold R_inside_b78_s at hw
    refine lv_iload X.1 X.2.1 dX7_inside_78 (lv_at hl 4 rfl) ?_
    refine lv_iload_n X.1 X.2.1 dX7_inside_80 rfl (lv_at hl 1 rfl) ?_
    refine lv_icmp_ge (tgt := 115) X.1 X.2.1 dX7_inside_81 rfl (fun hc9 => ?_) (fun hc9 => ?_)
    · have hw := hw.1 hc9
      refine lv_iload X.1 X.2.1 dX7_inside_115 (lv_at hl 3 rfl) ?_
      exact W.iret (v := x4) X.1 X.2.1 hr (fun t ht hW => ⟨⟨x4, σ, rfl, hw, rO_end hO hK ht hW⟩, hO.2.2.F ht⟩) hO.2.2.2.2 dX7_inside_117 hlk
    · have hw := hw.2 hc9
      refine lv_aload_n X.1 X.2.1 dX7_inside_84 rfl (lv_at hl 0 rfl) ?_
      refine lv_iload X.1 X.2.1 dX7_inside_85 (lv_at hl 3 rfl) ?_
      refine r_calli (rest := []) (As := [.int x4]) X (rC_behind l dC dI h a cI cZ σ H.size x4 _ hw) (cwV 1 X.2.2.2.2 gX7_behind rfl rfl rfl hdX7_behind ⟨Nat.le_trans (by decide) hR.1, Nat.le_trans (by decide) hR.2⟩) hK hA hO rfl hl.1 rfl (Nat.le_of_ble_eq_true rfl) dX7_inside_87 (fun r87 t87 H locs hO hw => ?_)
      refine lv_istore (lv' := [(4, .int r87), (0, .ref h), (2, .int x2), (3, .int x3), (5, .int x5)]) X.1 X.2.1 dX7_inside_90 hl (by decide) rfl (fun ls hl => ?_)
      refine lv_iload_n X.1 X.2.1 dX7_inside_92 rfl (lv_at hl 3 rfl) ?_
      refine lv_bipush (v := 64) X.1 X.2.1 dX7_inside_93 (by decide) ?_
      refine lv_icmp_ne (tgt := 105) X.1 X.2.1 dX7_inside_95 rfl (fun hc9 => ?_) (fun hc9 => ?_)
      · have hw := hw.1 hc9
        refine lv_iload X.1 X.2.1 dX7_inside_105 (lv_at hl 0 rfl) ?_
        exact rB_inside_107 X hr hlk hR hK hA k78 x2 x3 x5 r87 t87 H locs ls (lv_sub hl [1, 2, 3, 4] rfl) hO hw
      · have hw := hw.2 hc9
        refine lv_iload X.1 X.2.1 dX7_inside_98 (lv_at hl 0 rfl) ?_
        refine lv_iconst (v := 1) X.1 X.2.1 dX7_inside_100 (by decide) ?_
        refine lv_iadd X.1 X.2.1 dX7_inside_101 ?_
        refine lv_goto (tgt := 107) X.1 X.2.1 dX7_inside_102 rfl ?_
        exact rB_inside_107 X hr hlk hR hK hA k78 x2 x3 x5 (r87 + (1 : Int32)) t87 H locs ls (lv_sub hl [1, 2, 3, 4] rfl) hO hw
def R_inside_b73 (Q : Int32 → rS → Prop) (x2 : Int32) (x3 : Int32) (y0 : Int32) (σ : rS) : Prop :=
 R_inside_b78 Q x2 x3 y0 (1 : Int32) σ
set_option maxHeartbeats 4000000 in
set_option maxRecDepth 100000 in
theorem rB_inside_73 {Q : Int32 → rS → Prop} (X : CallFix p m c cX7_inside 6 s args wsX7_inside RX7) (hr : meth.sig.returnType = (some .int)) (hlk : meth.locks = false) (hR : 1 ≤ R.frames ∧ 24 ≤ R.locals) (hK : va_K (dC, dI) vwCl [(cI, .int), (cZ, .boolean)] s) (hA : ∀ q, s.heap.size ≤ q → A q) (x2 : Int32) (x3 : Int32) (y0 : Int32) (σ : rS) (H : Heap) (locs : List Loc) (ls : Array Slot) (hl : lv_has ls 6 [(0, .ref h), (2, .int x2), (3, .int x3)]) (hO : rO dC dI h a cI cZ A s.heap σ H locs) (hw : R_inside_b73 Q x2 x3 y0 σ) : W p l e R s m args below meth c H locs 0 0 (MQ below (va_Qi Q (rAt dC dI A h a cI cZ) A) args s 0 0 A) (F0 m 73 ls [.int y0]) := by
  unfold R_inside_b73 at hw
  refine lv_istore (lv' := [(4, .int y0), (0, .ref h), (2, .int x2), (3, .int x3)]) X.1 X.2.1 dX7_inside_73 hl (by decide) rfl (fun ls hl => ?_)
  refine lv_iconst (v := 1) X.1 X.2.1 dX7_inside_75 (by decide) ?_
  refine lv_istore (lv' := [(5, .int (1 : Int32)), (4, .int y0), (0, .ref h), (2, .int x2), (3, .int x3)]) X.1 X.2.1 dX7_inside_76 hl (by decide) rfl (fun ls hl => ?_)
  obtain ⟨n, hw⟩ := hw
  exact rB_inside_78 X hr hlk hR hK hA n x2 x3 y0 (1 : Int32) σ H locs ls (lv_sub hl [2, 3, 4, 1, 0] rfl) hO hw
def R_inside_b36 (Q : Int32 → rS → Prop) (x2 : Int32) (x3 : Int32) (y0 : Int32) (σ : rS) : Prop :=
 (x2 < (1 : Int32) → R_inside_b54 Q σ) ∧ (¬ x2 < (1 : Int32) → vp_in y0 1920 ∧ (x2 ≤ (σ.2 2 y0.toNatClampNeg) → (¬ x3 = (64 : Int32) → R_inside_b73 Q x2 x3 (y0 + (1 : Int32)) σ) ∧ (x3 = (64 : Int32) → R_inside_b73 Q x2 x3 (y0 + (2 : Int32)) σ)) ∧ (¬ x2 ≤ (σ.2 2 y0.toNatClampNeg) → R_inside_b54 Q σ))
set_option maxHeartbeats 4000000 in
set_option maxRecDepth 100000 in
theorem rB_inside_36 {Q : Int32 → rS → Prop} (X : CallFix p m c cX7_inside 6 s args wsX7_inside RX7) (hr : meth.sig.returnType = (some .int)) (hlk : meth.locks = false) (hR : 1 ≤ R.frames ∧ 24 ≤ R.locals) (hK : va_K (dC, dI) vwCl [(cI, .int), (cZ, .boolean)] s) (hA : ∀ q, s.heap.size ≤ q → A q) (x2 : Int32) (x3 : Int32) (y0 : Int32) (σ : rS) (H : Heap) (locs : List Loc) (ls : Array Slot) (hl : lv_has ls 6 [(0, .ref h), (2, .int x2), (3, .int x3)]) (hO : rO dC dI h a cI cZ A s.heap σ H locs) (hw : R_inside_b36 Q x2 x3 y0 σ) : W p l e R s m args below meth c H locs 0 0 (MQ below (va_Qi Q (rAt dC dI A h a cI cZ) A) args s 0 0 A) (F0 m 36 ls [.int y0]) := by
  unfold R_inside_b36 at hw
  refine lv_istore (lv' := [(4, .int y0), (0, .ref h), (2, .int x2), (3, .int x3)]) X.1 X.2.1 dX7_inside_36 hl (by decide) rfl (fun ls hl => ?_)
  refine lv_iload_n X.1 X.2.1 dX7_inside_38 rfl (lv_at hl 2 rfl) ?_
  refine lv_iconst (v := 1) X.1 X.2.1 dX7_inside_39 (by decide) ?_
  refine lv_icmp_lt (tgt := 54) X.1 X.2.1 dX7_inside_40 rfl (fun hc9 => ?_) (fun hc9 => ?_)
  · have hw := hw.1 hc9
    exact rB_inside_54 X hr hlk hR hK hA σ H locs ls (lv_sub hl [1] rfl) hO hw
  · have hw := hw.2 hc9
    refine lv_iload_n X.1 X.2.1 dX7_inside_43 rfl (lv_at hl 2 rfl) ?_
    refine lv_aload_n X.1 X.2.1 dX7_inside_44 rfl (lv_at hl 1 rfl) ?_
    refine rf_bytes X hK hO dX7_inside_45 ?_
    refine lv_iload X.1 X.2.1 dX7_inside_48 (lv_at hl 0 rfl) ?_
    obtain ⟨g50, hw⟩ := hw
    refine ra_bytes X.1 X.2.1 hK hO g50 dX7_inside_50 ?_
    refine lv_icmp_le (tgt := 56) X.1 X.2.1 dX7_inside_51 rfl (fun hc9 => ?_) (fun hc9 => ?_)
    · have hw := hw.1 hc9
      refine lv_iload_n X.1 X.2.1 dX7_inside_56 rfl (lv_at hl 3 rfl) ?_
      refine lv_bipush (v := 64) X.1 X.2.1 dX7_inside_57 (by decide) ?_
      refine lv_icmp_ne (tgt := 69) X.1 X.2.1 dX7_inside_59 rfl (fun hc9 => ?_) (fun hc9 => ?_)
      · have hw := hw.1 hc9
        refine lv_iload X.1 X.2.1 dX7_inside_69 (lv_at hl 0 rfl) ?_
        refine lv_iconst (v := 1) X.1 X.2.1 dX7_inside_71 (by decide) ?_
        refine lv_iadd X.1 X.2.1 dX7_inside_72 ?_
        exact rB_inside_73 X hr hlk hR hK hA x2 x3 (y0 + (1 : Int32)) σ H locs ls (lv_sub hl [1, 2, 3] rfl) hO hw
      · have hw := hw.2 hc9
        refine lv_iload X.1 X.2.1 dX7_inside_62 (lv_at hl 0 rfl) ?_
        refine lv_iconst (v := 2) X.1 X.2.1 dX7_inside_64 (by decide) ?_
        refine lv_iadd X.1 X.2.1 dX7_inside_65 ?_
        refine lv_goto (tgt := 73) X.1 X.2.1 dX7_inside_66 rfl ?_
        exact rB_inside_73 X hr hlk hR hK hA x2 x3 (y0 + (2 : Int32)) σ H locs ls (lv_sub hl [1, 2, 3] rfl) hO hw
    · have hw := hw.2 hc9
      exact rB_inside_54 X hr hlk hR hK hA σ H locs ls (lv_sub hl [1] rfl) hO hw
def R_inside_b21 (Q : Int32 → rS → Prop) (x1 : Int32) (x2 : Int32) (x3 : Int32) (σ : rS) : Prop :=
 (¬ x3 = (64 : Int32) → R_inside_b36 Q x2 x3 (x1 + (1 : Int32)) σ) ∧ (x3 = (64 : Int32) → R_inside_b36 Q x2 x3 (x1 + (2 : Int32)) σ)
set_option maxHeartbeats 4000000 in
set_option maxRecDepth 100000 in
theorem rB_inside_21 {Q : Int32 → rS → Prop} (X : CallFix p m c cX7_inside 6 s args wsX7_inside RX7) (hr : meth.sig.returnType = (some .int)) (hlk : meth.locks = false) (hR : 1 ≤ R.frames ∧ 24 ≤ R.locals) (hK : va_K (dC, dI) vwCl [(cI, .int), (cZ, .boolean)] s) (hA : ∀ q, s.heap.size ≤ q → A q) (x1 : Int32) (x2 : Int32) (x3 : Int32) (σ : rS) (H : Heap) (locs : List Loc) (ls : Array Slot) (hl : lv_has ls 6 [(0, .ref h), (1, .int x1), (2, .int x2), (3, .int x3)]) (hO : rO dC dI h a cI cZ A s.heap σ H locs) (hw : R_inside_b21 Q x1 x2 x3 σ) : W p l e R s m args below meth c H locs 0 0 (MQ below (va_Qi Q (rAt dC dI A h a cI cZ) A) args s 0 0 A) (F0 m 21 ls []) := by
  unfold R_inside_b21 at hw
  refine lv_iload_n X.1 X.2.1 dX7_inside_21 rfl (lv_at hl 3 rfl) ?_
  refine lv_bipush (v := 64) X.1 X.2.1 dX7_inside_22 (by decide) ?_
  refine lv_icmp_ne (tgt := 33) X.1 X.2.1 dX7_inside_24 rfl (fun hc9 => ?_) (fun hc9 => ?_)
  · have hw := hw.1 hc9
    refine lv_iload_n X.1 X.2.1 dX7_inside_33 rfl (lv_at hl 1 rfl) ?_
    refine lv_iconst (v := 1) X.1 X.2.1 dX7_inside_34 (by decide) ?_
    refine lv_iadd X.1 X.2.1 dX7_inside_35 ?_
    exact rB_inside_36 X hr hlk hR hK hA x2 x3 (x1 + (1 : Int32)) σ H locs ls (lv_sub hl [0, 2, 3] rfl) hO hw
  · have hw := hw.2 hc9
    refine lv_iload_n X.1 X.2.1 dX7_inside_27 rfl (lv_at hl 1 rfl) ?_
    refine lv_iconst (v := 2) X.1 X.2.1 dX7_inside_28 (by decide) ?_
    refine lv_iadd X.1 X.2.1 dX7_inside_29 ?_
    refine lv_goto (tgt := 36) X.1 X.2.1 dX7_inside_30 rfl ?_
    exact rB_inside_36 X hr hlk hR hK hA x2 x3 (x1 + (2 : Int32)) σ H locs ls (lv_sub hl [0, 2, 3] rfl) hO hw
def R_inside_b0 (Q : Int32 → rS → Prop) (x1 : Int32) (x2 : Int32) (σ : rS) : Prop :=
 vp_in x1 1920 ∧ ∀ v6 : Int32, v6 = (σ.2 2 x1.toNatClampNeg) → (v6 = (91 : Int32) → R_inside_b21 Q x1 x2 v6 σ) ∧ (¬ v6 = (91 : Int32) → (v6 = (64 : Int32) → R_inside_b21 Q x1 x2 v6 σ) ∧ (¬ v6 = (64 : Int32) → Q (-1 : Int32) σ))
set_option maxHeartbeats 4000000 in
set_option maxRecDepth 100000 in
theorem rB_inside_0 {Q : Int32 → rS → Prop} (X : CallFix p m c cX7_inside 6 s args wsX7_inside RX7) (hr : meth.sig.returnType = (some .int)) (hlk : meth.locks = false) (hR : 1 ≤ R.frames ∧ 24 ≤ R.locals) (hK : va_K (dC, dI) vwCl [(cI, .int), (cZ, .boolean)] s) (hA : ∀ q, s.heap.size ≤ q → A q) (x1 : Int32) (x2 : Int32) (σ : rS) (H : Heap) (locs : List Loc) (ls : Array Slot) (hl : lv_has ls 6 [(0, .ref h), (1, .int x1), (2, .int x2)]) (hO : rO dC dI h a cI cZ A s.heap σ H locs) (hw : R_inside_b0 Q x1 x2 σ) : W p l e R s m args below meth c H locs 0 0 (MQ below (va_Qi Q (rAt dC dI A h a cI cZ) A) args s 0 0 A) (F0 m 0 ls []) := by
  unfold R_inside_b0 at hw
  refine lv_aload_n X.1 X.2.1 dX7_inside_0 rfl (lv_at hl 0 rfl) ?_
  refine rf_bytes X hK hO dX7_inside_1 ?_
  refine lv_iload_n X.1 X.2.1 dX7_inside_4 rfl (lv_at hl 1 rfl) ?_
  obtain ⟨g5, hw⟩ := hw
  refine ra_bytes X.1 X.2.1 hK hO g5 dX7_inside_5 ?_
  refine lv_topi (fun v6 e6 => ?_)
  have hw := hw v6 e6
  refine lv_istore_n (lv' := [(3, .int v6), (0, .ref h), (1, .int x1), (2, .int x2)]) X.1 X.2.1 dX7_inside_6 rfl hl (by decide) rfl (fun ls hl => ?_)
  refine lv_iload_n X.1 X.2.1 dX7_inside_7 rfl (lv_at hl 0 rfl) ?_
  refine lv_bipush (v := 91) X.1 X.2.1 dX7_inside_8 (by decide) ?_
  refine lv_icmp_eq (tgt := 21) X.1 X.2.1 dX7_inside_10 rfl (fun hc9 => ?_) (fun hc9 => ?_)
  · have hw := hw.1 hc9
    exact rB_inside_21 X hr hlk hR hK hA x1 x2 v6 σ H locs ls (lv_sub hl [1, 2, 3, 0] rfl) hO hw
  · have hw := hw.2 hc9
    refine lv_iload_n X.1 X.2.1 dX7_inside_13 rfl (lv_at hl 0 rfl) ?_
    refine lv_bipush (v := 64) X.1 X.2.1 dX7_inside_14 (by decide) ?_
    refine lv_icmp_eq (tgt := 21) X.1 X.2.1 dX7_inside_16 rfl (fun hc9 => ?_) (fun hc9 => ?_)
    · have hw := hw.1 hc9
      exact rB_inside_21 X hr hlk hR hK hA x1 x2 v6 σ H locs ls (lv_sub hl [1, 2, 3, 0] rfl) hO hw
    · have hw := hw.2 hc9
      refine lv_iconst (v := -1) X.1 X.2.1 dX7_inside_19 (by decide) ?_
      exact W.iret (v := (-1 : Int32)) X.1 X.2.1 hr (fun t ht hW => ⟨⟨(-1 : Int32), σ, rfl, hw, rO_end hO hK ht hW⟩, hO.2.2.F ht⟩) hO.2.2.2.2 dX7_inside_20 hlk
def R_inside_w (Q : Int32 → rS → Prop) (x1 : Int32) (x2 : Int32) (σ : rS) : Prop := R_inside_b0 Q x1 x2 σ
abbrev rmX7_inside : Room := { frames := 1, cells := 0, slots := 0, locals := 24 }
set_option maxHeartbeats 4000000 in
set_option maxRecDepth 100000 in
theorem rC_inside (l : Launch) (dC : Nat → ClassId) (dI : Nat → Nat → Nat) (h : Nat) (a : Nat → Nat) (cI cZ : ClassId) (σ : rS) (sz : Nat) (x1 : Int32) (x2 : Int32) (Q : Int32 → rS → Prop) (hw : R_inside_w Q x1 x2 σ) : Met l yX7_inside wsX7_inside rmX7_inside (rPc dC dI h a cI cZ sz σ [.ref h, .int x1, .int x2]) (va_Qi Q (rAt dC dI (va_A (rCells h a cI cZ σ) sz) h a cI cZ) (va_A (rCells h a cI cZ σ) sz)) 0 0 (va_A (rCells h a cI cZ σ) sz) := by
  refine Met.ofW (cc := cX7_inside) (maxL := 6) (ret := (some .int)) (by decide) rfl ?_
  intro p e s m args below meth c s₁ B hml hv
  obtain ⟨hargs, hsz, hP, hK, hD0⟩ := hv
  have hts := atoms_spec (ws := wsX7_inside) B.pre
  have hown : s.vm.findClass RX7 = some m.cls := findClass_of_methodNamed B.named
  subst hsz
  subst hargs
  have hD := hD0.self (sz := s.heap.size)
  generalize hAe : va_A (rCells h a cI cZ σ) s.heap.size = A at hD ⊢
  have hA : ∀ q : Nat, s.heap.size ≤ q → A q := fun q h => by rw [← hAe]; exact Or.inr h
  have hl := lv_entry ([.ref h, .int x1, .int x2]) (n := 6) (Nat.le_of_ble_eq_true rfl)
  rw [lg_entry_eq]
  generalize (lg_sl ([.ref h, .int x1, .int x2]) ++ List.replicate (6 - (lg_sl ([.ref h, .int x1, .int x2])).length) Slot.unset).toArray = ls at hl ⊢
  have hl : lv_has ls 6 [(0, .ref h), (1, .int x1), (2, .int x2)] := hl
  unfold R_inside_w at hw
  exact rB_inside_0 ⟨B.exec, B.bytes, hml, hown, hts⟩ B.returns B.notSynchronized ⟨Nat.le_of_ble_eq_true rfl, Nat.le_of_ble_eq_true rfl⟩ hK hA x1 x2 σ s.heap [] ls (lv_sub hl [0, 1, 2] rfl) ⟨hP, hD, va_S.rf⟩ hw
def R_shown_b119 (Q : Int64 → rS → Prop) (x1 : Int32) (x4 : Int32) (y0 : Int64) (σ : rS) : Prop :=
 vp_in (((13 : Int32) * x1) + x4) 208 ∧ Q ((y0 * (4294967296 : Int64)) + ((σ.2 8 (((13 : Int32) * x1) + x4).toNatClampNeg).toInt64)) σ
set_option maxHeartbeats 4000000 in
set_option maxRecDepth 100000 in
theorem rB_shown_119 {Q : Int64 → rS → Prop} (X : CallFix p m c cX7_shown 8 s args wsX7_shown RX7) (hr : meth.sig.returnType = (some .long)) (hlk : meth.locks = false) (hR : 0 ≤ R.frames ∧ 0 ≤ R.locals) (hK : va_K (dC, dI) vwCl [(cI, .int), (cZ, .boolean)] s) (hA : ∀ q, s.heap.size ≤ q → A q) (x1 : Int32) (x4 : Int32) (y0 : Int64) (σ : rS) (H : Heap) (locs : List Loc) (ls : Array Slot) (hl : lv_has ls 8 [(0, .ref h), (1, .int x1), (4, .int x4)]) (hO : rO dC dI h a cI cZ A s.heap σ H locs) (hw : R_shown_b119 Q x1 x4 y0 σ) : W p l e R s m args below meth c H locs 0 0 (MQ below (va_Ql Q (rAt dC dI A h a cI cZ) A) args s 0 0 A) (F0 m 119 ls [.long y0]) := by
  unfold R_shown_b119 at hw
  refine lv_lstore (lv' := [(5, .long y0), (0, .ref h), (1, .int x1), (4, .int x4)]) X.1 X.2.1 dX7_shown_119 hl (by decide) rfl (fun ls hl => ?_)
  refine lv_lload X.1 X.2.1 dX7_shown_121 (lv_at hl 0 rfl) ?_
  refine lv_ldc2 (v := 4294967296) X.1 X.2.1 X.2.2.2.1 (X.2.2.2.2 _ (List.mem_cons_of_mem _ qX7_185)) dX7_shown_123 ?_
  refine lv_lmul X.1 X.2.1 dX7_shown_126 ?_
  refine lv_aload_n X.1 X.2.1 dX7_shown_127 rfl (lv_at hl 1 rfl) ?_
  refine rf_text X hK hO dX7_shown_128 ?_
  refine lv_bipush (v := 13) X.1 X.2.1 dX7_shown_131 (by decide) ?_
  refine lv_iload_n X.1 X.2.1 dX7_shown_133 rfl (lv_at hl 2 rfl) ?_
  refine lv_imul X.1 X.2.1 dX7_shown_134 ?_
  refine lv_iload X.1 X.2.1 dX7_shown_135 (lv_at hl 3 rfl) ?_
  refine lv_iadd X.1 X.2.1 dX7_shown_137 ?_
  obtain ⟨g138, hw⟩ := hw
  refine ra_text X.1 X.2.1 hK hO g138 dX7_shown_138 ?_
  refine lv_i2l X.1 X.2.1 dX7_shown_139 rfl ?_
  refine lv_ladd X.1 X.2.1 dX7_shown_140 ?_
  exact W.lret (v := ((y0 * (4294967296 : Int64)) + ((σ.2 8 (((13 : Int32) * x1) + x4).toNatClampNeg).toInt64))) X.1 X.2.1 hr (fun t ht hW => ⟨⟨((y0 * (4294967296 : Int64)) + ((σ.2 8 (((13 : Int32) * x1) + x4).toNatClampNeg).toInt64)), σ, rfl, hw, rO_end hO hK ht hW⟩, hO.2.2.F ht⟩) hO.2.2.2.2 dX7_shown_141 hlk
def R_shown_b43_s (Q : Int64 → rS → Prop) (K43 : Int32 → Int32 → Int64 → Int32 → rS → Prop) (x1 : Int32) (x4 : Int32) (x5 : Int64) (x7 : Int32) (σ : rS) : Prop :=
 ((4 : Int32) < x7 → Q ((4294967296 : Int64) + x5) σ) ∧ (¬ (4 : Int32) < x7 → vp_in (((13 : Int32) * x1) + x4) 208 ∧ vp_in ((σ.2 7 (((13 : Int32) * x1) + x4).toNatClampNeg) + x7) 1920 ∧ ∀ v77 : Int64, v77 = (((256 : Int64) * x5) + ((σ.2 2 ((σ.2 7 (((13 : Int32) * x1) + x4).toNatClampNeg) + x7).toNatClampNeg).toInt64)) → ∀ v79 : Int32, v79 = x7 + (1 : Int32) → K43 x1 x4 v77 v79 σ)
def R_shown_b43_f (Q : Int64 → rS → Prop) : (Int32 × Int32 × Int64 × Int32 × rS → Prop) → Int32 × Int32 × Int64 × Int32 × rS → Prop :=
 fun K z => R_shown_b43_s Q (fun x1 x4 x5 x7 σ => K (x1, x4, x5, x7, σ)) z.1 z.2.1 z.2.2.1 z.2.2.2.1 z.2.2.2.2
def R_shown_b43 (Q : Int64 → rS → Prop) (x1 : Int32) (x4 : Int32) (x5 : Int64) (x7 : Int32) (σ : rS) : Prop := ∃ n, fx (R_shown_b43_f Q ) n (x1, x4, x5, x7, σ)
set_option maxHeartbeats 4000000 in
set_option maxRecDepth 100000 in
theorem rB_shown_43 {Q : Int64 → rS → Prop} (X : CallFix p m c cX7_shown 8 s args wsX7_shown RX7) (hr : meth.sig.returnType = (some .long)) (hlk : meth.locks = false) (hR : 0 ≤ R.frames ∧ 0 ≤ R.locals) (hK : va_K (dC, dI) vwCl [(cI, .int), (cZ, .boolean)] s) (hA : ∀ q, s.heap.size ≤ q → A q) : ∀ (n : Nat) (x1 : Int32) (x4 : Int32) (x5 : Int64) (x7 : Int32) (σ : rS) (H : Heap) (locs : List Loc) (ls : Array Slot), lv_has ls 8 [(0, .ref h), (1, .int x1), (4, .int x4), (5, .long x5), (7, .int x7)] → rO dC dI h a cI cZ A s.heap σ H locs → fx (R_shown_b43_f Q ) n (x1, x4, x5, x7, σ) → W p l e R s m args below meth c H locs 0 0 (MQ below (va_Ql Q (rAt dC dI A h a cI cZ) A) args s 0 0 A) (F0 m 43 ls []) := by
  intro n
  induction n with
  | zero => intro x1 x4 x5 x7 σ H locs ls hl hO hw; exact False.elim hw
  | succ n k43 =>
    intro x1 x4 x5 x7 σ H locs ls hl hO hw
    have hw : R_shown_b43_s Q (fun x1 x4 x5 x7 σ => fx (R_shown_b43_f Q ) n (x1, x4, x5, x7, σ)) x1 x4 x5 x7 σ := hw
    unfold R_shown_b43_s at hw
    refine lv_iload X.1 X.2.1 dX7_shown_43 (lv_at hl 4 rfl) ?_
    refine lv_iconst (v := 4) X.1 X.2.1 dX7_shown_45 (by decide) ?_
    refine lv_icmp_gt (tgt := 85) X.1 X.2.1 dX7_shown_46 rfl (fun hc9 => ?_) (fun hc9 => ?_)
    · have hw := hw.1 hc9
      refine lv_ldc2 (v := 4294967296) X.1 X.2.1 X.2.2.2.1 (X.2.2.2.2 _ (List.mem_cons_of_mem _ qX7_185)) dX7_shown_85 ?_
      refine lv_lload X.1 X.2.1 dX7_shown_88 (lv_at hl 3 rfl) ?_
      refine lv_ladd X.1 X.2.1 dX7_shown_90 ?_
      exact W.lret (v := ((4294967296 : Int64) + x5)) X.1 X.2.1 hr (fun t ht hW => ⟨⟨((4294967296 : Int64) + x5), σ, rfl, hw, rO_end hO hK ht hW⟩, hO.2.2.F ht⟩) hO.2.2.2.2 dX7_shown_91 hlk
    · have hw := hw.2 hc9
      refine lv_ldc2 (v := 256) X.1 X.2.1 X.2.2.2.1 (X.2.2.2.2 _ (List.mem_cons_of_mem _ qX7_183)) dX7_shown_49 ?_
      refine lv_lload X.1 X.2.1 dX7_shown_52 (lv_at hl 3 rfl) ?_
      refine lv_lmul X.1 X.2.1 dX7_shown_54 ?_
      refine lv_aload_n X.1 X.2.1 dX7_shown_55 rfl (lv_at hl 0 rfl) ?_
      refine rf_bytes X hK hO dX7_shown_56 ?_
      refine lv_aload_n X.1 X.2.1 dX7_shown_59 rfl (lv_at hl 0 rfl) ?_
      refine rf_place X hK hO dX7_shown_60 ?_
      refine lv_bipush (v := 13) X.1 X.2.1 dX7_shown_63 (by decide) ?_
      refine lv_iload_n X.1 X.2.1 dX7_shown_65 rfl (lv_at hl 1 rfl) ?_
      refine lv_imul X.1 X.2.1 dX7_shown_66 ?_
      refine lv_iload X.1 X.2.1 dX7_shown_67 (lv_at hl 2 rfl) ?_
      refine lv_iadd X.1 X.2.1 dX7_shown_69 ?_
      obtain ⟨g70, hw⟩ := hw
      refine ra_place X.1 X.2.1 hK hO g70 dX7_shown_70 ?_
      refine lv_iload X.1 X.2.1 dX7_shown_71 (lv_at hl 4 rfl) ?_
      refine lv_iadd X.1 X.2.1 dX7_shown_73 ?_
      obtain ⟨g74, hw⟩ := hw
      refine ra_bytes X.1 X.2.1 hK hO g74 dX7_shown_74 ?_
      refine lv_i2l X.1 X.2.1 dX7_shown_75 rfl ?_
      refine lv_ladd X.1 X.2.1 dX7_shown_76 ?_
      refine lv_topl (fun v77 e77 => ?_)
      have hw := hw v77 e77
      refine lv_lstore (lv' := [(5, .long v77), (0, .ref h), (1, .int x1), (4, .int x4), (7, .int x7)]) X.1 X.2.1 dX7_shown_77 hl (by decide) rfl (fun ls hl => ?_)
      obtain ⟨v79, e79⟩ : ∃ z, z = x7 + (1 : Int32) := ⟨_, rfl⟩
      have hw := hw v79 e79
      refine lv_iinc (lv' := [(7, .int v79), (5, .long v77), (0, .ref h), (1, .int x1), (4, .int x4)]) (k := 4) (v := v79) X.1 X.2.1 dX7_shown_79 hl rfl (by rw [e79]; rfl) (by decide) rfl (fun ls hl => ?_)
      refine lv_goto (tgt := 43) X.1 X.2.1 dX7_shown_82 rfl ?_
      exact k43 x1 x4 v77 v79 σ H locs ls (lv_sub hl [2, 3, 4, 1, 0] rfl) hO hw
def R_shown_b0 (Q : Int64 → rS → Prop) (x1 : Int32) (x2 : Int32) (σ : rS) : Prop :=
 vp_in x2 1920 ∧ ∀ v6 : Int32, v6 = (σ.2 2 x2.toNatClampNeg) → vp_in (x2 + (1 : Int32)) 1920 ∧ ∀ v15 : Int32, v15 = (σ.2 2 (x2 + (1 : Int32)).toNatClampNeg) → (¬ v6 = (91 : Int32) → (¬ v6 = (73 : Int32) → (¬ v6 = (115 : Int32) → (¬ v6 = (99 : Int32) → R_shown_b119 Q x1 v15 (5 : Int64) σ) ∧ (v6 = (99 : Int32) → R_shown_b119 Q x1 v15 (3 : Int64) σ)) ∧ (v6 = (115 : Int32) → R_shown_b119 Q x1 v15 (2 : Int64) σ)) ∧ (v6 = (73 : Int32) → R_shown_b43 Q x1 v15 (0 : Int64) (1 : Int32) σ)) ∧ (v6 = (91 : Int32) → Q ((17179869184 : Int64) + (v15.toInt64)) σ)
set_option maxHeartbeats 4000000 in
set_option maxRecDepth 100000 in
theorem rB_shown_0 {Q : Int64 → rS → Prop} (X : CallFix p m c cX7_shown 8 s args wsX7_shown RX7) (hr : meth.sig.returnType = (some .long)) (hlk : meth.locks = false) (hR : 0 ≤ R.frames ∧ 0 ≤ R.locals) (hK : va_K (dC, dI) vwCl [(cI, .int), (cZ, .boolean)] s) (hA : ∀ q, s.heap.size ≤ q → A q) (x1 : Int32) (x2 : Int32) (σ : rS) (H : Heap) (locs : List Loc) (ls : Array Slot) (hl : lv_has ls 8 [(0, .ref h), (1, .int x1), (2, .int x2)]) (hO : rO dC dI h a cI cZ A s.heap σ H locs) (hw : R_shown_b0 Q x1 x2 σ) : W p l e R s m args below meth c H locs 0 0 (MQ below (va_Ql Q (rAt dC dI A h a cI cZ) A) args s 0 0 A) (F0 m 0 ls []) := by
  unfold R_shown_b0 at hw
  refine lv_aload_n X.1 X.2.1 dX7_shown_0 rfl (lv_at hl 0 rfl) ?_
  refine rf_bytes X hK hO dX7_shown_1 ?_
  refine lv_iload_n X.1 X.2.1 dX7_shown_4 rfl (lv_at hl 2 rfl) ?_
  obtain ⟨g5, hw⟩ := hw
  refine ra_bytes X.1 X.2.1 hK hO g5 dX7_shown_5 ?_
  refine lv_topi (fun v6 e6 => ?_)
  have hw := hw v6 e6
  refine lv_istore_n (lv' := [(3, .int v6), (0, .ref h), (1, .int x1), (2, .int x2)]) X.1 X.2.1 dX7_shown_6 rfl hl (by decide) rfl (fun ls hl => ?_)
  refine lv_aload_n X.1 X.2.1 dX7_shown_7 rfl (lv_at hl 1 rfl) ?_
  refine rf_bytes X hK hO dX7_shown_8 ?_
  refine lv_iload_n X.1 X.2.1 dX7_shown_11 rfl (lv_at hl 3 rfl) ?_
  refine lv_iconst (v := 1) X.1 X.2.1 dX7_shown_12 (by decide) ?_
  refine lv_iadd X.1 X.2.1 dX7_shown_13 ?_
  obtain ⟨g14, hw⟩ := hw
  refine ra_bytes X.1 X.2.1 hK hO g14 dX7_shown_14 ?_
  refine lv_topi (fun v15 e15 => ?_)
  have hw := hw v15 e15
  refine lv_istore (lv' := [(4, .int v15), (3, .int v6), (0, .ref h), (1, .int x1), (2, .int x2)]) X.1 X.2.1 dX7_shown_15 hl (by decide) rfl (fun ls hl => ?_)
  refine lv_iload_n X.1 X.2.1 dX7_shown_17 rfl (lv_at hl 1 rfl) ?_
  refine lv_bipush (v := 91) X.1 X.2.1 dX7_shown_18 (by decide) ?_
  refine lv_icmp_ne (tgt := 31) X.1 X.2.1 dX7_shown_20 rfl (fun hc9 => ?_) (fun hc9 => ?_)
  · have hw := hw.1 hc9
    refine lv_iload_n X.1 X.2.1 dX7_shown_31 rfl (lv_at hl 1 rfl) ?_
    refine lv_bipush (v := 73) X.1 X.2.1 dX7_shown_32 (by decide) ?_
    refine lv_icmp_ne (tgt := 92) X.1 X.2.1 dX7_shown_34 rfl (fun hc9 => ?_) (fun hc9 => ?_)
    · have hw := hw.1 hc9
      refine lv_iload_n X.1 X.2.1 dX7_shown_92 rfl (lv_at hl 1 rfl) ?_
      refine lv_bipush (v := 115) X.1 X.2.1 dX7_shown_93 (by decide) ?_
      refine lv_icmp_ne (tgt := 104) X.1 X.2.1 dX7_shown_95 rfl (fun hc9 => ?_) (fun hc9 => ?_)
      · have hw := hw.1 hc9
        refine lv_iload_n X.1 X.2.1 dX7_shown_104 rfl (lv_at hl 1 rfl) ?_
        refine lv_bipush (v := 99) X.1 X.2.1 dX7_shown_105 (by decide) ?_
        refine lv_icmp_ne (tgt := 116) X.1 X.2.1 dX7_shown_107 rfl (fun hc9 => ?_) (fun hc9 => ?_)
        · have hw := hw.1 hc9
          refine lv_ldc2 (v := 5) X.1 X.2.1 X.2.2.2.1 (X.2.2.2.2 _ (List.mem_cons_of_mem _ qX7_191)) dX7_shown_116 ?_
          exact rB_shown_119 X hr hlk hR hK hA x1 v15 (5 : Int64) σ H locs ls (lv_sub hl [2, 3, 0] rfl) hO hw
        · have hw := hw.2 hc9
          refine lv_ldc2 (v := 3) X.1 X.2.1 X.2.2.2.1 (X.2.2.2.2 _ (List.mem_cons_of_mem _ qX7_189)) dX7_shown_110 ?_
          refine lv_goto (tgt := 119) X.1 X.2.1 dX7_shown_113 rfl ?_
          exact rB_shown_119 X hr hlk hR hK hA x1 v15 (3 : Int64) σ H locs ls (lv_sub hl [2, 3, 0] rfl) hO hw
      · have hw := hw.2 hc9
        refine lv_ldc2 (v := 2) X.1 X.2.1 X.2.2.2.1 (X.2.2.2.2 _ (List.mem_cons_of_mem _ qX7_187)) dX7_shown_98 ?_
        refine lv_goto (tgt := 119) X.1 X.2.1 dX7_shown_101 rfl ?_
        exact rB_shown_119 X hr hlk hR hK hA x1 v15 (2 : Int64) σ H locs ls (lv_sub hl [2, 3, 0] rfl) hO hw
    · have hw := hw.2 hc9
      refine lv_lconst (v := 0) X.1 X.2.1 dX7_shown_37 (by decide) ?_
      refine lv_lstore (lv' := [(5, .long (0 : Int64)), (4, .int v15), (3, .int v6), (0, .ref h), (1, .int x1), (2, .int x2)]) X.1 X.2.1 dX7_shown_38 hl (by decide) rfl (fun ls hl => ?_)
      refine lv_iconst (v := 1) X.1 X.2.1 dX7_shown_40 (by decide) ?_
      refine lv_istore (lv' := [(7, .int (1 : Int32)), (5, .long (0 : Int64)), (4, .int v15), (3, .int v6), (0, .ref h), (1, .int x1), (2, .int x2)]) X.1 X.2.1 dX7_shown_41 hl (by decide) rfl (fun ls hl => ?_)
      obtain ⟨n, hw⟩ := hw
      exact rB_shown_43 X hr hlk hR hK hA n x1 v15 (0 : Int64) (1 : Int32) σ H locs ls (lv_sub hl [4, 5, 2, 1, 0] rfl) hO hw
  · have hw := hw.2 hc9
    refine lv_ldc2 (v := 17179869184) X.1 X.2.1 X.2.2.2.1 (X.2.2.2.2 _ (List.mem_cons_of_mem _ qX7_181)) dX7_shown_23 ?_
    refine lv_iload X.1 X.2.1 dX7_shown_26 (lv_at hl 0 rfl) ?_
    refine lv_i2l X.1 X.2.1 dX7_shown_28 rfl ?_
    refine lv_ladd X.1 X.2.1 dX7_shown_29 ?_
    exact W.lret (v := ((17179869184 : Int64) + (v15.toInt64))) X.1 X.2.1 hr (fun t ht hW => ⟨⟨((17179869184 : Int64) + (v15.toInt64)), σ, rfl, hw, rO_end hO hK ht hW⟩, hO.2.2.F ht⟩) hO.2.2.2.2 dX7_shown_30 hlk
def R_shown_w (Q : Int64 → rS → Prop) (x1 : Int32) (x2 : Int32) (σ : rS) : Prop := R_shown_b0 Q x1 x2 σ
abbrev rmX7_shown : Room := { frames := 0, cells := 0, slots := 0, locals := 0 }
set_option maxHeartbeats 4000000 in
set_option maxRecDepth 100000 in
theorem rC_shown (l : Launch) (dC : Nat → ClassId) (dI : Nat → Nat → Nat) (h : Nat) (a : Nat → Nat) (cI cZ : ClassId) (σ : rS) (sz : Nat) (x1 : Int32) (x2 : Int32) (Q : Int64 → rS → Prop) (hw : R_shown_w Q x1 x2 σ) : Met l yX7_shown wsX7_shown rmX7_shown (rPc dC dI h a cI cZ sz σ [.ref h, .int x1, .int x2]) (va_Ql Q (rAt dC dI (va_A (rCells h a cI cZ σ) sz) h a cI cZ) (va_A (rCells h a cI cZ σ) sz)) 0 0 (va_A (rCells h a cI cZ σ) sz) := by
  refine Met.ofW (cc := cX7_shown) (maxL := 8) (ret := (some .long)) (by decide) rfl ?_
  intro p e s m args below meth c s₁ B hml hv
  obtain ⟨hargs, hsz, hP, hK, hD0⟩ := hv
  have hts := atoms_spec (ws := wsX7_shown) B.pre
  have hown : s.vm.findClass RX7 = some m.cls := findClass_of_methodNamed B.named
  subst hsz
  subst hargs
  have hD := hD0.self (sz := s.heap.size)
  generalize hAe : va_A (rCells h a cI cZ σ) s.heap.size = A at hD ⊢
  have hA : ∀ q : Nat, s.heap.size ≤ q → A q := fun q h => by rw [← hAe]; exact Or.inr h
  have hl := lv_entry ([.ref h, .int x1, .int x2]) (n := 8) (Nat.le_of_ble_eq_true rfl)
  rw [lg_entry_eq]
  generalize (lg_sl ([.ref h, .int x1, .int x2]) ++ List.replicate (8 - (lg_sl ([.ref h, .int x1, .int x2])).length) Slot.unset).toArray = ls at hl ⊢
  have hl : lv_has ls 8 [(0, .ref h), (1, .int x1), (2, .int x2)] := hl
  unfold R_shown_w at hw
  exact rB_shown_0 ⟨B.exec, B.bytes, hml, hown, hts⟩ B.returns B.notSynchronized ⟨Nat.le_of_ble_eq_true rfl, Nat.le_of_ble_eq_true rfl⟩ hK hA x1 x2 σ s.heap [] ls (lv_sub hl [0, 1, 2] rfl) ⟨hP, hD, va_S.rf⟩ hw
end
end
section
section
variable {p : Program} {l : Launch} {e : Env} {R : Room} {s : State} {m : MethodId} {args : Array Value} {below : List Frame} {meth : Method} {c : Code}
variable {dC : Nat → ClassId} {dI : Nat → Nat → Nat} {h : Nat} {a : Nat → Nat} {cI cZ : ClassId} {A : Nat → Prop}
def R_value_b26 (Q : Int64 → rS → Prop) (σ : rS) : Prop :=
 Q (-1 : Int64) σ
set_option maxHeartbeats 4000000 in
set_option maxRecDepth 100000 in
theorem rB_value_26 {Q : Int64 → rS → Prop} (X : CallFix p m c cX7_value 10 s args wsX7_value RX7) (hr : meth.sig.returnType = (some .long)) (hlk : meth.locks = false) (hR : 3 ≤ R.frames ∧ 70 ≤ R.locals) (hK : va_K (dC, dI) vwCl [(cI, .int), (cZ, .boolean)] s) (hA : ∀ q, s.heap.size ≤ q → A q) (σ : rS) (H : Heap) (locs : List Loc) (ls : Array Slot) (hl : lv_has ls 10 [(0, .ref h)]) (hO : rO dC dI h a cI cZ A s.heap σ H locs) (hw : R_value_b26 Q σ) : W p l e R s m args below meth c H locs 0 0 (MQ below (va_Ql Q (rAt dC dI A h a cI cZ) A) args s 0 0 A) (F0 m 26 ls []) := by
  unfold R_value_b26 at hw
  refine lv_ldc2 (v := -1) X.1 X.2.1 X.2.2.2.1 (X.2.2.2.2 _ (List.mem_cons_of_mem _ qX7_196)) dX7_value_26 ?_
  exact W.lret (v := (-1 : Int64)) X.1 X.2.1 hr (fun t ht hW => ⟨⟨(-1 : Int64), σ, rfl, hw, rO_end hO hK ht hW⟩, hO.2.2.F ht⟩) hO.2.2.2.2 dX7_value_29 hlk
def R_value_b168 (Q : Int64 → rS → Prop) (y0 : Int64) (σ : rS) : Prop :=
 Q y0 σ
set_option maxHeartbeats 4000000 in
set_option maxRecDepth 100000 in
theorem rB_value_168 {Q : Int64 → rS → Prop} (X : CallFix p m c cX7_value 10 s args wsX7_value RX7) (hr : meth.sig.returnType = (some .long)) (hlk : meth.locks = false) (hR : 3 ≤ R.frames ∧ 70 ≤ R.locals) (hK : va_K (dC, dI) vwCl [(cI, .int), (cZ, .boolean)] s) (hA : ∀ q, s.heap.size ≤ q → A q) (y0 : Int64) (σ : rS) (H : Heap) (locs : List Loc) (ls : Array Slot) (hl : lv_has ls 10 [(0, .ref h)]) (hO : rO dC dI h a cI cZ A s.heap σ H locs) (hw : R_value_b168 Q y0 σ) : W p l e R s m args below meth c H locs 0 0 (MQ below (va_Ql Q (rAt dC dI A h a cI cZ) A) args s 0 0 A) (F0 m 168 ls [.long y0]) := by
  unfold R_value_b168 at hw
  exact W.lret (v := y0) X.1 X.2.1 hr (fun t ht hW => ⟨⟨y0, σ, rfl, hw, rO_end hO hK ht hW⟩, hO.2.2.F ht⟩) hO.2.2.2.2 dX7_value_168 hlk
def R_value_b149 (Q : Int64 → rS → Prop) (x5 : Int32) (x7 : Int32) (σ : rS) : Prop :=
 (0 ≤ x7 → R_shown_w (fun r165 t165 => R_value_b168 Q r165 t165) x5 x7 σ) ∧ (¬ 0 ≤ x7 → R_value_b168 Q (-1 : Int64) σ)
set_option maxHeartbeats 4000000 in
set_option maxRecDepth 100000 in
theorem rB_value_149 {Q : Int64 → rS → Prop} (X : CallFix p m c cX7_value 10 s args wsX7_value RX7) (hr : meth.sig.returnType = (some .long)) (hlk : meth.locks = false) (hR : 3 ≤ R.frames ∧ 70 ≤ R.locals) (hK : va_K (dC, dI) vwCl [(cI, .int), (cZ, .boolean)] s) (hA : ∀ q, s.heap.size ≤ q → A q) (x5 : Int32) (x7 : Int32) (σ : rS) (H : Heap) (locs : List Loc) (ls : Array Slot) (hl : lv_has ls 10 [(0, .ref h), (5, .int x5), (7, .int x7)]) (hO : rO dC dI h a cI cZ A s.heap σ H locs) (hw : R_value_b149 Q x5 x7 σ) : W p l e R s m args below meth c H locs 0 0 (MQ below (va_Ql Q (rAt dC dI A h a cI cZ) A) args s 0 0 A) (F0 m 149 ls []) := by
  unfold R_value_b149 at hw
  refine lv_iload X.1 X.2.1 dX7_value_149 (lv_at hl 2 rfl) ?_
  refine lv_if_ge (tgt := 160) X.1 X.2.1 dX7_value_151 rfl (fun hc9 => ?_) (fun hc9 => ?_)
  · have hw := hw.1 hc9
    refine lv_aload_n X.1 X.2.1 dX7_value_160 rfl (lv_at hl 0 rfl) ?_
    refine lv_iload X.1 X.2.1 dX7_value_161 (lv_at hl 1 rfl) ?_
    refine lv_iload X.1 X.2.1 dX7_value_163 (lv_at hl 2 rfl) ?_
    refine r_calll (rest := []) (As := [.int x5, .int x7]) X (rC_shown l dC dI h a cI cZ σ H.size x5 x7 _ hw) (cwV 2 X.2.2.2.2 gX7_shown rfl rfl rfl hdX7_shown ⟨Nat.le_trans (by decide) hR.1, Nat.le_trans (by decide) hR.2⟩) hK hA hO rfl hl.1 rfl (Nat.le_of_ble_eq_true rfl) dX7_value_165 (fun r165 t165 H locs hO hw => ?_)
    exact rB_value_168 X hr hlk hR hK hA r165 t165 H locs ls (lv_sub hl [0] rfl) hO hw
  · have hw := hw.2 hc9
    refine lv_ldc2 (v := -1) X.1 X.2.1 X.2.2.2.1 (X.2.2.2.2 _ (List.mem_cons_of_mem _ qX7_196)) dX7_value_154 ?_
    refine lv_goto (tgt := 168) X.1 X.2.1 dX7_value_157 rfl ?_
    exact rB_value_168 X hr hlk hR hK hA (-1 : Int64) σ H locs ls (lv_sub hl [0] rfl) hO hw
def R_value_b106_s (Q : Int64 → rS → Prop) (K106 : Int32 → Int32 → Int32 → Int32 → rS → Prop) (x5 : Int32) (x7 : Int32) (x8 : Int32) (x9 : Int32) (σ : rS) : Prop :=
 ((11 : Int32) ≤ x9 → R_value_b149 Q x5 x7 σ) ∧ (¬ (11 : Int32) ≤ x9 → (x8 = 0 → R_value_b149 Q x5 x7 σ) ∧ (¬ x8 = 0 → (x7 < 0 → R_value_b149 Q x5 x7 σ) ∧ (¬ x7 < 0 → R_inside_w (fun r131 t131 => ∀ v141 : Int32, v141 = (x8 / (8 : Int32)) → ∀ v143 : Int32, v143 = x9 + (1 : Int32) → K106 x5 r131 v141 v143 t131) x7 (x8 - x8 / (8 : Int32) * (8 : Int32)) σ)))
def R_value_b106_f (Q : Int64 → rS → Prop) : (Int32 × Int32 × Int32 × Int32 × rS → Prop) → Int32 × Int32 × Int32 × Int32 × rS → Prop :=
 fun K z => R_value_b106_s Q (fun x5 x7 x8 x9 σ => K (x5, x7, x8, x9, σ)) z.1 z.2.1 z.2.2.1 z.2.2.2.1 z.2.2.2.2
def R_value_b106 (Q : Int64 → rS → Prop) (x5 : Int32) (x7 : Int32) (x8 : Int32) (x9 : Int32) (σ : rS) : Prop := ∃ n, fx (R_value_b106_f Q ) n (x5, x7, x8, x9, σ)
set_option maxHeartbeats 4000000 in
set_option maxRecDepth 100000 in
theorem rB_value_106 {Q : Int64 → rS → Prop} (X : CallFix p m c cX7_value 10 s args wsX7_value RX7) (hr : meth.sig.returnType = (some .long)) (hlk : meth.locks = false) (hR : 3 ≤ R.frames ∧ 70 ≤ R.locals) (hK : va_K (dC, dI) vwCl [(cI, .int), (cZ, .boolean)] s) (hA : ∀ q, s.heap.size ≤ q → A q) : ∀ (n : Nat) (x5 : Int32) (x7 : Int32) (x8 : Int32) (x9 : Int32) (σ : rS) (H : Heap) (locs : List Loc) (ls : Array Slot), lv_has ls 10 [(0, .ref h), (5, .int x5), (7, .int x7), (8, .int x8), (9, .int x9)] → rO dC dI h a cI cZ A s.heap σ H locs → fx (R_value_b106_f Q ) n (x5, x7, x8, x9, σ) → W p l e R s m args below meth c H locs 0 0 (MQ below (va_Ql Q (rAt dC dI A h a cI cZ) A) args s 0 0 A) (F0 m 106 ls []) := by
  intro n
  induction n with
  | zero => intro x5 x7 x8 x9 σ H locs ls hl hO hw; exact False.elim hw
  | succ n k106 =>
    intro x5 x7 x8 x9 σ H locs ls hl hO hw
    have hw : R_value_b106_s Q (fun x5 x7 x8 x9 σ => fx (R_value_b106_f Q ) n (x5, x7, x8, x9, σ)) x5 x7 x8 x9 σ := hw
    unfold R_value_b106_s at hw
    refine lv_iload X.1 X.2.1 dX7_value_106 (lv_at hl 4 rfl) ?_
    refine lv_bipush (v := 11) X.1 X.2.1 dX7_value_108 (by decide) ?_
    refine lv_icmp_ge (tgt := 149) X.1 X.2.1 dX7_value_110 rfl (fun hc9 => ?_) (fun hc9 => ?_)
    · have hw := hw.1 hc9
      exact rB_value_149 X hr hlk hR hK hA x5 x7 σ H locs ls (lv_sub hl [0, 1, 2] rfl) hO hw
    · have hw := hw.2 hc9
      refine lv_iload X.1 X.2.1 dX7_value_113 (lv_at hl 3 rfl) ?_
      refine lv_if_eq (tgt := 149) X.1 X.2.1 dX7_value_115 rfl (fun hc9 => ?_) (fun hc9 => ?_)
      · have hw := hw.1 hc9
        exact rB_value_149 X hr hlk hR hK hA x5 x7 σ H locs ls (lv_sub hl [0, 1, 2] rfl) hO hw
      · have hw := hw.2 hc9
        refine lv_iload X.1 X.2.1 dX7_value_118 (lv_at hl 2 rfl) ?_
        refine lv_if_lt (tgt := 149) X.1 X.2.1 dX7_value_120 rfl (fun hc9 => ?_) (fun hc9 => ?_)
        · have hw := hw.1 hc9
          exact rB_value_149 X hr hlk hR hK hA x5 x7 σ H locs ls (lv_sub hl [0, 1, 2] rfl) hO hw
        · have hw := hw.2 hc9
          refine lv_aload_n X.1 X.2.1 dX7_value_123 rfl (lv_at hl 0 rfl) ?_
          refine lv_iload X.1 X.2.1 dX7_value_124 (lv_at hl 2 rfl) ?_
          refine lv_iload X.1 X.2.1 dX7_value_126 (lv_at hl 3 rfl) ?_
          refine lv_bipush (v := 8) X.1 X.2.1 dX7_value_128 (by decide) ?_
          refine lv_irem X.1 X.2.1 dX7_value_130 (by decide) ?_
          refine r_calli (rest := []) (As := [.int x7, .int (x8 - x8 / (8 : Int32) * (8 : Int32))]) X (rC_inside l dC dI h a cI cZ σ H.size x7 (x8 - x8 / (8 : Int32) * (8 : Int32)) _ hw) (cwV 2 X.2.2.2.2 gX7_inside rfl rfl rfl hdX7_inside ⟨Nat.le_trans (by decide) hR.1, Nat.le_trans (by decide) hR.2⟩) hK hA hO rfl hl.1 rfl (Nat.le_of_ble_eq_true rfl) dX7_value_131 (fun r131 t131 H locs hO hw => ?_)
          refine lv_istore (lv' := [(7, .int r131), (0, .ref h), (5, .int x5), (8, .int x8), (9, .int x9)]) X.1 X.2.1 dX7_value_134 hl (by decide) rfl (fun ls hl => ?_)
          refine lv_iload X.1 X.2.1 dX7_value_136 (lv_at hl 3 rfl) ?_
          refine lv_bipush (v := 8) X.1 X.2.1 dX7_value_138 (by decide) ?_
          refine lv_idiv X.1 X.2.1 dX7_value_140 (by decide) ?_
          refine lv_topi (fun v141 e141 => ?_)
          have hw := hw v141 e141
          refine lv_istore (lv' := [(8, .int v141), (7, .int r131), (0, .ref h), (5, .int x5), (9, .int x9)]) X.1 X.2.1 dX7_value_141 hl (by decide) rfl (fun ls hl => ?_)
          obtain ⟨v143, e143⟩ : ∃ z, z = x9 + (1 : Int32) := ⟨_, rfl⟩
          have hw := hw v143 e143
          refine lv_iinc (lv' := [(9, .int v143), (8, .int v141), (7, .int r131), (0, .ref h), (5, .int x5)]) (k := 4) (v := v143) X.1 X.2.1 dX7_value_143 hl rfl (by rw [e143]; rfl) (by decide) rfl (fun ls hl => ?_)
          refine lv_goto (tgt := 106) X.1 X.2.1 dX7_value_146 rfl ?_
          exact k106 x5 r131 v141 v143 t131 H locs ls (lv_sub hl [3, 4, 2, 1, 0] rfl) hO hw
def R_value_b99 (Q : Int64 → rS → Prop) (x4 : Int32) (x5 : Int32) (x7 : Int32) (σ : rS) : Prop :=
 R_value_b106 Q x5 x7 x4 (0 : Int32) σ
set_option maxHeartbeats 4000000 in
set_option maxRecDepth 100000 in
theorem rB_value_99 {Q : Int64 → rS → Prop} (X : CallFix p m c cX7_value 10 s args wsX7_value RX7) (hr : meth.sig.returnType = (some .long)) (hlk : meth.locks = false) (hR : 3 ≤ R.frames ∧ 70 ≤ R.locals) (hK : va_K (dC, dI) vwCl [(cI, .int), (cZ, .boolean)] s) (hA : ∀ q, s.heap.size ≤ q → A q) (x4 : Int32) (x5 : Int32) (x7 : Int32) (σ : rS) (H : Heap) (locs : List Loc) (ls : Array Slot) (hl : lv_has ls 10 [(0, .ref h), (4, .int x4), (5, .int x5), (7, .int x7)]) (hO : rO dC dI h a cI cZ A s.heap σ H locs) (hw : R_value_b99 Q x4 x5 x7 σ) : W p l e R s m args below meth c H locs 0 0 (MQ below (va_Ql Q (rAt dC dI A h a cI cZ) A) args s 0 0 A) (F0 m 99 ls []) := by
  unfold R_value_b99 at hw
  refine lv_iload X.1 X.2.1 dX7_value_99 (lv_at hl 1 rfl) ?_
  refine lv_istore (lv' := [(8, .int x4), (0, .ref h), (4, .int x4), (5, .int x5), (7, .int x7)]) X.1 X.2.1 dX7_value_101 hl (by decide) rfl (fun ls hl => ?_)
  refine lv_iconst (v := 0) X.1 X.2.1 dX7_value_103 (by decide) ?_
  refine lv_istore (lv' := [(9, .int (0 : Int32)), (8, .int x4), (0, .ref h), (4, .int x4), (5, .int x5), (7, .int x7)]) X.1 X.2.1 dX7_value_104 hl (by decide) rfl (fun ls hl => ?_)
  obtain ⟨n, hw⟩ := hw
  exact rB_value_106 X hr hlk hR hK hA n x5 x7 x4 (0 : Int32) σ H locs ls (lv_sub hl [2, 4, 5, 1, 0] rfl) hO hw
def R_value_b97 (Q : Int64 → rS → Prop) (x4 : Int32) (x5 : Int32) (y0 : Int32) (σ : rS) : Prop :=
 R_value_b99 Q x4 x5 y0 σ
set_option maxHeartbeats 4000000 in
set_option maxRecDepth 100000 in
theorem rB_value_97 {Q : Int64 → rS → Prop} (X : CallFix p m c cX7_value 10 s args wsX7_value RX7) (hr : meth.sig.returnType = (some .long)) (hlk : meth.locks = false) (hR : 3 ≤ R.frames ∧ 70 ≤ R.locals) (hK : va_K (dC, dI) vwCl [(cI, .int), (cZ, .boolean)] s) (hA : ∀ q, s.heap.size ≤ q → A q) (x4 : Int32) (x5 : Int32) (y0 : Int32) (σ : rS) (H : Heap) (locs : List Loc) (ls : Array Slot) (hl : lv_has ls 10 [(0, .ref h), (4, .int x4), (5, .int x5)]) (hO : rO dC dI h a cI cZ A s.heap σ H locs) (hw : R_value_b97 Q x4 x5 y0 σ) : W p l e R s m args below meth c H locs 0 0 (MQ below (va_Ql Q (rAt dC dI A h a cI cZ) A) args s 0 0 A) (F0 m 97 ls [.int y0]) := by
  unfold R_value_b97 at hw
  refine lv_istore (lv' := [(7, .int y0), (0, .ref h), (4, .int x4), (5, .int x5)]) X.1 X.2.1 dX7_value_97 hl (by decide) rfl (fun ls hl => ?_)
  exact rB_value_99 X hr hlk hR hK hA x4 x5 y0 σ H locs ls (lv_sub hl [1, 2, 3, 0] rfl) hO hw
def R_value_b0 (Q : Int64 → rS → Prop) (x1 : Int32) (x2 : Int32) (x3 : Int32) (x4 : Int32) (σ : rS) : Prop :=
 R_holder_w (fun r3 t3 => (r3 < 0 → R_value_b26 Q t3) ∧ (¬ r3 < 0 → (x4 < 0 → R_value_b26 Q t3) ∧ (¬ x4 < 0 → R_isText_w (fun r20 t20 => (¬ r20 = 0 → R_firstNote_w (fun r34 t34 => vp_in (((4 : Int32) * r3) + r34) 64 ∧ R_lookUp_w (fun r57 t57 => (0 ≤ r57 → R_value_b99 Q x4 r3 r57 t57) ∧ (¬ 0 ≤ r57 → R_find_w (fun r69 t69 => (0 ≤ r69 → vp_in r69 16 ∧ R_lookUp_w (fun r94 t94 => R_value_b97 Q x4 r69 r94 t94) r69 (t69.2 17 r69.toNatClampNeg) x3 t69) ∧ (¬ 0 ≤ r69 → R_value_b97 Q x4 r69 (-1 : Int32) t69)) x2 t57)) r3 ((t34.2 16 (((4 : Int32) * r3) + r34).toNatClampNeg) + (1 : Int32)) x3 t34) r3 x2 t20) ∧ (r20 = 0 → R_value_b26 Q t20)) x3 t3))) x1 x2 σ
set_option maxHeartbeats 4000000 in
set_option maxRecDepth 100000 in
theorem rB_value_0 {Q : Int64 → rS → Prop} (X : CallFix p m c cX7_value 10 s args wsX7_value RX7) (hr : meth.sig.returnType = (some .long)) (hlk : meth.locks = false) (hR : 3 ≤ R.frames ∧ 70 ≤ R.locals) (hK : va_K (dC, dI) vwCl [(cI, .int), (cZ, .boolean)] s) (hA : ∀ q, s.heap.size ≤ q → A q) (x1 : Int32) (x2 : Int32) (x3 : Int32) (x4 : Int32) (σ : rS) (H : Heap) (locs : List Loc) (ls : Array Slot) (hl : lv_has ls 10 [(0, .ref h), (1, .int x1), (2, .int x2), (3, .int x3), (4, .int x4)]) (hO : rO dC dI h a cI cZ A s.heap σ H locs) (hw : R_value_b0 Q x1 x2 x3 x4 σ) : W p l e R s m args below meth c H locs 0 0 (MQ below (va_Ql Q (rAt dC dI A h a cI cZ) A) args s 0 0 A) (F0 m 0 ls []) := by
  unfold R_value_b0 at hw
  refine lv_aload_n X.1 X.2.1 dX7_value_0 rfl (lv_at hl 0 rfl) ?_
  refine lv_iload_n X.1 X.2.1 dX7_value_1 rfl (lv_at hl 1 rfl) ?_
  refine lv_iload_n X.1 X.2.1 dX7_value_2 rfl (lv_at hl 2 rfl) ?_
  refine r_calli (rest := []) (As := [.int x1, .int x2]) X (rC_holder l dC dI h a cI cZ σ H.size x1 x2 _ hw) (cwV 2 X.2.2.2.2 gX7_holder rfl rfl rfl hdX7_holder ⟨Nat.le_trans (by decide) hR.1, Nat.le_trans (by decide) hR.2⟩) hK hA hO rfl hl.1 rfl (Nat.le_of_ble_eq_true rfl) dX7_value_3 (fun r3 t3 H locs hO hw => ?_)
  refine lv_istore (lv' := [(5, .int r3), (0, .ref h), (1, .int x1), (2, .int x2), (3, .int x3), (4, .int x4)]) X.1 X.2.1 dX7_value_6 hl (by decide) rfl (fun ls hl => ?_)
  refine lv_iload X.1 X.2.1 dX7_value_8 (lv_at hl 0 rfl) ?_
  refine lv_if_lt (tgt := 26) X.1 X.2.1 dX7_value_10 rfl (fun hc9 => ?_) (fun hc9 => ?_)
  · have hw := hw.1 hc9
    exact rB_value_26 X hr hlk hR hK hA t3 H locs ls (lv_sub hl [1] rfl) hO hw
  · have hw := hw.2 hc9
    refine lv_iload X.1 X.2.1 dX7_value_13 (lv_at hl 5 rfl) ?_
    refine lv_if_lt (tgt := 26) X.1 X.2.1 dX7_value_15 rfl (fun hc9 => ?_) (fun hc9 => ?_)
    · have hw := hw.1 hc9
      exact rB_value_26 X hr hlk hR hK hA t3 H locs ls (lv_sub hl [1] rfl) hO hw
    · have hw := hw.2 hc9
      refine lv_aload_n X.1 X.2.1 dX7_value_18 rfl (lv_at hl 1 rfl) ?_
      refine lv_iload_n X.1 X.2.1 dX7_value_19 rfl (lv_at hl 4 rfl) ?_
      refine r_calli (rest := []) (As := [.int x3]) X (rC_isText l dC dI h a cI cZ t3 H.size x3 _ hw) (cwV 1 X.2.2.2.2 gX7_isText rfl rfl rfl hdX7_isText ⟨Nat.le_trans (by decide) hR.1, Nat.le_trans (by decide) hR.2⟩) hK hA hO rfl hl.1 rfl (Nat.le_of_ble_eq_true rfl) dX7_value_20 (fun r20 t20 H locs hO hw => ?_)
      refine lv_if_ne (tgt := 30) X.1 X.2.1 dX7_value_23 rfl (fun hc9 => ?_) (fun hc9 => ?_)
      · have hw := hw.1 hc9
        refine lv_aload_n X.1 X.2.1 dX7_value_30 rfl (lv_at hl 1 rfl) ?_
        refine lv_iload X.1 X.2.1 dX7_value_31 (lv_at hl 0 rfl) ?_
        refine lv_iload_n X.1 X.2.1 dX7_value_33 rfl (lv_at hl 3 rfl) ?_
        refine r_calli (rest := []) (As := [.int r3, .int x2]) X (rC_firstNote l dC dI h a cI cZ t20 H.size r3 x2 _ hw) (cwV 2 X.2.2.2.2 gX7_firstNote rfl rfl rfl hdX7_firstNote ⟨Nat.le_trans (by decide) hR.1, Nat.le_trans (by decide) hR.2⟩) hK hA hO rfl hl.1 rfl (Nat.le_of_ble_eq_true rfl) dX7_value_34 (fun r34 t34 H locs hO hw => ?_)
        refine lv_istore (lv' := [(6, .int r34), (5, .int r3), (0, .ref h), (1, .int x1), (2, .int x2), (3, .int x3), (4, .int x4)]) X.1 X.2.1 dX7_value_37 hl (by decide) rfl (fun ls hl => ?_)
        refine lv_aload_n X.1 X.2.1 dX7_value_39 rfl (lv_at hl 2 rfl) ?_
        refine lv_iload X.1 X.2.1 dX7_value_40 (lv_at hl 1 rfl) ?_
        refine lv_aload_n X.1 X.2.1 dX7_value_42 rfl (lv_at hl 2 rfl) ?_
        refine rf_note X hK hO dX7_value_43 ?_
        refine lv_iconst (v := 4) X.1 X.2.1 dX7_value_46 (by decide) ?_
        refine lv_iload X.1 X.2.1 dX7_value_47 (lv_at hl 1 rfl) ?_
        refine lv_imul X.1 X.2.1 dX7_value_49 ?_
        refine lv_iload X.1 X.2.1 dX7_value_50 (lv_at hl 0 rfl) ?_
        refine lv_iadd X.1 X.2.1 dX7_value_52 ?_
        obtain ⟨g53, hw⟩ := hw
        refine ra_note X.1 X.2.1 hK hO g53 dX7_value_53 ?_
        refine lv_iconst (v := 1) X.1 X.2.1 dX7_value_54 (by decide) ?_
        refine lv_iadd X.1 X.2.1 dX7_value_55 ?_
        refine lv_iload_n X.1 X.2.1 dX7_value_56 rfl (lv_at hl 5 rfl) ?_
        refine r_calli (rest := []) (As := [.int r3, .int ((t34.2 16 (((4 : Int32) * r3) + r34).toNatClampNeg) + (1 : Int32)), .int x3]) X (rC_lookUp l dC dI h a cI cZ t34 H.size r3 ((t34.2 16 (((4 : Int32) * r3) + r34).toNatClampNeg) + (1 : Int32)) x3 _ hw) (cwV 3 X.2.2.2.2 gX7_lookUp rfl rfl rfl hdX7_lookUp ⟨Nat.le_trans (by decide) hR.1, Nat.le_trans (by decide) hR.2⟩) hK hA hO rfl hl.1 rfl (Nat.le_of_ble_eq_true rfl) dX7_value_57 (fun r57 t57 H locs hO hw => ?_)
        refine lv_istore (lv' := [(7, .int r57), (6, .int r34), (5, .int r3), (0, .ref h), (1, .int x1), (2, .int x2), (3, .int x3), (4, .int x4)]) X.1 X.2.1 dX7_value_60 hl (by decide) rfl (fun ls hl => ?_)
        refine lv_iload X.1 X.2.1 dX7_value_62 (lv_at hl 0 rfl) ?_
        refine lv_if_ge (tgt := 99) X.1 X.2.1 dX7_value_64 rfl (fun hc9 => ?_) (fun hc9 => ?_)
        · have hw := hw.1 hc9
          exact rB_value_99 X hr hlk hR hK hA x4 r3 r57 t57 H locs ls (lv_sub hl [3, 7, 2, 0] rfl) hO hw
        · have hw := hw.2 hc9
          refine lv_aload_n X.1 X.2.1 dX7_value_67 rfl (lv_at hl 3 rfl) ?_
          refine lv_iload_n X.1 X.2.1 dX7_value_68 rfl (lv_at hl 5 rfl) ?_
          refine r_calli (rest := []) (As := [.int x2]) X (rC_find l dC dI h a cI cZ t57 H.size x2 _ hw) (cwV 1 X.2.2.2.2 gX7_find rfl rfl rfl hdX7_find ⟨Nat.le_trans (by decide) hR.1, Nat.le_trans (by decide) hR.2⟩) hK hA hO rfl hl.1 rfl (Nat.le_of_ble_eq_true rfl) dX7_value_69 (fun r69 t69 H locs hO hw => ?_)
          refine lv_istore (lv' := [(5, .int r69), (7, .int r57), (6, .int r34), (0, .ref h), (1, .int x1), (2, .int x2), (3, .int x3), (4, .int x4)]) X.1 X.2.1 dX7_value_72 hl (by decide) rfl (fun ls hl => ?_)
          refine lv_iload X.1 X.2.1 dX7_value_74 (lv_at hl 0 rfl) ?_
          refine lv_if_ge (tgt := 83) X.1 X.2.1 dX7_value_76 rfl (fun hc9 => ?_) (fun hc9 => ?_)
          · have hw := hw.1 hc9
            refine lv_aload_n X.1 X.2.1 dX7_value_83 rfl (lv_at hl 3 rfl) ?_
            refine lv_iload X.1 X.2.1 dX7_value_84 (lv_at hl 0 rfl) ?_
            refine lv_aload_n X.1 X.2.1 dX7_value_86 rfl (lv_at hl 3 rfl) ?_
            refine rf_rest X hK hO dX7_value_87 ?_
            refine lv_iload X.1 X.2.1 dX7_value_90 (lv_at hl 0 rfl) ?_
            obtain ⟨g92, hw⟩ := hw
            refine ra_rest X.1 X.2.1 hK hO g92 dX7_value_92 ?_
            refine lv_iload_n X.1 X.2.1 dX7_value_93 rfl (lv_at hl 6 rfl) ?_
            refine r_calli (rest := []) (As := [.int r69, .int (t69.2 17 r69.toNatClampNeg), .int x3]) X (rC_lookUp l dC dI h a cI cZ t69 H.size r69 (t69.2 17 r69.toNatClampNeg) x3 _ hw) (cwV 3 X.2.2.2.2 gX7_lookUp rfl rfl rfl hdX7_lookUp ⟨Nat.le_trans (by decide) hR.1, Nat.le_trans (by decide) hR.2⟩) hK hA hO rfl hl.1 rfl (Nat.le_of_ble_eq_true rfl) dX7_value_94 (fun r94 t94 H locs hO hw => ?_)
            exact rB_value_97 X hr hlk hR hK hA x4 r69 r94 t94 H locs ls (lv_sub hl [3, 7, 0] rfl) hO hw
          · have hw := hw.2 hc9
            refine lv_iconst (v := -1) X.1 X.2.1 dX7_value_79 (by decide) ?_
            refine lv_goto (tgt := 97) X.1 X.2.1 dX7_value_80 rfl ?_
            exact rB_value_97 X hr hlk hR hK hA x4 r69 (-1 : Int32) t69 H locs ls (lv_sub hl [3, 7, 0] rfl) hO hw
      · have hw := hw.2 hc9
        exact rB_value_26 X hr hlk hR hK hA t20 H locs ls (lv_sub hl [1] rfl) hO hw
def R_value_w (Q : Int64 → rS → Prop) (x1 : Int32) (x2 : Int32) (x3 : Int32) (x4 : Int32) (σ : rS) : Prop := R_value_b0 Q x1 x2 x3 x4 σ
abbrev rmX7_value : Room := { frames := 3, cells := 0, slots := 0, locals := 70 }
set_option maxHeartbeats 4000000 in
set_option maxRecDepth 100000 in
theorem rC_value (l : Launch) (dC : Nat → ClassId) (dI : Nat → Nat → Nat) (h : Nat) (a : Nat → Nat) (cI cZ : ClassId) (σ : rS) (sz : Nat) (x1 : Int32) (x2 : Int32) (x3 : Int32) (x4 : Int32) (Q : Int64 → rS → Prop) (hw : R_value_w Q x1 x2 x3 x4 σ) : Met l yX7_value wsX7_value rmX7_value (rPc dC dI h a cI cZ sz σ [.ref h, .int x1, .int x2, .int x3, .int x4]) (va_Ql Q (rAt dC dI (va_A (rCells h a cI cZ σ) sz) h a cI cZ) (va_A (rCells h a cI cZ σ) sz)) 0 0 (va_A (rCells h a cI cZ σ) sz) := by
  refine Met.ofW (cc := cX7_value) (maxL := 10) (ret := (some .long)) (by decide) rfl ?_
  intro p e s m args below meth c s₁ B hml hv
  obtain ⟨hargs, hsz, hP, hK, hD0⟩ := hv
  have hts := atoms_spec (ws := wsX7_value) B.pre
  have hown : s.vm.findClass RX7 = some m.cls := findClass_of_methodNamed B.named
  subst hsz
  subst hargs
  have hD := hD0.self (sz := s.heap.size)
  generalize hAe : va_A (rCells h a cI cZ σ) s.heap.size = A at hD ⊢
  have hA : ∀ q : Nat, s.heap.size ≤ q → A q := fun q h => by rw [← hAe]; exact Or.inr h
  have hl := lv_entry ([.ref h, .int x1, .int x2, .int x3, .int x4]) (n := 10) (Nat.le_of_ble_eq_true rfl)
  rw [lg_entry_eq]
  generalize (lg_sl ([.ref h, .int x1, .int x2, .int x3, .int x4]) ++ List.replicate (10 - (lg_sl ([.ref h, .int x1, .int x2, .int x3, .int x4])).length) Slot.unset).toArray = ls at hl ⊢
  have hl : lv_has ls 10 [(0, .ref h), (1, .int x1), (2, .int x2), (3, .int x3), (4, .int x4)] := hl
  unfold R_value_w at hw
  exact rB_value_0 ⟨B.exec, B.bytes, hml, hown, hts⟩ B.returns B.notSynchronized ⟨Nat.le_of_ble_eq_true rfl, Nat.le_of_ble_eq_true rfl⟩ hK hA x1 x2 x3 x4 σ s.heap [] ls (lv_sub hl [0, 1, 2, 3, 4] rfl) ⟨hP, hD, va_S.rf⟩ hw
end
end
