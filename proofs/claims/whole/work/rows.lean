section
-- ===== PART A: goes FIRST, ahead of the names: the tables' words, and 'selects' of the private methods out of them =====
/-- a private method of a class that the tables say can be made, by its rows of tables_1 -/
def lw_okq (q : MethodName × Nat) : Prop := (q.1.cls ≠ "java/lang/invoke/MethodHandle" ∧ q.1.cls ≠ "java/lang/invoke/VarHandle") ∧ Cond.instantiable q.1.cls q.2 ∈ tables_1 ∧ Cond.privateMethod q.1 ∈ tables_1 ∧ Cond.instanceMethod q.1 ∈ tables_1
theorem lw_p0 : lw_okq (⟨"ChainParts$Tape", "takeSign", "(I)V"⟩, 4) := ⟨⟨by decide +kernel, by decide +kernel⟩, List.mem_of_getElem? (i := 31) (by decide +kernel), List.mem_of_getElem? (i := 188) (by decide +kernel), List.mem_of_getElem? (i := 189) (by decide +kernel)⟩
theorem lw_p1 : lw_okq (⟨"ChainParts$Tape", "token", "(I)I"⟩, 4) := ⟨⟨by decide +kernel, by decide +kernel⟩, List.mem_of_getElem? (i := 31) (by decide +kernel), List.mem_of_getElem? (i := 192) (by decide +kernel), List.mem_of_getElem? (i := 193) (by decide +kernel)⟩
theorem lw_p2 : lw_okq (⟨"ChainParts$Tape", "takeDigit", "(II)I"⟩, 4) := ⟨⟨by decide +kernel, by decide +kernel⟩, List.mem_of_getElem? (i := 31) (by decide +kernel), List.mem_of_getElem? (i := 196) (by decide +kernel), List.mem_of_getElem? (i := 197) (by decide +kernel)⟩
theorem lw_p3 : lw_okq (⟨"ChainParts$Cells", "setSlot", "(II)V"⟩, 1) := ⟨⟨by decide +kernel, by decide +kernel⟩, List.mem_of_getElem? (i := 20) (by decide +kernel), List.mem_of_getElem? (i := 204) (by decide +kernel), List.mem_of_getElem? (i := 205) (by decide +kernel)⟩
theorem lw_p4 : lw_okq (⟨"ChainParts$Tape", "readEdge", "(LChainParts$Cells;)V"⟩, 4) := ⟨⟨by decide +kernel, by decide +kernel⟩, List.mem_of_getElem? (i := 31) (by decide +kernel), List.mem_of_getElem? (i := 208) (by decide +kernel), List.mem_of_getElem? (i := 209) (by decide +kernel)⟩
theorem lw_p5 : lw_okq (⟨"ChainParts$Cells", "slot", "(I)I"⟩, 1) := ⟨⟨by decide +kernel, by decide +kernel⟩, List.mem_of_getElem? (i := 20) (by decide +kernel), List.mem_of_getElem? (i := 216) (by decide +kernel), List.mem_of_getElem? (i := 217) (by decide +kernel)⟩
theorem lw_p6 : lw_okq (⟨"ChainParts$Tape", "readFace", "(LChainParts$Cells;LChainParts$Word;)V"⟩, 4) := ⟨⟨by decide +kernel, by decide +kernel⟩, List.mem_of_getElem? (i := 31) (by decide +kernel), List.mem_of_getElem? (i := 233) (by decide +kernel), List.mem_of_getElem? (i := 234) (by decide +kernel)⟩
theorem lw_p7 : lw_okq (⟨"ChainParts", "isUpperCell", "(II)Z"⟩, 11) := ⟨⟨by decide +kernel, by decide +kernel⟩, List.mem_of_getElem? (i := 12) (by decide +kernel), List.mem_of_getElem? (i := 332) (by decide +kernel), List.mem_of_getElem? (i := 333) (by decide +kernel)⟩
theorem lw_p8 : lw_okq (⟨"ChainParts", "keepAct", "()V"⟩, 11) := ⟨⟨by decide +kernel, by decide +kernel⟩, List.mem_of_getElem? (i := 12) (by decide +kernel), List.mem_of_getElem? (i := 344) (by decide +kernel), List.mem_of_getElem? (i := 345) (by decide +kernel)⟩
theorem lw_p9 : lw_okq (⟨"ChainParts$Cells", "lowerLettersBehind", "(I)V"⟩, 1) := ⟨⟨by decide +kernel, by decide +kernel⟩, List.mem_of_getElem? (i := 20) (by decide +kernel), List.mem_of_getElem? (i := 399) (by decide +kernel), List.mem_of_getElem? (i := 400) (by decide +kernel)⟩
theorem lw_p10 : lw_okq (⟨"ChainParts$Cells", "isSealed", "(I)Z"⟩, 1) := ⟨⟨by decide +kernel, by decide +kernel⟩, List.mem_of_getElem? (i := 20) (by decide +kernel), List.mem_of_getElem? (i := 457) (by decide +kernel), List.mem_of_getElem? (i := 458) (by decide +kernel)⟩
theorem lw_p11 : lw_okq (⟨"ChainParts", "tableRank", "(II)I"⟩, 11) := ⟨⟨by decide +kernel, by decide +kernel⟩, List.mem_of_getElem? (i := 12) (by decide +kernel), List.mem_of_getElem? (i := 481) (by decide +kernel), List.mem_of_getElem? (i := 482) (by decide +kernel)⟩
theorem lw_p12 : lw_okq (⟨"ChainParts$Grid", "expandedMinor", "(II)J"⟩, 4) := ⟨⟨by decide +kernel, by decide +kernel⟩, List.mem_of_getElem? (i := 63) (by decide +kernel), List.mem_of_getElem? (i := 503) (by decide +kernel), List.mem_of_getElem? (i := 504) (by decide +kernel)⟩
theorem lw_p13 : lw_okq (⟨"ChainParts", "orderOf", "(I)J"⟩, 11) := ⟨⟨by decide +kernel, by decide +kernel⟩, List.mem_of_getElem? (i := 12) (by decide +kernel), List.mem_of_getElem? (i := 561) (by decide +kernel), List.mem_of_getElem? (i := 562) (by decide +kernel)⟩
theorem lw_p14 : lw_okq (⟨"ChainParts$Split", "loadChain", "(LChainParts$Cells;I)V"⟩, 10) := ⟨⟨by decide +kernel, by decide +kernel⟩, List.mem_of_getElem? (i := 85) (by decide +kernel), List.mem_of_getElem? (i := 582) (by decide +kernel), List.mem_of_getElem? (i := 583) (by decide +kernel)⟩
theorem lw_p15 : lw_okq (⟨"ChainParts$Split", "loadRays", "(LChainParts$Cells;I)V"⟩, 10) := ⟨⟨by decide +kernel, by decide +kernel⟩, List.mem_of_getElem? (i := 85) (by decide +kernel), List.mem_of_getElem? (i := 591) (by decide +kernel), List.mem_of_getElem? (i := 592) (by decide +kernel)⟩
def lw_privs_1 : List (MethodName × Nat) := [(⟨"ChainParts$Tape", "takeSign", "(I)V"⟩, 4), (⟨"ChainParts$Tape", "token", "(I)I"⟩, 4), (⟨"ChainParts$Tape", "takeDigit", "(II)I"⟩, 4), (⟨"ChainParts$Cells", "setSlot", "(II)V"⟩, 1), (⟨"ChainParts$Tape", "readEdge", "(LChainParts$Cells;)V"⟩, 4), (⟨"ChainParts$Cells", "slot", "(I)I"⟩, 1), (⟨"ChainParts$Tape", "readFace", "(LChainParts$Cells;LChainParts$Word;)V"⟩, 4), (⟨"ChainParts", "isUpperCell", "(II)Z"⟩, 11), (⟨"ChainParts", "keepAct", "()V"⟩, 11), (⟨"ChainParts$Cells", "lowerLettersBehind", "(I)V"⟩, 1), (⟨"ChainParts$Cells", "isSealed", "(I)Z"⟩, 1), (⟨"ChainParts", "tableRank", "(II)I"⟩, 11), (⟨"ChainParts$Grid", "expandedMinor", "(II)J"⟩, 4), (⟨"ChainParts", "orderOf", "(I)J"⟩, 11), (⟨"ChainParts$Split", "loadChain", "(LChainParts$Cells;I)V"⟩, 10), (⟨"ChainParts$Split", "loadRays", "(LChainParts$Cells;I)V"⟩, 10)]
theorem lw_r1 : ∀ q ∈ lw_privs_1, lw_okq q := List.forall_mem_cons.mpr ⟨lw_p0, List.forall_mem_cons.mpr ⟨lw_p1, List.forall_mem_cons.mpr ⟨lw_p2, List.forall_mem_cons.mpr ⟨lw_p3, List.forall_mem_cons.mpr ⟨lw_p4, List.forall_mem_cons.mpr ⟨lw_p5, List.forall_mem_cons.mpr ⟨lw_p6, List.forall_mem_cons.mpr ⟨lw_p7, List.forall_mem_cons.mpr ⟨lw_p8, List.forall_mem_cons.mpr ⟨lw_p9, List.forall_mem_cons.mpr ⟨lw_p10, List.forall_mem_cons.mpr ⟨lw_p11, List.forall_mem_cons.mpr ⟨lw_p12, List.forall_mem_cons.mpr ⟨lw_p13, List.forall_mem_cons.mpr ⟨lw_p14, List.forall_mem_cons.mpr ⟨lw_p15, fun _ h => absurd h List.not_mem_nil⟩⟩⟩⟩⟩⟩⟩⟩⟩⟩⟩⟩⟩⟩⟩⟩
theorem lw_p16 : lw_okq (⟨"ChainParts$Split", "castShadow", "()V"⟩, 10) := ⟨⟨by decide +kernel, by decide +kernel⟩, List.mem_of_getElem? (i := 85) (by decide +kernel), List.mem_of_getElem? (i := 596) (by decide +kernel), List.mem_of_getElem? (i := 597) (by decide +kernel)⟩
theorem lw_p17 : lw_okq (⟨"ChainParts$Split", "fillSystem", "()V"⟩, 10) := ⟨⟨by decide +kernel, by decide +kernel⟩, List.mem_of_getElem? (i := 85) (by decide +kernel), List.mem_of_getElem? (i := 600) (by decide +kernel), List.mem_of_getElem? (i := 601) (by decide +kernel)⟩
theorem lw_p18 : lw_okq (⟨"ChainParts$Split", "product", "([J[J)J"⟩, 10) := ⟨⟨by decide +kernel, by decide +kernel⟩, List.mem_of_getElem? (i := 85) (by decide +kernel), List.mem_of_getElem? (i := 604) (by decide +kernel), List.mem_of_getElem? (i := 605) (by decide +kernel)⟩
theorem lw_p19 : lw_okq (⟨"ChainParts$Split", "solveSystem", "()V"⟩, 10) := ⟨⟨by decide +kernel, by decide +kernel⟩, List.mem_of_getElem? (i := 85) (by decide +kernel), List.mem_of_getElem? (i := 608) (by decide +kernel), List.mem_of_getElem? (i := 609) (by decide +kernel)⟩
theorem lw_p20 : lw_okq (⟨"ChainParts$Split", "eliminate", "(IIJ)V"⟩, 10) := ⟨⟨by decide +kernel, by decide +kernel⟩, List.mem_of_getElem? (i := 85) (by decide +kernel), List.mem_of_getElem? (i := 612) (by decide +kernel), List.mem_of_getElem? (i := 613) (by decide +kernel)⟩
theorem lw_p21 : lw_okq (⟨"ChainParts$Split", "lowerShadow", "()V"⟩, 10) := ⟨⟨by decide +kernel, by decide +kernel⟩, List.mem_of_getElem? (i := 85) (by decide +kernel), List.mem_of_getElem? (i := 617) (by decide +kernel), List.mem_of_getElem? (i := 618) (by decide +kernel)⟩
theorem lw_p22 : lw_okq (⟨"ChainParts$Split", "takeShadowAway", "()V"⟩, 10) := ⟨⟨by decide +kernel, by decide +kernel⟩, List.mem_of_getElem? (i := 85) (by decide +kernel), List.mem_of_getElem? (i := 622) (by decide +kernel), List.mem_of_getElem? (i := 623) (by decide +kernel)⟩
theorem lw_p23 : lw_okq (⟨"ChainParts", "treeCount", "(IIJ)J"⟩, 11) := ⟨⟨by decide +kernel, by decide +kernel⟩, List.mem_of_getElem? (i := 12) (by decide +kernel), List.mem_of_getElem? (i := 658) (by decide +kernel), List.mem_of_getElem? (i := 659) (by decide +kernel)⟩
theorem lw_p24 : lw_okq (⟨"ChainPartsModel", "reads", "()V"⟩, 24) := ⟨⟨by decide +kernel, by decide +kernel⟩, List.mem_of_getElem? (i := 687) (by decide +kernel), List.mem_of_getElem? (i := 781) (by decide +kernel), List.mem_of_getElem? (i := 782) (by decide +kernel)⟩
theorem lw_p25 : lw_okq (⟨"ChainPartsModel", "byteAt", "(I)I"⟩, 24) := ⟨⟨by decide +kernel, by decide +kernel⟩, List.mem_of_getElem? (i := 687) (by decide +kernel), List.mem_of_getElem? (i := 785) (by decide +kernel), List.mem_of_getElem? (i := 786) (by decide +kernel)⟩
theorem lw_p26 : lw_okq (⟨"ChainPartsModel", "isLetter", "(I)Z"⟩, 24) := ⟨⟨by decide +kernel, by decide +kernel⟩, List.mem_of_getElem? (i := 687) (by decide +kernel), List.mem_of_getElem? (i := 795) (by decide +kernel), List.mem_of_getElem? (i := 796) (by decide +kernel)⟩
theorem lw_p27 : lw_okq (⟨"ChainPartsModel", "bad", "(I)V"⟩, 24) := ⟨⟨by decide +kernel, by decide +kernel⟩, List.mem_of_getElem? (i := 687) (by decide +kernel), List.mem_of_getElem? (i := 799) (by decide +kernel), List.mem_of_getElem? (i := 800) (by decide +kernel)⟩
theorem lw_p28 : lw_okq (⟨"ChainPartsModel", "goesOn", "()V"⟩, 24) := ⟨⟨by decide +kernel, by decide +kernel⟩, List.mem_of_getElem? (i := 687) (by decide +kernel), List.mem_of_getElem? (i := 803) (by decide +kernel), List.mem_of_getElem? (i := 804) (by decide +kernel)⟩
theorem lw_p29 : lw_okq (⟨"ChainPartsModel", "digit", "(II)I"⟩, 24) := ⟨⟨by decide +kernel, by decide +kernel⟩, List.mem_of_getElem? (i := 687) (by decide +kernel), List.mem_of_getElem? (i := 807) (by decide +kernel), List.mem_of_getElem? (i := 808) (by decide +kernel)⟩
theorem lw_p30 : lw_okq (⟨"ChainPartsModel", "stop", "()V"⟩, 24) := ⟨⟨by decide +kernel, by decide +kernel⟩, List.mem_of_getElem? (i := 687) (by decide +kernel), List.mem_of_getElem? (i := 811) (by decide +kernel), List.mem_of_getElem? (i := 812) (by decide +kernel)⟩
theorem lw_p31 : lw_okq (⟨"ChainPartsModel", "isStop", "()Z"⟩, 24) := ⟨⟨by decide +kernel, by decide +kernel⟩, List.mem_of_getElem? (i := 687) (by decide +kernel), List.mem_of_getElem? (i := 815) (by decide +kernel), List.mem_of_getElem? (i := 816) (by decide +kernel)⟩
def lw_privs_2 : List (MethodName × Nat) := [(⟨"ChainParts$Split", "castShadow", "()V"⟩, 10), (⟨"ChainParts$Split", "fillSystem", "()V"⟩, 10), (⟨"ChainParts$Split", "product", "([J[J)J"⟩, 10), (⟨"ChainParts$Split", "solveSystem", "()V"⟩, 10), (⟨"ChainParts$Split", "eliminate", "(IIJ)V"⟩, 10), (⟨"ChainParts$Split", "lowerShadow", "()V"⟩, 10), (⟨"ChainParts$Split", "takeShadowAway", "()V"⟩, 10), (⟨"ChainParts", "treeCount", "(IIJ)J"⟩, 11), (⟨"ChainPartsModel", "reads", "()V"⟩, 24), (⟨"ChainPartsModel", "byteAt", "(I)I"⟩, 24), (⟨"ChainPartsModel", "isLetter", "(I)Z"⟩, 24), (⟨"ChainPartsModel", "bad", "(I)V"⟩, 24), (⟨"ChainPartsModel", "goesOn", "()V"⟩, 24), (⟨"ChainPartsModel", "digit", "(II)I"⟩, 24), (⟨"ChainPartsModel", "stop", "()V"⟩, 24), (⟨"ChainPartsModel", "isStop", "()Z"⟩, 24)]
theorem lw_r2 : ∀ q ∈ lw_privs_2, lw_okq q := List.forall_mem_cons.mpr ⟨lw_p16, List.forall_mem_cons.mpr ⟨lw_p17, List.forall_mem_cons.mpr ⟨lw_p18, List.forall_mem_cons.mpr ⟨lw_p19, List.forall_mem_cons.mpr ⟨lw_p20, List.forall_mem_cons.mpr ⟨lw_p21, List.forall_mem_cons.mpr ⟨lw_p22, List.forall_mem_cons.mpr ⟨lw_p23, List.forall_mem_cons.mpr ⟨lw_p24, List.forall_mem_cons.mpr ⟨lw_p25, List.forall_mem_cons.mpr ⟨lw_p26, List.forall_mem_cons.mpr ⟨lw_p27, List.forall_mem_cons.mpr ⟨lw_p28, List.forall_mem_cons.mpr ⟨lw_p29, List.forall_mem_cons.mpr ⟨lw_p30, List.forall_mem_cons.mpr ⟨lw_p31, fun _ h => absurd h List.not_mem_nil⟩⟩⟩⟩⟩⟩⟩⟩⟩⟩⟩⟩⟩⟩⟩⟩
theorem lw_p32 : lw_okq (⟨"ChainPartsModel", "readsEdge", "()V"⟩, 24) := ⟨⟨by decide +kernel, by decide +kernel⟩, List.mem_of_getElem? (i := 687) (by decide +kernel), List.mem_of_getElem? (i := 819) (by decide +kernel), List.mem_of_getElem? (i := 820) (by decide +kernel)⟩
theorem lw_p33 : lw_okq (⟨"ChainPartsModel", "readsFace", "()V"⟩, 24) := ⟨⟨by decide +kernel, by decide +kernel⟩, List.mem_of_getElem? (i := 687) (by decide +kernel), List.mem_of_getElem? (i := 826) (by decide +kernel), List.mem_of_getElem? (i := 827) (by decide +kernel)⟩
theorem lw_p34 : lw_okq (⟨"ChainPartsModel", "isCell", "(II)Z"⟩, 24) := ⟨⟨by decide +kernel, by decide +kernel⟩, List.mem_of_getElem? (i := 687) (by decide +kernel), List.mem_of_getElem? (i := 877) (by decide +kernel), List.mem_of_getElem? (i := 878) (by decide +kernel)⟩
theorem lw_p35 : lw_okq (⟨"ChainPartsModel", "notes", "()V"⟩, 24) := ⟨⟨by decide +kernel, by decide +kernel⟩, List.mem_of_getElem? (i := 687) (by decide +kernel), List.mem_of_getElem? (i := 883) (by decide +kernel), List.mem_of_getElem? (i := 884) (by decide +kernel)⟩
theorem lw_p36 : lw_okq (⟨"ChainPartsModel", "isComplex", "()Z"⟩, 24) := ⟨⟨by decide +kernel, by decide +kernel⟩, List.mem_of_getElem? (i := 687) (by decide +kernel), List.mem_of_getElem? (i := 894) (by decide +kernel), List.mem_of_getElem? (i := 895) (by decide +kernel)⟩
theorem lw_p37 : lw_okq (⟨"ChainPartsModel", "isWord", "(I)Z"⟩, 24) := ⟨⟨by decide +kernel, by decide +kernel⟩, List.mem_of_getElem? (i := 687) (by decide +kernel), List.mem_of_getElem? (i := 902) (by decide +kernel), List.mem_of_getElem? (i := 903) (by decide +kernel)⟩
theorem lw_p38 : lw_okq (⟨"ChainPartsModel", "isSpelled", "(I)Z"⟩, 24) := ⟨⟨by decide +kernel, by decide +kernel⟩, List.mem_of_getElem? (i := 687) (by decide +kernel), List.mem_of_getElem? (i := 911) (by decide +kernel), List.mem_of_getElem? (i := 912) (by decide +kernel)⟩
theorem lw_p39 : lw_okq (⟨"ChainPartsModel", "dropsEdge", "(I)V"⟩, 24) := ⟨⟨by decide +kernel, by decide +kernel⟩, List.mem_of_getElem? (i := 687) (by decide +kernel), List.mem_of_getElem? (i := 915) (by decide +kernel), List.mem_of_getElem? (i := 916) (by decide +kernel)⟩
theorem lw_p40 : lw_okq (⟨"ChainPartsModel", "isChain", "(I)Z"⟩, 24) := ⟨⟨by decide +kernel, by decide +kernel⟩, List.mem_of_getElem? (i := 687) (by decide +kernel), List.mem_of_getElem? (i := 923) (by decide +kernel), List.mem_of_getElem? (i := 924) (by decide +kernel)⟩
theorem lw_p41 : lw_okq (⟨"ChainPartsModel", "two", "(II)I"⟩, 24) := ⟨⟨by decide +kernel, by decide +kernel⟩, List.mem_of_getElem? (i := 687) (by decide +kernel), List.mem_of_getElem? (i := 933) (by decide +kernel), List.mem_of_getElem? (i := 934) (by decide +kernel)⟩
theorem lw_p42 : lw_okq (⟨"ChainPartsModel", "others", "(I)I"⟩, 24) := ⟨⟨by decide +kernel, by decide +kernel⟩, List.mem_of_getElem? (i := 687) (by decide +kernel), List.mem_of_getElem? (i := 937) (by decide +kernel), List.mem_of_getElem? (i := 938) (by decide +kernel)⟩
theorem lw_p43 : lw_okq (⟨"ChainPartsModel", "code", "(I)I"⟩, 24) := ⟨⟨by decide +kernel, by decide +kernel⟩, List.mem_of_getElem? (i := 687) (by decide +kernel), List.mem_of_getElem? (i := 955) (by decide +kernel), List.mem_of_getElem? (i := 956) (by decide +kernel)⟩
theorem lw_p44 : lw_okq (⟨"ChainPartsModel", "isSealed", "(I)Z"⟩, 24) := ⟨⟨by decide +kernel, by decide +kernel⟩, List.mem_of_getElem? (i := 687) (by decide +kernel), List.mem_of_getElem? (i := 965) (by decide +kernel), List.mem_of_getElem? (i := 966) (by decide +kernel)⟩
theorem lw_p45 : lw_okq (⟨"ChainPartsModel", "rows", "(I)I"⟩, 24) := ⟨⟨by decide +kernel, by decide +kernel⟩, List.mem_of_getElem? (i := 687) (by decide +kernel), List.mem_of_getElem? (i := 973) (by decide +kernel), List.mem_of_getElem? (i := 974) (by decide +kernel)⟩
theorem lw_p46 : lw_okq (⟨"ChainPartsModel", "columns", "(I)I"⟩, 24) := ⟨⟨by decide +kernel, by decide +kernel⟩, List.mem_of_getElem? (i := 687) (by decide +kernel), List.mem_of_getElem? (i := 977) (by decide +kernel), List.mem_of_getElem? (i := 978) (by decide +kernel)⟩
theorem lw_p47 : lw_okq (⟨"ChainPartsModel", "entry", "(III)I"⟩, 24) := ⟨⟨by decide +kernel, by decide +kernel⟩, List.mem_of_getElem? (i := 687) (by decide +kernel), List.mem_of_getElem? (i := 981) (by decide +kernel), List.mem_of_getElem? (i := 982) (by decide +kernel)⟩
def lw_privs_3 : List (MethodName × Nat) := [(⟨"ChainPartsModel", "readsEdge", "()V"⟩, 24), (⟨"ChainPartsModel", "readsFace", "()V"⟩, 24), (⟨"ChainPartsModel", "isCell", "(II)Z"⟩, 24), (⟨"ChainPartsModel", "notes", "()V"⟩, 24), (⟨"ChainPartsModel", "isComplex", "()Z"⟩, 24), (⟨"ChainPartsModel", "isWord", "(I)Z"⟩, 24), (⟨"ChainPartsModel", "isSpelled", "(I)Z"⟩, 24), (⟨"ChainPartsModel", "dropsEdge", "(I)V"⟩, 24), (⟨"ChainPartsModel", "isChain", "(I)Z"⟩, 24), (⟨"ChainPartsModel", "two", "(II)I"⟩, 24), (⟨"ChainPartsModel", "others", "(I)I"⟩, 24), (⟨"ChainPartsModel", "code", "(I)I"⟩, 24), (⟨"ChainPartsModel", "isSealed", "(I)Z"⟩, 24), (⟨"ChainPartsModel", "rows", "(I)I"⟩, 24), (⟨"ChainPartsModel", "columns", "(I)I"⟩, 24), (⟨"ChainPartsModel", "entry", "(III)I"⟩, 24)]
theorem lw_r3 : ∀ q ∈ lw_privs_3, lw_okq q := List.forall_mem_cons.mpr ⟨lw_p32, List.forall_mem_cons.mpr ⟨lw_p33, List.forall_mem_cons.mpr ⟨lw_p34, List.forall_mem_cons.mpr ⟨lw_p35, List.forall_mem_cons.mpr ⟨lw_p36, List.forall_mem_cons.mpr ⟨lw_p37, List.forall_mem_cons.mpr ⟨lw_p38, List.forall_mem_cons.mpr ⟨lw_p39, List.forall_mem_cons.mpr ⟨lw_p40, List.forall_mem_cons.mpr ⟨lw_p41, List.forall_mem_cons.mpr ⟨lw_p42, List.forall_mem_cons.mpr ⟨lw_p43, List.forall_mem_cons.mpr ⟨lw_p44, List.forall_mem_cons.mpr ⟨lw_p45, List.forall_mem_cons.mpr ⟨lw_p46, List.forall_mem_cons.mpr ⟨lw_p47, fun _ h => absurd h List.not_mem_nil⟩⟩⟩⟩⟩⟩⟩⟩⟩⟩⟩⟩⟩⟩⟩⟩
theorem lw_p48 : lw_okq (⟨"ChainPartsModel", "one", "(II)I"⟩, 24) := ⟨⟨by decide +kernel, by decide +kernel⟩, List.mem_of_getElem? (i := 687) (by decide +kernel), List.mem_of_getElem? (i := 985) (by decide +kernel), List.mem_of_getElem? (i := 986) (by decide +kernel)⟩
theorem lw_p49 : lw_okq (⟨"ChainPartsModel", "nearSize", "(I)I"⟩, 24) := ⟨⟨by decide +kernel, by decide +kernel⟩, List.mem_of_getElem? (i := 687) (by decide +kernel), List.mem_of_getElem? (i := 993) (by decide +kernel), List.mem_of_getElem? (i := 994) (by decide +kernel)⟩
theorem lw_p50 : lw_okq (⟨"ChainPartsModel", "nearBy", "(III)I"⟩, 24) := ⟨⟨by decide +kernel, by decide +kernel⟩, List.mem_of_getElem? (i := 687) (by decide +kernel), List.mem_of_getElem? (i := 997) (by decide +kernel), List.mem_of_getElem? (i := 998) (by decide +kernel)⟩
theorem lw_p51 : lw_okq (⟨"ChainPartsModel", "rankFor", "(II)I"⟩, 24) := ⟨⟨by decide +kernel, by decide +kernel⟩, List.mem_of_getElem? (i := 687) (by decide +kernel), List.mem_of_getElem? (i := 1008) (by decide +kernel), List.mem_of_getElem? (i := 1009) (by decide +kernel)⟩
theorem lw_p52 : lw_okq (⟨"ChainPartsModel", "rankAll", "(I)I"⟩, 24) := ⟨⟨by decide +kernel, by decide +kernel⟩, List.mem_of_getElem? (i := 687) (by decide +kernel), List.mem_of_getElem? (i := 1012) (by decide +kernel), List.mem_of_getElem? (i := 1013) (by decide +kernel)⟩
theorem lw_p53 : lw_okq (⟨"ChainPartsModel", "allColumns", "(I)I"⟩, 24) := ⟨⟨by decide +kernel, by decide +kernel⟩, List.mem_of_getElem? (i := 687) (by decide +kernel), List.mem_of_getElem? (i := 1016) (by decide +kernel), List.mem_of_getElem? (i := 1017) (by decide +kernel)⟩
theorem lw_p54 : lw_okq (⟨"ChainPartsModel", "rankOf", "(III)I"⟩, 24) := ⟨⟨by decide +kernel, by decide +kernel⟩, List.mem_of_getElem? (i := 687) (by decide +kernel), List.mem_of_getElem? (i := 1020) (by decide +kernel), List.mem_of_getElem? (i := 1021) (by decide +kernel)⟩
theorem lw_p55 : lw_okq (⟨"ChainPartsModel", "minorsOf", "(IIII)J"⟩, 24) := ⟨⟨by decide +kernel, by decide +kernel⟩, List.mem_of_getElem? (i := 687) (by decide +kernel), List.mem_of_getElem? (i := 1030) (by decide +kernel), List.mem_of_getElem? (i := 1031) (by decide +kernel)⟩
theorem lw_p56 : lw_okq (⟨"ChainPartsModel", "minor", "(IIII)J"⟩, 24) := ⟨⟨by decide +kernel, by decide +kernel⟩, List.mem_of_getElem? (i := 687) (by decide +kernel), List.mem_of_getElem? (i := 1034) (by decide +kernel), List.mem_of_getElem? (i := 1035) (by decide +kernel)⟩
theorem lw_p57 : lw_okq (⟨"ChainPartsModel", "wide", "(IIII)I"⟩, 24) := ⟨⟨by decide +kernel, by decide +kernel⟩, List.mem_of_getElem? (i := 687) (by decide +kernel), List.mem_of_getElem? (i := 1041) (by decide +kernel), List.mem_of_getElem? (i := 1042) (by decide +kernel)⟩
theorem lw_p58 : lw_okq (⟨"ChainPartsModel", "determinant", "(I)J"⟩, 24) := ⟨⟨by decide +kernel, by decide +kernel⟩, List.mem_of_getElem? (i := 687) (by decide +kernel), List.mem_of_getElem? (i := 1045) (by decide +kernel), List.mem_of_getElem? (i := 1046) (by decide +kernel)⟩
theorem lw_p59 : lw_okq (⟨"ChainPartsModel", "swaps", "(II)V"⟩, 24) := ⟨⟨by decide +kernel, by decide +kernel⟩, List.mem_of_getElem? (i := 687) (by decide +kernel), List.mem_of_getElem? (i := 1049) (by decide +kernel), List.mem_of_getElem? (i := 1050) (by decide +kernel)⟩
theorem lw_p60 : lw_okq (⟨"ChainPartsModel", "lays", "(I)V"⟩, 24) := ⟨⟨by decide +kernel, by decide +kernel⟩, List.mem_of_getElem? (i := 687) (by decide +kernel), List.mem_of_getElem? (i := 1056) (by decide +kernel), List.mem_of_getElem? (i := 1057) (by decide +kernel)⟩
theorem lw_p61 : lw_okq (⟨"ChainPartsModel", "rankBy", "(III)I"⟩, 24) := ⟨⟨by decide +kernel, by decide +kernel⟩, List.mem_of_getElem? (i := 687) (by decide +kernel), List.mem_of_getElem? (i := 1060) (by decide +kernel), List.mem_of_getElem? (i := 1061) (by decide +kernel)⟩
theorem lw_p62 : lw_okq (⟨"ChainPartsModel", "clears", "(IIII)V"⟩, 24) := ⟨⟨by decide +kernel, by decide +kernel⟩, List.mem_of_getElem? (i := 687) (by decide +kernel), List.mem_of_getElem? (i := 1064) (by decide +kernel), List.mem_of_getElem? (i := 1065) (by decide +kernel)⟩
theorem lw_p63 : lw_okq (⟨"ChainPartsModel", "endsAt", "(II)I"⟩, 24) := ⟨⟨by decide +kernel, by decide +kernel⟩, List.mem_of_getElem? (i := 687) (by decide +kernel), List.mem_of_getElem? (i := 1087) (by decide +kernel), List.mem_of_getElem? (i := 1088) (by decide +kernel)⟩
def lw_privs_4 : List (MethodName × Nat) := [(⟨"ChainPartsModel", "one", "(II)I"⟩, 24), (⟨"ChainPartsModel", "nearSize", "(I)I"⟩, 24), (⟨"ChainPartsModel", "nearBy", "(III)I"⟩, 24), (⟨"ChainPartsModel", "rankFor", "(II)I"⟩, 24), (⟨"ChainPartsModel", "rankAll", "(I)I"⟩, 24), (⟨"ChainPartsModel", "allColumns", "(I)I"⟩, 24), (⟨"ChainPartsModel", "rankOf", "(III)I"⟩, 24), (⟨"ChainPartsModel", "minorsOf", "(IIII)J"⟩, 24), (⟨"ChainPartsModel", "minor", "(IIII)J"⟩, 24), (⟨"ChainPartsModel", "wide", "(IIII)I"⟩, 24), (⟨"ChainPartsModel", "determinant", "(I)J"⟩, 24), (⟨"ChainPartsModel", "swaps", "(II)V"⟩, 24), (⟨"ChainPartsModel", "lays", "(I)V"⟩, 24), (⟨"ChainPartsModel", "rankBy", "(III)I"⟩, 24), (⟨"ChainPartsModel", "clears", "(IIII)V"⟩, 24), (⟨"ChainPartsModel", "endsAt", "(II)I"⟩, 24)]
theorem lw_r4 : ∀ q ∈ lw_privs_4, lw_okq q := List.forall_mem_cons.mpr ⟨lw_p48, List.forall_mem_cons.mpr ⟨lw_p49, List.forall_mem_cons.mpr ⟨lw_p50, List.forall_mem_cons.mpr ⟨lw_p51, List.forall_mem_cons.mpr ⟨lw_p52, List.forall_mem_cons.mpr ⟨lw_p53, List.forall_mem_cons.mpr ⟨lw_p54, List.forall_mem_cons.mpr ⟨lw_p55, List.forall_mem_cons.mpr ⟨lw_p56, List.forall_mem_cons.mpr ⟨lw_p57, List.forall_mem_cons.mpr ⟨lw_p58, List.forall_mem_cons.mpr ⟨lw_p59, List.forall_mem_cons.mpr ⟨lw_p60, List.forall_mem_cons.mpr ⟨lw_p61, List.forall_mem_cons.mpr ⟨lw_p62, List.forall_mem_cons.mpr ⟨lw_p63, fun _ h => absurd h List.not_mem_nil⟩⟩⟩⟩⟩⟩⟩⟩⟩⟩⟩⟩⟩⟩⟩⟩
theorem lw_p64 : lw_okq (⟨"ChainPartsModel", "isCycle", "(I)Z"⟩, 24) := ⟨⟨by decide +kernel, by decide +kernel⟩, List.mem_of_getElem? (i := 687) (by decide +kernel), List.mem_of_getElem? (i := 1095) (by decide +kernel), List.mem_of_getElem? (i := 1096) (by decide +kernel)⟩
theorem lw_p65 : lw_okq (⟨"ChainPartsModel", "order", "(I)I"⟩, 24) := ⟨⟨by decide +kernel, by decide +kernel⟩, List.mem_of_getElem? (i := 687) (by decide +kernel), List.mem_of_getElem? (i := 1099) (by decide +kernel), List.mem_of_getElem? (i := 1100) (by decide +kernel)⟩
theorem lw_p66 : lw_okq (⟨"ChainPartsModel", "laysPart", "(II)V"⟩, 24) := ⟨⟨by decide +kernel, by decide +kernel⟩, List.mem_of_getElem? (i := 687) (by decide +kernel), List.mem_of_getElem? (i := 1108) (by decide +kernel), List.mem_of_getElem? (i := 1109) (by decide +kernel)⟩
theorem lw_p67 : lw_okq (⟨"ChainPartsModel", "spans", "(II)V"⟩, 24) := ⟨⟨by decide +kernel, by decide +kernel⟩, List.mem_of_getElem? (i := 687) (by decide +kernel), List.mem_of_getElem? (i := 1112) (by decide +kernel), List.mem_of_getElem? (i := 1113) (by decide +kernel)⟩
theorem lw_p68 : lw_okq (⟨"ChainPartsModel", "independent", "(I)I"⟩, 24) := ⟨⟨by decide +kernel, by decide +kernel⟩, List.mem_of_getElem? (i := 687) (by decide +kernel), List.mem_of_getElem? (i := 1116) (by decide +kernel), List.mem_of_getElem? (i := 1117) (by decide +kernel)⟩
theorem lw_p69 : lw_okq (⟨"ChainPartsModel", "rankOfRows", "(I)I"⟩, 24) := ⟨⟨by decide +kernel, by decide +kernel⟩, List.mem_of_getElem? (i := 687) (by decide +kernel), List.mem_of_getElem? (i := 1120) (by decide +kernel), List.mem_of_getElem? (i := 1121) (by decide +kernel)⟩
theorem lw_p70 : lw_okq (⟨"ChainPartsModel", "solves", "(III)V"⟩, 24) := ⟨⟨by decide +kernel, by decide +kernel⟩, List.mem_of_getElem? (i := 687) (by decide +kernel), List.mem_of_getElem? (i := 1124) (by decide +kernel), List.mem_of_getElem? (i := 1125) (by decide +kernel)⟩
theorem lw_p71 : lw_okq (⟨"ChainPartsModel", "laysProducts", "(II)V"⟩, 24) := ⟨⟨by decide +kernel, by decide +kernel⟩, List.mem_of_getElem? (i := 687) (by decide +kernel), List.mem_of_getElem? (i := 1128) (by decide +kernel), List.mem_of_getElem? (i := 1129) (by decide +kernel)⟩
theorem lw_p72 : lw_okq (⟨"ChainPartsModel", "product", "(III)J"⟩, 24) := ⟨⟨by decide +kernel, by decide +kernel⟩, List.mem_of_getElem? (i := 687) (by decide +kernel), List.mem_of_getElem? (i := 1132) (by decide +kernel), List.mem_of_getElem? (i := 1133) (by decide +kernel)⟩
theorem lw_p73 : lw_okq (⟨"ChainPartsModel", "against", "(III)J"⟩, 24) := ⟨⟨by decide +kernel, by decide +kernel⟩, List.mem_of_getElem? (i := 687) (by decide +kernel), List.mem_of_getElem? (i := 1136) (by decide +kernel), List.mem_of_getElem? (i := 1137) (by decide +kernel)⟩
theorem lw_p74 : lw_okq (⟨"ChainPartsModel", "tells", "(IJJ)V"⟩, 24) := ⟨⟨by decide +kernel, by decide +kernel⟩, List.mem_of_getElem? (i := 687) (by decide +kernel), List.mem_of_getElem? (i := 1140) (by decide +kernel), List.mem_of_getElem? (i := 1141) (by decide +kernel)⟩
theorem lw_p75 : lw_okq (⟨"ChainPartsModel", "measures", "(II)V"⟩, 24) := ⟨⟨by decide +kernel, by decide +kernel⟩, List.mem_of_getElem? (i := 687) (by decide +kernel), List.mem_of_getElem? (i := 1149) (by decide +kernel), List.mem_of_getElem? (i := 1150) (by decide +kernel)⟩
theorem lw_p76 : lw_okq (⟨"ChainPartsModel", "counts", "(II)J"⟩, 24) := ⟨⟨by decide +kernel, by decide +kernel⟩, List.mem_of_getElem? (i := 687) (by decide +kernel), List.mem_of_getElem? (i := 1162) (by decide +kernel), List.mem_of_getElem? (i := 1163) (by decide +kernel)⟩
def lw_privs_5 : List (MethodName × Nat) := [(⟨"ChainPartsModel", "isCycle", "(I)Z"⟩, 24), (⟨"ChainPartsModel", "order", "(I)I"⟩, 24), (⟨"ChainPartsModel", "laysPart", "(II)V"⟩, 24), (⟨"ChainPartsModel", "spans", "(II)V"⟩, 24), (⟨"ChainPartsModel", "independent", "(I)I"⟩, 24), (⟨"ChainPartsModel", "rankOfRows", "(I)I"⟩, 24), (⟨"ChainPartsModel", "solves", "(III)V"⟩, 24), (⟨"ChainPartsModel", "laysProducts", "(II)V"⟩, 24), (⟨"ChainPartsModel", "product", "(III)J"⟩, 24), (⟨"ChainPartsModel", "against", "(III)J"⟩, 24), (⟨"ChainPartsModel", "tells", "(IJJ)V"⟩, 24), (⟨"ChainPartsModel", "measures", "(II)V"⟩, 24), (⟨"ChainPartsModel", "counts", "(II)J"⟩, 24)]
theorem lw_r5 : ∀ q ∈ lw_privs_5, lw_okq q := List.forall_mem_cons.mpr ⟨lw_p64, List.forall_mem_cons.mpr ⟨lw_p65, List.forall_mem_cons.mpr ⟨lw_p66, List.forall_mem_cons.mpr ⟨lw_p67, List.forall_mem_cons.mpr ⟨lw_p68, List.forall_mem_cons.mpr ⟨lw_p69, List.forall_mem_cons.mpr ⟨lw_p70, List.forall_mem_cons.mpr ⟨lw_p71, List.forall_mem_cons.mpr ⟨lw_p72, List.forall_mem_cons.mpr ⟨lw_p73, List.forall_mem_cons.mpr ⟨lw_p74, List.forall_mem_cons.mpr ⟨lw_p75, List.forall_mem_cons.mpr ⟨lw_p76, fun _ h => absurd h List.not_mem_nil⟩⟩⟩⟩⟩⟩⟩⟩⟩⟩⟩⟩⟩
def lw_privs : List (MethodName × Nat) := lw_privs_1 ++ (lw_privs_2 ++ (lw_privs_3 ++ (lw_privs_4 ++ (lw_privs_5))))
def lw_tbl : List Cond := k2_sels lw_privs ++ tables_1
theorem lw_privs_ok : ∀ q ∈ lw_privs, lw_okq q := by
  show ∀ q ∈ lw_privs_1 ++ (lw_privs_2 ++ (lw_privs_3 ++ (lw_privs_4 ++ (lw_privs_5)))), lw_okq q
  exact List.forall_mem_append.mpr ⟨lw_r1, List.forall_mem_append.mpr ⟨lw_r2, List.forall_mem_append.mpr ⟨lw_r3, List.forall_mem_append.mpr ⟨lw_r4, lw_r5⟩⟩⟩⟩
/-- the streams that the claim lets the run draw from -/
abbrev lw_cs : List Choice := [Jvm.Choice.named "NaN.bits"]
theorem lw_bits : nanBits ∈ lw_cs := by first | decide | exact List.mem_cons_self | simp [lw_cs, nanBits]
/-- the words that stay where the machine warms -/
def lw_ok : List Cond := lw_tbl.filter goodWord
theorem lwm {w : Cond} (i : Nat) (h : lw_tbl[i]? = some w) (hg : goodWord w = true) : w ∈ lw_ok := List.mem_filter.mpr ⟨List.mem_of_getElem? h, hg⟩
theorem lw_ok_good : ∀ w ∈ lw_ok, goodWord w = true := fun w h => (List.mem_filter.mp h).2
theorem lw_ok_tbl : ∀ w ∈ lw_ok, w ∈ lw_tbl := fun w h => (List.mem_filter.mp h).1
end
section
def RX0 : String := "ChainParts$Cells"
def TX0 : u_T := fun k => match k with
  | _ => ("ChainParts$Cells", "slots", "[I", true)
def tyX0 : Nat → FieldType := fun k => match k with
  | _ => .array .int
set_option maxRecDepth 20000 in
theorem nmX0 : ∀ a, a < 1 → ∀ b, b < 1 → a ≠ b → (TX0 a).2.1 ≠ (TX0 b).2.1 := by decide +kernel
set_option maxRecDepth 20000 in
theorem tyX0_ok : ∀ k, k < 1 → parseFieldDescriptor (TX0 k).2.2.1 = some (tyX0 k) := by decide +kernel
abbrev cX0_init : ByteArray := prog_2_method_1_code
def yX0_init : MethodName := ⟨RX0, "<init>", "()V"⟩
abbrev cX0_row : ByteArray := prog_2_method_2_code
def yX0_row : MethodName := ⟨RX0, "row", "()[I"⟩
abbrev cX0_clear : ByteArray := prog_2_method_3_code
def yX0_clear : MethodName := ⟨RX0, "clear", "()V"⟩
abbrev cX0_saveTo : ByteArray := prog_2_method_4_code
def yX0_saveTo : MethodName := ⟨RX0, "saveTo", "([I)V"⟩
abbrev cX0_loadFrom : ByteArray := prog_2_method_5_code
def yX0_loadFrom : MethodName := ⟨RX0, "loadFrom", "([I)V"⟩
abbrev cX0_isKeptIn : ByteArray := prog_2_method_6_code
def yX0_isKeptIn : MethodName := ⟨RX0, "isKeptIn", "([I)Z"⟩
abbrev cX0_slot : ByteArray := prog_2_method_7_code
def yX0_slot : MethodName := ⟨RX0, "slot", "(I)I"⟩
abbrev cX0_setSlot : ByteArray := prog_2_method_8_code
def yX0_setSlot : MethodName := ⟨RX0, "setSlot", "(II)V"⟩
abbrev cX0_isThere : ByteArray := prog_2_method_9_code
def yX0_isThere : MethodName := ⟨RX0, "isThere", "()Z"⟩
abbrev cX0_sizeOf : ByteArray := prog_2_method_10_code
def yX0_sizeOf : MethodName := ⟨RX0, "sizeOf", "(I)I"⟩
abbrev cX0_hasCell : ByteArray := prog_2_method_11_code
def yX0_hasCell : MethodName := ⟨RX0, "hasCell", "(II)Z"⟩
abbrev cX0_setPoints : ByteArray := prog_2_method_12_code
def yX0_setPoints : MethodName := ⟨RX0, "setPoints", "(I)V"⟩
abbrev cX0_fromOf : ByteArray := prog_2_method_13_code
def yX0_fromOf : MethodName := ⟨RX0, "fromOf", "(I)I"⟩
abbrev cX0_toOf : ByteArray := prog_2_method_14_code
def yX0_toOf : MethodName := ⟨RX0, "toOf", "(I)I"⟩
abbrev cX0_weightOf : ByteArray := prog_2_method_15_code
def yX0_weightOf : MethodName := ⟨RX0, "weightOf", "(II)I"⟩
abbrev cX0_setWeight : ByteArray := prog_2_method_16_code
def yX0_setWeight : MethodName := ⟨RX0, "setWeight", "(III)V"⟩
abbrev cX0_wordSize : ByteArray := prog_2_method_17_code
def yX0_wordSize : MethodName := ⟨RX0, "wordSize", "(I)I"⟩
abbrev cX0_letterAt : ByteArray := prog_2_method_18_code
def yX0_letterAt : MethodName := ⟨RX0, "letterAt", "(II)I"⟩
abbrev cX0_numberAt : ByteArray := prog_2_method_19_code
def yX0_numberAt : MethodName := ⟨RX0, "numberAt", "(II)I"⟩
abbrev cX0_setNumber : ByteArray := prog_2_method_20_code
def yX0_setNumber : MethodName := ⟨RX0, "setNumber", "(III)V"⟩
abbrev cX0_beginOf : ByteArray := prog_2_method_21_code
def yX0_beginOf : MethodName := ⟨RX0, "beginOf", "(I)I"⟩
abbrev cX0_endOf : ByteArray := prog_2_method_22_code
def yX0_endOf : MethodName := ⟨RX0, "endOf", "(I)I"⟩
abbrev cX0_addEdge : ByteArray := prog_2_method_23_code
def yX0_addEdge : MethodName := ⟨RX0, "addEdge", "(III)V"⟩
abbrev cX0_addFace : ByteArray := prog_2_method_24_code
def yX0_addFace : MethodName := ⟨RX0, "addFace", "(LChainParts$Word;I)V"⟩
abbrev cX0_isSewn : ByteArray := prog_2_method_25_code
def yX0_isSewn : MethodName := ⟨RX0, "isSewn", "(I)Z"⟩
abbrev cX0_removeEdge : ByteArray := prog_2_method_26_code
def yX0_removeEdge : MethodName := ⟨RX0, "removeEdge", "(I)V"⟩
abbrev cX0_lowerLettersBehind : ByteArray := prog_2_method_27_code
def yX0_lowerLettersBehind : MethodName := ⟨RX0, "lowerLettersBehind", "(I)V"⟩
abbrev cX0_removeFace : ByteArray := prog_2_method_28_code
def yX0_removeFace : MethodName := ⟨RX0, "removeFace", "(I)V"⟩
abbrev cX0_isOfKind : ByteArray := prog_2_method_29_code
def yX0_isOfKind : MethodName := ⟨RX0, "isOfKind", "(III)Z"⟩
abbrev cX0_isSealed : ByteArray := prog_2_method_30_code
def yX0_isSealed : MethodName := ⟨RX0, "isSealed", "(I)Z"⟩
abbrev cX0_entryOf : ByteArray := prog_2_method_31_code
def yX0_entryOf : MethodName := ⟨RX0, "entryOf", "(III)I"⟩
abbrev cX0_nearOf : ByteArray := prog_2_method_32_code
def yX0_nearOf : MethodName := ⟨RX0, "nearOf", "(III)I"⟩
abbrev cX0_numbersNotZero : ByteArray := prog_2_method_33_code
def yX0_numbersNotZero : MethodName := ⟨RX0, "numbersNotZero", "(I)I"⟩
abbrev cX0_boundaryAt : ByteArray := prog_2_method_34_code
def yX0_boundaryAt : MethodName := ⟨RX0, "boundaryAt", "(II)I"⟩
abbrev cX0_isCycle : ByteArray := prog_2_method_35_code
def yX0_isCycle : MethodName := ⟨RX0, "isCycle", "(I)Z"⟩
def RX1 : String := "ChainParts$Grid"
def TX1 : u_T := fun k => match k with
  | 0 => ("ChainParts$Grid", "values", "[[J", true)
  | 1 => ("ChainParts$Grid", "minorRow", "[J", true)
  | 2 => ("ChainParts$Grid", "rows", "I", false)
  | _ => ("ChainParts$Grid", "columns", "I", false)
def tyX1 : Nat → FieldType := fun k => match k with
  | 0 => .array (.array .long)
  | 1 => .array .long
  | 2 => .int
  | _ => .int
set_option maxRecDepth 20000 in
theorem nmX1 : ∀ a, a < 4 → ∀ b, b < 4 → a ≠ b → (TX1 a).2.1 ≠ (TX1 b).2.1 := by decide +kernel
set_option maxRecDepth 20000 in
theorem tyX1_ok : ∀ k, k < 4 → parseFieldDescriptor (TX1 k).2.2.1 = some (tyX1 k) := by decide +kernel
abbrev cX1_init : ByteArray := prog_3_method_1_code
def yX1_init : MethodName := ⟨RX1, "<init>", "()V"⟩
abbrev cX1_loadTable : ByteArray := prog_3_method_2_code
def yX1_loadTable : MethodName := ⟨RX1, "loadTable", "(LChainParts$Cells;I)V"⟩
abbrev cX1_loadNear : ByteArray := prog_3_method_3_code
def yX1_loadNear : MethodName := ⟨RX1, "loadNear", "(LChainParts$Cells;I)V"⟩
abbrev cX1_addChain : ByteArray := prog_3_method_4_code
def yX1_addChain : MethodName := ⟨RX1, "addChain", "(LChainParts$Cells;I)V"⟩
abbrev cX1_allColumns : ByteArray := prog_3_method_5_code
def yX1_allColumns : MethodName := ⟨RX1, "allColumns", "()I"⟩
abbrev cX1_minorOf : ByteArray := prog_3_method_6_code
def yX1_minorOf : MethodName := ⟨RX1, "minorOf", "(II)J"⟩
abbrev cX1_fillMinors : ByteArray := prog_3_method_7_code
def yX1_fillMinors : MethodName := ⟨RX1, "fillMinors", "()V"⟩
abbrev cX1_expandedMinor : ByteArray := prog_3_method_8_code
def yX1_expandedMinor : MethodName := ⟨RX1, "expandedMinor", "(II)J"⟩
abbrev cX1_rankBy : ByteArray := prog_3_method_9_code
def yX1_rankBy : MethodName := ⟨RX1, "rankBy", "(II)I"⟩
abbrev cX1_isZero : ByteArray := prog_3_method_10_code
def yX1_isZero : MethodName := ⟨RX1, "isZero", "(JI)Z"⟩
abbrev cX1_divisorOfMinors : ByteArray := prog_3_method_11_code
def yX1_divisorOfMinors : MethodName := ⟨RX1, "divisorOfMinors", "(II)J"⟩
def RX2 : String := "ChainParts$Split"
def TX2 : u_T := fun k => match k with
  | 0 => ("ChainParts$Split", "above", "[J", true)
  | 1 => ("ChainParts$Split", "below", "J", false)
  | 2 => ("ChainParts$Split", "edges", "I", false)
  | 3 => ("ChainParts$Split", "numbers", "[J", true)
  | 4 => ("ChainParts$Split", "measure", "[J", true)
  | 5 => ("ChainParts$Split", "rays", "[[J", true)
  | 6 => ("ChainParts$Split", "rayCount", "I", false)
  | 7 => ("ChainParts$Split", "system", "[[J", true)
  | 8 => ("ChainParts$Split", "shadow", "[J", true)
  | _ => ("ChainParts$Split", "shadowBelow", "J", false)
def tyX2 : Nat → FieldType := fun k => match k with
  | 0 => .array .long
  | 1 => .long
  | 2 => .int
  | 3 => .array .long
  | 4 => .array .long
  | 5 => .array (.array .long)
  | 6 => .int
  | 7 => .array (.array .long)
  | 8 => .array .long
  | _ => .long
set_option maxRecDepth 20000 in
theorem nmX2 : ∀ a, a < 10 → ∀ b, b < 10 → a ≠ b → (TX2 a).2.1 ≠ (TX2 b).2.1 := by decide +kernel
set_option maxRecDepth 20000 in
theorem tyX2_ok : ∀ k, k < 10 → parseFieldDescriptor (TX2 k).2.2.1 = some (tyX2 k) := by decide +kernel
abbrev cX2_init : ByteArray := prog_4_method_1_code
def yX2_init : MethodName := ⟨RX2, "<init>", "()V"⟩
abbrev cX2_aboveAt : ByteArray := prog_4_method_2_code
def yX2_aboveAt : MethodName := ⟨RX2, "aboveAt", "(I)J"⟩
abbrev cX2_below : ByteArray := prog_4_method_3_code
def yX2_below : MethodName := ⟨RX2, "below", "()J"⟩
abbrev cX2_lengthAbove : ByteArray := prog_4_method_4_code
def yX2_lengthAbove : MethodName := ⟨RX2, "lengthAbove", "()J"⟩
abbrev cX2_take : ByteArray := prog_4_method_5_code
def yX2_take : MethodName := ⟨RX2, "take", "(LChainParts$Cells;II)V"⟩
abbrev cX2_loadChain : ByteArray := prog_4_method_6_code
def yX2_loadChain : MethodName := ⟨RX2, "loadChain", "(LChainParts$Cells;I)V"⟩
abbrev cX2_loadRays : ByteArray := prog_4_method_7_code
def yX2_loadRays : MethodName := ⟨RX2, "loadRays", "(LChainParts$Cells;I)V"⟩
abbrev cX2_castShadow : ByteArray := prog_4_method_8_code
def yX2_castShadow : MethodName := ⟨RX2, "castShadow", "()V"⟩
abbrev cX2_fillSystem : ByteArray := prog_4_method_9_code
def yX2_fillSystem : MethodName := ⟨RX2, "fillSystem", "()V"⟩
abbrev cX2_product : ByteArray := prog_4_method_10_code
def yX2_product : MethodName := ⟨RX2, "product", "([J[J)J"⟩
abbrev cX2_solveSystem : ByteArray := prog_4_method_11_code
def yX2_solveSystem : MethodName := ⟨RX2, "solveSystem", "()V"⟩
abbrev cX2_eliminate : ByteArray := prog_4_method_12_code
def yX2_eliminate : MethodName := ⟨RX2, "eliminate", "(IIJ)V"⟩
abbrev cX2_lowerShadow : ByteArray := prog_4_method_13_code
def yX2_lowerShadow : MethodName := ⟨RX2, "lowerShadow", "()V"⟩
abbrev cX2_takeShadowAway : ByteArray := prog_4_method_14_code
def yX2_takeShadowAway : MethodName := ⟨RX2, "takeShadowAway", "()V"⟩
def RX3 : String := "ChainParts$Tape"
def TX3 : u_T := fun k => match k with
  | 0 => ("ChainParts$Tape", "bytes", "[I", true)
  | 1 => ("ChainParts$Tape", "size", "I", false)
  | 2 => ("ChainParts$Tape", "place", "I", false)
  | _ => ("ChainParts$Tape", "faultRead", "I", false)
def tyX3 : Nat → FieldType := fun k => match k with
  | 0 => .array .int
  | 1 => .int
  | 2 => .int
  | _ => .int
set_option maxRecDepth 20000 in
theorem nmX3 : ∀ a, a < 4 → ∀ b, b < 4 → a ≠ b → (TX3 a).2.1 ≠ (TX3 b).2.1 := by decide +kernel
set_option maxRecDepth 20000 in
theorem tyX3_ok : ∀ k, k < 4 → parseFieldDescriptor (TX3 k).2.2.1 = some (tyX3 k) := by decide +kernel
abbrev cX3_init : ByteArray := prog_5_method_1_code
def yX3_init : MethodName := ⟨RX3, "<init>", "()V"⟩
abbrev cX3_append : ByteArray := prog_5_method_2_code
def yX3_append : MethodName := ⟨RX3, "append", "(I)Z"⟩
abbrev cX3_clear : ByteArray := prog_5_method_3_code
def yX3_clear : MethodName := ⟨RX3, "clear", "()V"⟩
abbrev cX3_size : ByteArray := prog_5_method_4_code
def yX3_size : MethodName := ⟨RX3, "size", "()I"⟩
abbrev cX3_place : ByteArray := prog_5_method_5_code
def yX3_place : MethodName := ⟨RX3, "place", "()I"⟩
abbrev cX3_faultRead : ByteArray := prog_5_method_6_code
def yX3_faultRead : MethodName := ⟨RX3, "faultRead", "()I"⟩
abbrev cX3_token : ByteArray := prog_5_method_7_code
def yX3_token : MethodName := ⟨RX3, "token", "(I)I"⟩
abbrev cX3_readWord : ByteArray := prog_5_method_8_code
def yX3_readWord : MethodName := ⟨RX3, "readWord", "(LChainParts$Cells;LChainParts$Word;)Z"⟩
abbrev cX3_readComplex : ByteArray := prog_5_method_9_code
def yX3_readComplex : MethodName := ⟨RX3, "readComplex", "(LChainParts$Cells;LChainParts$Word;)Z"⟩
abbrev cX3_readEdge : ByteArray := prog_5_method_10_code
def yX3_readEdge : MethodName := ⟨RX3, "readEdge", "(LChainParts$Cells;)V"⟩
abbrev cX3_readFace : ByteArray := prog_5_method_11_code
def yX3_readFace : MethodName := ⟨RX3, "readFace", "(LChainParts$Cells;LChainParts$Word;)V"⟩
abbrev cX3_takeSign : ByteArray := prog_5_method_12_code
def yX3_takeSign : MethodName := ⟨RX3, "takeSign", "(I)V"⟩
abbrev cX3_takeDigit : ByteArray := prog_5_method_13_code
def yX3_takeDigit : MethodName := ⟨RX3, "takeDigit", "(II)I"⟩
def RX4 : String := "ChainParts$Word"
def TX4 : u_T := fun k => match k with
  | 0 => ("ChainParts$Word", "letters", "[I", true)
  | _ => ("ChainParts$Word", "size", "I", false)
def tyX4 : Nat → FieldType := fun k => match k with
  | 0 => .array .int
  | _ => .int
set_option maxRecDepth 20000 in
theorem nmX4 : ∀ a, a < 2 → ∀ b, b < 2 → a ≠ b → (TX4 a).2.1 ≠ (TX4 b).2.1 := by decide +kernel
set_option maxRecDepth 20000 in
theorem tyX4_ok : ∀ k, k < 2 → parseFieldDescriptor (TX4 k).2.2.1 = some (tyX4 k) := by decide +kernel
abbrev cX4_init : ByteArray := prog_6_method_1_code
def yX4_init : MethodName := ⟨RX4, "<init>", "()V"⟩
abbrev cX4_isBackward : ByteArray := prog_6_method_2_code
def yX4_isBackward : MethodName := ⟨RX4, "isBackward", "(I)Z"⟩
abbrev cX4_edgeOf : ByteArray := prog_6_method_3_code
def yX4_edgeOf : MethodName := ⟨RX4, "edgeOf", "(I)I"⟩
abbrev cX4_clear : ByteArray := prog_6_method_4_code
def yX4_clear : MethodName := ⟨RX4, "clear", "()V"⟩
abbrev cX4_size : ByteArray := prog_6_method_5_code
def yX4_size : MethodName := ⟨RX4, "size", "()I"⟩
abbrev cX4_letterAt : ByteArray := prog_6_method_6_code
def yX4_letterAt : MethodName := ⟨RX4, "letterAt", "(I)I"⟩
abbrev cX4_append : ByteArray := prog_6_method_7_code
def yX4_append : MethodName := ⟨RX4, "append", "(LChainParts$Cells;I)Z"⟩
abbrev cX4_isClosed : ByteArray := prog_6_method_8_code
def yX4_isClosed : MethodName := ⟨RX4, "isClosed", "(LChainParts$Cells;)Z"⟩
def RX5 : String := "ChainParts"
def TX5 : u_T := fun k => match k with
  | 0 => ("ChainParts", "cells", "LChainParts$Cells;", true)
  | 1 => ("ChainParts", "fresh", "LChainParts$Cells;", true)
  | 2 => ("ChainParts", "tape", "LChainParts$Tape;", true)
  | 3 => ("ChainParts", "word", "LChainParts$Word;", true)
  | 4 => ("ChainParts", "grid", "LChainParts$Grid;", true)
  | 5 => ("ChainParts", "split", "LChainParts$Split;", true)
  | 6 => ("ChainParts", "kept", "[[I", true)
  | 7 => ("ChainParts", "images", "[[I", true)
  | 8 => ("ChainParts", "newest", "I", false)
  | 9 => ("ChainParts", "acts", "I", false)
  | _ => ("ChainParts", "latestFault", "I", false)
def tyX5 : Nat → FieldType := fun k => match k with
  | 0 => .object "ChainParts$Cells"
  | 1 => .object "ChainParts$Cells"
  | 2 => .object "ChainParts$Tape"
  | 3 => .object "ChainParts$Word"
  | 4 => .object "ChainParts$Grid"
  | 5 => .object "ChainParts$Split"
  | 6 => .array (.array .int)
  | 7 => .array (.array .int)
  | 8 => .int
  | 9 => .int
  | _ => .int
set_option maxRecDepth 20000 in
theorem nmX5 : ∀ a, a < 11 → ∀ b, b < 11 → a ≠ b → (TX5 a).2.1 ≠ (TX5 b).2.1 := by decide +kernel
set_option maxRecDepth 20000 in
theorem tyX5_ok : ∀ k, k < 11 → parseFieldDescriptor (TX5 k).2.2.1 = some (tyX5 k) := by decide +kernel
abbrev cX5_init : ByteArray := prog_1_method_1_code
def yX5_init : MethodName := ⟨RX5, "<init>", "()V"⟩
abbrev cX5_feed : ByteArray := prog_1_method_2_code
def yX5_feed : MethodName := ⟨RX5, "feed", "(I)I"⟩
abbrev cX5_complex : ByteArray := prog_1_method_3_code
def yX5_complex : MethodName := ⟨RX5, "complex", "()I"⟩
abbrev cX5_fault : ByteArray := prog_1_method_4_code
def yX5_fault : MethodName := ⟨RX5, "fault", "()I"⟩
abbrev cX5_undo : ByteArray := prog_1_method_5_code
def yX5_undo : MethodName := ⟨RX5, "undo", "()I"⟩
abbrev cX5_weigh : ByteArray := prog_1_method_6_code
def yX5_weigh : MethodName := ⟨RX5, "weigh", "(III)I"⟩
abbrev cX5_edge : ByteArray := prog_1_method_7_code
def yX5_edge : MethodName := ⟨RX5, "edge", "(III)I"⟩
abbrev cX5_face : ByteArray := prog_1_method_8_code
def yX5_face : MethodName := ⟨RX5, "face", "(I)I"⟩
abbrev cX5_drop : ByteArray := prog_1_method_9_code
def yX5_drop : MethodName := ⟨RX5, "drop", "(II)I"⟩
abbrev cX5_put : ByteArray := prog_1_method_10_code
def yX5_put : MethodName := ⟨RX5, "put", "(III)I"⟩
abbrev cX5_bound : ByteArray := prog_1_method_11_code
def yX5_bound : MethodName := ⟨RX5, "bound", "(III)I"⟩
abbrev cX5_drawn : ByteArray := prog_1_method_12_code
def yX5_drawn : MethodName := ⟨RX5, "drawn", "(II)I"⟩
abbrev cX5_cell : ByteArray := prog_1_method_13_code
def yX5_cell : MethodName := ⟨RX5, "cell", "(III)I"⟩
abbrev cX5_as : ByteArray := prog_1_method_14_code
def yX5_as : MethodName := ⟨RX5, "as", "(III)I"⟩
abbrev cX5_table : ByteArray := prog_1_method_15_code
def yX5_table : MethodName := ⟨RX5, "table", "(III)I"⟩
abbrev cX5_near : ByteArray := prog_1_method_16_code
def yX5_near : MethodName := ⟨RX5, "near", "(III)I"⟩
abbrev cX5_rank : ByteArray := prog_1_method_17_code
def yX5_rank : MethodName := ⟨RX5, "rank", "(II)I"⟩
abbrev cX5_holes : ByteArray := prog_1_method_18_code
def yX5_holes : MethodName := ⟨RX5, "holes", "(II)I"⟩
abbrev cX5_twist : ByteArray := prog_1_method_19_code
def yX5_twist : MethodName := ⟨RX5, "twist", "(II)I"⟩
abbrev cX5_chain : ByteArray := prog_1_method_20_code
def yX5_chain : MethodName := ⟨RX5, "chain", "(II)I"⟩
abbrev cX5_ends : ByteArray := prog_1_method_21_code
def yX5_ends : MethodName := ⟨RX5, "ends", "(II)I"⟩
abbrev cX5_whole : ByteArray := prog_1_method_22_code
def yX5_whole : MethodName := ⟨RX5, "whole", "(II)I"⟩
abbrev cX5_part : ByteArray := prog_1_method_23_code
def yX5_part : MethodName := ⟨RX5, "part", "(IIII)J"⟩
abbrev cX5_length : ByteArray := prog_1_method_24_code
def yX5_length : MethodName := ⟨RX5, "length", "(III)J"⟩
abbrev cX5_share : ByteArray := prog_1_method_25_code
def yX5_share : MethodName := ⟨RX5, "share", "(II)I"⟩
abbrev cX5_trees : ByteArray := prog_1_method_26_code
def yX5_trees : MethodName := ⟨RX5, "trees", "(II)J"⟩
abbrev cX5_minors : ByteArray := prog_1_method_27_code
def yX5_minors : MethodName := ⟨RX5, "minors", "(I)J"⟩
abbrev cX5_image : ByteArray := prog_1_method_28_code
def yX5_image : MethodName := ⟨RX5, "image", "(I)I"⟩
abbrev cX5_restore : ByteArray := prog_1_method_29_code
def yX5_restore : MethodName := ⟨RX5, "restore", "(I)I"⟩
abbrev cX5_count : ByteArray := prog_1_method_30_code
def yX5_count : MethodName := ⟨RX5, "count", "(I)I"⟩
abbrev cX5_keepAct : ByteArray := prog_1_method_31_code
def yX5_keepAct : MethodName := ⟨RX5, "keepAct", "()V"⟩
abbrev cX5_tableRank : ByteArray := prog_1_method_32_code
def yX5_tableRank : MethodName := ⟨RX5, "tableRank", "(II)I"⟩
abbrev cX5_orderOf : ByteArray := prog_1_method_33_code
def yX5_orderOf : MethodName := ⟨RX5, "orderOf", "(I)J"⟩
abbrev cX5_treeCount : ByteArray := prog_1_method_34_code
def yX5_treeCount : MethodName := ⟨RX5, "treeCount", "(IIJ)J"⟩
abbrev cX5_lowestTerm : ByteArray := prog_1_method_35_code
def yX5_lowestTerm : MethodName := ⟨RX5, "lowestTerm", "(JJI)J"⟩
abbrev cX5_gcd : ByteArray := prog_1_method_36_code
def yX5_gcd : MethodName := ⟨RX5, "gcd", "(JJ)J"⟩
abbrev cX5_isUpperCell : ByteArray := prog_1_method_37_code
def yX5_isUpperCell : MethodName := ⟨RX5, "isUpperCell", "(II)Z"⟩
abbrev cX5_isWithin : ByteArray := prog_1_method_38_code
def yX5_isWithin : MethodName := ⟨RX5, "isWithin", "(II)Z"⟩
abbrev cX5_isChain : ByteArray := prog_1_method_39_code
def yX5_isChain : MethodName := ⟨RX5, "isChain", "(I)Z"⟩
abbrev cX5_isWeight : ByteArray := prog_1_method_40_code
def yX5_isWeight : MethodName := ⟨RX5, "isWeight", "(I)Z"⟩
abbrev cX5_isNumber : ByteArray := prog_1_method_41_code
def yX5_isNumber : MethodName := ⟨RX5, "isNumber", "(I)Z"⟩
abbrev cX5_isSide : ByteArray := prog_1_method_42_code
def yX5_isSide : MethodName := ⟨RX5, "isSide", "(I)Z"⟩
abbrev cX5_isField : ByteArray := prog_1_method_43_code
def yX5_isField : MethodName := ⟨RX5, "isField", "(I)Z"⟩
def RX6 : String := "ChainPartsModel"
def TX6 : u_T := fun k => match k with
  | 0 => ("ChainPartsModel", "now", "[I", true)
  | 1 => ("ChainPartsModel", "draft", "[I", true)
  | 2 => ("ChainPartsModel", "past", "[I", true)
  | 3 => ("ChainPartsModel", "acts", "I", false)
  | 4 => ("ChainPartsModel", "images", "[I", true)
  | 5 => ("ChainPartsModel", "kept", "[Z", true)
  | 6 => ("ChainPartsModel", "tape", "[I", true)
  | 7 => ("ChainPartsModel", "taped", "I", false)
  | 8 => ("ChainPartsModel", "at", "I", false)
  | 9 => ("ChainPartsModel", "start", "I", false)
  | 10 => ("ChainPartsModel", "token", "I", false)
  | 11 => ("ChainPartsModel", "value", "I", false)
  | 12 => ("ChainPartsModel", "fault", "I", false)
  | 13 => ("ChainPartsModel", "place", "I", false)
  | 14 => ("ChainPartsModel", "latest", "I", false)
  | 15 => ("ChainPartsModel", "m", "[J", true)
  | 16 => ("ChainPartsModel", "solved", "[J", true)
  | 17 => ("ChainPartsModel", "under", "J", false)
  | 18 => ("ChainPartsModel", "above", "[J", true)
  | 19 => ("ChainPartsModel", "below", "[J", true)
  | 20 => ("ChainPartsModel", "boundAbove", "[J", true)
  | 21 => ("ChainPartsModel", "boundBelow", "[J", true)
  | 22 => ("ChainPartsModel", "lengthAbove", "J", false)
  | _ => ("ChainPartsModel", "lengthBelow", "J", false)
def tyX6 : Nat → FieldType := fun k => match k with
  | 0 => .array .int
  | 1 => .array .int
  | 2 => .array .int
  | 3 => .int
  | 4 => .array .int
  | 5 => .array .boolean
  | 6 => .array .int
  | 7 => .int
  | 8 => .int
  | 9 => .int
  | 10 => .int
  | 11 => .int
  | 12 => .int
  | 13 => .int
  | 14 => .int
  | 15 => .array .long
  | 16 => .array .long
  | 17 => .long
  | 18 => .array .long
  | 19 => .array .long
  | 20 => .array .long
  | 21 => .array .long
  | 22 => .long
  | _ => .long
set_option maxRecDepth 20000 in
theorem nmX6 : ∀ a, a < 24 → ∀ b, b < 24 → a ≠ b → (TX6 a).2.1 ≠ (TX6 b).2.1 := by decide +kernel
set_option maxRecDepth 20000 in
theorem tyX6_ok : ∀ k, k < 24 → parseFieldDescriptor (TX6 k).2.2.1 = some (tyX6 k) := by decide +kernel
abbrev cX6_init : ByteArray := prog_8_method_1_code
def yX6_init : MethodName := ⟨RX6, "<init>", "()V"⟩
abbrev cX6_in : ByteArray := prog_8_method_3_code
def yX6_in : MethodName := ⟨RX6, "in", "(JJJ)Z"⟩
abbrev cX6_has : ByteArray := prog_8_method_4_code
def yX6_has : MethodName := ⟨RX6, "has", "(II)Z"⟩
abbrev cX6_ones : ByteArray := prog_8_method_5_code
def yX6_ones : MethodName := ⟨RX6, "ones", "(I)I"⟩
abbrev cX6_gcd : ByteArray := prog_8_method_6_code
def yX6_gcd : MethodName := ⟨RX6, "gcd", "(JJ)J"⟩
abbrev cX6_copies : ByteArray := prog_8_method_7_code
def yX6_copies : MethodName := ⟨RX6, "copies", "([II[II)V"⟩
abbrev cX6_isComplex : ByteArray := prog_8_method_8_code
def yX6_isComplex : MethodName := ⟨RX6, "isComplex", "()Z"⟩
abbrev cX6_edgeAt : ByteArray := prog_8_method_9_code
def yX6_edgeAt : MethodName := ⟨RX6, "edgeAt", "([III)I"⟩
abbrev cX6_weight : ByteArray := prog_8_method_10_code
def yX6_weight : MethodName := ⟨RX6, "weight", "([III)I"⟩
abbrev cX6_letter : ByteArray := prog_8_method_11_code
def yX6_letter : MethodName := ⟨RX6, "letter", "([III)I"⟩
abbrev cX6_many : ByteArray := prog_8_method_12_code
def yX6_many : MethodName := ⟨RX6, "many", "([II)I"⟩
abbrev cX6_edgeOf : ByteArray := prog_8_method_13_code
def yX6_edgeOf : MethodName := ⟨RX6, "edgeOf", "(I)I"⟩
abbrev cX6_beginOf : ByteArray := prog_8_method_14_code
def yX6_beginOf : MethodName := ⟨RX6, "beginOf", "([II)I"⟩
abbrev cX6_endOf : ByteArray := prog_8_method_15_code
def yX6_endOf : MethodName := ⟨RX6, "endOf", "([II)I"⟩
abbrev cX6_one : ByteArray := prog_8_method_16_code
def yX6_one : MethodName := ⟨RX6, "one", "(II)I"⟩
abbrev cX6_two : ByteArray := prog_8_method_17_code
def yX6_two : MethodName := ⟨RX6, "two", "(II)I"⟩
abbrev cX6_rows : ByteArray := prog_8_method_18_code
def yX6_rows : MethodName := ⟨RX6, "rows", "(I)I"⟩
abbrev cX6_columns : ByteArray := prog_8_method_19_code
def yX6_columns : MethodName := ⟨RX6, "columns", "(I)I"⟩
abbrev cX6_entry : ByteArray := prog_8_method_20_code
def yX6_entry : MethodName := ⟨RX6, "entry", "(III)I"⟩
abbrev cX6_nearBy : ByteArray := prog_8_method_21_code
def yX6_nearBy : MethodName := ⟨RX6, "nearBy", "(III)I"⟩
abbrev cX6_swaps : ByteArray := prog_8_method_22_code
def yX6_swaps : MethodName := ⟨RX6, "swaps", "(II)V"⟩
abbrev cX6_determinant : ByteArray := prog_8_method_23_code
def yX6_determinant : MethodName := ⟨RX6, "determinant", "(I)J"⟩
abbrev cX6_inverse : ByteArray := prog_8_method_24_code
def yX6_inverse : MethodName := ⟨RX6, "inverse", "(JI)J"⟩
abbrev cX6_rankBy : ByteArray := prog_8_method_25_code
def yX6_rankBy : MethodName := ⟨RX6, "rankBy", "(III)I"⟩
abbrev cX6_clears : ByteArray := prog_8_method_26_code
def yX6_clears : MethodName := ⟨RX6, "clears", "(IIII)V"⟩
abbrev cX6_lays : ByteArray := prog_8_method_27_code
def yX6_lays : MethodName := ⟨RX6, "lays", "(I)V"⟩
abbrev cX6_wide : ByteArray := prog_8_method_28_code
def yX6_wide : MethodName := ⟨RX6, "wide", "(IIII)I"⟩
abbrev cX6_nth : ByteArray := prog_8_method_29_code
def yX6_nth : MethodName := ⟨RX6, "nth", "(II)I"⟩
abbrev cX6_minor : ByteArray := prog_8_method_30_code
def yX6_minor : MethodName := ⟨RX6, "minor", "(IIII)J"⟩
abbrev cX6_minorsOf : ByteArray := prog_8_method_31_code
def yX6_minorsOf : MethodName := ⟨RX6, "minorsOf", "(IIII)J"⟩
abbrev cX6_rankOf : ByteArray := prog_8_method_32_code
def yX6_rankOf : MethodName := ⟨RX6, "rankOf", "(III)I"⟩
abbrev cX6_allColumns : ByteArray := prog_8_method_33_code
def yX6_allColumns : MethodName := ⟨RX6, "allColumns", "(I)I"⟩
abbrev cX6_rankAll : ByteArray := prog_8_method_34_code
def yX6_rankAll : MethodName := ⟨RX6, "rankAll", "(I)I"⟩
abbrev cX6_byteAt : ByteArray := prog_8_method_35_code
def yX6_byteAt : MethodName := ⟨RX6, "byteAt", "(I)I"⟩
abbrev cX6_reads : ByteArray := prog_8_method_36_code
def yX6_reads : MethodName := ⟨RX6, "reads", "()V"⟩
abbrev cX6_bad : ByteArray := prog_8_method_37_code
def yX6_bad : MethodName := ⟨RX6, "bad", "(I)V"⟩
abbrev cX6_goesOn : ByteArray := prog_8_method_38_code
def yX6_goesOn : MethodName := ⟨RX6, "goesOn", "()V"⟩
abbrev cX6_digit : ByteArray := prog_8_method_39_code
def yX6_digit : MethodName := ⟨RX6, "digit", "(II)I"⟩
abbrev cX6_isLetter : ByteArray := prog_8_method_40_code
def yX6_isLetter : MethodName := ⟨RX6, "isLetter", "(I)Z"⟩
abbrev cX6_isStop : ByteArray := prog_8_method_41_code
def yX6_isStop : MethodName := ⟨RX6, "isStop", "()Z"⟩
abbrev cX6_stop : ByteArray := prog_8_method_42_code
def yX6_stop : MethodName := ⟨RX6, "stop", "()V"⟩
abbrev cX6_told : ByteArray := prog_8_method_43_code
def yX6_told : MethodName := ⟨RX6, "told", "([II)I"⟩
abbrev cX6_isNext : ByteArray := prog_8_method_44_code
def yX6_isNext : MethodName := ⟨RX6, "isNext", "([III)Z"⟩
abbrev cX6_isClosed : ByteArray := prog_8_method_45_code
def yX6_isClosed : MethodName := ⟨RX6, "isClosed", "([II)Z"⟩
abbrev cX6_spells : ByteArray := prog_8_method_46_code
def yX6_spells : MethodName := ⟨RX6, "spells", "([III)V"⟩
abbrev cX6_readsEdge : ByteArray := prog_8_method_47_code
def yX6_readsEdge : MethodName := ⟨RX6, "readsEdge", "()V"⟩
abbrev cX6_laysEdge : ByteArray := prog_8_method_48_code
def yX6_laysEdge : MethodName := ⟨RX6, "laysEdge", "([IIII)V"⟩
abbrev cX6_readsFace : ByteArray := prog_8_method_49_code
def yX6_readsFace : MethodName := ⟨RX6, "readsFace", "()V"⟩
abbrev cX6_feed : ByteArray := prog_8_method_50_code
def yX6_feed : MethodName := ⟨RX6, "feed", "(I)I"⟩
abbrev cX6_complex : ByteArray := prog_8_method_51_code
def yX6_complex : MethodName := ⟨RX6, "complex", "()I"⟩
abbrev cX6_fault : ByteArray := prog_8_method_52_code
def yX6_fault : MethodName := ⟨RX6, "fault", "()I"⟩
abbrev cX6_notes : ByteArray := prog_8_method_53_code
def yX6_notes : MethodName := ⟨RX6, "notes", "()V"⟩
abbrev cX6_undo : ByteArray := prog_8_method_54_code
def yX6_undo : MethodName := ⟨RX6, "undo", "()I"⟩
abbrev cX6_isCell : ByteArray := prog_8_method_55_code
def yX6_isCell : MethodName := ⟨RX6, "isCell", "(II)Z"⟩
abbrev cX6_isChain : ByteArray := prog_8_method_56_code
def yX6_isChain : MethodName := ⟨RX6, "isChain", "(I)Z"⟩
abbrev cX6_weigh : ByteArray := prog_8_method_57_code
def yX6_weigh : MethodName := ⟨RX6, "weigh", "(III)I"⟩
abbrev cX6_edge : ByteArray := prog_8_method_58_code
def yX6_edge : MethodName := ⟨RX6, "edge", "(III)I"⟩
abbrev cX6_isWord : ByteArray := prog_8_method_59_code
def yX6_isWord : MethodName := ⟨RX6, "isWord", "(I)Z"⟩
abbrev cX6_face : ByteArray := prog_8_method_60_code
def yX6_face : MethodName := ⟨RX6, "face", "(I)I"⟩
abbrev cX6_isSpelled : ByteArray := prog_8_method_61_code
def yX6_isSpelled : MethodName := ⟨RX6, "isSpelled", "(I)Z"⟩
abbrev cX6_dropsEdge : ByteArray := prog_8_method_62_code
def yX6_dropsEdge : MethodName := ⟨RX6, "dropsEdge", "(I)V"⟩
abbrev cX6_drop : ByteArray := prog_8_method_63_code
def yX6_drop : MethodName := ⟨RX6, "drop", "(II)I"⟩
abbrev cX6_others : ByteArray := prog_8_method_64_code
def yX6_others : MethodName := ⟨RX6, "others", "(I)I"⟩
abbrev cX6_put : ByteArray := prog_8_method_65_code
def yX6_put : MethodName := ⟨RX6, "put", "(III)I"⟩
abbrev cX6_bound : ByteArray := prog_8_method_66_code
def yX6_bound : MethodName := ⟨RX6, "bound", "(III)I"⟩
abbrev cX6_drawn : ByteArray := prog_8_method_67_code
def yX6_drawn : MethodName := ⟨RX6, "drawn", "(II)I"⟩
abbrev cX6_code : ByteArray := prog_8_method_68_code
def yX6_code : MethodName := ⟨RX6, "code", "(I)I"⟩
abbrev cX6_cell : ByteArray := prog_8_method_69_code
def yX6_cell : MethodName := ⟨RX6, "cell", "(III)I"⟩
abbrev cX6_isSealed : ByteArray := prog_8_method_70_code
def yX6_isSealed : MethodName := ⟨RX6, "isSealed", "(I)Z"⟩
abbrev cX6_as : ByteArray := prog_8_method_71_code
def yX6_as : MethodName := ⟨RX6, "as", "(III)I"⟩
abbrev cX6_table : ByteArray := prog_8_method_72_code
def yX6_table : MethodName := ⟨RX6, "table", "(III)I"⟩
abbrev cX6_nearSize : ByteArray := prog_8_method_73_code
def yX6_nearSize : MethodName := ⟨RX6, "nearSize", "(I)I"⟩
abbrev cX6_near : ByteArray := prog_8_method_74_code
def yX6_near : MethodName := ⟨RX6, "near", "(III)I"⟩
abbrev cX6_isPrime : ByteArray := prog_8_method_75_code
def yX6_isPrime : MethodName := ⟨RX6, "isPrime", "(I)Z"⟩
abbrev cX6_rankFor : ByteArray := prog_8_method_76_code
def yX6_rankFor : MethodName := ⟨RX6, "rankFor", "(II)I"⟩
abbrev cX6_rank : ByteArray := prog_8_method_77_code
def yX6_rank : MethodName := ⟨RX6, "rank", "(II)I"⟩
abbrev cX6_holes : ByteArray := prog_8_method_78_code
def yX6_holes : MethodName := ⟨RX6, "holes", "(II)I"⟩
abbrev cX6_twist : ByteArray := prog_8_method_79_code
def yX6_twist : MethodName := ⟨RX6, "twist", "(II)I"⟩
abbrev cX6_chain : ByteArray := prog_8_method_80_code
def yX6_chain : MethodName := ⟨RX6, "chain", "(II)I"⟩
abbrev cX6_endsAt : ByteArray := prog_8_method_81_code
def yX6_endsAt : MethodName := ⟨RX6, "endsAt", "(II)I"⟩
abbrev cX6_ends : ByteArray := prog_8_method_82_code
def yX6_ends : MethodName := ⟨RX6, "ends", "(II)I"⟩
abbrev cX6_isCycle : ByteArray := prog_8_method_83_code
def yX6_isCycle : MethodName := ⟨RX6, "isCycle", "(I)Z"⟩
abbrev cX6_order : ByteArray := prog_8_method_84_code
def yX6_order : MethodName := ⟨RX6, "order", "(I)I"⟩
abbrev cX6_whole : ByteArray := prog_8_method_85_code
def yX6_whole : MethodName := ⟨RX6, "whole", "(II)I"⟩
abbrev cX6_independent : ByteArray := prog_8_method_86_code
def yX6_independent : MethodName := ⟨RX6, "independent", "(I)I"⟩
abbrev cX6_rankOfRows : ByteArray := prog_8_method_87_code
def yX6_rankOfRows : MethodName := ⟨RX6, "rankOfRows", "(I)I"⟩
abbrev cX6_product : ByteArray := prog_8_method_88_code
def yX6_product : MethodName := ⟨RX6, "product", "(III)J"⟩
abbrev cX6_against : ByteArray := prog_8_method_89_code
def yX6_against : MethodName := ⟨RX6, "against", "(III)J"⟩
abbrev cX6_laysProducts : ByteArray := prog_8_method_90_code
def yX6_laysProducts : MethodName := ⟨RX6, "laysProducts", "(II)V"⟩
abbrev cX6_solves : ByteArray := prog_8_method_91_code
def yX6_solves : MethodName := ⟨RX6, "solves", "(III)V"⟩
abbrev cX6_tells : ByteArray := prog_8_method_92_code
def yX6_tells : MethodName := ⟨RX6, "tells", "(IJJ)V"⟩
abbrev cX6_spans : ByteArray := prog_8_method_93_code
def yX6_spans : MethodName := ⟨RX6, "spans", "(II)V"⟩
abbrev cX6_laysPart : ByteArray := prog_8_method_94_code
def yX6_laysPart : MethodName := ⟨RX6, "laysPart", "(II)V"⟩
abbrev cX6_part : ByteArray := prog_8_method_95_code
def yX6_part : MethodName := ⟨RX6, "part", "(IIII)J"⟩
abbrev cX6_measures : ByteArray := prog_8_method_96_code
def yX6_measures : MethodName := ⟨RX6, "measures", "(II)V"⟩
abbrev cX6_length : ByteArray := prog_8_method_97_code
def yX6_length : MethodName := ⟨RX6, "length", "(III)J"⟩
abbrev cX6_share : ByteArray := prog_8_method_98_code
def yX6_share : MethodName := ⟨RX6, "share", "(II)I"⟩
abbrev cX6_counts : ByteArray := prog_8_method_99_code
def yX6_counts : MethodName := ⟨RX6, "counts", "(II)J"⟩
abbrev cX6_trees : ByteArray := prog_8_method_100_code
def yX6_trees : MethodName := ⟨RX6, "trees", "(II)J"⟩
abbrev cX6_minors : ByteArray := prog_8_method_101_code
def yX6_minors : MethodName := ⟨RX6, "minors", "(I)J"⟩
abbrev cX6_image : ByteArray := prog_8_method_102_code
def yX6_image : MethodName := ⟨RX6, "image", "(I)I"⟩
abbrev cX6_restore : ByteArray := prog_8_method_103_code
def yX6_restore : MethodName := ⟨RX6, "restore", "(I)I"⟩
abbrev cX6_count : ByteArray := prog_8_method_104_code
def yX6_count : MethodName := ⟨RX6, "count", "(I)I"⟩
def RJ6 : String := "java/lang/Integer"
def TJ6 : u_T := fun k => match k with
  | _ => ("", "", "", false)
def tyJ6 : Nat → FieldType := fun k => match k with
  | _ => .int
set_option maxRecDepth 20000 in
theorem nmJ6 : ∀ a, a < 0 → ∀ b, b < 0 → a ≠ b → (TJ6 a).2.1 ≠ (TJ6 b).2.1 := by decide +kernel
set_option maxRecDepth 20000 in
theorem tyJ6_ok : ∀ k, k < 0 → parseFieldDescriptor (TJ6 k).2.2.1 = some (tyJ6 k) := by decide +kernel
abbrev cJ6_bitCount_0f7a4 : ByteArray := prog_9_method_49_code
def yJ6_bitCount_0f7a4 : MethodName := ⟨RJ6, "bitCount", "(I)I"⟩
def RJ9 : String := "java/lang/Math"
def TJ9 : u_T := fun k => match k with
  | _ => ("", "", "", false)
def tyJ9 : Nat → FieldType := fun k => match k with
  | _ => .int
set_option maxRecDepth 20000 in
theorem nmJ9 : ∀ a, a < 0 → ∀ b, b < 0 → a ≠ b → (TJ9 a).2.1 ≠ (TJ9 b).2.1 := by decide +kernel
set_option maxRecDepth 20000 in
theorem tyJ9_ok : ∀ k, k < 0 → parseFieldDescriptor (TJ9 k).2.2.1 = some (tyJ9 k) := by decide +kernel
abbrev cJ9_abs_067f4 : ByteArray := prog_10_method_61_code
def yJ9_abs_067f4 : MethodName := ⟨RJ9, "abs", "(J)J"⟩
abbrev cJ9_min_7cf53 : ByteArray := prog_10_method_69_code
def yJ9_min_7cf53 : MethodName := ⟨RJ9, "min", "(II)I"⟩
def RJ10 : String := "java/lang/System"
def TJ10 : u_T := fun k => match k with
  | _ => ("", "", "", false)
def tyJ10 : Nat → FieldType := fun k => match k with
  | _ => .int
set_option maxRecDepth 20000 in
theorem nmJ10 : ∀ a, a < 0 → ∀ b, b < 0 → a ≠ b → (TJ10 a).2.1 ≠ (TJ10 b).2.1 := by decide +kernel
set_option maxRecDepth 20000 in
theorem tyJ10_ok : ∀ k, k < 0 → parseFieldDescriptor (TJ10 k).2.2.1 = some (tyJ10 k) := by decide +kernel
def RL : String := "ChainPartsLaw"
abbrev cL_law : ByteArray := code
def yL_law : MethodName := ⟨RL, "law", "([I)Z"⟩
abbrev vwCl : List vw_C := [(RX0, TX0, 1), (RX1, TX1, 4), (RX2, TX2, 10), (RX3, TX3, 4), (RX4, TX4, 2), (RX5, TX5, 11), (RX6, TX6, 24)]
/-- a method: its class, name, code, locals, answer, and the room below it (frames, words) -/
abbrev MD : Type := String × MethodName × ByteArray × Nat × Option FieldType × Nat × Nat
abbrev mX0_row : MD := (RX0, yX0_row, cX0_row, 1, some (.array .int), 0, 0)
abbrev mX0_clear : MD := (RX0, yX0_clear, cX0_clear, 2, none, 0, 0)
abbrev mX0_saveTo : MD := (RX0, yX0_saveTo, cX0_saveTo, 2, none, 1, 40)
abbrev mX0_loadFrom : MD := (RX0, yX0_loadFrom, cX0_loadFrom, 2, none, 1, 40)
abbrev mX0_isKeptIn : MD := (RX0, yX0_isKeptIn, cX0_isKeptIn, 1, some .boolean, 0, 0)
abbrev mX0_slot : MD := (RX0, yX0_slot, cX0_slot, 2, some .int, 0, 0)
abbrev mX0_setSlot : MD := (RX0, yX0_setSlot, cX0_setSlot, 3, none, 0, 0)
abbrev mX0_isThere : MD := (RX0, yX0_isThere, cX0_isThere, 1, some .boolean, 2, 42)
abbrev mX0_sizeOf : MD := (RX0, yX0_sizeOf, cX0_sizeOf, 2, some .int, 1, 21)
abbrev mX0_hasCell : MD := (RX0, yX0_hasCell, cX0_hasCell, 3, some .boolean, 2, 42)
abbrev mX0_setPoints : MD := (RX0, yX0_setPoints, cX0_setPoints, 2, none, 1, 22)
abbrev mX0_fromOf : MD := (RX0, yX0_fromOf, cX0_fromOf, 2, some .int, 1, 21)
abbrev mX0_toOf : MD := (RX0, yX0_toOf, cX0_toOf, 2, some .int, 1, 21)
abbrev mX0_weightOf : MD := (RX0, yX0_weightOf, cX0_weightOf, 3, some .int, 1, 21)
abbrev mX0_setWeight : MD := (RX0, yX0_setWeight, cX0_setWeight, 4, none, 1, 22)
abbrev mX0_wordSize : MD := (RX0, yX0_wordSize, cX0_wordSize, 2, some .int, 1, 21)
abbrev mX0_letterAt : MD := (RX0, yX0_letterAt, cX0_letterAt, 3, some .int, 1, 21)
abbrev mX0_numberAt : MD := (RX0, yX0_numberAt, cX0_numberAt, 3, some .int, 1, 21)
abbrev mX0_setNumber : MD := (RX0, yX0_setNumber, cX0_setNumber, 4, none, 1, 22)
abbrev mX0_beginOf : MD := (RX0, yX0_beginOf, cX0_beginOf, 3, some .int, 2, 42)
abbrev mX0_endOf : MD := (RX0, yX0_endOf, cX0_endOf, 3, some .int, 2, 42)
abbrev mX0_addEdge : MD := (RX0, yX0_addEdge, cX0_addEdge, 6, none, 2, 45)
abbrev mX0_addFace : MD := (RX0, yX0_addFace, cX0_addFace, 5, none, 2, 45)
abbrev mX0_isSewn : MD := (RX0, yX0_isSewn, cX0_isSewn, 4, some .boolean, 2, 43)
abbrev mX0_removeEdge : MD := (RX0, yX0_removeEdge, cX0_removeEdge, 5, none, 3, 67)
abbrev mX0_lowerLettersBehind : MD := (RX0, yX0_lowerLettersBehind, cX0_lowerLettersBehind, 5, none, 2, 43)
abbrev mX0_removeFace : MD := (RX0, yX0_removeFace, cX0_removeFace, 5, none, 2, 45)
abbrev mX0_isOfKind : MD := (RX0, yX0_isOfKind, cX0_isOfKind, 4, some .boolean, 4, 91)
abbrev mX0_isSealed : MD := (RX0, yX0_isSealed, cX0_isSealed, 3, some .boolean, 3, 69)
abbrev mX0_entryOf : MD := (RX0, yX0_entryOf, cX0_entryOf, 7, some .int, 2, 43)
abbrev mX0_nearOf : MD := (RX0, yX0_nearOf, cX0_nearOf, 7, some .int, 3, 69)
abbrev mX0_numbersNotZero : MD := (RX0, yX0_numbersNotZero, cX0_numbersNotZero, 4, some .int, 2, 43)
abbrev mX0_boundaryAt : MD := (RX0, yX0_boundaryAt, cX0_boundaryAt, 5, some .int, 3, 69)
abbrev mX0_isCycle : MD := (RX0, yX0_isCycle, cX0_isCycle, 3, some .boolean, 4, 93)
abbrev mX1_loadTable : MD := (RX1, yX1_loadTable, cX1_loadTable, 5, none, 3, 69)
abbrev mX1_loadNear : MD := (RX1, yX1_loadNear, cX1_loadNear, 5, none, 4, 95)
abbrev mX1_addChain : MD := (RX1, yX1_addChain, cX1_addChain, 4, none, 2, 43)
abbrev mX1_allColumns : MD := (RX1, yX1_allColumns, cX1_allColumns, 1, some .int, 0, 0)
abbrev mX1_minorOf : MD := (RX1, yX1_minorOf, cX1_minorOf, 4, some .long, 1, 21)
abbrev mX1_fillMinors : MD := (RX1, yX1_fillMinors, cX1_fillMinors, 5, none, 3, 74)
abbrev mX1_expandedMinor : MD := (RX1, yX1_expandedMinor, cX1_expandedMinor, 11, some .long, 2, 44)
abbrev mX1_rankBy : MD := (RX1, yX1_rankBy, cX1_rankBy, 7, some .int, 2, 44)
abbrev mX1_isZero : MD := (RX1, yX1_isZero, cX1_isZero, 3, some .boolean, 0, 0)
abbrev mX1_divisorOfMinors : MD := (RX1, yX1_divisorOfMinors, cX1_divisorOfMinors, 7, some .long, 2, 51)
abbrev mX2_aboveAt : MD := (RX2, yX2_aboveAt, cX2_aboveAt, 2, some .long, 1, 21)
abbrev mX2_below : MD := (RX2, yX2_below, cX2_below, 1, some .long, 0, 0)
abbrev mX2_lengthAbove : MD := (RX2, yX2_lengthAbove, cX2_lengthAbove, 4, some .long, 0, 0)
abbrev mX2_take : MD := (RX2, yX2_take, cX2_take, 5, none, 4, 98)
abbrev mX2_loadChain : MD := (RX2, yX2_loadChain, cX2_loadChain, 5, none, 2, 43)
abbrev mX2_loadRays : MD := (RX2, yX2_loadRays, cX2_loadRays, 5, none, 3, 69)
abbrev mX2_castShadow : MD := (RX2, yX2_castShadow, cX2_castShadow, 3, none, 3, 76)
abbrev mX2_fillSystem : MD := (RX2, yX2_fillSystem, cX2_fillSystem, 3, none, 1, 25)
abbrev mX2_product : MD := (RX2, yX2_product, cX2_product, 6, some .long, 0, 0)
abbrev mX2_solveSystem : MD := (RX2, yX2_solveSystem, cX2_solveSystem, 7, none, 2, 50)
abbrev mX2_eliminate : MD := (RX2, yX2_eliminate, cX2_eliminate, 10, none, 1, 21)
abbrev mX2_lowerShadow : MD := (RX2, yX2_lowerShadow, cX2_lowerShadow, 4, none, 2, 51)
abbrev mX2_takeShadowAway : MD := (RX2, yX2_takeShadowAway, cX2_takeShadowAway, 2, none, 0, 0)
abbrev mX3_append : MD := (RX3, yX3_append, cX3_append, 2, some .boolean, 1, 21)
abbrev mX3_clear : MD := (RX3, yX3_clear, cX3_clear, 1, none, 0, 0)
abbrev mX3_size : MD := (RX3, yX3_size, cX3_size, 1, some .int, 0, 0)
abbrev mX3_place : MD := (RX3, yX3_place, cX3_place, 1, some .int, 0, 0)
abbrev mX3_faultRead : MD := (RX3, yX3_faultRead, cX3_faultRead, 1, some .int, 0, 0)
abbrev mX3_token : MD := (RX3, yX3_token, cX3_token, 2, some .int, 1, 21)
abbrev mX3_readWord : MD := (RX3, yX3_readWord, cX3_readWord, 4, some .boolean, 4, 86)
abbrev mX3_readComplex : MD := (RX3, yX3_readComplex, cX3_readComplex, 4, some .boolean, 5, 110)
abbrev mX3_readEdge : MD := (RX3, yX3_readEdge, cX3_readEdge, 5, none, 3, 70)
abbrev mX3_readFace : MD := (RX3, yX3_readFace, cX3_readFace, 5, none, 4, 86)
abbrev mX3_takeSign : MD := (RX3, yX3_takeSign, cX3_takeSign, 2, none, 2, 42)
abbrev mX3_takeDigit : MD := (RX3, yX3_takeDigit, cX3_takeDigit, 4, some .int, 2, 42)
abbrev mX4_isBackward : MD := (RX4, yX4_isBackward, cX4_isBackward, 1, some .boolean, 0, 0)
abbrev mX4_edgeOf : MD := (RX4, yX4_edgeOf, cX4_edgeOf, 1, some .int, 0, 0)
abbrev mX4_clear : MD := (RX4, yX4_clear, cX4_clear, 1, none, 0, 0)
abbrev mX4_size : MD := (RX4, yX4_size, cX4_size, 1, some .int, 0, 0)
abbrev mX4_letterAt : MD := (RX4, yX4_letterAt, cX4_letterAt, 2, some .int, 1, 21)
abbrev mX4_append : MD := (RX4, yX4_append, cX4_append, 3, some .boolean, 3, 64)
abbrev mX4_isClosed : MD := (RX4, yX4_isClosed, cX4_isClosed, 2, some .boolean, 3, 64)
abbrev mX5_feed : MD := (RX5, yX5_feed, cX5_feed, 2, some .int, 2, 42)
abbrev mX5_complex : MD := (RX5, yX5_complex, cX5_complex, 2, some .int, 6, 133)
abbrev mX5_fault : MD := (RX5, yX5_fault, cX5_fault, 1, some .int, 0, 0)
abbrev mX5_undo : MD := (RX5, yX5_undo, cX5_undo, 1, some .int, 2, 61)
abbrev mX5_weigh : MD := (RX5, yX5_weigh, cX5_weigh, 5, some .int, 4, 86)
abbrev mX5_edge : MD := (RX5, yX5_edge, cX5_edge, 4, some .int, 3, 81)
abbrev mX5_face : MD := (RX5, yX5_face, cX5_face, 3, some .int, 5, 109)
abbrev mX5_drop : MD := (RX5, yX5_drop, cX5_drop, 3, some .int, 4, 91)
abbrev mX5_put : MD := (RX5, yX5_put, cX5_put, 5, some .int, 3, 81)
abbrev mX5_bound : MD := (RX5, yX5_bound, cX5_bound, 5, some .int, 3, 81)
abbrev mX5_drawn : MD := (RX5, yX5_drawn, cX5_drawn, 6, some .int, 3, 81)
abbrev mX5_cell : MD := (RX5, yX5_cell, cX5_cell, 5, some .int, 4, 86)
abbrev mX5_as : MD := (RX5, yX5_as, cX5_as, 4, some .int, 5, 114)
abbrev mX5_table : MD := (RX5, yX5_table, cX5_table, 4, some .int, 3, 69)
abbrev mX5_near : MD := (RX5, yX5_near, cX5_near, 5, some .int, 4, 95)
abbrev mX5_rank : MD := (RX5, yX5_rank, cX5_rank, 3, some .int, 5, 120)
abbrev mX5_holes : MD := (RX5, yX5_holes, cX5_holes, 5, some .int, 5, 120)
abbrev mX5_twist : MD := (RX5, yX5_twist, cX5_twist, 7, some .int, 4, 98)
abbrev mX5_chain : MD := (RX5, yX5_chain, cX5_chain, 3, some .int, 3, 64)
abbrev mX5_ends : MD := (RX5, yX5_ends, cX5_ends, 3, some .int, 4, 93)
abbrev mX5_whole : MD := (RX5, yX5_whole, cX5_whole, 5, some .int, 5, 124)
abbrev mX5_part : MD := (RX5, yX5_part, cX5_part, 5, some .long, 5, 122)
abbrev mX5_length : MD := (RX5, yX5_length, cX5_length, 4, some .long, 5, 122)
abbrev mX5_share : MD := (RX5, yX5_share, cX5_share, 7, some .int, 5, 122)
abbrev mX5_trees : MD := (RX5, yX5_trees, cX5_trees, 9, some .long, 4, 98)
abbrev mX5_minors : MD := (RX5, yX5_minors, cX5_minors, 6, some .long, 5, 119)
abbrev mX5_image : MD := (RX5, yX5_image, cX5_image, 2, some .int, 3, 62)
abbrev mX5_restore : MD := (RX5, yX5_restore, cX5_restore, 2, some .int, 2, 61)
abbrev mX5_count : MD := (RX5, yX5_count, cX5_count, 2, some .int, 2, 42)
abbrev mX5_keepAct : MD := (RX5, yX5_keepAct, cX5_keepAct, 1, none, 2, 61)
abbrev mX5_tableRank : MD := (RX5, yX5_tableRank, cX5_tableRank, 3, some .int, 4, 98)
abbrev mX5_orderOf : MD := (RX5, yX5_orderOf, cX5_orderOf, 7, some .long, 4, 98)
abbrev mX5_treeCount : MD := (RX5, yX5_treeCount, cX5_treeCount, 8, some .long, 2, 43)
abbrev mX5_lowestTerm : MD := (RX5, yX5_lowestTerm, cX5_lowestTerm, 7, some .long, 2, 51)
abbrev mX5_gcd : MD := (RX5, yX5_gcd, cX5_gcd, 11, some .long, 1, 21)
abbrev mX5_isUpperCell : MD := (RX5, yX5_isUpperCell, cX5_isUpperCell, 3, some .boolean, 3, 64)
abbrev mX5_isWithin : MD := (RX5, yX5_isWithin, cX5_isWithin, 2, some .boolean, 0, 0)
abbrev mX5_isChain : MD := (RX5, yX5_isChain, cX5_isChain, 1, some .boolean, 1, 21)
abbrev mX5_isWeight : MD := (RX5, yX5_isWeight, cX5_isWeight, 1, some .boolean, 0, 0)
abbrev mX5_isNumber : MD := (RX5, yX5_isNumber, cX5_isNumber, 1, some .boolean, 0, 0)
abbrev mX5_isSide : MD := (RX5, yX5_isSide, cX5_isSide, 1, some .boolean, 0, 0)
abbrev mX5_isField : MD := (RX5, yX5_isField, cX5_isField, 1, some .boolean, 0, 0)
abbrev mX6_in : MD := (RX6, yX6_in, cX6_in, 6, some .boolean, 0, 0)
abbrev mX6_has : MD := (RX6, yX6_has, cX6_has, 2, some .boolean, 0, 0)
abbrev mX6_ones : MD := (RX6, yX6_ones, cX6_ones, 3, some .int, 1, 21)
abbrev mX6_gcd : MD := (RX6, yX6_gcd, cX6_gcd, 10, some .long, 0, 0)
abbrev mX6_copies : MD := (RX6, yX6_copies, cX6_copies, 5, none, 0, 0)
abbrev mX6_isComplex : MD := (RX6, yX6_isComplex, cX6_isComplex, 1, some .boolean, 0, 0)
abbrev mX6_edgeAt : MD := (RX6, yX6_edgeAt, cX6_edgeAt, 3, some .int, 0, 0)
abbrev mX6_weight : MD := (RX6, yX6_weight, cX6_weight, 3, some .int, 0, 0)
abbrev mX6_letter : MD := (RX6, yX6_letter, cX6_letter, 3, some .int, 0, 0)
abbrev mX6_many : MD := (RX6, yX6_many, cX6_many, 2, some .int, 0, 0)
abbrev mX6_edgeOf : MD := (RX6, yX6_edgeOf, cX6_edgeOf, 1, some .int, 0, 0)
abbrev mX6_beginOf : MD := (RX6, yX6_beginOf, cX6_beginOf, 2, some .int, 1, 22)
abbrev mX6_endOf : MD := (RX6, yX6_endOf, cX6_endOf, 2, some .int, 1, 22)
abbrev mX6_one : MD := (RX6, yX6_one, cX6_one, 3, some .int, 1, 22)
abbrev mX6_two : MD := (RX6, yX6_two, cX6_two, 5, some .int, 1, 22)
abbrev mX6_rows : MD := (RX6, yX6_rows, cX6_rows, 2, some .int, 0, 0)
abbrev mX6_columns : MD := (RX6, yX6_columns, cX6_columns, 2, some .int, 0, 0)
abbrev mX6_entry : MD := (RX6, yX6_entry, cX6_entry, 4, some .int, 2, 46)
abbrev mX6_nearBy : MD := (RX6, yX6_nearBy, cX6_nearBy, 7, some .int, 3, 69)
abbrev mX6_swaps : MD := (RX6, yX6_swaps, cX6_swaps, 6, none, 0, 0)
abbrev mX6_determinant : MD := (RX6, yX6_determinant, cX6_determinant, 10, some .long, 1, 25)
abbrev mX6_inverse : MD := (RX6, yX6_inverse, cX6_inverse, 5, some .long, 0, 0)
abbrev mX6_rankBy : MD := (RX6, yX6_rankBy, cX6_rankBy, 7, some .int, 2, 54)
abbrev mX6_clears : MD := (RX6, yX6_clears, cX6_clears, 11, none, 1, 24)
abbrev mX6_lays : MD := (RX6, yX6_lays, cX6_lays, 3, none, 3, 69)
abbrev mX6_wide : MD := (RX6, yX6_wide, cX6_wide, 5, some .int, 3, 69)
abbrev mX6_nth : MD := (RX6, yX6_nth, cX6_nth, 4, some .int, 1, 21)
abbrev mX6_minor : MD := (RX6, yX6_minor, cX6_minor, 7, some .long, 4, 93)
abbrev mX6_minorsOf : MD := (RX6, yX6_minorsOf, cX6_minorsOf, 9, some .long, 5, 119)
abbrev mX6_rankOf : MD := (RX6, yX6_rankOf, cX6_rankOf, 6, some .int, 6, 147)
abbrev mX6_allColumns : MD := (RX6, yX6_allColumns, cX6_allColumns, 2, some .int, 1, 21)
abbrev mX6_rankAll : MD := (RX6, yX6_rankAll, cX6_rankAll, 2, some .int, 7, 172)
abbrev mX6_byteAt : MD := (RX6, yX6_byteAt, cX6_byteAt, 2, some .int, 0, 0)
abbrev mX6_reads : MD := (RX6, yX6_reads, cX6_reads, 2, none, 1, 25)
abbrev mX6_bad : MD := (RX6, yX6_bad, cX6_bad, 2, none, 0, 0)
abbrev mX6_goesOn : MD := (RX6, yX6_goesOn, cX6_goesOn, 1, none, 2, 46)
abbrev mX6_digit : MD := (RX6, yX6_digit, cX6_digit, 4, some .int, 3, 66)
abbrev mX6_isLetter : MD := (RX6, yX6_isLetter, cX6_isLetter, 2, some .boolean, 0, 0)
abbrev mX6_isStop : MD := (RX6, yX6_isStop, cX6_isStop, 1, some .boolean, 0, 0)
abbrev mX6_stop : MD := (RX6, yX6_stop, cX6_stop, 1, none, 3, 66)
abbrev mX6_told : MD := (RX6, yX6_told, cX6_told, 3, some .int, 1, 25)
abbrev mX6_isNext : MD := (RX6, yX6_isNext, cX6_isNext, 4, some .boolean, 2, 43)
abbrev mX6_isClosed : MD := (RX6, yX6_isClosed, cX6_isClosed, 3, some .boolean, 2, 43)
abbrev mX6_spells : MD := (RX6, yX6_spells, cX6_spells, 3, none, 1, 21)
abbrev mX6_readsEdge : MD := (RX6, yX6_readsEdge, cX6_readsEdge, 5, none, 4, 89)
abbrev mX6_laysEdge : MD := (RX6, yX6_laysEdge, cX6_laysEdge, 5, none, 0, 0)
abbrev mX6_readsFace : MD := (RX6, yX6_readsFace, cX6_readsFace, 4, none, 4, 89)
abbrev mX6_feed : MD := (RX6, yX6_feed, cX6_feed, 2, some .int, 1, 25)
abbrev mX6_complex : MD := (RX6, yX6_complex, cX6_complex, 2, some .int, 5, 113)
abbrev mX6_fault : MD := (RX6, yX6_fault, cX6_fault, 1, some .int, 0, 0)
abbrev mX6_notes : MD := (RX6, yX6_notes, cX6_notes, 2, none, 1, 24)
abbrev mX6_undo : MD := (RX6, yX6_undo, cX6_undo, 1, some .int, 1, 24)
abbrev mX6_isCell : MD := (RX6, yX6_isCell, cX6_isCell, 3, some .boolean, 1, 25)
abbrev mX6_isChain : MD := (RX6, yX6_isChain, cX6_isChain, 2, some .boolean, 1, 25)
abbrev mX6_weigh : MD := (RX6, yX6_weigh, cX6_weigh, 5, some .int, 2, 47)
abbrev mX6_edge : MD := (RX6, yX6_edge, cX6_edge, 5, some .int, 2, 47)
abbrev mX6_isWord : MD := (RX6, yX6_isWord, cX6_isWord, 5, some .boolean, 3, 66)
abbrev mX6_face : MD := (RX6, yX6_face, cX6_face, 4, some .int, 4, 90)
abbrev mX6_isSpelled : MD := (RX6, yX6_isSpelled, cX6_isSpelled, 4, some .boolean, 1, 22)
abbrev mX6_dropsEdge : MD := (RX6, yX6_dropsEdge, cX6_dropsEdge, 5, none, 1, 21)
abbrev mX6_drop : MD := (RX6, yX6_drop, cX6_drop, 4, some .int, 2, 47)
abbrev mX6_others : MD := (RX6, yX6_others, cX6_others, 4, some .int, 0, 0)
abbrev mX6_put : MD := (RX6, yX6_put, cX6_put, 5, some .int, 2, 47)
abbrev mX6_bound : MD := (RX6, yX6_bound, cX6_bound, 5, some .int, 2, 47)
abbrev mX6_drawn : MD := (RX6, yX6_drawn, cX6_drawn, 6, some .int, 2, 45)
abbrev mX6_code : MD := (RX6, yX6_code, cX6_code, 2, some .int, 0, 0)
abbrev mX6_cell : MD := (RX6, yX6_cell, cX6_cell, 4, some .int, 2, 47)
abbrev mX6_isSealed : MD := (RX6, yX6_isSealed, cX6_isSealed, 4, some .boolean, 2, 46)
abbrev mX6_as : MD := (RX6, yX6_as, cX6_as, 5, some .int, 3, 69)
abbrev mX6_table : MD := (RX6, yX6_table, cX6_table, 4, some .int, 3, 69)
abbrev mX6_nearSize : MD := (RX6, yX6_nearSize, cX6_nearSize, 2, some .int, 0, 0)
abbrev mX6_near : MD := (RX6, yX6_near, cX6_near, 4, some .int, 4, 95)
abbrev mX6_isPrime : MD := (RX6, yX6_isPrime, cX6_isPrime, 1, some .boolean, 0, 0)
abbrev mX6_rankFor : MD := (RX6, yX6_rankFor, cX6_rankFor, 3, some .int, 8, 193)
abbrev mX6_rank : MD := (RX6, yX6_rank, cX6_rank, 3, some .int, 9, 215)
abbrev mX6_holes : MD := (RX6, yX6_holes, cX6_holes, 5, some .int, 9, 215)
abbrev mX6_twist : MD := (RX6, yX6_twist, cX6_twist, 4, some .int, 7, 172)
abbrev mX6_chain : MD := (RX6, yX6_chain, cX6_chain, 3, some .int, 2, 47)
abbrev mX6_endsAt : MD := (RX6, yX6_endsAt, cX6_endsAt, 5, some .int, 2, 44)
abbrev mX6_ends : MD := (RX6, yX6_ends, cX6_ends, 3, some .int, 3, 68)
abbrev mX6_isCycle : MD := (RX6, yX6_isCycle, cX6_isCycle, 4, some .boolean, 3, 68)
abbrev mX6_order : MD := (RX6, yX6_order, cX6_order, 4, some .int, 8, 193)
abbrev mX6_whole : MD := (RX6, yX6_whole, cX6_whole, 3, some .int, 9, 216)
abbrev mX6_independent : MD := (RX6, yX6_independent, cX6_independent, 7, some .int, 7, 172)
abbrev mX6_rankOfRows : MD := (RX6, yX6_rankOfRows, cX6_rankOfRows, 5, some .int, 5, 119)
abbrev mX6_product : MD := (RX6, yX6_product, cX6_product, 7, some .long, 4, 95)
abbrev mX6_against : MD := (RX6, yX6_against, cX6_against, 7, some .long, 3, 68)
abbrev mX6_laysProducts : MD := (RX6, yX6_laysProducts, cX6_laysProducts, 5, none, 5, 121)
abbrev mX6_solves : MD := (RX6, yX6_solves, cX6_solves, 7, none, 6, 145)
abbrev mX6_tells : MD := (RX6, yX6_tells, cX6_tells, 8, none, 1, 29)
abbrev mX6_spans : MD := (RX6, yX6_spans, cX6_spans, 10, none, 8, 198)
abbrev mX6_laysPart : MD := (RX6, yX6_laysPart, cX6_laysPart, 6, none, 9, 227)
abbrev mX6_part : MD := (RX6, yX6_part, cX6_part, 5, some .long, 10, 252)
abbrev mX6_measures : MD := (RX6, yX6_measures, cX6_measures, 11, none, 10, 252)
abbrev mX6_length : MD := (RX6, yX6_length, cX6_length, 4, some .long, 11, 282)
abbrev mX6_share : MD := (RX6, yX6_share, cX6_share, 15, some .int, 11, 282)
abbrev mX6_counts : MD := (RX6, yX6_counts, cX6_counts, 7, some .long, 6, 147)
abbrev mX6_trees : MD := (RX6, yX6_trees, cX6_trees, 7, some .long, 8, 193)
abbrev mX6_minors : MD := (RX6, yX6_minors, cX6_minors, 7, some .long, 8, 193)
abbrev mX6_image : MD := (RX6, yX6_image, cX6_image, 2, some .int, 1, 25)
abbrev mX6_restore : MD := (RX6, yX6_restore, cX6_restore, 2, some .int, 1, 25)
abbrev mX6_count : MD := (RX6, yX6_count, cX6_count, 2, some .int, 0, 0)
abbrev mJ6_bitCount_0f7a4 : MD := (RJ6, yJ6_bitCount_0f7a4, cJ6_bitCount_0f7a4, 1, some .int, 0, 0)
abbrev mo (M : MD) : String := M.1
abbrev my (M : MD) : MethodName := M.2.1
abbrev mb (M : MD) : ByteArray := M.2.2.1
abbrev mn (M : MD) : Nat := M.2.2.2.1
abbrev mr (M : MD) : Option FieldType := M.2.2.2.2.1
abbrev mf (M : MD) : Nat := M.2.2.2.2.2.1
abbrev ml (M : MD) : Nat := M.2.2.2.2.2.2
/-- what a call needs to know of the method called -/
def TgB (M : MD) (n : Nat) : Prop := plainName (my M).cls = true ∧ (my M).cls = mo M ∧ ((my M).cls ≠ "java/lang/invoke/MethodHandle" ∧ (my M).cls ≠ "java/lang/invoke/VarHandle" ∧ (parseMethodDescriptor (my M).desc).map (fun d => d.parameters.length) = some n) ∧ Cond.initialized (mo M) ∈ lw_ok ∧ Cond.code (my M) (mb M) (mn M) (mr M) ∈ lw_ok
def TgV (M : MD) (n : Nat) : Prop := TgB M n ∧ Cond.instanceMethod (my M) ∈ lw_ok ∧ Cond.selects (mo M) (my M) (my M) ∈ lw_ok
def TgS (M : MD) (n : Nat) : Prop := TgB M n ∧ Cond.static (my M) ∈ lw_ok
set_option maxRecDepth 20000 in
theorem tX0_row : TgV mX0_row 0 := ⟨⟨by decide +kernel, by decide +kernel, ⟨by decide +kernel, by decide +kernel, by decide +kernel⟩, lwm 79 (by decide +kernel) (by decide +kernel), lwm 385 (by decide +kernel) (by decide +kernel)⟩, lwm 383 (by decide +kernel) (by decide +kernel), lwm 384 (by decide +kernel) (by decide +kernel)⟩
set_option maxRecDepth 20000 in
theorem tX0_clear : TgV mX0_clear 0 := ⟨⟨by decide +kernel, by decide +kernel, ⟨by decide +kernel, by decide +kernel, by decide +kernel⟩, lwm 79 (by decide +kernel) (by decide +kernel), lwm 263 (by decide +kernel) (by decide +kernel)⟩, lwm 261 (by decide +kernel) (by decide +kernel), lwm 262 (by decide +kernel) (by decide +kernel)⟩
set_option maxRecDepth 20000 in
theorem tX0_saveTo : TgV mX0_saveTo 1 := ⟨⟨by decide +kernel, by decide +kernel, ⟨by decide +kernel, by decide +kernel, by decide +kernel⟩, lwm 79 (by decide +kernel) (by decide +kernel), lwm 427 (by decide +kernel) (by decide +kernel)⟩, lwm 425 (by decide +kernel) (by decide +kernel), lwm 426 (by decide +kernel) (by decide +kernel)⟩
set_option maxRecDepth 20000 in
theorem tX0_loadFrom : TgV mX0_loadFrom 1 := ⟨⟨by decide +kernel, by decide +kernel, ⟨by decide +kernel, by decide +kernel, by decide +kernel⟩, lwm 79 (by decide +kernel) (by decide +kernel), lwm 389 (by decide +kernel) (by decide +kernel)⟩, lwm 387 (by decide +kernel) (by decide +kernel), lwm 388 (by decide +kernel) (by decide +kernel)⟩
set_option maxRecDepth 20000 in
theorem tX0_isKeptIn : TgS mX0_isKeptIn 1 := ⟨⟨by decide +kernel, by decide +kernel, ⟨by decide +kernel, by decide +kernel, by decide +kernel⟩, lwm 79 (by decide +kernel) (by decide +kernel), lwm 758 (by decide +kernel) (by decide +kernel)⟩, lwm 757 (by decide +kernel) (by decide +kernel)⟩
set_option maxRecDepth 20000 in
theorem tX0_slot : TgV mX0_slot 1 := ⟨⟨by decide +kernel, by decide +kernel, ⟨by decide +kernel, by decide +kernel, by decide +kernel⟩, lwm 79 (by decide +kernel) (by decide +kernel), lwm 295 (by decide +kernel) (by decide +kernel)⟩, lwm 294 (by decide +kernel) (by decide +kernel), lwm 5 (by decide +kernel) (by decide +kernel)⟩
set_option maxRecDepth 20000 in
theorem tX0_setSlot : TgV mX0_setSlot 2 := ⟨⟨by decide +kernel, by decide +kernel, ⟨by decide +kernel, by decide +kernel, by decide +kernel⟩, lwm 79 (by decide +kernel) (by decide +kernel), lwm 283 (by decide +kernel) (by decide +kernel)⟩, lwm 282 (by decide +kernel) (by decide +kernel), lwm 3 (by decide +kernel) (by decide +kernel)⟩
set_option maxRecDepth 20000 in
theorem tX0_isThere : TgV mX0_isThere 0 := ⟨⟨by decide +kernel, by decide +kernel, ⟨by decide +kernel, by decide +kernel, by decide +kernel⟩, lwm 79 (by decide +kernel) (by decide +kernel), lwm 439 (by decide +kernel) (by decide +kernel)⟩, lwm 437 (by decide +kernel) (by decide +kernel), lwm 438 (by decide +kernel) (by decide +kernel)⟩
set_option maxRecDepth 20000 in
theorem tX0_sizeOf : TgV mX0_sizeOf 1 := ⟨⟨by decide +kernel, by decide +kernel, ⟨by decide +kernel, by decide +kernel, by decide +kernel⟩, lwm 79 (by decide +kernel) (by decide +kernel), lwm 291 (by decide +kernel) (by decide +kernel)⟩, lwm 289 (by decide +kernel) (by decide +kernel), lwm 290 (by decide +kernel) (by decide +kernel)⟩
set_option maxRecDepth 20000 in
theorem tX0_hasCell : TgV mX0_hasCell 2 := ⟨⟨by decide +kernel, by decide +kernel, ⟨by decide +kernel, by decide +kernel, by decide +kernel⟩, lwm 79 (by decide +kernel) (by decide +kernel), lwm 329 (by decide +kernel) (by decide +kernel)⟩, lwm 327 (by decide +kernel) (by decide +kernel), lwm 328 (by decide +kernel) (by decide +kernel)⟩
set_option maxRecDepth 20000 in
theorem tX0_setPoints : TgV mX0_setPoints 1 := ⟨⟨by decide +kernel, by decide +kernel, ⟨by decide +kernel, by decide +kernel, by decide +kernel⟩, lwm 79 (by decide +kernel) (by decide +kernel), lwm 279 (by decide +kernel) (by decide +kernel)⟩, lwm 277 (by decide +kernel) (by decide +kernel), lwm 278 (by decide +kernel) (by decide +kernel)⟩
set_option maxRecDepth 20000 in
theorem tX0_fromOf : TgV mX0_fromOf 1 := ⟨⟨by decide +kernel, by decide +kernel, ⟨by decide +kernel, by decide +kernel, by decide +kernel⟩, lwm 79 (by decide +kernel) (by decide +kernel), lwm 346 (by decide +kernel) (by decide +kernel)⟩, lwm 344 (by decide +kernel) (by decide +kernel), lwm 345 (by decide +kernel) (by decide +kernel)⟩
set_option maxRecDepth 20000 in
theorem tX0_toOf : TgV mX0_toOf 1 := ⟨⟨by decide +kernel, by decide +kernel, ⟨by decide +kernel, by decide +kernel, by decide +kernel⟩, lwm 79 (by decide +kernel) (by decide +kernel), lwm 342 (by decide +kernel) (by decide +kernel)⟩, lwm 340 (by decide +kernel) (by decide +kernel), lwm 341 (by decide +kernel) (by decide +kernel)⟩
set_option maxRecDepth 20000 in
theorem tX0_weightOf : TgV mX0_weightOf 2 := ⟨⟨by decide +kernel, by decide +kernel, ⟨by decide +kernel, by decide +kernel, by decide +kernel⟩, lwm 79 (by decide +kernel) (by decide +kernel), lwm 419 (by decide +kernel) (by decide +kernel)⟩, lwm 417 (by decide +kernel) (by decide +kernel), lwm 418 (by decide +kernel) (by decide +kernel)⟩
set_option maxRecDepth 20000 in
theorem tX0_setWeight : TgV mX0_setWeight 3 := ⟨⟨by decide +kernel, by decide +kernel, ⟨by decide +kernel, by decide +kernel, by decide +kernel⟩, lwm 79 (by decide +kernel) (by decide +kernel), lwm 304 (by decide +kernel) (by decide +kernel)⟩, lwm 302 (by decide +kernel) (by decide +kernel), lwm 303 (by decide +kernel) (by decide +kernel)⟩
set_option maxRecDepth 20000 in
theorem tX0_wordSize : TgV mX0_wordSize 1 := ⟨⟨by decide +kernel, by decide +kernel, ⟨by decide +kernel, by decide +kernel, by decide +kernel⟩, lwm 79 (by decide +kernel) (by decide +kernel), lwm 461 (by decide +kernel) (by decide +kernel)⟩, lwm 459 (by decide +kernel) (by decide +kernel), lwm 460 (by decide +kernel) (by decide +kernel)⟩
set_option maxRecDepth 20000 in
theorem tX0_letterAt : TgV mX0_letterAt 2 := ⟨⟨by decide +kernel, by decide +kernel, ⟨by decide +kernel, by decide +kernel, by decide +kernel⟩, lwm 79 (by decide +kernel) (by decide +kernel), lwm 465 (by decide +kernel) (by decide +kernel)⟩, lwm 463 (by decide +kernel) (by decide +kernel), lwm 464 (by decide +kernel) (by decide +kernel)⟩
set_option maxRecDepth 20000 in
theorem tX0_numberAt : TgV mX0_numberAt 2 := ⟨⟨by decide +kernel, by decide +kernel, ⟨by decide +kernel, by decide +kernel, by decide +kernel⟩, lwm 79 (by decide +kernel) (by decide +kernel), lwm 474 (by decide +kernel) (by decide +kernel)⟩, lwm 472 (by decide +kernel) (by decide +kernel), lwm 473 (by decide +kernel) (by decide +kernel)⟩
set_option maxRecDepth 20000 in
theorem tX0_setNumber : TgV mX0_setNumber 3 := ⟨⟨by decide +kernel, by decide +kernel, ⟨by decide +kernel, by decide +kernel, by decide +kernel⟩, lwm 79 (by decide +kernel) (by decide +kernel), lwm 308 (by decide +kernel) (by decide +kernel)⟩, lwm 306 (by decide +kernel) (by decide +kernel), lwm 307 (by decide +kernel) (by decide +kernel)⟩
set_option maxRecDepth 20000 in
theorem tX0_beginOf : TgV mX0_beginOf 1 := ⟨⟨by decide +kernel, by decide +kernel, ⟨by decide +kernel, by decide +kernel, by decide +kernel⟩, lwm 79 (by decide +kernel) (by decide +kernel), lwm 334 (by decide +kernel) (by decide +kernel)⟩, lwm 332 (by decide +kernel) (by decide +kernel), lwm 333 (by decide +kernel) (by decide +kernel)⟩
set_option maxRecDepth 20000 in
theorem tX0_endOf : TgV mX0_endOf 1 := ⟨⟨by decide +kernel, by decide +kernel, ⟨by decide +kernel, by decide +kernel, by decide +kernel⟩, lwm 79 (by decide +kernel) (by decide +kernel), lwm 354 (by decide +kernel) (by decide +kernel)⟩, lwm 352 (by decide +kernel) (by decide +kernel), lwm 353 (by decide +kernel) (by decide +kernel)⟩
set_option maxRecDepth 20000 in
theorem tX0_addEdge : TgV mX0_addEdge 3 := ⟨⟨by decide +kernel, by decide +kernel, ⟨by decide +kernel, by decide +kernel, by decide +kernel⟩, lwm 79 (by decide +kernel) (by decide +kernel), lwm 299 (by decide +kernel) (by decide +kernel)⟩, lwm 297 (by decide +kernel) (by decide +kernel), lwm 298 (by decide +kernel) (by decide +kernel)⟩
set_option maxRecDepth 20000 in
theorem tX0_addFace : TgV mX0_addFace 2 := ⟨⟨by decide +kernel, by decide +kernel, ⟨by decide +kernel, by decide +kernel, by decide +kernel⟩, lwm 79 (by decide +kernel) (by decide +kernel), lwm 366 (by decide +kernel) (by decide +kernel)⟩, lwm 364 (by decide +kernel) (by decide +kernel), lwm 365 (by decide +kernel) (by decide +kernel)⟩
set_option maxRecDepth 20000 in
theorem tX0_isSewn : TgV mX0_isSewn 1 := ⟨⟨by decide +kernel, by decide +kernel, ⟨by decide +kernel, by decide +kernel, by decide +kernel⟩, lwm 79 (by decide +kernel) (by decide +kernel), lwm 457 (by decide +kernel) (by decide +kernel)⟩, lwm 455 (by decide +kernel) (by decide +kernel), lwm 456 (by decide +kernel) (by decide +kernel)⟩
set_option maxRecDepth 20000 in
theorem tX0_removeEdge : TgV mX0_removeEdge 1 := ⟨⟨by decide +kernel, by decide +kernel, ⟨by decide +kernel, by decide +kernel, by decide +kernel⟩, lwm 79 (by decide +kernel) (by decide +kernel), lwm 469 (by decide +kernel) (by decide +kernel)⟩, lwm 467 (by decide +kernel) (by decide +kernel), lwm 468 (by decide +kernel) (by decide +kernel)⟩
set_option maxRecDepth 20000 in
theorem tX0_lowerLettersBehind : TgV mX0_lowerLettersBehind 1 := ⟨⟨by decide +kernel, by decide +kernel, ⟨by decide +kernel, by decide +kernel, by decide +kernel⟩, lwm 79 (by decide +kernel) (by decide +kernel), lwm 478 (by decide +kernel) (by decide +kernel)⟩, lwm 477 (by decide +kernel) (by decide +kernel), lwm 9 (by decide +kernel) (by decide +kernel)⟩
set_option maxRecDepth 20000 in
theorem tX0_removeFace : TgV mX0_removeFace 1 := ⟨⟨by decide +kernel, by decide +kernel, ⟨by decide +kernel, by decide +kernel, by decide +kernel⟩, lwm 79 (by decide +kernel) (by decide +kernel), lwm 482 (by decide +kernel) (by decide +kernel)⟩, lwm 480 (by decide +kernel) (by decide +kernel), lwm 481 (by decide +kernel) (by decide +kernel)⟩
set_option maxRecDepth 20000 in
theorem tX0_isOfKind : TgV mX0_isOfKind 3 := ⟨⟨by decide +kernel, by decide +kernel, ⟨by decide +kernel, by decide +kernel, by decide +kernel⟩, lwm 79 (by decide +kernel) (by decide +kernel), lwm 532 (by decide +kernel) (by decide +kernel)⟩, lwm 530 (by decide +kernel) (by decide +kernel), lwm 531 (by decide +kernel) (by decide +kernel)⟩
set_option maxRecDepth 20000 in
theorem tX0_isSealed : TgV mX0_isSealed 1 := ⟨⟨by decide +kernel, by decide +kernel, ⟨by decide +kernel, by decide +kernel, by decide +kernel⟩, lwm 79 (by decide +kernel) (by decide +kernel), lwm 536 (by decide +kernel) (by decide +kernel)⟩, lwm 535 (by decide +kernel) (by decide +kernel), lwm 10 (by decide +kernel) (by decide +kernel)⟩
set_option maxRecDepth 20000 in
theorem tX0_entryOf : TgV mX0_entryOf 3 := ⟨⟨by decide +kernel, by decide +kernel, ⟨by decide +kernel, by decide +kernel, by decide +kernel⟩, lwm 79 (by decide +kernel) (by decide +kernel), lwm 502 (by decide +kernel) (by decide +kernel)⟩, lwm 500 (by decide +kernel) (by decide +kernel), lwm 501 (by decide +kernel) (by decide +kernel)⟩
set_option maxRecDepth 20000 in
theorem tX0_nearOf : TgV mX0_nearOf 3 := ⟨⟨by decide +kernel, by decide +kernel, ⟨by decide +kernel, by decide +kernel, by decide +kernel⟩, lwm 79 (by decide +kernel) (by decide +kernel), lwm 549 (by decide +kernel) (by decide +kernel)⟩, lwm 547 (by decide +kernel) (by decide +kernel), lwm 548 (by decide +kernel) (by decide +kernel)⟩
set_option maxRecDepth 20000 in
theorem tX0_numbersNotZero : TgV mX0_numbersNotZero 1 := ⟨⟨by decide +kernel, by decide +kernel, ⟨by decide +kernel, by decide +kernel, by decide +kernel⟩, lwm 79 (by decide +kernel) (by decide +kernel), lwm 506 (by decide +kernel) (by decide +kernel)⟩, lwm 504 (by decide +kernel) (by decide +kernel), lwm 505 (by decide +kernel) (by decide +kernel)⟩
set_option maxRecDepth 20000 in
theorem tX0_boundaryAt : TgV mX0_boundaryAt 2 := ⟨⟨by decide +kernel, by decide +kernel, ⟨by decide +kernel, by decide +kernel, by decide +kernel⟩, lwm 79 (by decide +kernel) (by decide +kernel), lwm 627 (by decide +kernel) (by decide +kernel)⟩, lwm 625 (by decide +kernel) (by decide +kernel), lwm 626 (by decide +kernel) (by decide +kernel)⟩
set_option maxRecDepth 20000 in
theorem tX0_isCycle : TgV mX0_isCycle 1 := ⟨⟨by decide +kernel, by decide +kernel, ⟨by decide +kernel, by decide +kernel, by decide +kernel⟩, lwm 79 (by decide +kernel) (by decide +kernel), lwm 635 (by decide +kernel) (by decide +kernel)⟩, lwm 633 (by decide +kernel) (by decide +kernel), lwm 634 (by decide +kernel) (by decide +kernel)⟩
set_option maxRecDepth 20000 in
theorem tX1_loadTable : TgV mX1_loadTable 2 := ⟨⟨by decide +kernel, by decide +kernel, ⟨by decide +kernel, by decide +kernel, by decide +kernel⟩, lwm 82 (by decide +kernel) (by decide +kernel), lwm 564 (by decide +kernel) (by decide +kernel)⟩, lwm 562 (by decide +kernel) (by decide +kernel), lwm 563 (by decide +kernel) (by decide +kernel)⟩
set_option maxRecDepth 20000 in
theorem tX1_loadNear : TgV mX1_loadNear 2 := ⟨⟨by decide +kernel, by decide +kernel, ⟨by decide +kernel, by decide +kernel, by decide +kernel⟩, lwm 82 (by decide +kernel) (by decide +kernel), lwm 745 (by decide +kernel) (by decide +kernel)⟩, lwm 743 (by decide +kernel) (by decide +kernel), lwm 744 (by decide +kernel) (by decide +kernel)⟩
set_option maxRecDepth 20000 in
theorem tX1_addChain : TgV mX1_addChain 2 := ⟨⟨by decide +kernel, by decide +kernel, ⟨by decide +kernel, by decide +kernel, by decide +kernel⟩, lwm 82 (by decide +kernel) (by decide +kernel), lwm 644 (by decide +kernel) (by decide +kernel)⟩, lwm 642 (by decide +kernel) (by decide +kernel), lwm 643 (by decide +kernel) (by decide +kernel)⟩
set_option maxRecDepth 20000 in
theorem tX1_allColumns : TgV mX1_allColumns 0 := ⟨⟨by decide +kernel, by decide +kernel, ⟨by decide +kernel, by decide +kernel, by decide +kernel⟩, lwm 82 (by decide +kernel) (by decide +kernel), lwm 590 (by decide +kernel) (by decide +kernel)⟩, lwm 588 (by decide +kernel) (by decide +kernel), lwm 589 (by decide +kernel) (by decide +kernel)⟩
set_option maxRecDepth 20000 in
theorem tX1_minorOf : TgV mX1_minorOf 2 := ⟨⟨by decide +kernel, by decide +kernel, ⟨by decide +kernel, by decide +kernel, by decide +kernel⟩, lwm 82 (by decide +kernel) (by decide +kernel), lwm 586 (by decide +kernel) (by decide +kernel)⟩, lwm 584 (by decide +kernel) (by decide +kernel), lwm 585 (by decide +kernel) (by decide +kernel)⟩
set_option maxRecDepth 20000 in
theorem tX1_fillMinors : TgV mX1_fillMinors 0 := ⟨⟨by decide +kernel, by decide +kernel, ⟨by decide +kernel, by decide +kernel, by decide +kernel⟩, lwm 82 (by decide +kernel) (by decide +kernel), lwm 571 (by decide +kernel) (by decide +kernel)⟩, lwm 569 (by decide +kernel) (by decide +kernel), lwm 570 (by decide +kernel) (by decide +kernel)⟩
set_option maxRecDepth 20000 in
theorem tX1_expandedMinor : TgV mX1_expandedMinor 2 := ⟨⟨by decide +kernel, by decide +kernel, ⟨by decide +kernel, by decide +kernel, by decide +kernel⟩, lwm 82 (by decide +kernel) (by decide +kernel), lwm 582 (by decide +kernel) (by decide +kernel)⟩, lwm 581 (by decide +kernel) (by decide +kernel), lwm 12 (by decide +kernel) (by decide +kernel)⟩
set_option maxRecDepth 20000 in
theorem tX1_rankBy : TgV mX1_rankBy 2 := ⟨⟨by decide +kernel, by decide +kernel, ⟨by decide +kernel, by decide +kernel, by decide +kernel⟩, lwm 82 (by decide +kernel) (by decide +kernel), lwm 594 (by decide +kernel) (by decide +kernel)⟩, lwm 592 (by decide +kernel) (by decide +kernel), lwm 593 (by decide +kernel) (by decide +kernel)⟩
set_option maxRecDepth 20000 in
theorem tX1_isZero : TgS mX1_isZero 2 := ⟨⟨by decide +kernel, by decide +kernel, ⟨by decide +kernel, by decide +kernel, by decide +kernel⟩, lwm 82 (by decide +kernel) (by decide +kernel), lwm 597 (by decide +kernel) (by decide +kernel)⟩, lwm 596 (by decide +kernel) (by decide +kernel)⟩
set_option maxRecDepth 20000 in
theorem tX1_divisorOfMinors : TgV mX1_divisorOfMinors 2 := ⟨⟨by decide +kernel, by decide +kernel, ⟨by decide +kernel, by decide +kernel, by decide +kernel⟩, lwm 82 (by decide +kernel) (by decide +kernel), lwm 609 (by decide +kernel) (by decide +kernel)⟩, lwm 607 (by decide +kernel) (by decide +kernel), lwm 608 (by decide +kernel) (by decide +kernel)⟩
set_option maxRecDepth 20000 in
theorem tX2_aboveAt : TgV mX2_aboveAt 1 := ⟨⟨by decide +kernel, by decide +kernel, ⟨by decide +kernel, by decide +kernel, by decide +kernel⟩, lwm 83 (by decide +kernel) (by decide +kernel), lwm 705 (by decide +kernel) (by decide +kernel)⟩, lwm 703 (by decide +kernel) (by decide +kernel), lwm 704 (by decide +kernel) (by decide +kernel)⟩
set_option maxRecDepth 20000 in
theorem tX2_below : TgV mX2_below 0 := ⟨⟨by decide +kernel, by decide +kernel, ⟨by decide +kernel, by decide +kernel, by decide +kernel⟩, lwm 83 (by decide +kernel) (by decide +kernel), lwm 709 (by decide +kernel) (by decide +kernel)⟩, lwm 707 (by decide +kernel) (by decide +kernel), lwm 708 (by decide +kernel) (by decide +kernel)⟩
set_option maxRecDepth 20000 in
theorem tX2_lengthAbove : TgV mX2_lengthAbove 0 := ⟨⟨by decide +kernel, by decide +kernel, ⟨by decide +kernel, by decide +kernel, by decide +kernel⟩, lwm 83 (by decide +kernel) (by decide +kernel), lwm 722 (by decide +kernel) (by decide +kernel)⟩, lwm 720 (by decide +kernel) (by decide +kernel), lwm 721 (by decide +kernel) (by decide +kernel)⟩
set_option maxRecDepth 20000 in
theorem tX2_take : TgV mX2_take 3 := ⟨⟨by decide +kernel, by decide +kernel, ⟨by decide +kernel, by decide +kernel, by decide +kernel⟩, lwm 83 (by decide +kernel) (by decide +kernel), lwm 657 (by decide +kernel) (by decide +kernel)⟩, lwm 655 (by decide +kernel) (by decide +kernel), lwm 656 (by decide +kernel) (by decide +kernel)⟩
set_option maxRecDepth 20000 in
theorem tX2_loadChain : TgV mX2_loadChain 2 := ⟨⟨by decide +kernel, by decide +kernel, ⟨by decide +kernel, by decide +kernel, by decide +kernel⟩, lwm 83 (by decide +kernel) (by decide +kernel), lwm 661 (by decide +kernel) (by decide +kernel)⟩, lwm 660 (by decide +kernel) (by decide +kernel), lwm 14 (by decide +kernel) (by decide +kernel)⟩
set_option maxRecDepth 20000 in
theorem tX2_loadRays : TgV mX2_loadRays 2 := ⟨⟨by decide +kernel, by decide +kernel, ⟨by decide +kernel, by decide +kernel, by decide +kernel⟩, lwm 83 (by decide +kernel) (by decide +kernel), lwm 670 (by decide +kernel) (by decide +kernel)⟩, lwm 669 (by decide +kernel) (by decide +kernel), lwm 15 (by decide +kernel) (by decide +kernel)⟩
set_option maxRecDepth 20000 in
theorem tX2_castShadow : TgV mX2_castShadow 0 := ⟨⟨by decide +kernel, by decide +kernel, ⟨by decide +kernel, by decide +kernel, by decide +kernel⟩, lwm 83 (by decide +kernel) (by decide +kernel), lwm 675 (by decide +kernel) (by decide +kernel)⟩, lwm 674 (by decide +kernel) (by decide +kernel), lwm 16 (by decide +kernel) (by decide +kernel)⟩
set_option maxRecDepth 20000 in
theorem tX2_fillSystem : TgV mX2_fillSystem 0 := ⟨⟨by decide +kernel, by decide +kernel, ⟨by decide +kernel, by decide +kernel, by decide +kernel⟩, lwm 83 (by decide +kernel) (by decide +kernel), lwm 679 (by decide +kernel) (by decide +kernel)⟩, lwm 678 (by decide +kernel) (by decide +kernel), lwm 17 (by decide +kernel) (by decide +kernel)⟩
set_option maxRecDepth 20000 in
theorem tX2_product : TgV mX2_product 2 := ⟨⟨by decide +kernel, by decide +kernel, ⟨by decide +kernel, by decide +kernel, by decide +kernel⟩, lwm 83 (by decide +kernel) (by decide +kernel), lwm 683 (by decide +kernel) (by decide +kernel)⟩, lwm 682 (by decide +kernel) (by decide +kernel), lwm 18 (by decide +kernel) (by decide +kernel)⟩
set_option maxRecDepth 20000 in
theorem tX2_solveSystem : TgV mX2_solveSystem 0 := ⟨⟨by decide +kernel, by decide +kernel, ⟨by decide +kernel, by decide +kernel, by decide +kernel⟩, lwm 83 (by decide +kernel) (by decide +kernel), lwm 687 (by decide +kernel) (by decide +kernel)⟩, lwm 686 (by decide +kernel) (by decide +kernel), lwm 19 (by decide +kernel) (by decide +kernel)⟩
set_option maxRecDepth 20000 in
theorem tX2_eliminate : TgV mX2_eliminate 3 := ⟨⟨by decide +kernel, by decide +kernel, ⟨by decide +kernel, by decide +kernel, by decide +kernel⟩, lwm 83 (by decide +kernel) (by decide +kernel), lwm 691 (by decide +kernel) (by decide +kernel)⟩, lwm 690 (by decide +kernel) (by decide +kernel), lwm 20 (by decide +kernel) (by decide +kernel)⟩
set_option maxRecDepth 20000 in
theorem tX2_lowerShadow : TgV mX2_lowerShadow 0 := ⟨⟨by decide +kernel, by decide +kernel, ⟨by decide +kernel, by decide +kernel, by decide +kernel⟩, lwm 83 (by decide +kernel) (by decide +kernel), lwm 696 (by decide +kernel) (by decide +kernel)⟩, lwm 695 (by decide +kernel) (by decide +kernel), lwm 21 (by decide +kernel) (by decide +kernel)⟩
set_option maxRecDepth 20000 in
theorem tX2_takeShadowAway : TgV mX2_takeShadowAway 0 := ⟨⟨by decide +kernel, by decide +kernel, ⟨by decide +kernel, by decide +kernel, by decide +kernel⟩, lwm 83 (by decide +kernel) (by decide +kernel), lwm 701 (by decide +kernel) (by decide +kernel)⟩, lwm 700 (by decide +kernel) (by decide +kernel), lwm 22 (by decide +kernel) (by decide +kernel)⟩
set_option maxRecDepth 20000 in
theorem tX3_append : TgV mX3_append 1 := ⟨⟨by decide +kernel, by decide +kernel, ⟨by decide +kernel, by decide +kernel, by decide +kernel⟩, lwm 80 (by decide +kernel) (by decide +kernel), lwm 243 (by decide +kernel) (by decide +kernel)⟩, lwm 241 (by decide +kernel) (by decide +kernel), lwm 242 (by decide +kernel) (by decide +kernel)⟩
set_option maxRecDepth 20000 in
theorem tX3_clear : TgV mX3_clear 0 := ⟨⟨by decide +kernel, by decide +kernel, ⟨by decide +kernel, by decide +kernel, by decide +kernel⟩, lwm 80 (by decide +kernel) (by decide +kernel), lwm 372 (by decide +kernel) (by decide +kernel)⟩, lwm 370 (by decide +kernel) (by decide +kernel), lwm 371 (by decide +kernel) (by decide +kernel)⟩
set_option maxRecDepth 20000 in
theorem tX3_size : TgV mX3_size 0 := ⟨⟨by decide +kernel, by decide +kernel, ⟨by decide +kernel, by decide +kernel, by decide +kernel⟩, lwm 80 (by decide +kernel) (by decide +kernel), lwm 250 (by decide +kernel) (by decide +kernel)⟩, lwm 248 (by decide +kernel) (by decide +kernel), lwm 249 (by decide +kernel) (by decide +kernel)⟩
set_option maxRecDepth 20000 in
theorem tX3_place : TgV mX3_place 0 := ⟨⟨by decide +kernel, by decide +kernel, ⟨by decide +kernel, by decide +kernel, by decide +kernel⟩, lwm 80 (by decide +kernel) (by decide +kernel), lwm 381 (by decide +kernel) (by decide +kernel)⟩, lwm 379 (by decide +kernel) (by decide +kernel), lwm 380 (by decide +kernel) (by decide +kernel)⟩
set_option maxRecDepth 20000 in
theorem tX3_faultRead : TgV mX3_faultRead 0 := ⟨⟨by decide +kernel, by decide +kernel, ⟨by decide +kernel, by decide +kernel, by decide +kernel⟩, lwm 80 (by decide +kernel) (by decide +kernel), lwm 376 (by decide +kernel) (by decide +kernel)⟩, lwm 374 (by decide +kernel) (by decide +kernel), lwm 375 (by decide +kernel) (by decide +kernel)⟩
set_option maxRecDepth 20000 in
theorem tX3_token : TgV mX3_token 1 := ⟨⟨by decide +kernel, by decide +kernel, ⟨by decide +kernel, by decide +kernel, by decide +kernel⟩, lwm 80 (by decide +kernel) (by decide +kernel), lwm 271 (by decide +kernel) (by decide +kernel)⟩, lwm 270 (by decide +kernel) (by decide +kernel), lwm 1 (by decide +kernel) (by decide +kernel)⟩
set_option maxRecDepth 20000 in
theorem tX3_readWord : TgV mX3_readWord 2 := ⟨⟨by decide +kernel, by decide +kernel, ⟨by decide +kernel, by decide +kernel, by decide +kernel⟩, lwm 80 (by decide +kernel) (by decide +kernel), lwm 448 (by decide +kernel) (by decide +kernel)⟩, lwm 446 (by decide +kernel) (by decide +kernel), lwm 447 (by decide +kernel) (by decide +kernel)⟩
set_option maxRecDepth 20000 in
theorem tX3_readComplex : TgV mX3_readComplex 2 := ⟨⟨by decide +kernel, by decide +kernel, ⟨by decide +kernel, by decide +kernel, by decide +kernel⟩, lwm 80 (by decide +kernel) (by decide +kernel), lwm 259 (by decide +kernel) (by decide +kernel)⟩, lwm 257 (by decide +kernel) (by decide +kernel), lwm 258 (by decide +kernel) (by decide +kernel)⟩
set_option maxRecDepth 20000 in
theorem tX3_readEdge : TgV mX3_readEdge 1 := ⟨⟨by decide +kernel, by decide +kernel, ⟨by decide +kernel, by decide +kernel, by decide +kernel⟩, lwm 80 (by decide +kernel) (by decide +kernel), lwm 287 (by decide +kernel) (by decide +kernel)⟩, lwm 286 (by decide +kernel) (by decide +kernel), lwm 4 (by decide +kernel) (by decide +kernel)⟩
set_option maxRecDepth 20000 in
theorem tX3_readFace : TgV mX3_readFace 2 := ⟨⟨by decide +kernel, by decide +kernel, ⟨by decide +kernel, by decide +kernel, by decide +kernel⟩, lwm 80 (by decide +kernel) (by decide +kernel), lwm 312 (by decide +kernel) (by decide +kernel)⟩, lwm 311 (by decide +kernel) (by decide +kernel), lwm 6 (by decide +kernel) (by decide +kernel)⟩
set_option maxRecDepth 20000 in
theorem tX3_takeSign : TgV mX3_takeSign 1 := ⟨⟨by decide +kernel, by decide +kernel, ⟨by decide +kernel, by decide +kernel, by decide +kernel⟩, lwm 80 (by decide +kernel) (by decide +kernel), lwm 267 (by decide +kernel) (by decide +kernel)⟩, lwm 266 (by decide +kernel) (by decide +kernel), lwm 0 (by decide +kernel) (by decide +kernel)⟩
set_option maxRecDepth 20000 in
theorem tX3_takeDigit : TgV mX3_takeDigit 2 := ⟨⟨by decide +kernel, by decide +kernel, ⟨by decide +kernel, by decide +kernel, by decide +kernel⟩, lwm 80 (by decide +kernel) (by decide +kernel), lwm 275 (by decide +kernel) (by decide +kernel)⟩, lwm 274 (by decide +kernel) (by decide +kernel), lwm 2 (by decide +kernel) (by decide +kernel)⟩
set_option maxRecDepth 20000 in
theorem tX4_isBackward : TgS mX4_isBackward 1 := ⟨⟨by decide +kernel, by decide +kernel, ⟨by decide +kernel, by decide +kernel, by decide +kernel⟩, lwm 81 (by decide +kernel) (by decide +kernel), lwm 338 (by decide +kernel) (by decide +kernel)⟩, lwm 337 (by decide +kernel) (by decide +kernel)⟩
set_option maxRecDepth 20000 in
theorem tX4_edgeOf : TgS mX4_edgeOf 1 := ⟨⟨by decide +kernel, by decide +kernel, ⟨by decide +kernel, by decide +kernel, by decide +kernel⟩, lwm 81 (by decide +kernel) (by decide +kernel), lwm 319 (by decide +kernel) (by decide +kernel)⟩, lwm 318 (by decide +kernel) (by decide +kernel)⟩
set_option maxRecDepth 20000 in
theorem tX4_clear : TgV mX4_clear 0 := ⟨⟨by decide +kernel, by decide +kernel, ⟨by decide +kernel, by decide +kernel, by decide +kernel⟩, lwm 81 (by decide +kernel) (by decide +kernel), lwm 316 (by decide +kernel) (by decide +kernel)⟩, lwm 314 (by decide +kernel) (by decide +kernel), lwm 315 (by decide +kernel) (by decide +kernel)⟩
set_option maxRecDepth 20000 in
theorem tX4_size : TgV mX4_size 0 := ⟨⟨by decide +kernel, by decide +kernel, ⟨by decide +kernel, by decide +kernel, by decide +kernel⟩, lwm 81 (by decide +kernel) (by decide +kernel), lwm 358 (by decide +kernel) (by decide +kernel)⟩, lwm 356 (by decide +kernel) (by decide +kernel), lwm 357 (by decide +kernel) (by decide +kernel)⟩
set_option maxRecDepth 20000 in
theorem tX4_letterAt : TgV mX4_letterAt 1 := ⟨⟨by decide +kernel, by decide +kernel, ⟨by decide +kernel, by decide +kernel, by decide +kernel⟩, lwm 81 (by decide +kernel) (by decide +kernel), lwm 350 (by decide +kernel) (by decide +kernel)⟩, lwm 348 (by decide +kernel) (by decide +kernel), lwm 349 (by decide +kernel) (by decide +kernel)⟩
set_option maxRecDepth 20000 in
theorem tX4_append : TgV mX4_append 2 := ⟨⟨by decide +kernel, by decide +kernel, ⟨by decide +kernel, by decide +kernel, by decide +kernel⟩, lwm 81 (by decide +kernel) (by decide +kernel), lwm 323 (by decide +kernel) (by decide +kernel)⟩, lwm 321 (by decide +kernel) (by decide +kernel), lwm 322 (by decide +kernel) (by decide +kernel)⟩
set_option maxRecDepth 20000 in
theorem tX4_isClosed : TgV mX4_isClosed 1 := ⟨⟨by decide +kernel, by decide +kernel, ⟨by decide +kernel, by decide +kernel, by decide +kernel⟩, lwm 81 (by decide +kernel) (by decide +kernel), lwm 362 (by decide +kernel) (by decide +kernel)⟩, lwm 360 (by decide +kernel) (by decide +kernel), lwm 361 (by decide +kernel) (by decide +kernel)⟩
set_option maxRecDepth 20000 in
theorem tX5_feed : TgV mX5_feed 1 := ⟨⟨by decide +kernel, by decide +kernel, ⟨by decide +kernel, by decide +kernel, by decide +kernel⟩, lwm 78 (by decide +kernel) (by decide +kernel), lwm 238 (by decide +kernel) (by decide +kernel)⟩, lwm 236 (by decide +kernel) (by decide +kernel), lwm 237 (by decide +kernel) (by decide +kernel)⟩
set_option maxRecDepth 20000 in
theorem tX5_complex : TgV mX5_complex 0 := ⟨⟨by decide +kernel, by decide +kernel, ⟨by decide +kernel, by decide +kernel, by decide +kernel⟩, lwm 78 (by decide +kernel) (by decide +kernel), lwm 255 (by decide +kernel) (by decide +kernel)⟩, lwm 253 (by decide +kernel) (by decide +kernel), lwm 254 (by decide +kernel) (by decide +kernel)⟩
set_option maxRecDepth 20000 in
theorem tX5_fault : TgV mX5_fault 0 := ⟨⟨by decide +kernel, by decide +kernel, ⟨by decide +kernel, by decide +kernel, by decide +kernel⟩, lwm 78 (by decide +kernel) (by decide +kernel), lwm 397 (by decide +kernel) (by decide +kernel)⟩, lwm 395 (by decide +kernel) (by decide +kernel), lwm 396 (by decide +kernel) (by decide +kernel)⟩
set_option maxRecDepth 20000 in
theorem tX5_undo : TgV mX5_undo 0 := ⟨⟨by decide +kernel, by decide +kernel, ⟨by decide +kernel, by decide +kernel, by decide +kernel⟩, lwm 78 (by decide +kernel) (by decide +kernel), lwm 401 (by decide +kernel) (by decide +kernel)⟩, lwm 399 (by decide +kernel) (by decide +kernel), lwm 400 (by decide +kernel) (by decide +kernel)⟩
set_option maxRecDepth 20000 in
theorem tX5_weigh : TgV mX5_weigh 3 := ⟨⟨by decide +kernel, by decide +kernel, ⟨by decide +kernel, by decide +kernel, by decide +kernel⟩, lwm 78 (by decide +kernel) (by decide +kernel), lwm 407 (by decide +kernel) (by decide +kernel)⟩, lwm 405 (by decide +kernel) (by decide +kernel), lwm 406 (by decide +kernel) (by decide +kernel)⟩
set_option maxRecDepth 20000 in
theorem tX5_edge : TgV mX5_edge 3 := ⟨⟨by decide +kernel, by decide +kernel, ⟨by decide +kernel, by decide +kernel, by decide +kernel⟩, lwm 78 (by decide +kernel) (by decide +kernel), lwm 435 (by decide +kernel) (by decide +kernel)⟩, lwm 433 (by decide +kernel) (by decide +kernel), lwm 434 (by decide +kernel) (by decide +kernel)⟩
set_option maxRecDepth 20000 in
theorem tX5_face : TgV mX5_face 1 := ⟨⟨by decide +kernel, by decide +kernel, ⟨by decide +kernel, by decide +kernel, by decide +kernel⟩, lwm 78 (by decide +kernel) (by decide +kernel), lwm 444 (by decide +kernel) (by decide +kernel)⟩, lwm 442 (by decide +kernel) (by decide +kernel), lwm 443 (by decide +kernel) (by decide +kernel)⟩
set_option maxRecDepth 20000 in
theorem tX5_drop : TgV mX5_drop 2 := ⟨⟨by decide +kernel, by decide +kernel, ⟨by decide +kernel, by decide +kernel, by decide +kernel⟩, lwm 78 (by decide +kernel) (by decide +kernel), lwm 453 (by decide +kernel) (by decide +kernel)⟩, lwm 451 (by decide +kernel) (by decide +kernel), lwm 452 (by decide +kernel) (by decide +kernel)⟩
set_option maxRecDepth 20000 in
theorem tX5_put : TgV mX5_put 3 := ⟨⟨by decide +kernel, by decide +kernel, ⟨by decide +kernel, by decide +kernel, by decide +kernel⟩, lwm 78 (by decide +kernel) (by decide +kernel), lwm 486 (by decide +kernel) (by decide +kernel)⟩, lwm 484 (by decide +kernel) (by decide +kernel), lwm 485 (by decide +kernel) (by decide +kernel)⟩
set_option maxRecDepth 20000 in
theorem tX5_bound : TgV mX5_bound 3 := ⟨⟨by decide +kernel, by decide +kernel, ⟨by decide +kernel, by decide +kernel, by decide +kernel⟩, lwm 78 (by decide +kernel) (by decide +kernel), lwm 498 (by decide +kernel) (by decide +kernel)⟩, lwm 496 (by decide +kernel) (by decide +kernel), lwm 497 (by decide +kernel) (by decide +kernel)⟩
set_option maxRecDepth 20000 in
theorem tX5_drawn : TgV mX5_drawn 2 := ⟨⟨by decide +kernel, by decide +kernel, ⟨by decide +kernel, by decide +kernel, by decide +kernel⟩, lwm 78 (by decide +kernel) (by decide +kernel), lwm 510 (by decide +kernel) (by decide +kernel)⟩, lwm 508 (by decide +kernel) (by decide +kernel), lwm 509 (by decide +kernel) (by decide +kernel)⟩
set_option maxRecDepth 20000 in
theorem tX5_cell : TgV mX5_cell 3 := ⟨⟨by decide +kernel, by decide +kernel, ⟨by decide +kernel, by decide +kernel, by decide +kernel⟩, lwm 78 (by decide +kernel) (by decide +kernel), lwm 518 (by decide +kernel) (by decide +kernel)⟩, lwm 516 (by decide +kernel) (by decide +kernel), lwm 517 (by decide +kernel) (by decide +kernel)⟩
set_option maxRecDepth 20000 in
theorem tX5_as : TgV mX5_as 3 := ⟨⟨by decide +kernel, by decide +kernel, ⟨by decide +kernel, by decide +kernel, by decide +kernel⟩, lwm 78 (by decide +kernel) (by decide +kernel), lwm 528 (by decide +kernel) (by decide +kernel)⟩, lwm 526 (by decide +kernel) (by decide +kernel), lwm 527 (by decide +kernel) (by decide +kernel)⟩
set_option maxRecDepth 20000 in
theorem tX5_table : TgV mX5_table 3 := ⟨⟨by decide +kernel, by decide +kernel, ⟨by decide +kernel, by decide +kernel, by decide +kernel⟩, lwm 78 (by decide +kernel) (by decide +kernel), lwm 541 (by decide +kernel) (by decide +kernel)⟩, lwm 539 (by decide +kernel) (by decide +kernel), lwm 540 (by decide +kernel) (by decide +kernel)⟩
set_option maxRecDepth 20000 in
theorem tX5_near : TgV mX5_near 3 := ⟨⟨by decide +kernel, by decide +kernel, ⟨by decide +kernel, by decide +kernel, by decide +kernel⟩, lwm 78 (by decide +kernel) (by decide +kernel), lwm 545 (by decide +kernel) (by decide +kernel)⟩, lwm 543 (by decide +kernel) (by decide +kernel), lwm 544 (by decide +kernel) (by decide +kernel)⟩
set_option maxRecDepth 20000 in
theorem tX5_rank : TgV mX5_rank 2 := ⟨⟨by decide +kernel, by decide +kernel, ⟨by decide +kernel, by decide +kernel, by decide +kernel⟩, lwm 78 (by decide +kernel) (by decide +kernel), lwm 553 (by decide +kernel) (by decide +kernel)⟩, lwm 551 (by decide +kernel) (by decide +kernel), lwm 552 (by decide +kernel) (by decide +kernel)⟩
set_option maxRecDepth 20000 in
theorem tX5_holes : TgV mX5_holes 2 := ⟨⟨by decide +kernel, by decide +kernel, ⟨by decide +kernel, by decide +kernel, by decide +kernel⟩, lwm 78 (by decide +kernel) (by decide +kernel), lwm 601 (by decide +kernel) (by decide +kernel)⟩, lwm 599 (by decide +kernel) (by decide +kernel), lwm 600 (by decide +kernel) (by decide +kernel)⟩
set_option maxRecDepth 20000 in
theorem tX5_twist : TgV mX5_twist 2 := ⟨⟨by decide +kernel, by decide +kernel, ⟨by decide +kernel, by decide +kernel, by decide +kernel⟩, lwm 78 (by decide +kernel) (by decide +kernel), lwm 605 (by decide +kernel) (by decide +kernel)⟩, lwm 603 (by decide +kernel) (by decide +kernel), lwm 604 (by decide +kernel) (by decide +kernel)⟩
set_option maxRecDepth 20000 in
theorem tX5_chain : TgV mX5_chain 2 := ⟨⟨by decide +kernel, by decide +kernel, ⟨by decide +kernel, by decide +kernel, by decide +kernel⟩, lwm 78 (by decide +kernel) (by decide +kernel), lwm 619 (by decide +kernel) (by decide +kernel)⟩, lwm 617 (by decide +kernel) (by decide +kernel), lwm 618 (by decide +kernel) (by decide +kernel)⟩
set_option maxRecDepth 20000 in
theorem tX5_ends : TgV mX5_ends 2 := ⟨⟨by decide +kernel, by decide +kernel, ⟨by decide +kernel, by decide +kernel, by decide +kernel⟩, lwm 78 (by decide +kernel) (by decide +kernel), lwm 623 (by decide +kernel) (by decide +kernel)⟩, lwm 621 (by decide +kernel) (by decide +kernel), lwm 622 (by decide +kernel) (by decide +kernel)⟩
set_option maxRecDepth 20000 in
theorem tX5_whole : TgV mX5_whole 2 := ⟨⟨by decide +kernel, by decide +kernel, ⟨by decide +kernel, by decide +kernel, by decide +kernel⟩, lwm 78 (by decide +kernel) (by decide +kernel), lwm 631 (by decide +kernel) (by decide +kernel)⟩, lwm 629 (by decide +kernel) (by decide +kernel), lwm 630 (by decide +kernel) (by decide +kernel)⟩
set_option maxRecDepth 20000 in
theorem tX5_part : TgV mX5_part 4 := ⟨⟨by decide +kernel, by decide +kernel, ⟨by decide +kernel, by decide +kernel, by decide +kernel⟩, lwm 78 (by decide +kernel) (by decide +kernel), lwm 649 (by decide +kernel) (by decide +kernel)⟩, lwm 647 (by decide +kernel) (by decide +kernel), lwm 648 (by decide +kernel) (by decide +kernel)⟩
set_option maxRecDepth 20000 in
theorem tX5_length : TgV mX5_length 3 := ⟨⟨by decide +kernel, by decide +kernel, ⟨by decide +kernel, by decide +kernel, by decide +kernel⟩, lwm 78 (by decide +kernel) (by decide +kernel), lwm 717 (by decide +kernel) (by decide +kernel)⟩, lwm 715 (by decide +kernel) (by decide +kernel), lwm 716 (by decide +kernel) (by decide +kernel)⟩
set_option maxRecDepth 20000 in
theorem tX5_share : TgV mX5_share 2 := ⟨⟨by decide +kernel, by decide +kernel, ⟨by decide +kernel, by decide +kernel, by decide +kernel⟩, lwm 78 (by decide +kernel) (by decide +kernel), lwm 727 (by decide +kernel) (by decide +kernel)⟩, lwm 725 (by decide +kernel) (by decide +kernel), lwm 726 (by decide +kernel) (by decide +kernel)⟩
set_option maxRecDepth 20000 in
theorem tX5_trees : TgV mX5_trees 2 := ⟨⟨by decide +kernel, by decide +kernel, ⟨by decide +kernel, by decide +kernel, by decide +kernel⟩, lwm 78 (by decide +kernel) (by decide +kernel), lwm 732 (by decide +kernel) (by decide +kernel)⟩, lwm 730 (by decide +kernel) (by decide +kernel), lwm 731 (by decide +kernel) (by decide +kernel)⟩
set_option maxRecDepth 20000 in
theorem tX5_minors : TgV mX5_minors 1 := ⟨⟨by decide +kernel, by decide +kernel, ⟨by decide +kernel, by decide +kernel, by decide +kernel⟩, lwm 78 (by decide +kernel) (by decide +kernel), lwm 741 (by decide +kernel) (by decide +kernel)⟩, lwm 739 (by decide +kernel) (by decide +kernel), lwm 740 (by decide +kernel) (by decide +kernel)⟩
set_option maxRecDepth 20000 in
theorem tX5_image : TgV mX5_image 1 := ⟨⟨by decide +kernel, by decide +kernel, ⟨by decide +kernel, by decide +kernel, by decide +kernel⟩, lwm 78 (by decide +kernel) (by decide +kernel), lwm 751 (by decide +kernel) (by decide +kernel)⟩, lwm 749 (by decide +kernel) (by decide +kernel), lwm 750 (by decide +kernel) (by decide +kernel)⟩
set_option maxRecDepth 20000 in
theorem tX5_restore : TgV mX5_restore 1 := ⟨⟨by decide +kernel, by decide +kernel, ⟨by decide +kernel, by decide +kernel, by decide +kernel⟩, lwm 78 (by decide +kernel) (by decide +kernel), lwm 755 (by decide +kernel) (by decide +kernel)⟩, lwm 753 (by decide +kernel) (by decide +kernel), lwm 754 (by decide +kernel) (by decide +kernel)⟩
set_option maxRecDepth 20000 in
theorem tX5_count : TgV mX5_count 1 := ⟨⟨by decide +kernel, by decide +kernel, ⟨by decide +kernel, by decide +kernel, by decide +kernel⟩, lwm 78 (by decide +kernel) (by decide +kernel), lwm 762 (by decide +kernel) (by decide +kernel)⟩, lwm 760 (by decide +kernel) (by decide +kernel), lwm 761 (by decide +kernel) (by decide +kernel)⟩
set_option maxRecDepth 20000 in
theorem tX5_keepAct : TgV mX5_keepAct 0 := ⟨⟨by decide +kernel, by decide +kernel, ⟨by decide +kernel, by decide +kernel, by decide +kernel⟩, lwm 78 (by decide +kernel) (by decide +kernel), lwm 423 (by decide +kernel) (by decide +kernel)⟩, lwm 422 (by decide +kernel) (by decide +kernel), lwm 8 (by decide +kernel) (by decide +kernel)⟩
set_option maxRecDepth 20000 in
theorem tX5_tableRank : TgV mX5_tableRank 2 := ⟨⟨by decide +kernel, by decide +kernel, ⟨by decide +kernel, by decide +kernel, by decide +kernel⟩, lwm 78 (by decide +kernel) (by decide +kernel), lwm 560 (by decide +kernel) (by decide +kernel)⟩, lwm 559 (by decide +kernel) (by decide +kernel), lwm 11 (by decide +kernel) (by decide +kernel)⟩
set_option maxRecDepth 20000 in
theorem tX5_orderOf : TgV mX5_orderOf 1 := ⟨⟨by decide +kernel, by decide +kernel, ⟨by decide +kernel, by decide +kernel, by decide +kernel⟩, lwm 78 (by decide +kernel) (by decide +kernel), lwm 640 (by decide +kernel) (by decide +kernel)⟩, lwm 639 (by decide +kernel) (by decide +kernel), lwm 13 (by decide +kernel) (by decide +kernel)⟩
set_option maxRecDepth 20000 in
theorem tX5_treeCount : TgV mX5_treeCount 3 := ⟨⟨by decide +kernel, by decide +kernel, ⟨by decide +kernel, by decide +kernel, by decide +kernel⟩, lwm 78 (by decide +kernel) (by decide +kernel), lwm 737 (by decide +kernel) (by decide +kernel)⟩, lwm 736 (by decide +kernel) (by decide +kernel), lwm 23 (by decide +kernel) (by decide +kernel)⟩
set_option maxRecDepth 20000 in
theorem tX5_lowestTerm : TgS mX5_lowestTerm 3 := ⟨⟨by decide +kernel, by decide +kernel, ⟨by decide +kernel, by decide +kernel, by decide +kernel⟩, lwm 78 (by decide +kernel) (by decide +kernel), lwm 712 (by decide +kernel) (by decide +kernel)⟩, lwm 711 (by decide +kernel) (by decide +kernel)⟩
set_option maxRecDepth 20000 in
theorem tX5_gcd : TgS mX5_gcd 2 := ⟨⟨by decide +kernel, by decide +kernel, ⟨by decide +kernel, by decide +kernel, by decide +kernel⟩, lwm 78 (by decide +kernel) (by decide +kernel), lwm 612 (by decide +kernel) (by decide +kernel)⟩, lwm 611 (by decide +kernel) (by decide +kernel)⟩
set_option maxRecDepth 20000 in
theorem tX5_isUpperCell : TgV mX5_isUpperCell 2 := ⟨⟨by decide +kernel, by decide +kernel, ⟨by decide +kernel, by decide +kernel, by decide +kernel⟩, lwm 78 (by decide +kernel) (by decide +kernel), lwm 411 (by decide +kernel) (by decide +kernel)⟩, lwm 410 (by decide +kernel) (by decide +kernel), lwm 7 (by decide +kernel) (by decide +kernel)⟩
set_option maxRecDepth 20000 in
theorem tX5_isWithin : TgS mX5_isWithin 2 := ⟨⟨by decide +kernel, by decide +kernel, ⟨by decide +kernel, by decide +kernel, by decide +kernel⟩, lwm 78 (by decide +kernel) (by decide +kernel), lwm 246 (by decide +kernel) (by decide +kernel)⟩, lwm 245 (by decide +kernel) (by decide +kernel)⟩
set_option maxRecDepth 20000 in
theorem tX5_isChain : TgS mX5_isChain 1 := ⟨⟨by decide +kernel, by decide +kernel, ⟨by decide +kernel, by decide +kernel, by decide +kernel⟩, lwm 78 (by decide +kernel) (by decide +kernel), lwm 489 (by decide +kernel) (by decide +kernel)⟩, lwm 488 (by decide +kernel) (by decide +kernel)⟩
set_option maxRecDepth 20000 in
theorem tX5_isWeight : TgS mX5_isWeight 1 := ⟨⟨by decide +kernel, by decide +kernel, ⟨by decide +kernel, by decide +kernel, by decide +kernel⟩, lwm 78 (by decide +kernel) (by decide +kernel), lwm 415 (by decide +kernel) (by decide +kernel)⟩, lwm 414 (by decide +kernel) (by decide +kernel)⟩
set_option maxRecDepth 20000 in
theorem tX5_isNumber : TgS mX5_isNumber 1 := ⟨⟨by decide +kernel, by decide +kernel, ⟨by decide +kernel, by decide +kernel, by decide +kernel⟩, lwm 78 (by decide +kernel) (by decide +kernel), lwm 492 (by decide +kernel) (by decide +kernel)⟩, lwm 491 (by decide +kernel) (by decide +kernel)⟩
set_option maxRecDepth 20000 in
theorem tX5_isSide : TgS mX5_isSide 1 := ⟨⟨by decide +kernel, by decide +kernel, ⟨by decide +kernel, by decide +kernel, by decide +kernel⟩, lwm 78 (by decide +kernel) (by decide +kernel), lwm 652 (by decide +kernel) (by decide +kernel)⟩, lwm 651 (by decide +kernel) (by decide +kernel)⟩
set_option maxRecDepth 20000 in
theorem tX5_isField : TgS mX5_isField 1 := ⟨⟨by decide +kernel, by decide +kernel, ⟨by decide +kernel, by decide +kernel, by decide +kernel⟩, lwm 78 (by decide +kernel) (by decide +kernel), lwm 556 (by decide +kernel) (by decide +kernel)⟩, lwm 555 (by decide +kernel) (by decide +kernel)⟩
set_option maxRecDepth 20000 in
theorem tX6_in : TgS mX6_in 3 := ⟨⟨by decide +kernel, by decide +kernel, ⟨by decide +kernel, by decide +kernel, by decide +kernel⟩, lwm 84 (by decide +kernel) (by decide +kernel), lwm 850 (by decide +kernel) (by decide +kernel)⟩, lwm 849 (by decide +kernel) (by decide +kernel)⟩
set_option maxRecDepth 20000 in
theorem tX6_has : TgS mX6_has 2 := ⟨⟨by decide +kernel, by decide +kernel, ⟨by decide +kernel, by decide +kernel, by decide +kernel⟩, lwm 84 (by decide +kernel) (by decide +kernel), lwm 1105 (by decide +kernel) (by decide +kernel)⟩, lwm 1104 (by decide +kernel) (by decide +kernel)⟩
set_option maxRecDepth 20000 in
theorem tX6_ones : TgS mX6_ones 1 := ⟨⟨by decide +kernel, by decide +kernel, ⟨by decide +kernel, by decide +kernel, by decide +kernel⟩, lwm 84 (by decide +kernel) (by decide +kernel), lwm 1102 (by decide +kernel) (by decide +kernel)⟩, lwm 1101 (by decide +kernel) (by decide +kernel)⟩
set_option maxRecDepth 20000 in
theorem tX6_gcd : TgS mX6_gcd 2 := ⟨⟨by decide +kernel, by decide +kernel, ⟨by decide +kernel, by decide +kernel, by decide +kernel⟩, lwm 84 (by decide +kernel) (by decide +kernel), lwm 1131 (by decide +kernel) (by decide +kernel)⟩, lwm 1130 (by decide +kernel) (by decide +kernel)⟩
set_option maxRecDepth 20000 in
theorem tX6_copies : TgS mX6_copies 4 := ⟨⟨by decide +kernel, by decide +kernel, ⟨by decide +kernel, by decide +kernel, by decide +kernel⟩, lwm 84 (by decide +kernel) (by decide +kernel), lwm 939 (by decide +kernel) (by decide +kernel)⟩, lwm 938 (by decide +kernel) (by decide +kernel)⟩
set_option maxRecDepth 20000 in
theorem tX6_isComplex : TgV mX6_isComplex 0 := ⟨⟨by decide +kernel, by decide +kernel, ⟨by decide +kernel, by decide +kernel, by decide +kernel⟩, lwm 84 (by decide +kernel) (by decide +kernel), lwm 973 (by decide +kernel) (by decide +kernel)⟩, lwm 972 (by decide +kernel) (by decide +kernel), lwm 36 (by decide +kernel) (by decide +kernel)⟩
set_option maxRecDepth 20000 in
theorem tX6_edgeAt : TgS mX6_edgeAt 3 := ⟨⟨by decide +kernel, by decide +kernel, ⟨by decide +kernel, by decide +kernel, by decide +kernel⟩, lwm 84 (by decide +kernel) (by decide +kernel), lwm 926 (by decide +kernel) (by decide +kernel)⟩, lwm 925 (by decide +kernel) (by decide +kernel)⟩
set_option maxRecDepth 20000 in
theorem tX6_weight : TgS mX6_weight 3 := ⟨⟨by decide +kernel, by decide +kernel, ⟨by decide +kernel, by decide +kernel, by decide +kernel⟩, lwm 84 (by decide +kernel) (by decide +kernel), lwm 965 (by decide +kernel) (by decide +kernel)⟩, lwm 964 (by decide +kernel) (by decide +kernel)⟩
set_option maxRecDepth 20000 in
theorem tX6_letter : TgS mX6_letter 3 := ⟨⟨by decide +kernel, by decide +kernel, ⟨by decide +kernel, by decide +kernel, by decide +kernel⟩, lwm 84 (by decide +kernel) (by decide +kernel), lwm 917 (by decide +kernel) (by decide +kernel)⟩, lwm 916 (by decide +kernel) (by decide +kernel)⟩
set_option maxRecDepth 20000 in
theorem tX6_many : TgS mX6_many 2 := ⟨⟨by decide +kernel, by decide +kernel, ⟨by decide +kernel, by decide +kernel, by decide +kernel⟩, lwm 84 (by decide +kernel) (by decide +kernel), lwm 914 (by decide +kernel) (by decide +kernel)⟩, lwm 913 (by decide +kernel) (by decide +kernel)⟩
set_option maxRecDepth 20000 in
theorem tX6_edgeOf : TgS mX6_edgeOf 1 := ⟨⟨by decide +kernel, by decide +kernel, ⟨by decide +kernel, by decide +kernel, by decide +kernel⟩, lwm 84 (by decide +kernel) (by decide +kernel), lwm 923 (by decide +kernel) (by decide +kernel)⟩, lwm 922 (by decide +kernel) (by decide +kernel)⟩
set_option maxRecDepth 20000 in
theorem tX6_beginOf : TgS mX6_beginOf 2 := ⟨⟨by decide +kernel, by decide +kernel, ⟨by decide +kernel, by decide +kernel, by decide +kernel⟩, lwm 84 (by decide +kernel) (by decide +kernel), lwm 929 (by decide +kernel) (by decide +kernel)⟩, lwm 928 (by decide +kernel) (by decide +kernel)⟩
set_option maxRecDepth 20000 in
theorem tX6_endOf : TgS mX6_endOf 2 := ⟨⟨by decide +kernel, by decide +kernel, ⟨by decide +kernel, by decide +kernel, by decide +kernel⟩, lwm 84 (by decide +kernel) (by decide +kernel), lwm 920 (by decide +kernel) (by decide +kernel)⟩, lwm 919 (by decide +kernel) (by decide +kernel)⟩
set_option maxRecDepth 20000 in
theorem tX6_one : TgV mX6_one 2 := ⟨⟨by decide +kernel, by decide +kernel, ⟨by decide +kernel, by decide +kernel, by decide +kernel⟩, lwm 84 (by decide +kernel) (by decide +kernel), lwm 1064 (by decide +kernel) (by decide +kernel)⟩, lwm 1063 (by decide +kernel) (by decide +kernel), lwm 48 (by decide +kernel) (by decide +kernel)⟩
set_option maxRecDepth 20000 in
theorem tX6_two : TgV mX6_two 2 := ⟨⟨by decide +kernel, by decide +kernel, ⟨by decide +kernel, by decide +kernel, by decide +kernel⟩, lwm 84 (by decide +kernel) (by decide +kernel), lwm 1012 (by decide +kernel) (by decide +kernel)⟩, lwm 1011 (by decide +kernel) (by decide +kernel), lwm 41 (by decide +kernel) (by decide +kernel)⟩
set_option maxRecDepth 20000 in
theorem tX6_rows : TgV mX6_rows 1 := ⟨⟨by decide +kernel, by decide +kernel, ⟨by decide +kernel, by decide +kernel, by decide +kernel⟩, lwm 84 (by decide +kernel) (by decide +kernel), lwm 1052 (by decide +kernel) (by decide +kernel)⟩, lwm 1051 (by decide +kernel) (by decide +kernel), lwm 45 (by decide +kernel) (by decide +kernel)⟩
set_option maxRecDepth 20000 in
theorem tX6_columns : TgV mX6_columns 1 := ⟨⟨by decide +kernel, by decide +kernel, ⟨by decide +kernel, by decide +kernel, by decide +kernel⟩, lwm 84 (by decide +kernel) (by decide +kernel), lwm 1056 (by decide +kernel) (by decide +kernel)⟩, lwm 1055 (by decide +kernel) (by decide +kernel), lwm 46 (by decide +kernel) (by decide +kernel)⟩
set_option maxRecDepth 20000 in
theorem tX6_entry : TgV mX6_entry 3 := ⟨⟨by decide +kernel, by decide +kernel, ⟨by decide +kernel, by decide +kernel, by decide +kernel⟩, lwm 84 (by decide +kernel) (by decide +kernel), lwm 1060 (by decide +kernel) (by decide +kernel)⟩, lwm 1059 (by decide +kernel) (by decide +kernel), lwm 47 (by decide +kernel) (by decide +kernel)⟩
set_option maxRecDepth 20000 in
theorem tX6_nearBy : TgV mX6_nearBy 3 := ⟨⟨by decide +kernel, by decide +kernel, ⟨by decide +kernel, by decide +kernel, by decide +kernel⟩, lwm 84 (by decide +kernel) (by decide +kernel), lwm 1076 (by decide +kernel) (by decide +kernel)⟩, lwm 1075 (by decide +kernel) (by decide +kernel), lwm 50 (by decide +kernel) (by decide +kernel)⟩
set_option maxRecDepth 20000 in
theorem tX6_swaps : TgV mX6_swaps 2 := ⟨⟨by decide +kernel, by decide +kernel, ⟨by decide +kernel, by decide +kernel, by decide +kernel⟩, lwm 84 (by decide +kernel) (by decide +kernel), lwm 1128 (by decide +kernel) (by decide +kernel)⟩, lwm 1127 (by decide +kernel) (by decide +kernel), lwm 59 (by decide +kernel) (by decide +kernel)⟩
set_option maxRecDepth 20000 in
theorem tX6_determinant : TgV mX6_determinant 1 := ⟨⟨by decide +kernel, by decide +kernel, ⟨by decide +kernel, by decide +kernel, by decide +kernel⟩, lwm 84 (by decide +kernel) (by decide +kernel), lwm 1124 (by decide +kernel) (by decide +kernel)⟩, lwm 1123 (by decide +kernel) (by decide +kernel), lwm 58 (by decide +kernel) (by decide +kernel)⟩
set_option maxRecDepth 20000 in
theorem tX6_inverse : TgS mX6_inverse 2 := ⟨⟨by decide +kernel, by decide +kernel, ⟨by decide +kernel, by decide +kernel, by decide +kernel⟩, lwm 84 (by decide +kernel) (by decide +kernel), lwm 1146 (by decide +kernel) (by decide +kernel)⟩, lwm 1145 (by decide +kernel) (by decide +kernel)⟩
set_option maxRecDepth 20000 in
theorem tX6_rankBy : TgV mX6_rankBy 3 := ⟨⟨by decide +kernel, by decide +kernel, ⟨by decide +kernel, by decide +kernel, by decide +kernel⟩, lwm 84 (by decide +kernel) (by decide +kernel), lwm 1139 (by decide +kernel) (by decide +kernel)⟩, lwm 1138 (by decide +kernel) (by decide +kernel), lwm 61 (by decide +kernel) (by decide +kernel)⟩
set_option maxRecDepth 20000 in
theorem tX6_clears : TgV mX6_clears 4 := ⟨⟨by decide +kernel, by decide +kernel, ⟨by decide +kernel, by decide +kernel, by decide +kernel⟩, lwm 84 (by decide +kernel) (by decide +kernel), lwm 1143 (by decide +kernel) (by decide +kernel)⟩, lwm 1142 (by decide +kernel) (by decide +kernel), lwm 62 (by decide +kernel) (by decide +kernel)⟩
set_option maxRecDepth 20000 in
theorem tX6_lays : TgV mX6_lays 1 := ⟨⟨by decide +kernel, by decide +kernel, ⟨by decide +kernel, by decide +kernel, by decide +kernel⟩, lwm 84 (by decide +kernel) (by decide +kernel), lwm 1135 (by decide +kernel) (by decide +kernel)⟩, lwm 1134 (by decide +kernel) (by decide +kernel), lwm 60 (by decide +kernel) (by decide +kernel)⟩
set_option maxRecDepth 20000 in
theorem tX6_wide : TgV mX6_wide 4 := ⟨⟨by decide +kernel, by decide +kernel, ⟨by decide +kernel, by decide +kernel, by decide +kernel⟩, lwm 84 (by decide +kernel) (by decide +kernel), lwm 1120 (by decide +kernel) (by decide +kernel)⟩, lwm 1119 (by decide +kernel) (by decide +kernel), lwm 57 (by decide +kernel) (by decide +kernel)⟩
set_option maxRecDepth 20000 in
theorem tX6_nth : TgS mX6_nth 2 := ⟨⟨by decide +kernel, by decide +kernel, ⟨by decide +kernel, by decide +kernel, by decide +kernel⟩, lwm 84 (by decide +kernel) (by decide +kernel), lwm 1116 (by decide +kernel) (by decide +kernel)⟩, lwm 1115 (by decide +kernel) (by decide +kernel)⟩
set_option maxRecDepth 20000 in
theorem tX6_minor : TgV mX6_minor 4 := ⟨⟨by decide +kernel, by decide +kernel, ⟨by decide +kernel, by decide +kernel, by decide +kernel⟩, lwm 84 (by decide +kernel) (by decide +kernel), lwm 1113 (by decide +kernel) (by decide +kernel)⟩, lwm 1112 (by decide +kernel) (by decide +kernel), lwm 56 (by decide +kernel) (by decide +kernel)⟩
set_option maxRecDepth 20000 in
theorem tX6_minorsOf : TgV mX6_minorsOf 4 := ⟨⟨by decide +kernel, by decide +kernel, ⟨by decide +kernel, by decide +kernel, by decide +kernel⟩, lwm 84 (by decide +kernel) (by decide +kernel), lwm 1109 (by decide +kernel) (by decide +kernel)⟩, lwm 1108 (by decide +kernel) (by decide +kernel), lwm 55 (by decide +kernel) (by decide +kernel)⟩
set_option maxRecDepth 20000 in
theorem tX6_rankOf : TgV mX6_rankOf 3 := ⟨⟨by decide +kernel, by decide +kernel, ⟨by decide +kernel, by decide +kernel, by decide +kernel⟩, lwm 84 (by decide +kernel) (by decide +kernel), lwm 1099 (by decide +kernel) (by decide +kernel)⟩, lwm 1098 (by decide +kernel) (by decide +kernel), lwm 54 (by decide +kernel) (by decide +kernel)⟩
set_option maxRecDepth 20000 in
theorem tX6_allColumns : TgV mX6_allColumns 1 := ⟨⟨by decide +kernel, by decide +kernel, ⟨by decide +kernel, by decide +kernel, by decide +kernel⟩, lwm 84 (by decide +kernel) (by decide +kernel), lwm 1095 (by decide +kernel) (by decide +kernel)⟩, lwm 1094 (by decide +kernel) (by decide +kernel), lwm 53 (by decide +kernel) (by decide +kernel)⟩
set_option maxRecDepth 20000 in
theorem tX6_rankAll : TgV mX6_rankAll 1 := ⟨⟨by decide +kernel, by decide +kernel, ⟨by decide +kernel, by decide +kernel, by decide +kernel⟩, lwm 84 (by decide +kernel) (by decide +kernel), lwm 1091 (by decide +kernel) (by decide +kernel)⟩, lwm 1090 (by decide +kernel) (by decide +kernel), lwm 52 (by decide +kernel) (by decide +kernel)⟩
set_option maxRecDepth 20000 in
theorem tX6_byteAt : TgV mX6_byteAt 1 := ⟨⟨by decide +kernel, by decide +kernel, ⟨by decide +kernel, by decide +kernel, by decide +kernel⟩, lwm 84 (by decide +kernel) (by decide +kernel), lwm 864 (by decide +kernel) (by decide +kernel)⟩, lwm 863 (by decide +kernel) (by decide +kernel), lwm 25 (by decide +kernel) (by decide +kernel)⟩
set_option maxRecDepth 20000 in
theorem tX6_reads : TgV mX6_reads 0 := ⟨⟨by decide +kernel, by decide +kernel, ⟨by decide +kernel, by decide +kernel, by decide +kernel⟩, lwm 84 (by decide +kernel) (by decide +kernel), lwm 860 (by decide +kernel) (by decide +kernel)⟩, lwm 859 (by decide +kernel) (by decide +kernel), lwm 24 (by decide +kernel) (by decide +kernel)⟩
set_option maxRecDepth 20000 in
theorem tX6_bad : TgV mX6_bad 1 := ⟨⟨by decide +kernel, by decide +kernel, ⟨by decide +kernel, by decide +kernel, by decide +kernel⟩, lwm 84 (by decide +kernel) (by decide +kernel), lwm 878 (by decide +kernel) (by decide +kernel)⟩, lwm 877 (by decide +kernel) (by decide +kernel), lwm 27 (by decide +kernel) (by decide +kernel)⟩
set_option maxRecDepth 20000 in
theorem tX6_goesOn : TgV mX6_goesOn 0 := ⟨⟨by decide +kernel, by decide +kernel, ⟨by decide +kernel, by decide +kernel, by decide +kernel⟩, lwm 84 (by decide +kernel) (by decide +kernel), lwm 882 (by decide +kernel) (by decide +kernel)⟩, lwm 881 (by decide +kernel) (by decide +kernel), lwm 28 (by decide +kernel) (by decide +kernel)⟩
set_option maxRecDepth 20000 in
theorem tX6_digit : TgV mX6_digit 2 := ⟨⟨by decide +kernel, by decide +kernel, ⟨by decide +kernel, by decide +kernel, by decide +kernel⟩, lwm 84 (by decide +kernel) (by decide +kernel), lwm 886 (by decide +kernel) (by decide +kernel)⟩, lwm 885 (by decide +kernel) (by decide +kernel), lwm 29 (by decide +kernel) (by decide +kernel)⟩
set_option maxRecDepth 20000 in
theorem tX6_isLetter : TgV mX6_isLetter 1 := ⟨⟨by decide +kernel, by decide +kernel, ⟨by decide +kernel, by decide +kernel, by decide +kernel⟩, lwm 84 (by decide +kernel) (by decide +kernel), lwm 874 (by decide +kernel) (by decide +kernel)⟩, lwm 873 (by decide +kernel) (by decide +kernel), lwm 26 (by decide +kernel) (by decide +kernel)⟩
set_option maxRecDepth 20000 in
theorem tX6_isStop : TgV mX6_isStop 0 := ⟨⟨by decide +kernel, by decide +kernel, ⟨by decide +kernel, by decide +kernel, by decide +kernel⟩, lwm 84 (by decide +kernel) (by decide +kernel), lwm 894 (by decide +kernel) (by decide +kernel)⟩, lwm 893 (by decide +kernel) (by decide +kernel), lwm 31 (by decide +kernel) (by decide +kernel)⟩
set_option maxRecDepth 20000 in
theorem tX6_stop : TgV mX6_stop 0 := ⟨⟨by decide +kernel, by decide +kernel, ⟨by decide +kernel, by decide +kernel, by decide +kernel⟩, lwm 84 (by decide +kernel) (by decide +kernel), lwm 890 (by decide +kernel) (by decide +kernel)⟩, lwm 889 (by decide +kernel) (by decide +kernel), lwm 30 (by decide +kernel) (by decide +kernel)⟩
set_option maxRecDepth 20000 in
theorem tX6_told : TgS mX6_told 2 := ⟨⟨by decide +kernel, by decide +kernel, ⟨by decide +kernel, by decide +kernel, by decide +kernel⟩, lwm 84 (by decide +kernel) (by decide +kernel), lwm 908 (by decide +kernel) (by decide +kernel)⟩, lwm 907 (by decide +kernel) (by decide +kernel)⟩
set_option maxRecDepth 20000 in
theorem tX6_isNext : TgS mX6_isNext 3 := ⟨⟨by decide +kernel, by decide +kernel, ⟨by decide +kernel, by decide +kernel, by decide +kernel⟩, lwm 84 (by decide +kernel) (by decide +kernel), lwm 911 (by decide +kernel) (by decide +kernel)⟩, lwm 910 (by decide +kernel) (by decide +kernel)⟩
set_option maxRecDepth 20000 in
theorem tX6_isClosed : TgS mX6_isClosed 2 := ⟨⟨by decide +kernel, by decide +kernel, ⟨by decide +kernel, by decide +kernel, by decide +kernel⟩, lwm 84 (by decide +kernel) (by decide +kernel), lwm 935 (by decide +kernel) (by decide +kernel)⟩, lwm 934 (by decide +kernel) (by decide +kernel)⟩
set_option maxRecDepth 20000 in
theorem tX6_spells : TgS mX6_spells 3 := ⟨⟨by decide +kernel, by decide +kernel, ⟨by decide +kernel, by decide +kernel, by decide +kernel⟩, lwm 84 (by decide +kernel) (by decide +kernel), lwm 932 (by decide +kernel) (by decide +kernel)⟩, lwm 931 (by decide +kernel) (by decide +kernel)⟩
set_option maxRecDepth 20000 in
theorem tX6_readsEdge : TgV mX6_readsEdge 0 := ⟨⟨by decide +kernel, by decide +kernel, ⟨by decide +kernel, by decide +kernel, by decide +kernel⟩, lwm 84 (by decide +kernel) (by decide +kernel), lwm 898 (by decide +kernel) (by decide +kernel)⟩, lwm 897 (by decide +kernel) (by decide +kernel), lwm 32 (by decide +kernel) (by decide +kernel)⟩
set_option maxRecDepth 20000 in
theorem tX6_laysEdge : TgS mX6_laysEdge 4 := ⟨⟨by decide +kernel, by decide +kernel, ⟨by decide +kernel, by decide +kernel, by decide +kernel⟩, lwm 84 (by decide +kernel) (by decide +kernel), lwm 901 (by decide +kernel) (by decide +kernel)⟩, lwm 900 (by decide +kernel) (by decide +kernel)⟩
set_option maxRecDepth 20000 in
theorem tX6_readsFace : TgV mX6_readsFace 0 := ⟨⟨by decide +kernel, by decide +kernel, ⟨by decide +kernel, by decide +kernel, by decide +kernel⟩, lwm 84 (by decide +kernel) (by decide +kernel), lwm 905 (by decide +kernel) (by decide +kernel)⟩, lwm 904 (by decide +kernel) (by decide +kernel), lwm 33 (by decide +kernel) (by decide +kernel)⟩
set_option maxRecDepth 20000 in
theorem tX6_feed : TgV mX6_feed 1 := ⟨⟨by decide +kernel, by decide +kernel, ⟨by decide +kernel, by decide +kernel, by decide +kernel⟩, lwm 84 (by decide +kernel) (by decide +kernel), lwm 846 (by decide +kernel) (by decide +kernel)⟩, lwm 844 (by decide +kernel) (by decide +kernel), lwm 845 (by decide +kernel) (by decide +kernel)⟩
set_option maxRecDepth 20000 in
theorem tX6_complex : TgV mX6_complex 0 := ⟨⟨by decide +kernel, by decide +kernel, ⟨by decide +kernel, by decide +kernel, by decide +kernel⟩, lwm 84 (by decide +kernel) (by decide +kernel), lwm 856 (by decide +kernel) (by decide +kernel)⟩, lwm 854 (by decide +kernel) (by decide +kernel), lwm 855 (by decide +kernel) (by decide +kernel)⟩
set_option maxRecDepth 20000 in
theorem tX6_fault : TgV mX6_fault 0 := ⟨⟨by decide +kernel, by decide +kernel, ⟨by decide +kernel, by decide +kernel, by decide +kernel⟩, lwm 84 (by decide +kernel) (by decide +kernel), lwm 943 (by decide +kernel) (by decide +kernel)⟩, lwm 941 (by decide +kernel) (by decide +kernel), lwm 942 (by decide +kernel) (by decide +kernel)⟩
set_option maxRecDepth 20000 in
theorem tX6_notes : TgV mX6_notes 0 := ⟨⟨by decide +kernel, by decide +kernel, ⟨by decide +kernel, by decide +kernel, by decide +kernel⟩, lwm 84 (by decide +kernel) (by decide +kernel), lwm 962 (by decide +kernel) (by decide +kernel)⟩, lwm 961 (by decide +kernel) (by decide +kernel), lwm 35 (by decide +kernel) (by decide +kernel)⟩
set_option maxRecDepth 20000 in
theorem tX6_undo : TgV mX6_undo 0 := ⟨⟨by decide +kernel, by decide +kernel, ⟨by decide +kernel, by decide +kernel, by decide +kernel⟩, lwm 84 (by decide +kernel) (by decide +kernel), lwm 947 (by decide +kernel) (by decide +kernel)⟩, lwm 945 (by decide +kernel) (by decide +kernel), lwm 946 (by decide +kernel) (by decide +kernel)⟩
set_option maxRecDepth 20000 in
theorem tX6_isCell : TgV mX6_isCell 2 := ⟨⟨by decide +kernel, by decide +kernel, ⟨by decide +kernel, by decide +kernel, by decide +kernel⟩, lwm 84 (by decide +kernel) (by decide +kernel), lwm 956 (by decide +kernel) (by decide +kernel)⟩, lwm 955 (by decide +kernel) (by decide +kernel), lwm 34 (by decide +kernel) (by decide +kernel)⟩
set_option maxRecDepth 20000 in
theorem tX6_isChain : TgV mX6_isChain 1 := ⟨⟨by decide +kernel, by decide +kernel, ⟨by decide +kernel, by decide +kernel, by decide +kernel⟩, lwm 84 (by decide +kernel) (by decide +kernel), lwm 1002 (by decide +kernel) (by decide +kernel)⟩, lwm 1001 (by decide +kernel) (by decide +kernel), lwm 40 (by decide +kernel) (by decide +kernel)⟩
set_option maxRecDepth 20000 in
theorem tX6_weigh : TgV mX6_weigh 3 := ⟨⟨by decide +kernel, by decide +kernel, ⟨by decide +kernel, by decide +kernel, by decide +kernel⟩, lwm 84 (by decide +kernel) (by decide +kernel), lwm 952 (by decide +kernel) (by decide +kernel)⟩, lwm 950 (by decide +kernel) (by decide +kernel), lwm 951 (by decide +kernel) (by decide +kernel)⟩
set_option maxRecDepth 20000 in
theorem tX6_edge : TgV mX6_edge 3 := ⟨⟨by decide +kernel, by decide +kernel, ⟨by decide +kernel, by decide +kernel, by decide +kernel⟩, lwm 84 (by decide +kernel) (by decide +kernel), lwm 969 (by decide +kernel) (by decide +kernel)⟩, lwm 967 (by decide +kernel) (by decide +kernel), lwm 968 (by decide +kernel) (by decide +kernel)⟩
set_option maxRecDepth 20000 in
theorem tX6_isWord : TgV mX6_isWord 1 := ⟨⟨by decide +kernel, by decide +kernel, ⟨by decide +kernel, by decide +kernel, by decide +kernel⟩, lwm 84 (by decide +kernel) (by decide +kernel), lwm 981 (by decide +kernel) (by decide +kernel)⟩, lwm 980 (by decide +kernel) (by decide +kernel), lwm 37 (by decide +kernel) (by decide +kernel)⟩
set_option maxRecDepth 20000 in
theorem tX6_face : TgV mX6_face 1 := ⟨⟨by decide +kernel, by decide +kernel, ⟨by decide +kernel, by decide +kernel, by decide +kernel⟩, lwm 84 (by decide +kernel) (by decide +kernel), lwm 977 (by decide +kernel) (by decide +kernel)⟩, lwm 975 (by decide +kernel) (by decide +kernel), lwm 976 (by decide +kernel) (by decide +kernel)⟩
set_option maxRecDepth 20000 in
theorem tX6_isSpelled : TgV mX6_isSpelled 1 := ⟨⟨by decide +kernel, by decide +kernel, ⟨by decide +kernel, by decide +kernel, by decide +kernel⟩, lwm 84 (by decide +kernel) (by decide +kernel), lwm 990 (by decide +kernel) (by decide +kernel)⟩, lwm 989 (by decide +kernel) (by decide +kernel), lwm 38 (by decide +kernel) (by decide +kernel)⟩
set_option maxRecDepth 20000 in
theorem tX6_dropsEdge : TgV mX6_dropsEdge 1 := ⟨⟨by decide +kernel, by decide +kernel, ⟨by decide +kernel, by decide +kernel, by decide +kernel⟩, lwm 84 (by decide +kernel) (by decide +kernel), lwm 994 (by decide +kernel) (by decide +kernel)⟩, lwm 993 (by decide +kernel) (by decide +kernel), lwm 39 (by decide +kernel) (by decide +kernel)⟩
set_option maxRecDepth 20000 in
theorem tX6_drop : TgV mX6_drop 2 := ⟨⟨by decide +kernel, by decide +kernel, ⟨by decide +kernel, by decide +kernel, by decide +kernel⟩, lwm 84 (by decide +kernel) (by decide +kernel), lwm 986 (by decide +kernel) (by decide +kernel)⟩, lwm 984 (by decide +kernel) (by decide +kernel), lwm 985 (by decide +kernel) (by decide +kernel)⟩
set_option maxRecDepth 20000 in
theorem tX6_others : TgV mX6_others 1 := ⟨⟨by decide +kernel, by decide +kernel, ⟨by decide +kernel, by decide +kernel, by decide +kernel⟩, lwm 84 (by decide +kernel) (by decide +kernel), lwm 1016 (by decide +kernel) (by decide +kernel)⟩, lwm 1015 (by decide +kernel) (by decide +kernel), lwm 42 (by decide +kernel) (by decide +kernel)⟩
set_option maxRecDepth 20000 in
theorem tX6_put : TgV mX6_put 3 := ⟨⟨by decide +kernel, by decide +kernel, ⟨by decide +kernel, by decide +kernel, by decide +kernel⟩, lwm 84 (by decide +kernel) (by decide +kernel), lwm 998 (by decide +kernel) (by decide +kernel)⟩, lwm 996 (by decide +kernel) (by decide +kernel), lwm 997 (by decide +kernel) (by decide +kernel)⟩
set_option maxRecDepth 20000 in
theorem tX6_bound : TgV mX6_bound 3 := ⟨⟨by decide +kernel, by decide +kernel, ⟨by decide +kernel, by decide +kernel, by decide +kernel⟩, lwm 84 (by decide +kernel) (by decide +kernel), lwm 1008 (by decide +kernel) (by decide +kernel)⟩, lwm 1006 (by decide +kernel) (by decide +kernel), lwm 1007 (by decide +kernel) (by decide +kernel)⟩
set_option maxRecDepth 20000 in
theorem tX6_drawn : TgV mX6_drawn 2 := ⟨⟨by decide +kernel, by decide +kernel, ⟨by decide +kernel, by decide +kernel, by decide +kernel⟩, lwm 84 (by decide +kernel) (by decide +kernel), lwm 1020 (by decide +kernel) (by decide +kernel)⟩, lwm 1018 (by decide +kernel) (by decide +kernel), lwm 1019 (by decide +kernel) (by decide +kernel)⟩
set_option maxRecDepth 20000 in
theorem tX6_code : TgV mX6_code 1 := ⟨⟨by decide +kernel, by decide +kernel, ⟨by decide +kernel, by decide +kernel, by decide +kernel⟩, lwm 84 (by decide +kernel) (by decide +kernel), lwm 1034 (by decide +kernel) (by decide +kernel)⟩, lwm 1033 (by decide +kernel) (by decide +kernel), lwm 43 (by decide +kernel) (by decide +kernel)⟩
set_option maxRecDepth 20000 in
theorem tX6_cell : TgV mX6_cell 3 := ⟨⟨by decide +kernel, by decide +kernel, ⟨by decide +kernel, by decide +kernel, by decide +kernel⟩, lwm 84 (by decide +kernel) (by decide +kernel), lwm 1028 (by decide +kernel) (by decide +kernel)⟩, lwm 1026 (by decide +kernel) (by decide +kernel), lwm 1027 (by decide +kernel) (by decide +kernel)⟩
set_option maxRecDepth 20000 in
theorem tX6_isSealed : TgV mX6_isSealed 1 := ⟨⟨by decide +kernel, by decide +kernel, ⟨by decide +kernel, by decide +kernel, by decide +kernel⟩, lwm 84 (by decide +kernel) (by decide +kernel), lwm 1044 (by decide +kernel) (by decide +kernel)⟩, lwm 1043 (by decide +kernel) (by decide +kernel), lwm 44 (by decide +kernel) (by decide +kernel)⟩
set_option maxRecDepth 20000 in
theorem tX6_as : TgV mX6_as 3 := ⟨⟨by decide +kernel, by decide +kernel, ⟨by decide +kernel, by decide +kernel, by decide +kernel⟩, lwm 84 (by decide +kernel) (by decide +kernel), lwm 1039 (by decide +kernel) (by decide +kernel)⟩, lwm 1037 (by decide +kernel) (by decide +kernel), lwm 1038 (by decide +kernel) (by decide +kernel)⟩
set_option maxRecDepth 20000 in
theorem tX6_table : TgV mX6_table 3 := ⟨⟨by decide +kernel, by decide +kernel, ⟨by decide +kernel, by decide +kernel, by decide +kernel⟩, lwm 84 (by decide +kernel) (by decide +kernel), lwm 1048 (by decide +kernel) (by decide +kernel)⟩, lwm 1046 (by decide +kernel) (by decide +kernel), lwm 1047 (by decide +kernel) (by decide +kernel)⟩
set_option maxRecDepth 20000 in
theorem tX6_nearSize : TgV mX6_nearSize 1 := ⟨⟨by decide +kernel, by decide +kernel, ⟨by decide +kernel, by decide +kernel, by decide +kernel⟩, lwm 84 (by decide +kernel) (by decide +kernel), lwm 1072 (by decide +kernel) (by decide +kernel)⟩, lwm 1071 (by decide +kernel) (by decide +kernel), lwm 49 (by decide +kernel) (by decide +kernel)⟩
set_option maxRecDepth 20000 in
theorem tX6_near : TgV mX6_near 3 := ⟨⟨by decide +kernel, by decide +kernel, ⟨by decide +kernel, by decide +kernel, by decide +kernel⟩, lwm 84 (by decide +kernel) (by decide +kernel), lwm 1068 (by decide +kernel) (by decide +kernel)⟩, lwm 1066 (by decide +kernel) (by decide +kernel), lwm 1067 (by decide +kernel) (by decide +kernel)⟩
set_option maxRecDepth 20000 in
theorem tX6_isPrime : TgS mX6_isPrime 1 := ⟨⟨by decide +kernel, by decide +kernel, ⟨by decide +kernel, by decide +kernel, by decide +kernel⟩, lwm 84 (by decide +kernel) (by decide +kernel), lwm 1083 (by decide +kernel) (by decide +kernel)⟩, lwm 1082 (by decide +kernel) (by decide +kernel)⟩
set_option maxRecDepth 20000 in
theorem tX6_rankFor : TgV mX6_rankFor 2 := ⟨⟨by decide +kernel, by decide +kernel, ⟨by decide +kernel, by decide +kernel, by decide +kernel⟩, lwm 84 (by decide +kernel) (by decide +kernel), lwm 1087 (by decide +kernel) (by decide +kernel)⟩, lwm 1086 (by decide +kernel) (by decide +kernel), lwm 51 (by decide +kernel) (by decide +kernel)⟩
set_option maxRecDepth 20000 in
theorem tX6_rank : TgV mX6_rank 2 := ⟨⟨by decide +kernel, by decide +kernel, ⟨by decide +kernel, by decide +kernel, by decide +kernel⟩, lwm 84 (by decide +kernel) (by decide +kernel), lwm 1080 (by decide +kernel) (by decide +kernel)⟩, lwm 1078 (by decide +kernel) (by decide +kernel), lwm 1079 (by decide +kernel) (by decide +kernel)⟩
set_option maxRecDepth 20000 in
theorem tX6_holes : TgV mX6_holes 2 := ⟨⟨by decide +kernel, by decide +kernel, ⟨by decide +kernel, by decide +kernel, by decide +kernel⟩, lwm 84 (by decide +kernel) (by decide +kernel), lwm 1150 (by decide +kernel) (by decide +kernel)⟩, lwm 1148 (by decide +kernel) (by decide +kernel), lwm 1149 (by decide +kernel) (by decide +kernel)⟩
set_option maxRecDepth 20000 in
theorem tX6_twist : TgV mX6_twist 2 := ⟨⟨by decide +kernel, by decide +kernel, ⟨by decide +kernel, by decide +kernel, by decide +kernel⟩, lwm 84 (by decide +kernel) (by decide +kernel), lwm 1154 (by decide +kernel) (by decide +kernel)⟩, lwm 1152 (by decide +kernel) (by decide +kernel), lwm 1153 (by decide +kernel) (by decide +kernel)⟩
set_option maxRecDepth 20000 in
theorem tX6_chain : TgV mX6_chain 2 := ⟨⟨by decide +kernel, by decide +kernel, ⟨by decide +kernel, by decide +kernel, by decide +kernel⟩, lwm 84 (by decide +kernel) (by decide +kernel), lwm 1158 (by decide +kernel) (by decide +kernel)⟩, lwm 1156 (by decide +kernel) (by decide +kernel), lwm 1157 (by decide +kernel) (by decide +kernel)⟩
set_option maxRecDepth 20000 in
theorem tX6_endsAt : TgV mX6_endsAt 2 := ⟨⟨by decide +kernel, by decide +kernel, ⟨by decide +kernel, by decide +kernel, by decide +kernel⟩, lwm 84 (by decide +kernel) (by decide +kernel), lwm 1166 (by decide +kernel) (by decide +kernel)⟩, lwm 1165 (by decide +kernel) (by decide +kernel), lwm 63 (by decide +kernel) (by decide +kernel)⟩
set_option maxRecDepth 20000 in
theorem tX6_ends : TgV mX6_ends 2 := ⟨⟨by decide +kernel, by decide +kernel, ⟨by decide +kernel, by decide +kernel, by decide +kernel⟩, lwm 84 (by decide +kernel) (by decide +kernel), lwm 1162 (by decide +kernel) (by decide +kernel)⟩, lwm 1160 (by decide +kernel) (by decide +kernel), lwm 1161 (by decide +kernel) (by decide +kernel)⟩
set_option maxRecDepth 20000 in
theorem tX6_isCycle : TgV mX6_isCycle 1 := ⟨⟨by decide +kernel, by decide +kernel, ⟨by decide +kernel, by decide +kernel, by decide +kernel⟩, lwm 84 (by decide +kernel) (by decide +kernel), lwm 1174 (by decide +kernel) (by decide +kernel)⟩, lwm 1173 (by decide +kernel) (by decide +kernel), lwm 64 (by decide +kernel) (by decide +kernel)⟩
set_option maxRecDepth 20000 in
theorem tX6_order : TgV mX6_order 1 := ⟨⟨by decide +kernel, by decide +kernel, ⟨by decide +kernel, by decide +kernel, by decide +kernel⟩, lwm 84 (by decide +kernel) (by decide +kernel), lwm 1178 (by decide +kernel) (by decide +kernel)⟩, lwm 1177 (by decide +kernel) (by decide +kernel), lwm 65 (by decide +kernel) (by decide +kernel)⟩
set_option maxRecDepth 20000 in
theorem tX6_whole : TgV mX6_whole 2 := ⟨⟨by decide +kernel, by decide +kernel, ⟨by decide +kernel, by decide +kernel, by decide +kernel⟩, lwm 84 (by decide +kernel) (by decide +kernel), lwm 1170 (by decide +kernel) (by decide +kernel)⟩, lwm 1168 (by decide +kernel) (by decide +kernel), lwm 1169 (by decide +kernel) (by decide +kernel)⟩
set_option maxRecDepth 20000 in
theorem tX6_independent : TgV mX6_independent 1 := ⟨⟨by decide +kernel, by decide +kernel, ⟨by decide +kernel, by decide +kernel, by decide +kernel⟩, lwm 84 (by decide +kernel) (by decide +kernel), lwm 1195 (by decide +kernel) (by decide +kernel)⟩, lwm 1194 (by decide +kernel) (by decide +kernel), lwm 68 (by decide +kernel) (by decide +kernel)⟩
set_option maxRecDepth 20000 in
theorem tX6_rankOfRows : TgV mX6_rankOfRows 1 := ⟨⟨by decide +kernel, by decide +kernel, ⟨by decide +kernel, by decide +kernel, by decide +kernel⟩, lwm 84 (by decide +kernel) (by decide +kernel), lwm 1199 (by decide +kernel) (by decide +kernel)⟩, lwm 1198 (by decide +kernel) (by decide +kernel), lwm 69 (by decide +kernel) (by decide +kernel)⟩
set_option maxRecDepth 20000 in
theorem tX6_product : TgV mX6_product 3 := ⟨⟨by decide +kernel, by decide +kernel, ⟨by decide +kernel, by decide +kernel, by decide +kernel⟩, lwm 84 (by decide +kernel) (by decide +kernel), lwm 1211 (by decide +kernel) (by decide +kernel)⟩, lwm 1210 (by decide +kernel) (by decide +kernel), lwm 72 (by decide +kernel) (by decide +kernel)⟩
set_option maxRecDepth 20000 in
theorem tX6_against : TgV mX6_against 3 := ⟨⟨by decide +kernel, by decide +kernel, ⟨by decide +kernel, by decide +kernel, by decide +kernel⟩, lwm 84 (by decide +kernel) (by decide +kernel), lwm 1215 (by decide +kernel) (by decide +kernel)⟩, lwm 1214 (by decide +kernel) (by decide +kernel), lwm 73 (by decide +kernel) (by decide +kernel)⟩
set_option maxRecDepth 20000 in
theorem tX6_laysProducts : TgV mX6_laysProducts 2 := ⟨⟨by decide +kernel, by decide +kernel, ⟨by decide +kernel, by decide +kernel, by decide +kernel⟩, lwm 84 (by decide +kernel) (by decide +kernel), lwm 1207 (by decide +kernel) (by decide +kernel)⟩, lwm 1206 (by decide +kernel) (by decide +kernel), lwm 71 (by decide +kernel) (by decide +kernel)⟩
set_option maxRecDepth 20000 in
theorem tX6_solves : TgV mX6_solves 3 := ⟨⟨by decide +kernel, by decide +kernel, ⟨by decide +kernel, by decide +kernel, by decide +kernel⟩, lwm 84 (by decide +kernel) (by decide +kernel), lwm 1203 (by decide +kernel) (by decide +kernel)⟩, lwm 1202 (by decide +kernel) (by decide +kernel), lwm 70 (by decide +kernel) (by decide +kernel)⟩
set_option maxRecDepth 20000 in
theorem tX6_tells : TgV mX6_tells 3 := ⟨⟨by decide +kernel, by decide +kernel, ⟨by decide +kernel, by decide +kernel, by decide +kernel⟩, lwm 84 (by decide +kernel) (by decide +kernel), lwm 1219 (by decide +kernel) (by decide +kernel)⟩, lwm 1218 (by decide +kernel) (by decide +kernel), lwm 74 (by decide +kernel) (by decide +kernel)⟩
set_option maxRecDepth 20000 in
theorem tX6_spans : TgV mX6_spans 2 := ⟨⟨by decide +kernel, by decide +kernel, ⟨by decide +kernel, by decide +kernel, by decide +kernel⟩, lwm 84 (by decide +kernel) (by decide +kernel), lwm 1191 (by decide +kernel) (by decide +kernel)⟩, lwm 1190 (by decide +kernel) (by decide +kernel), lwm 67 (by decide +kernel) (by decide +kernel)⟩
set_option maxRecDepth 20000 in
theorem tX6_laysPart : TgV mX6_laysPart 2 := ⟨⟨by decide +kernel, by decide +kernel, ⟨by decide +kernel, by decide +kernel, by decide +kernel⟩, lwm 84 (by decide +kernel) (by decide +kernel), lwm 1187 (by decide +kernel) (by decide +kernel)⟩, lwm 1186 (by decide +kernel) (by decide +kernel), lwm 66 (by decide +kernel) (by decide +kernel)⟩
set_option maxRecDepth 20000 in
theorem tX6_part : TgV mX6_part 4 := ⟨⟨by decide +kernel, by decide +kernel, ⟨by decide +kernel, by decide +kernel, by decide +kernel⟩, lwm 84 (by decide +kernel) (by decide +kernel), lwm 1182 (by decide +kernel) (by decide +kernel)⟩, lwm 1180 (by decide +kernel) (by decide +kernel), lwm 1181 (by decide +kernel) (by decide +kernel)⟩
set_option maxRecDepth 20000 in
theorem tX6_measures : TgV mX6_measures 2 := ⟨⟨by decide +kernel, by decide +kernel, ⟨by decide +kernel, by decide +kernel, by decide +kernel⟩, lwm 84 (by decide +kernel) (by decide +kernel), lwm 1228 (by decide +kernel) (by decide +kernel)⟩, lwm 1227 (by decide +kernel) (by decide +kernel), lwm 75 (by decide +kernel) (by decide +kernel)⟩
set_option maxRecDepth 20000 in
theorem tX6_length : TgV mX6_length 3 := ⟨⟨by decide +kernel, by decide +kernel, ⟨by decide +kernel, by decide +kernel, by decide +kernel⟩, lwm 84 (by decide +kernel) (by decide +kernel), lwm 1223 (by decide +kernel) (by decide +kernel)⟩, lwm 1221 (by decide +kernel) (by decide +kernel), lwm 1222 (by decide +kernel) (by decide +kernel)⟩
set_option maxRecDepth 20000 in
theorem tX6_share : TgV mX6_share 2 := ⟨⟨by decide +kernel, by decide +kernel, ⟨by decide +kernel, by decide +kernel, by decide +kernel⟩, lwm 84 (by decide +kernel) (by decide +kernel), lwm 1232 (by decide +kernel) (by decide +kernel)⟩, lwm 1230 (by decide +kernel) (by decide +kernel), lwm 1231 (by decide +kernel) (by decide +kernel)⟩
set_option maxRecDepth 20000 in
theorem tX6_counts : TgV mX6_counts 2 := ⟨⟨by decide +kernel, by decide +kernel, ⟨by decide +kernel, by decide +kernel, by decide +kernel⟩, lwm 84 (by decide +kernel) (by decide +kernel), lwm 1241 (by decide +kernel) (by decide +kernel)⟩, lwm 1240 (by decide +kernel) (by decide +kernel), lwm 76 (by decide +kernel) (by decide +kernel)⟩
set_option maxRecDepth 20000 in
theorem tX6_trees : TgV mX6_trees 2 := ⟨⟨by decide +kernel, by decide +kernel, ⟨by decide +kernel, by decide +kernel, by decide +kernel⟩, lwm 84 (by decide +kernel) (by decide +kernel), lwm 1237 (by decide +kernel) (by decide +kernel)⟩, lwm 1235 (by decide +kernel) (by decide +kernel), lwm 1236 (by decide +kernel) (by decide +kernel)⟩
set_option maxRecDepth 20000 in
theorem tX6_minors : TgV mX6_minors 1 := ⟨⟨by decide +kernel, by decide +kernel, ⟨by decide +kernel, by decide +kernel, by decide +kernel⟩, lwm 84 (by decide +kernel) (by decide +kernel), lwm 1245 (by decide +kernel) (by decide +kernel)⟩, lwm 1243 (by decide +kernel) (by decide +kernel), lwm 1244 (by decide +kernel) (by decide +kernel)⟩
set_option maxRecDepth 20000 in
theorem tX6_image : TgV mX6_image 1 := ⟨⟨by decide +kernel, by decide +kernel, ⟨by decide +kernel, by decide +kernel, by decide +kernel⟩, lwm 84 (by decide +kernel) (by decide +kernel), lwm 1249 (by decide +kernel) (by decide +kernel)⟩, lwm 1247 (by decide +kernel) (by decide +kernel), lwm 1248 (by decide +kernel) (by decide +kernel)⟩
set_option maxRecDepth 20000 in
theorem tX6_restore : TgV mX6_restore 1 := ⟨⟨by decide +kernel, by decide +kernel, ⟨by decide +kernel, by decide +kernel, by decide +kernel⟩, lwm 84 (by decide +kernel) (by decide +kernel), lwm 1253 (by decide +kernel) (by decide +kernel)⟩, lwm 1251 (by decide +kernel) (by decide +kernel), lwm 1252 (by decide +kernel) (by decide +kernel)⟩
set_option maxRecDepth 20000 in
theorem tX6_count : TgV mX6_count 1 := ⟨⟨by decide +kernel, by decide +kernel, ⟨by decide +kernel, by decide +kernel, by decide +kernel⟩, lwm 84 (by decide +kernel) (by decide +kernel), lwm 1257 (by decide +kernel) (by decide +kernel)⟩, lwm 1255 (by decide +kernel) (by decide +kernel), lwm 1256 (by decide +kernel) (by decide +kernel)⟩
set_option maxRecDepth 20000 in
theorem tJ6_bitCount_0f7a4 : TgS mJ6_bitCount_0f7a4 1 := ⟨⟨by decide +kernel, by decide +kernel, ⟨by decide +kernel, by decide +kernel, by decide +kernel⟩, lwm 87 (by decide +kernel) (by decide +kernel), lwm 574 (by decide +kernel) (by decide +kernel)⟩, lwm 573 (by decide +kernel) (by decide +kernel)⟩
set_option maxRecDepth 20000 in
theorem kL_9 : Cond.methodLink RL 9 yX5_init ∈ lw_ok := lwm 90 (by decide +kernel) (by decide +kernel)
set_option maxRecDepth 20000 in
theorem kL_13 : Cond.methodLink RL 13 yX5_feed ∈ lw_ok := lwm 235 (by decide +kernel) (by decide +kernel)
set_option maxRecDepth 20000 in
theorem kX5_66 : Cond.methodLink RX5 66 yX3_append ∈ lw_ok := lwm 240 (by decide +kernel) (by decide +kernel)
set_option maxRecDepth 20000 in
theorem kX5_70 : Cond.methodLink RX5 70 yX3_size ∈ lw_ok := lwm 247 (by decide +kernel) (by decide +kernel)
set_option maxRecDepth 20000 in
theorem kL_18 : Cond.methodLink RL 18 yX5_complex ∈ lw_ok := lwm 252 (by decide +kernel) (by decide +kernel)
set_option maxRecDepth 20000 in
theorem kX5_75 : Cond.methodLink RX5 75 yX3_readComplex ∈ lw_ok := lwm 256 (by decide +kernel) (by decide +kernel)
set_option maxRecDepth 20000 in
theorem kX3_46 : Cond.methodLink RX3 46 yX0_clear ∈ lw_ok := lwm 260 (by decide +kernel) (by decide +kernel)
set_option maxRecDepth 20000 in
theorem kX3_49 : Cond.methodLink RX3 49 yX3_takeSign ∈ lw_ok := lwm 264 (by decide +kernel) (by decide +kernel)
set_option maxRecDepth 20000 in
theorem kX3_34 : Cond.methodLink RX3 34 yX3_token ∈ lw_ok := lwm 268 (by decide +kernel) (by decide +kernel)
set_option maxRecDepth 20000 in
theorem kX3_53 : Cond.methodLink RX3 53 yX3_takeDigit ∈ lw_ok := lwm 272 (by decide +kernel) (by decide +kernel)
set_option maxRecDepth 20000 in
theorem kX3_57 : Cond.methodLink RX3 57 yX0_setPoints ∈ lw_ok := lwm 276 (by decide +kernel) (by decide +kernel)
set_option maxRecDepth 20000 in
theorem kX0_32 : Cond.methodLink RX0 32 yX0_setSlot ∈ lw_ok := lwm 280 (by decide +kernel) (by decide +kernel)
set_option maxRecDepth 20000 in
theorem kX3_60 : Cond.methodLink RX3 60 yX3_readEdge ∈ lw_ok := lwm 284 (by decide +kernel) (by decide +kernel)
set_option maxRecDepth 20000 in
theorem kX3_68 : Cond.methodLink RX3 68 yX0_sizeOf ∈ lw_ok := lwm 288 (by decide +kernel) (by decide +kernel)
set_option maxRecDepth 20000 in
theorem kX0_25 : Cond.methodLink RX0 25 yX0_slot ∈ lw_ok := lwm 292 (by decide +kernel) (by decide +kernel)
set_option maxRecDepth 20000 in
theorem kX3_71 : Cond.methodLink RX3 71 yX0_addEdge ∈ lw_ok := lwm 296 (by decide +kernel) (by decide +kernel)
set_option maxRecDepth 20000 in
theorem kX0_21 : Cond.methodLink RX0 21 yX0_sizeOf ∈ lw_ok := lwm 300 (by decide +kernel) (by decide +kernel)
set_option maxRecDepth 20000 in
theorem kX0_51 : Cond.methodLink RX0 51 yX0_setWeight ∈ lw_ok := lwm 301 (by decide +kernel) (by decide +kernel)
set_option maxRecDepth 20000 in
theorem kX0_55 : Cond.methodLink RX0 55 yX0_setNumber ∈ lw_ok := lwm 305 (by decide +kernel) (by decide +kernel)
set_option maxRecDepth 20000 in
theorem kX3_64 : Cond.methodLink RX3 64 yX3_readFace ∈ lw_ok := lwm 309 (by decide +kernel) (by decide +kernel)
set_option maxRecDepth 20000 in
theorem kX3_29 : Cond.methodLink RX3 29 yX4_clear ∈ lw_ok := lwm 313 (by decide +kernel) (by decide +kernel)
set_option maxRecDepth 20000 in
theorem kX3_75 : Cond.methodLink RX3 75 yX4_edgeOf ∈ lw_ok := lwm 317 (by decide +kernel) (by decide +kernel)
set_option maxRecDepth 20000 in
theorem kX3_38 : Cond.methodLink RX3 38 yX4_append ∈ lw_ok := lwm 320 (by decide +kernel) (by decide +kernel)
set_option maxRecDepth 20000 in
theorem kX4_23 : Cond.methodLink RX4 23 yX4_edgeOf ∈ lw_ok := lwm 325 (by decide +kernel) (by decide +kernel)
set_option maxRecDepth 20000 in
theorem kX4_27 : Cond.methodLink RX4 27 yX0_hasCell ∈ lw_ok := lwm 326 (by decide +kernel) (by decide +kernel)
set_option maxRecDepth 20000 in
theorem kX4_32 : Cond.methodLink RX4 32 yX0_beginOf ∈ lw_ok := lwm 331 (by decide +kernel) (by decide +kernel)
set_option maxRecDepth 20000 in
theorem kX0_36 : Cond.methodLink RX0 36 yX4_edgeOf ∈ lw_ok := lwm 335 (by decide +kernel) (by decide +kernel)
set_option maxRecDepth 20000 in
theorem kX0_41 : Cond.methodLink RX0 41 yX4_isBackward ∈ lw_ok := lwm 336 (by decide +kernel) (by decide +kernel)
set_option maxRecDepth 20000 in
theorem kX0_45 : Cond.methodLink RX0 45 yX0_toOf ∈ lw_ok := lwm 339 (by decide +kernel) (by decide +kernel)
set_option maxRecDepth 20000 in
theorem kX0_48 : Cond.methodLink RX0 48 yX0_fromOf ∈ lw_ok := lwm 343 (by decide +kernel) (by decide +kernel)
set_option maxRecDepth 20000 in
theorem kX4_35 : Cond.methodLink RX4 35 yX4_letterAt ∈ lw_ok := lwm 347 (by decide +kernel) (by decide +kernel)
set_option maxRecDepth 20000 in
theorem kX4_38 : Cond.methodLink RX4 38 yX0_endOf ∈ lw_ok := lwm 351 (by decide +kernel) (by decide +kernel)
set_option maxRecDepth 20000 in
theorem kX3_78 : Cond.methodLink RX3 78 yX4_size ∈ lw_ok := lwm 355 (by decide +kernel) (by decide +kernel)
set_option maxRecDepth 20000 in
theorem kX3_42 : Cond.methodLink RX3 42 yX4_isClosed ∈ lw_ok := lwm 359 (by decide +kernel) (by decide +kernel)
set_option maxRecDepth 20000 in
theorem kX3_81 : Cond.methodLink RX3 81 yX0_addFace ∈ lw_ok := lwm 363 (by decide +kernel) (by decide +kernel)
set_option maxRecDepth 20000 in
theorem kX0_58 : Cond.methodLink RX0 58 yX4_size ∈ lw_ok := lwm 367 (by decide +kernel) (by decide +kernel)
set_option maxRecDepth 20000 in
theorem kX0_62 : Cond.methodLink RX0 62 yX4_letterAt ∈ lw_ok := lwm 368 (by decide +kernel) (by decide +kernel)
set_option maxRecDepth 20000 in
theorem kX5_79 : Cond.methodLink RX5 79 yX3_clear ∈ lw_ok := lwm 369 (by decide +kernel) (by decide +kernel)
set_option maxRecDepth 20000 in
theorem kX5_82 : Cond.methodLink RX5 82 yX3_faultRead ∈ lw_ok := lwm 373 (by decide +kernel) (by decide +kernel)
set_option maxRecDepth 20000 in
theorem kX5_86 : Cond.methodLink RX5 86 yX3_place ∈ lw_ok := lwm 378 (by decide +kernel) (by decide +kernel)
set_option maxRecDepth 20000 in
theorem kX5_89 : Cond.methodLink RX5 89 yX0_row ∈ lw_ok := lwm 382 (by decide +kernel) (by decide +kernel)
set_option maxRecDepth 20000 in
theorem kX5_93 : Cond.methodLink RX5 93 yX0_loadFrom ∈ lw_ok := lwm 386 (by decide +kernel) (by decide +kernel)
set_option maxRecDepth 20000 in
theorem kX5_97 : Cond.methodLink RX5 97 yX0_sizeOf ∈ lw_ok := lwm 393 (by decide +kernel) (by decide +kernel)
set_option maxRecDepth 20000 in
theorem kL_23 : Cond.methodLink RL 23 yX5_fault ∈ lw_ok := lwm 394 (by decide +kernel) (by decide +kernel)
set_option maxRecDepth 20000 in
theorem kL_27 : Cond.methodLink RL 27 yX5_undo ∈ lw_ok := lwm 398 (by decide +kernel) (by decide +kernel)
set_option maxRecDepth 20000 in
theorem kX5_101 : Cond.methodLink RX5 101 yX5_isWithin ∈ lw_ok := lwm 402 (by decide +kernel) (by decide +kernel)
set_option maxRecDepth 20000 in
theorem kL_31 : Cond.methodLink RL 31 yX5_weigh ∈ lw_ok := lwm 404 (by decide +kernel) (by decide +kernel)
set_option maxRecDepth 20000 in
theorem kX5_106 : Cond.methodLink RX5 106 yX5_isUpperCell ∈ lw_ok := lwm 408 (by decide +kernel) (by decide +kernel)
set_option maxRecDepth 20000 in
theorem kX5_127 : Cond.methodLink RX5 127 yX0_hasCell ∈ lw_ok := lwm 412 (by decide +kernel) (by decide +kernel)
set_option maxRecDepth 20000 in
theorem kX5_109 : Cond.methodLink RX5 109 yX5_isWeight ∈ lw_ok := lwm 413 (by decide +kernel) (by decide +kernel)
set_option maxRecDepth 20000 in
theorem kX5_112 : Cond.methodLink RX5 112 yX0_weightOf ∈ lw_ok := lwm 416 (by decide +kernel) (by decide +kernel)
set_option maxRecDepth 20000 in
theorem kX5_116 : Cond.methodLink RX5 116 yX5_keepAct ∈ lw_ok := lwm 420 (by decide +kernel) (by decide +kernel)
set_option maxRecDepth 20000 in
theorem kX5_275 : Cond.methodLink RX5 275 yX0_saveTo ∈ lw_ok := lwm 424 (by decide +kernel) (by decide +kernel)
set_option maxRecDepth 20000 in
theorem kX5_282 : Cond.methodLink RX5 282 yJ9_min_7cf53 ∈ lw_ok := lwm 428 (by decide +kernel) (by decide +kernel)
set_option maxRecDepth 20000 in
theorem kX5_119 : Cond.methodLink RX5 119 yX0_setWeight ∈ lw_ok := lwm 431 (by decide +kernel) (by decide +kernel)
set_option maxRecDepth 20000 in
theorem kL_36 : Cond.methodLink RL 36 yX5_edge ∈ lw_ok := lwm 432 (by decide +kernel) (by decide +kernel)
set_option maxRecDepth 20000 in
theorem kX5_123 : Cond.methodLink RX5 123 yX0_isThere ∈ lw_ok := lwm 436 (by decide +kernel) (by decide +kernel)
set_option maxRecDepth 20000 in
theorem kX5_130 : Cond.methodLink RX5 130 yX0_addEdge ∈ lw_ok := lwm 440 (by decide +kernel) (by decide +kernel)
set_option maxRecDepth 20000 in
theorem kL_40 : Cond.methodLink RL 40 yX5_face ∈ lw_ok := lwm 441 (by decide +kernel) (by decide +kernel)
set_option maxRecDepth 20000 in
theorem kX5_133 : Cond.methodLink RX5 133 yX3_readWord ∈ lw_ok := lwm 445 (by decide +kernel) (by decide +kernel)
set_option maxRecDepth 20000 in
theorem kX5_136 : Cond.methodLink RX5 136 yX0_addFace ∈ lw_ok := lwm 449 (by decide +kernel) (by decide +kernel)
set_option maxRecDepth 20000 in
theorem kL_44 : Cond.methodLink RL 44 yX5_drop ∈ lw_ok := lwm 450 (by decide +kernel) (by decide +kernel)
set_option maxRecDepth 20000 in
theorem kX5_140 : Cond.methodLink RX5 140 yX0_isSewn ∈ lw_ok := lwm 454 (by decide +kernel) (by decide +kernel)
set_option maxRecDepth 20000 in
theorem kX0_65 : Cond.methodLink RX0 65 yX0_wordSize ∈ lw_ok := lwm 458 (by decide +kernel) (by decide +kernel)
set_option maxRecDepth 20000 in
theorem kX0_68 : Cond.methodLink RX0 68 yX0_letterAt ∈ lw_ok := lwm 462 (by decide +kernel) (by decide +kernel)
set_option maxRecDepth 20000 in
theorem kX5_143 : Cond.methodLink RX5 143 yX0_removeEdge ∈ lw_ok := lwm 466 (by decide +kernel) (by decide +kernel)
set_option maxRecDepth 20000 in
theorem kX0_71 : Cond.methodLink RX0 71 yX0_weightOf ∈ lw_ok := lwm 470 (by decide +kernel) (by decide +kernel)
set_option maxRecDepth 20000 in
theorem kX0_74 : Cond.methodLink RX0 74 yX0_numberAt ∈ lw_ok := lwm 471 (by decide +kernel) (by decide +kernel)
set_option maxRecDepth 20000 in
theorem kX0_77 : Cond.methodLink RX0 77 yX0_lowerLettersBehind ∈ lw_ok := lwm 475 (by decide +kernel) (by decide +kernel)
set_option maxRecDepth 20000 in
theorem kX5_147 : Cond.methodLink RX5 147 yX0_removeFace ∈ lw_ok := lwm 479 (by decide +kernel) (by decide +kernel)
set_option maxRecDepth 20000 in
theorem kL_49 : Cond.methodLink RL 49 yX5_put ∈ lw_ok := lwm 483 (by decide +kernel) (by decide +kernel)
set_option maxRecDepth 20000 in
theorem kX5_150 : Cond.methodLink RX5 150 yX5_isChain ∈ lw_ok := lwm 487 (by decide +kernel) (by decide +kernel)
set_option maxRecDepth 20000 in
theorem kX5_153 : Cond.methodLink RX5 153 yX5_isNumber ∈ lw_ok := lwm 490 (by decide +kernel) (by decide +kernel)
set_option maxRecDepth 20000 in
theorem kX5_156 : Cond.methodLink RX5 156 yX0_numberAt ∈ lw_ok := lwm 493 (by decide +kernel) (by decide +kernel)
set_option maxRecDepth 20000 in
theorem kX5_159 : Cond.methodLink RX5 159 yX0_setNumber ∈ lw_ok := lwm 494 (by decide +kernel) (by decide +kernel)
set_option maxRecDepth 20000 in
theorem kL_53 : Cond.methodLink RL 53 yX5_bound ∈ lw_ok := lwm 495 (by decide +kernel) (by decide +kernel)
set_option maxRecDepth 20000 in
theorem kX5_162 : Cond.methodLink RX5 162 yX0_entryOf ∈ lw_ok := lwm 499 (by decide +kernel) (by decide +kernel)
set_option maxRecDepth 20000 in
theorem kX5_166 : Cond.methodLink RX5 166 yX0_numbersNotZero ∈ lw_ok := lwm 503 (by decide +kernel) (by decide +kernel)
set_option maxRecDepth 20000 in
theorem kL_57 : Cond.methodLink RL 57 yX5_drawn ∈ lw_ok := lwm 507 (by decide +kernel) (by decide +kernel)
set_option maxRecDepth 20000 in
theorem kL_61 : Cond.methodLink RL 61 yX5_cell ∈ lw_ok := lwm 515 (by decide +kernel) (by decide +kernel)
set_option maxRecDepth 20000 in
theorem kX5_176 : Cond.methodLink RX5 176 yX0_fromOf ∈ lw_ok := lwm 519 (by decide +kernel) (by decide +kernel)
set_option maxRecDepth 20000 in
theorem kX5_179 : Cond.methodLink RX5 179 yX0_wordSize ∈ lw_ok := lwm 520 (by decide +kernel) (by decide +kernel)
set_option maxRecDepth 20000 in
theorem kX5_182 : Cond.methodLink RX5 182 yX0_toOf ∈ lw_ok := lwm 521 (by decide +kernel) (by decide +kernel)
set_option maxRecDepth 20000 in
theorem kX5_185 : Cond.methodLink RX5 185 yX0_letterAt ∈ lw_ok := lwm 522 (by decide +kernel) (by decide +kernel)
set_option maxRecDepth 20000 in
theorem kX5_188 : Cond.methodLink RX5 188 yX0_beginOf ∈ lw_ok := lwm 523 (by decide +kernel) (by decide +kernel)
set_option maxRecDepth 20000 in
theorem kL_65 : Cond.methodLink RL 65 yX5_as ∈ lw_ok := lwm 525 (by decide +kernel) (by decide +kernel)
set_option maxRecDepth 20000 in
theorem kX5_192 : Cond.methodLink RX5 192 yX0_isOfKind ∈ lw_ok := lwm 529 (by decide +kernel) (by decide +kernel)
set_option maxRecDepth 20000 in
theorem kX0_81 : Cond.methodLink RX0 81 yX0_isSealed ∈ lw_ok := lwm 533 (by decide +kernel) (by decide +kernel)
set_option maxRecDepth 20000 in
theorem kX0_84 : Cond.methodLink RX0 84 yX0_entryOf ∈ lw_ok := lwm 537 (by decide +kernel) (by decide +kernel)
set_option maxRecDepth 20000 in
theorem kL_69 : Cond.methodLink RL 69 yX5_table ∈ lw_ok := lwm 538 (by decide +kernel) (by decide +kernel)
set_option maxRecDepth 20000 in
theorem kL_73 : Cond.methodLink RL 73 yX5_near ∈ lw_ok := lwm 542 (by decide +kernel) (by decide +kernel)
set_option maxRecDepth 20000 in
theorem kX5_196 : Cond.methodLink RX5 196 yX0_nearOf ∈ lw_ok := lwm 546 (by decide +kernel) (by decide +kernel)
set_option maxRecDepth 20000 in
theorem kL_77 : Cond.methodLink RL 77 yX5_rank ∈ lw_ok := lwm 550 (by decide +kernel) (by decide +kernel)
set_option maxRecDepth 20000 in
theorem kX5_199 : Cond.methodLink RX5 199 yX5_isField ∈ lw_ok := lwm 554 (by decide +kernel) (by decide +kernel)
set_option maxRecDepth 20000 in
theorem kX5_202 : Cond.methodLink RX5 202 yX5_tableRank ∈ lw_ok := lwm 557 (by decide +kernel) (by decide +kernel)
set_option maxRecDepth 20000 in
theorem kX5_205 : Cond.methodLink RX5 205 yX1_loadTable ∈ lw_ok := lwm 561 (by decide +kernel) (by decide +kernel)
set_option maxRecDepth 20000 in
theorem kX1_25 : Cond.methodLink RX1 25 yX0_sizeOf ∈ lw_ok := lwm 565 (by decide +kernel) (by decide +kernel)
set_option maxRecDepth 20000 in
theorem kX1_31 : Cond.methodLink RX1 31 yJ9_min_7cf53 ∈ lw_ok := lwm 566 (by decide +kernel) (by decide +kernel)
set_option maxRecDepth 20000 in
theorem kX1_37 : Cond.methodLink RX1 37 yX0_entryOf ∈ lw_ok := lwm 567 (by decide +kernel) (by decide +kernel)
set_option maxRecDepth 20000 in
theorem kX5_209 : Cond.methodLink RX5 209 yX1_fillMinors ∈ lw_ok := lwm 568 (by decide +kernel) (by decide +kernel)
set_option maxRecDepth 20000 in
theorem kX1_53 : Cond.methodLink RX1 53 yJ6_bitCount_0f7a4 ∈ lw_ok := lwm 572 (by decide +kernel) (by decide +kernel)
set_option maxRecDepth 20000 in
theorem kX1_58 : Cond.methodLink RX1 58 yX1_expandedMinor ∈ lw_ok := lwm 579 (by decide +kernel) (by decide +kernel)
set_option maxRecDepth 20000 in
theorem kX1_62 : Cond.methodLink RX1 62 yX1_minorOf ∈ lw_ok := lwm 583 (by decide +kernel) (by decide +kernel)
set_option maxRecDepth 20000 in
theorem kX5_257 : Cond.methodLink RX5 257 yX1_allColumns ∈ lw_ok := lwm 587 (by decide +kernel) (by decide +kernel)
set_option maxRecDepth 20000 in
theorem kX5_212 : Cond.methodLink RX5 212 yX1_rankBy ∈ lw_ok := lwm 591 (by decide +kernel) (by decide +kernel)
set_option maxRecDepth 20000 in
theorem kX1_65 : Cond.methodLink RX1 65 yX1_isZero ∈ lw_ok := lwm 595 (by decide +kernel) (by decide +kernel)
set_option maxRecDepth 20000 in
theorem kL_81 : Cond.methodLink RL 81 yX5_holes ∈ lw_ok := lwm 598 (by decide +kernel) (by decide +kernel)
set_option maxRecDepth 20000 in
theorem kL_85 : Cond.methodLink RL 85 yX5_twist ∈ lw_ok := lwm 602 (by decide +kernel) (by decide +kernel)
set_option maxRecDepth 20000 in
theorem kX5_215 : Cond.methodLink RX5 215 yX1_divisorOfMinors ∈ lw_ok := lwm 606 (by decide +kernel) (by decide +kernel)
set_option maxRecDepth 20000 in
theorem kX5_294 : Cond.methodLink RX5 294 yJ9_abs_067f4 ∈ lw_ok := lwm 613 (by decide +kernel) (by decide +kernel)
set_option maxRecDepth 20000 in
theorem kL_89 : Cond.methodLink RL 89 yX5_chain ∈ lw_ok := lwm 616 (by decide +kernel) (by decide +kernel)
set_option maxRecDepth 20000 in
theorem kL_93 : Cond.methodLink RL 93 yX5_ends ∈ lw_ok := lwm 620 (by decide +kernel) (by decide +kernel)
set_option maxRecDepth 20000 in
theorem kX5_219 : Cond.methodLink RX5 219 yX0_boundaryAt ∈ lw_ok := lwm 624 (by decide +kernel) (by decide +kernel)
set_option maxRecDepth 20000 in
theorem kL_97 : Cond.methodLink RL 97 yX5_whole ∈ lw_ok := lwm 628 (by decide +kernel) (by decide +kernel)
set_option maxRecDepth 20000 in
theorem kX5_222 : Cond.methodLink RX5 222 yX0_isCycle ∈ lw_ok := lwm 632 (by decide +kernel) (by decide +kernel)
set_option maxRecDepth 20000 in
theorem kX0_88 : Cond.methodLink RX0 88 yX0_boundaryAt ∈ lw_ok := lwm 636 (by decide +kernel) (by decide +kernel)
set_option maxRecDepth 20000 in
theorem kX5_225 : Cond.methodLink RX5 225 yX5_orderOf ∈ lw_ok := lwm 637 (by decide +kernel) (by decide +kernel)
set_option maxRecDepth 20000 in
theorem kX5_287 : Cond.methodLink RX5 287 yX1_addChain ∈ lw_ok := lwm 641 (by decide +kernel) (by decide +kernel)
set_option maxRecDepth 20000 in
theorem kX1_50 : Cond.methodLink RX1 50 yX0_numberAt ∈ lw_ok := lwm 645 (by decide +kernel) (by decide +kernel)
set_option maxRecDepth 20000 in
theorem kL_101 : Cond.methodLink RL 101 yX5_part ∈ lw_ok := lwm 646 (by decide +kernel) (by decide +kernel)
set_option maxRecDepth 20000 in
theorem kX5_229 : Cond.methodLink RX5 229 yX5_isSide ∈ lw_ok := lwm 650 (by decide +kernel) (by decide +kernel)
set_option maxRecDepth 20000 in
theorem kX5_234 : Cond.methodLink RX5 234 yX2_take ∈ lw_ok := lwm 654 (by decide +kernel) (by decide +kernel)
set_option maxRecDepth 20000 in
theorem kX2_50 : Cond.methodLink RX2 50 yX2_loadChain ∈ lw_ok := lwm 658 (by decide +kernel) (by decide +kernel)
set_option maxRecDepth 20000 in
theorem kX2_63 : Cond.methodLink RX2 63 yX0_sizeOf ∈ lw_ok := lwm 662 (by decide +kernel) (by decide +kernel)
set_option maxRecDepth 20000 in
theorem kX2_69 : Cond.methodLink RX2 69 yJ9_min_7cf53 ∈ lw_ok := lwm 663 (by decide +kernel) (by decide +kernel)
set_option maxRecDepth 20000 in
theorem kX2_75 : Cond.methodLink RX2 75 yX0_weightOf ∈ lw_ok := lwm 664 (by decide +kernel) (by decide +kernel)
set_option maxRecDepth 20000 in
theorem kX2_78 : Cond.methodLink RX2 78 yX0_numberAt ∈ lw_ok := lwm 665 (by decide +kernel) (by decide +kernel)
set_option maxRecDepth 20000 in
theorem kX2_54 : Cond.methodLink RX2 54 yX2_loadRays ∈ lw_ok := lwm 667 (by decide +kernel) (by decide +kernel)
set_option maxRecDepth 20000 in
theorem kX2_83 : Cond.methodLink RX2 83 yX0_entryOf ∈ lw_ok := lwm 671 (by decide +kernel) (by decide +kernel)
set_option maxRecDepth 20000 in
theorem kX2_57 : Cond.methodLink RX2 57 yX2_castShadow ∈ lw_ok := lwm 672 (by decide +kernel) (by decide +kernel)
set_option maxRecDepth 20000 in
theorem kX2_87 : Cond.methodLink RX2 87 yX2_fillSystem ∈ lw_ok := lwm 676 (by decide +kernel) (by decide +kernel)
set_option maxRecDepth 20000 in
theorem kX2_96 : Cond.methodLink RX2 96 yX2_product ∈ lw_ok := lwm 680 (by decide +kernel) (by decide +kernel)
set_option maxRecDepth 20000 in
theorem kX2_90 : Cond.methodLink RX2 90 yX2_solveSystem ∈ lw_ok := lwm 684 (by decide +kernel) (by decide +kernel)
set_option maxRecDepth 20000 in
theorem kX2_100 : Cond.methodLink RX2 100 yX2_eliminate ∈ lw_ok := lwm 688 (by decide +kernel) (by decide +kernel)
set_option maxRecDepth 20000 in
theorem kX2_93 : Cond.methodLink RX2 93 yX2_lowerShadow ∈ lw_ok := lwm 693 (by decide +kernel) (by decide +kernel)
set_option maxRecDepth 20000 in
theorem kX2_60 : Cond.methodLink RX2 60 yX2_takeShadowAway ∈ lw_ok := lwm 698 (by decide +kernel) (by decide +kernel)
set_option maxRecDepth 20000 in
theorem kX5_238 : Cond.methodLink RX5 238 yX2_aboveAt ∈ lw_ok := lwm 702 (by decide +kernel) (by decide +kernel)
set_option maxRecDepth 20000 in
theorem kX5_241 : Cond.methodLink RX5 241 yX2_below ∈ lw_ok := lwm 706 (by decide +kernel) (by decide +kernel)
set_option maxRecDepth 20000 in
theorem kX5_245 : Cond.methodLink RX5 245 yX5_lowestTerm ∈ lw_ok := lwm 710 (by decide +kernel) (by decide +kernel)
set_option maxRecDepth 20000 in
theorem kX5_290 : Cond.methodLink RX5 290 yX5_gcd ∈ lw_ok := lwm 713 (by decide +kernel) (by decide +kernel)
set_option maxRecDepth 20000 in
theorem kL_106 : Cond.methodLink RL 106 yX5_length ∈ lw_ok := lwm 714 (by decide +kernel) (by decide +kernel)
set_option maxRecDepth 20000 in
theorem kX5_251 : Cond.methodLink RX5 251 yX2_lengthAbove ∈ lw_ok := lwm 719 (by decide +kernel) (by decide +kernel)
set_option maxRecDepth 20000 in
theorem kL_111 : Cond.methodLink RL 111 yX5_share ∈ lw_ok := lwm 724 (by decide +kernel) (by decide +kernel)
set_option maxRecDepth 20000 in
theorem kL_115 : Cond.methodLink RL 115 yX5_trees ∈ lw_ok := lwm 729 (by decide +kernel) (by decide +kernel)
set_option maxRecDepth 20000 in
theorem kX5_260 : Cond.methodLink RX5 260 yJ6_bitCount_0f7a4 ∈ lw_ok := lwm 733 (by decide +kernel) (by decide +kernel)
set_option maxRecDepth 20000 in
theorem kX5_265 : Cond.methodLink RX5 265 yX5_treeCount ∈ lw_ok := lwm 734 (by decide +kernel) (by decide +kernel)
set_option maxRecDepth 20000 in
theorem kL_120 : Cond.methodLink RL 120 yX5_minors ∈ lw_ok := lwm 738 (by decide +kernel) (by decide +kernel)
set_option maxRecDepth 20000 in
theorem kX5_269 : Cond.methodLink RX5 269 yX1_loadNear ∈ lw_ok := lwm 742 (by decide +kernel) (by decide +kernel)
set_option maxRecDepth 20000 in
theorem kX1_41 : Cond.methodLink RX1 41 yX0_nearOf ∈ lw_ok := lwm 746 (by decide +kernel) (by decide +kernel)
set_option maxRecDepth 20000 in
theorem kX5_272 : Cond.methodLink RX5 272 yX1_minorOf ∈ lw_ok := lwm 747 (by decide +kernel) (by decide +kernel)
set_option maxRecDepth 20000 in
theorem kL_125 : Cond.methodLink RL 125 yX5_image ∈ lw_ok := lwm 748 (by decide +kernel) (by decide +kernel)
set_option maxRecDepth 20000 in
theorem kL_129 : Cond.methodLink RL 129 yX5_restore ∈ lw_ok := lwm 752 (by decide +kernel) (by decide +kernel)
set_option maxRecDepth 20000 in
theorem kX5_278 : Cond.methodLink RX5 278 yX0_isKeptIn ∈ lw_ok := lwm 756 (by decide +kernel) (by decide +kernel)
set_option maxRecDepth 20000 in
theorem kL_133 : Cond.methodLink RL 133 yX5_count ∈ lw_ok := lwm 759 (by decide +kernel) (by decide +kernel)
set_option maxRecDepth 20000 in
theorem kL_12 : Cond.methodLink RL 12 yX6_init ∈ lw_ok := lwm 765 (by decide +kernel) (by decide +kernel)
set_option maxRecDepth 20000 in
theorem kL_17 : Cond.methodLink RL 17 yX6_feed ∈ lw_ok := lwm 843 (by decide +kernel) (by decide +kernel)
set_option maxRecDepth 20000 in
theorem kX6_150 : Cond.methodLink RX6 150 yX6_in ∈ lw_ok := lwm 848 (by decide +kernel) (by decide +kernel)
set_option maxRecDepth 20000 in
theorem kL_22 : Cond.methodLink RL 22 yX6_complex ∈ lw_ok := lwm 853 (by decide +kernel) (by decide +kernel)
set_option maxRecDepth 20000 in
theorem kX6_171 : Cond.methodLink RX6 171 yX6_reads ∈ lw_ok := lwm 857 (by decide +kernel) (by decide +kernel)
set_option maxRecDepth 20000 in
theorem kX6_140 : Cond.methodLink RX6 140 yX6_byteAt ∈ lw_ok := lwm 861 (by decide +kernel) (by decide +kernel)
set_option maxRecDepth 20000 in
theorem kX6_220 : Cond.methodLink RX6 220 yX6_isLetter ∈ lw_ok := lwm 871 (by decide +kernel) (by decide +kernel)
set_option maxRecDepth 20000 in
theorem kX6_174 : Cond.methodLink RX6 174 yX6_bad ∈ lw_ok := lwm 875 (by decide +kernel) (by decide +kernel)
set_option maxRecDepth 20000 in
theorem kX6_178 : Cond.methodLink RX6 178 yX6_goesOn ∈ lw_ok := lwm 879 (by decide +kernel) (by decide +kernel)
set_option maxRecDepth 20000 in
theorem kX6_191 : Cond.methodLink RX6 191 yX6_digit ∈ lw_ok := lwm 883 (by decide +kernel) (by decide +kernel)
set_option maxRecDepth 20000 in
theorem kX6_194 : Cond.methodLink RX6 194 yX6_stop ∈ lw_ok := lwm 887 (by decide +kernel) (by decide +kernel)
set_option maxRecDepth 20000 in
theorem kX6_181 : Cond.methodLink RX6 181 yX6_isStop ∈ lw_ok := lwm 891 (by decide +kernel) (by decide +kernel)
set_option maxRecDepth 20000 in
theorem kX6_224 : Cond.methodLink RX6 224 yX6_readsEdge ∈ lw_ok := lwm 895 (by decide +kernel) (by decide +kernel)
set_option maxRecDepth 20000 in
theorem kX6_197 : Cond.methodLink RX6 197 yX6_laysEdge ∈ lw_ok := lwm 899 (by decide +kernel) (by decide +kernel)
set_option maxRecDepth 20000 in
theorem kX6_227 : Cond.methodLink RX6 227 yX6_readsFace ∈ lw_ok := lwm 902 (by decide +kernel) (by decide +kernel)
set_option maxRecDepth 20000 in
theorem kX6_201 : Cond.methodLink RX6 201 yX6_told ∈ lw_ok := lwm 906 (by decide +kernel) (by decide +kernel)
set_option maxRecDepth 20000 in
theorem kX6_204 : Cond.methodLink RX6 204 yX6_isNext ∈ lw_ok := lwm 909 (by decide +kernel) (by decide +kernel)
set_option maxRecDepth 20000 in
theorem kX6_60 : Cond.methodLink RX6 60 yX6_many ∈ lw_ok := lwm 912 (by decide +kernel) (by decide +kernel)
set_option maxRecDepth 20000 in
theorem kX6_64 : Cond.methodLink RX6 64 yX6_letter ∈ lw_ok := lwm 915 (by decide +kernel) (by decide +kernel)
set_option maxRecDepth 20000 in
theorem kX6_185 : Cond.methodLink RX6 185 yX6_endOf ∈ lw_ok := lwm 918 (by decide +kernel) (by decide +kernel)
set_option maxRecDepth 20000 in
theorem kX6_52 : Cond.methodLink RX6 52 yX6_edgeOf ∈ lw_ok := lwm 921 (by decide +kernel) (by decide +kernel)
set_option maxRecDepth 20000 in
theorem kX6_56 : Cond.methodLink RX6 56 yX6_edgeAt ∈ lw_ok := lwm 924 (by decide +kernel) (by decide +kernel)
set_option maxRecDepth 20000 in
theorem kX6_188 : Cond.methodLink RX6 188 yX6_beginOf ∈ lw_ok := lwm 927 (by decide +kernel) (by decide +kernel)
set_option maxRecDepth 20000 in
theorem kX6_208 : Cond.methodLink RX6 208 yX6_spells ∈ lw_ok := lwm 930 (by decide +kernel) (by decide +kernel)
set_option maxRecDepth 20000 in
theorem kX6_212 : Cond.methodLink RX6 212 yX6_isClosed ∈ lw_ok := lwm 933 (by decide +kernel) (by decide +kernel)
set_option maxRecDepth 20000 in
theorem kX6_234 : Cond.methodLink RX6 234 yX6_copies ∈ lw_ok := lwm 937 (by decide +kernel) (by decide +kernel)
set_option maxRecDepth 20000 in
theorem kL_26 : Cond.methodLink RL 26 yX6_fault ∈ lw_ok := lwm 940 (by decide +kernel) (by decide +kernel)
set_option maxRecDepth 20000 in
theorem kL_30 : Cond.methodLink RL 30 yX6_undo ∈ lw_ok := lwm 944 (by decide +kernel) (by decide +kernel)
set_option maxRecDepth 20000 in
theorem kL_35 : Cond.methodLink RL 35 yX6_weigh ∈ lw_ok := lwm 949 (by decide +kernel) (by decide +kernel)
set_option maxRecDepth 20000 in
theorem kX6_247 : Cond.methodLink RX6 247 yX6_isCell ∈ lw_ok := lwm 953 (by decide +kernel) (by decide +kernel)
set_option maxRecDepth 20000 in
theorem kX6_252 : Cond.methodLink RX6 252 yX6_notes ∈ lw_ok := lwm 959 (by decide +kernel) (by decide +kernel)
set_option maxRecDepth 20000 in
theorem kX6_81 : Cond.methodLink RX6 81 yX6_weight ∈ lw_ok := lwm 963 (by decide +kernel) (by decide +kernel)
set_option maxRecDepth 20000 in
theorem kL_39 : Cond.methodLink RL 39 yX6_edge ∈ lw_ok := lwm 966 (by decide +kernel) (by decide +kernel)
set_option maxRecDepth 20000 in
theorem kX6_244 : Cond.methodLink RX6 244 yX6_isComplex ∈ lw_ok := lwm 970 (by decide +kernel) (by decide +kernel)
set_option maxRecDepth 20000 in
theorem kL_43 : Cond.methodLink RL 43 yX6_face ∈ lw_ok := lwm 974 (by decide +kernel) (by decide +kernel)
set_option maxRecDepth 20000 in
theorem kX6_257 : Cond.methodLink RX6 257 yX6_isWord ∈ lw_ok := lwm 978 (by decide +kernel) (by decide +kernel)
set_option maxRecDepth 20000 in
theorem kL_48 : Cond.methodLink RL 48 yX6_drop ∈ lw_ok := lwm 983 (by decide +kernel) (by decide +kernel)
set_option maxRecDepth 20000 in
theorem kX6_260 : Cond.methodLink RX6 260 yX6_isSpelled ∈ lw_ok := lwm 987 (by decide +kernel) (by decide +kernel)
set_option maxRecDepth 20000 in
theorem kX6_263 : Cond.methodLink RX6 263 yX6_dropsEdge ∈ lw_ok := lwm 991 (by decide +kernel) (by decide +kernel)
set_option maxRecDepth 20000 in
theorem kL_52 : Cond.methodLink RL 52 yX6_put ∈ lw_ok := lwm 995 (by decide +kernel) (by decide +kernel)
set_option maxRecDepth 20000 in
theorem kX6_266 : Cond.methodLink RX6 266 yX6_isChain ∈ lw_ok := lwm 999 (by decide +kernel) (by decide +kernel)
set_option maxRecDepth 20000 in
theorem kL_56 : Cond.methodLink RL 56 yX6_bound ∈ lw_ok := lwm 1005 (by decide +kernel) (by decide +kernel)
set_option maxRecDepth 20000 in
theorem kX6_71 : Cond.methodLink RX6 71 yX6_two ∈ lw_ok := lwm 1009 (by decide +kernel) (by decide +kernel)
set_option maxRecDepth 20000 in
theorem kX6_273 : Cond.methodLink RX6 273 yX6_others ∈ lw_ok := lwm 1013 (by decide +kernel) (by decide +kernel)
set_option maxRecDepth 20000 in
theorem kL_60 : Cond.methodLink RL 60 yX6_drawn ∈ lw_ok := lwm 1017 (by decide +kernel) (by decide +kernel)
set_option maxRecDepth 20000 in
theorem kL_64 : Cond.methodLink RL 64 yX6_cell ∈ lw_ok := lwm 1025 (by decide +kernel) (by decide +kernel)
set_option maxRecDepth 20000 in
theorem kX6_288 : Cond.methodLink RX6 288 yX6_code ∈ lw_ok := lwm 1031 (by decide +kernel) (by decide +kernel)
set_option maxRecDepth 20000 in
theorem kL_68 : Cond.methodLink RL 68 yX6_as ∈ lw_ok := lwm 1036 (by decide +kernel) (by decide +kernel)
set_option maxRecDepth 20000 in
theorem kX6_294 : Cond.methodLink RX6 294 yX6_isSealed ∈ lw_ok := lwm 1041 (by decide +kernel) (by decide +kernel)
set_option maxRecDepth 20000 in
theorem kL_72 : Cond.methodLink RL 72 yX6_table ∈ lw_ok := lwm 1045 (by decide +kernel) (by decide +kernel)
set_option maxRecDepth 20000 in
theorem kX6_96 : Cond.methodLink RX6 96 yX6_rows ∈ lw_ok := lwm 1049 (by decide +kernel) (by decide +kernel)
set_option maxRecDepth 20000 in
theorem kX6_74 : Cond.methodLink RX6 74 yX6_columns ∈ lw_ok := lwm 1053 (by decide +kernel) (by decide +kernel)
set_option maxRecDepth 20000 in
theorem kX6_77 : Cond.methodLink RX6 77 yX6_entry ∈ lw_ok := lwm 1057 (by decide +kernel) (by decide +kernel)
set_option maxRecDepth 20000 in
theorem kX6_67 : Cond.methodLink RX6 67 yX6_one ∈ lw_ok := lwm 1061 (by decide +kernel) (by decide +kernel)
set_option maxRecDepth 20000 in
theorem kL_76 : Cond.methodLink RL 76 yX6_near ∈ lw_ok := lwm 1065 (by decide +kernel) (by decide +kernel)
set_option maxRecDepth 20000 in
theorem kX6_297 : Cond.methodLink RX6 297 yX6_nearSize ∈ lw_ok := lwm 1069 (by decide +kernel) (by decide +kernel)
set_option maxRecDepth 20000 in
theorem kX6_300 : Cond.methodLink RX6 300 yX6_nearBy ∈ lw_ok := lwm 1073 (by decide +kernel) (by decide +kernel)
set_option maxRecDepth 20000 in
theorem kL_80 : Cond.methodLink RL 80 yX6_rank ∈ lw_ok := lwm 1077 (by decide +kernel) (by decide +kernel)
set_option maxRecDepth 20000 in
theorem kX6_312 : Cond.methodLink RX6 312 yX6_isPrime ∈ lw_ok := lwm 1081 (by decide +kernel) (by decide +kernel)
set_option maxRecDepth 20000 in
theorem kX6_315 : Cond.methodLink RX6 315 yX6_rankFor ∈ lw_ok := lwm 1084 (by decide +kernel) (by decide +kernel)
set_option maxRecDepth 20000 in
theorem kX6_303 : Cond.methodLink RX6 303 yX6_rankAll ∈ lw_ok := lwm 1088 (by decide +kernel) (by decide +kernel)
set_option maxRecDepth 20000 in
theorem kX6_124 : Cond.methodLink RX6 124 yX6_allColumns ∈ lw_ok := lwm 1092 (by decide +kernel) (by decide +kernel)
set_option maxRecDepth 20000 in
theorem kX6_127 : Cond.methodLink RX6 127 yX6_rankOf ∈ lw_ok := lwm 1096 (by decide +kernel) (by decide +kernel)
set_option maxRecDepth 20000 in
theorem kX6_99 : Cond.methodLink RX6 99 yX6_ones ∈ lw_ok := lwm 1100 (by decide +kernel) (by decide +kernel)
set_option maxRecDepth 20000 in
theorem kX6_48 : Cond.methodLink RX6 48 yX6_has ∈ lw_ok := lwm 1103 (by decide +kernel) (by decide +kernel)
set_option maxRecDepth 20000 in
theorem kX6_121 : Cond.methodLink RX6 121 yX6_minorsOf ∈ lw_ok := lwm 1106 (by decide +kernel) (by decide +kernel)
set_option maxRecDepth 20000 in
theorem kX6_113 : Cond.methodLink RX6 113 yX6_minor ∈ lw_ok := lwm 1110 (by decide +kernel) (by decide +kernel)
set_option maxRecDepth 20000 in
theorem kX6_102 : Cond.methodLink RX6 102 yX6_nth ∈ lw_ok := lwm 1114 (by decide +kernel) (by decide +kernel)
set_option maxRecDepth 20000 in
theorem kX6_105 : Cond.methodLink RX6 105 yX6_wide ∈ lw_ok := lwm 1117 (by decide +kernel) (by decide +kernel)
set_option maxRecDepth 20000 in
theorem kX6_109 : Cond.methodLink RX6 109 yX6_determinant ∈ lw_ok := lwm 1121 (by decide +kernel) (by decide +kernel)
set_option maxRecDepth 20000 in
theorem kX6_84 : Cond.methodLink RX6 84 yX6_swaps ∈ lw_ok := lwm 1125 (by decide +kernel) (by decide +kernel)
set_option maxRecDepth 20000 in
theorem kX6_117 : Cond.methodLink RX6 117 yX6_gcd ∈ lw_ok := lwm 1129 (by decide +kernel) (by decide +kernel)
set_option maxRecDepth 20000 in
theorem kX6_306 : Cond.methodLink RX6 306 yX6_lays ∈ lw_ok := lwm 1132 (by decide +kernel) (by decide +kernel)
set_option maxRecDepth 20000 in
theorem kX6_309 : Cond.methodLink RX6 309 yX6_rankBy ∈ lw_ok := lwm 1136 (by decide +kernel) (by decide +kernel)
set_option maxRecDepth 20000 in
theorem kX6_88 : Cond.methodLink RX6 88 yX6_clears ∈ lw_ok := lwm 1140 (by decide +kernel) (by decide +kernel)
set_option maxRecDepth 20000 in
theorem kX6_92 : Cond.methodLink RX6 92 yX6_inverse ∈ lw_ok := lwm 1144 (by decide +kernel) (by decide +kernel)
set_option maxRecDepth 20000 in
theorem kL_84 : Cond.methodLink RL 84 yX6_holes ∈ lw_ok := lwm 1147 (by decide +kernel) (by decide +kernel)
set_option maxRecDepth 20000 in
theorem kL_88 : Cond.methodLink RL 88 yX6_twist ∈ lw_ok := lwm 1151 (by decide +kernel) (by decide +kernel)
set_option maxRecDepth 20000 in
theorem kL_92 : Cond.methodLink RL 92 yX6_chain ∈ lw_ok := lwm 1155 (by decide +kernel) (by decide +kernel)
set_option maxRecDepth 20000 in
theorem kL_96 : Cond.methodLink RL 96 yX6_ends ∈ lw_ok := lwm 1159 (by decide +kernel) (by decide +kernel)
set_option maxRecDepth 20000 in
theorem kX6_318 : Cond.methodLink RX6 318 yX6_endsAt ∈ lw_ok := lwm 1163 (by decide +kernel) (by decide +kernel)
set_option maxRecDepth 20000 in
theorem kL_100 : Cond.methodLink RL 100 yX6_whole ∈ lw_ok := lwm 1167 (by decide +kernel) (by decide +kernel)
set_option maxRecDepth 20000 in
theorem kX6_321 : Cond.methodLink RX6 321 yX6_isCycle ∈ lw_ok := lwm 1171 (by decide +kernel) (by decide +kernel)
set_option maxRecDepth 20000 in
theorem kX6_324 : Cond.methodLink RX6 324 yX6_order ∈ lw_ok := lwm 1175 (by decide +kernel) (by decide +kernel)
set_option maxRecDepth 20000 in
theorem kL_105 : Cond.methodLink RL 105 yX6_part ∈ lw_ok := lwm 1179 (by decide +kernel) (by decide +kernel)
set_option maxRecDepth 20000 in
theorem kX6_360 : Cond.methodLink RX6 360 yX6_laysPart ∈ lw_ok := lwm 1184 (by decide +kernel) (by decide +kernel)
set_option maxRecDepth 20000 in
theorem kX6_355 : Cond.methodLink RX6 355 yX6_spans ∈ lw_ok := lwm 1188 (by decide +kernel) (by decide +kernel)
set_option maxRecDepth 20000 in
theorem kX6_344 : Cond.methodLink RX6 344 yX6_independent ∈ lw_ok := lwm 1192 (by decide +kernel) (by decide +kernel)
set_option maxRecDepth 20000 in
theorem kX6_327 : Cond.methodLink RX6 327 yX6_rankOfRows ∈ lw_ok := lwm 1196 (by decide +kernel) (by decide +kernel)
set_option maxRecDepth 20000 in
theorem kX6_347 : Cond.methodLink RX6 347 yX6_solves ∈ lw_ok := lwm 1200 (by decide +kernel) (by decide +kernel)
set_option maxRecDepth 20000 in
theorem kX6_334 : Cond.methodLink RX6 334 yX6_laysProducts ∈ lw_ok := lwm 1204 (by decide +kernel) (by decide +kernel)
set_option maxRecDepth 20000 in
theorem kX6_330 : Cond.methodLink RX6 330 yX6_product ∈ lw_ok := lwm 1208 (by decide +kernel) (by decide +kernel)
set_option maxRecDepth 20000 in
theorem kX6_341 : Cond.methodLink RX6 341 yX6_against ∈ lw_ok := lwm 1212 (by decide +kernel) (by decide +kernel)
set_option maxRecDepth 20000 in
theorem kX6_351 : Cond.methodLink RX6 351 yX6_tells ∈ lw_ok := lwm 1216 (by decide +kernel) (by decide +kernel)
set_option maxRecDepth 20000 in
theorem kL_110 : Cond.methodLink RL 110 yX6_length ∈ lw_ok := lwm 1220 (by decide +kernel) (by decide +kernel)
set_option maxRecDepth 20000 in
theorem kX6_371 : Cond.methodLink RX6 371 yX6_measures ∈ lw_ok := lwm 1225 (by decide +kernel) (by decide +kernel)
set_option maxRecDepth 20000 in
theorem kL_114 : Cond.methodLink RL 114 yX6_share ∈ lw_ok := lwm 1229 (by decide +kernel) (by decide +kernel)
set_option maxRecDepth 20000 in
theorem kL_119 : Cond.methodLink RL 119 yX6_trees ∈ lw_ok := lwm 1234 (by decide +kernel) (by decide +kernel)
set_option maxRecDepth 20000 in
theorem kX6_375 : Cond.methodLink RX6 375 yX6_counts ∈ lw_ok := lwm 1238 (by decide +kernel) (by decide +kernel)
set_option maxRecDepth 20000 in
theorem kL_124 : Cond.methodLink RL 124 yX6_minors ∈ lw_ok := lwm 1242 (by decide +kernel) (by decide +kernel)
set_option maxRecDepth 20000 in
theorem kL_128 : Cond.methodLink RL 128 yX6_image ∈ lw_ok := lwm 1246 (by decide +kernel) (by decide +kernel)
set_option maxRecDepth 20000 in
theorem kL_132 : Cond.methodLink RL 132 yX6_restore ∈ lw_ok := lwm 1250 (by decide +kernel) (by decide +kernel)
set_option maxRecDepth 20000 in
theorem kL_136 : Cond.methodLink RL 136 yX6_count ∈ lw_ok := lwm 1254 (by decide +kernel) (by decide +kernel)
def lw_nst : List (String × Nat × MethodName × String) := [("ChainParts", 9, ⟨"ChainParts$Cells", "<init>", "()V"⟩, "ChainParts"), ("ChainParts", 21, ⟨"ChainParts$Tape", "<init>", "()V"⟩, "ChainParts"), ("ChainParts", 28, ⟨"ChainParts$Word", "<init>", "()V"⟩, "ChainParts"), ("ChainParts", 35, ⟨"ChainParts$Grid", "<init>", "()V"⟩, "ChainParts"), ("ChainParts", 42, ⟨"ChainParts$Split", "<init>", "()V"⟩, "ChainParts"), ("ChainParts$Tape", 25, ⟨"ChainParts", "isWithin", "(II)Z"⟩, "ChainParts"), ("ChainParts$Word", 19, ⟨"ChainParts", "isWithin", "(II)Z"⟩, "ChainParts"), ("ChainParts$Cells", 28, ⟨"ChainParts", "isWithin", "(II)Z"⟩, "ChainParts"), ("ChainParts$Grid", 44, ⟨"ChainParts", "isWithin", "(II)Z"⟩, "ChainParts"), ("ChainParts$Grid", 69, ⟨"ChainParts", "gcd", "(JJ)J"⟩, "ChainParts"), ("ChainParts$Split", 46, ⟨"ChainParts", "isWithin", "(II)Z"⟩, "ChainParts"), ("ChainParts$Split", 104, ⟨"ChainParts", "gcd", "(JJ)J"⟩, "ChainParts")]
set_option maxRecDepth 20000 in
theorem lw_nst_in : ∀ q ∈ lw_nst, Cond.methodLinkNest q.1 q.2.1 q.2.2.1 q.2.2.2 ∈ lw_tbl := by
  intro q h
  unfold lw_nst at h
  simp only [List.mem_cons, List.not_mem_nil, or_false] at h
  rcases h with rfl | rfl | rfl | rfl | rfl | rfl | rfl | rfl | rfl | rfl | rfl | rfl
  · exact List.mem_of_getElem? (i := 98) (by decide +kernel)
  · exact List.mem_of_getElem? (i := 109) (by decide +kernel)
  · exact List.mem_of_getElem? (i := 128) (by decide +kernel)
  · exact List.mem_of_getElem? (i := 141) (by decide +kernel)
  · exact List.mem_of_getElem? (i := 163) (by decide +kernel)
  · exact List.mem_of_getElem? (i := 244) (by decide +kernel)
  · exact List.mem_of_getElem? (i := 324) (by decide +kernel)
  · exact List.mem_of_getElem? (i := 330) (by decide +kernel)
  · exact List.mem_of_getElem? (i := 578) (by decide +kernel)
  · exact List.mem_of_getElem? (i := 610) (by decide +kernel)
  · exact List.mem_of_getElem? (i := 692) (by decide +kernel)
  · exact List.mem_of_getElem? (i := 697) (by decide +kernel)
/-- a field that an instruction of own names by index: its class in vwCl and its slot -/
def FL (own : String) (idx ci j : Nat) : Prop := ∃ (C : String) (T : u_T) (N : Nat), vwCl[ci]? = some (C, T, N) ∧ j < N ∧ C = own ∧ Cond.fieldLink own idx (T j).1 (T j).2.1 (T j).2.2.1 ∈ lw_ok
set_option maxRecDepth 20000 in
theorem fX0_11 : FL RX0 11 0 0 := ⟨RX0, TX0, 1, rfl, by decide +kernel, rfl, lwm 102 (by decide +kernel) (by decide +kernel)⟩
set_option maxRecDepth 20000 in
theorem fX3_9 : FL RX3 9 3 0 := ⟨RX3, TX3, 4, rfl, by decide +kernel, rfl, lwm 113 (by decide +kernel) (by decide +kernel)⟩
set_option maxRecDepth 20000 in
theorem fX3_15 : FL RX3 15 3 1 := ⟨RX3, TX3, 4, rfl, by decide +kernel, rfl, lwm 114 (by decide +kernel) (by decide +kernel)⟩
set_option maxRecDepth 20000 in
theorem fX3_19 : FL RX3 19 3 2 := ⟨RX3, TX3, 4, rfl, by decide +kernel, rfl, lwm 115 (by decide +kernel) (by decide +kernel)⟩
set_option maxRecDepth 20000 in
theorem fX3_22 : FL RX3 22 3 3 := ⟨RX3, TX3, 4, rfl, by decide +kernel, rfl, lwm 116 (by decide +kernel) (by decide +kernel)⟩
set_option maxRecDepth 20000 in
theorem fX4_9 : FL RX4 9 4 0 := ⟨RX4, TX4, 2, rfl, by decide +kernel, rfl, lwm 132 (by decide +kernel) (by decide +kernel)⟩
set_option maxRecDepth 20000 in
theorem fX4_15 : FL RX4 15 4 1 := ⟨RX4, TX4, 2, rfl, by decide +kernel, rfl, lwm 133 (by decide +kernel) (by decide +kernel)⟩
set_option maxRecDepth 20000 in
theorem fX1_11 : FL RX1 11 1 0 := ⟨RX1, TX1, 4, rfl, by decide +kernel, rfl, lwm 147 (by decide +kernel) (by decide +kernel)⟩
set_option maxRecDepth 20000 in
theorem fX1_14 : FL RX1 14 1 1 := ⟨RX1, TX1, 4, rfl, by decide +kernel, rfl, lwm 148 (by decide +kernel) (by decide +kernel)⟩
set_option maxRecDepth 20000 in
theorem fX1_18 : FL RX1 18 1 2 := ⟨RX1, TX1, 4, rfl, by decide +kernel, rfl, lwm 149 (by decide +kernel) (by decide +kernel)⟩
set_option maxRecDepth 20000 in
theorem fX1_22 : FL RX1 22 1 3 := ⟨RX1, TX1, 4, rfl, by decide +kernel, rfl, lwm 150 (by decide +kernel) (by decide +kernel)⟩
set_option maxRecDepth 20000 in
theorem fX2_9 : FL RX2 9 2 0 := ⟨RX2, TX2, 10, rfl, by decide +kernel, rfl, lwm 168 (by decide +kernel) (by decide +kernel)⟩
set_option maxRecDepth 20000 in
theorem fX2_15 : FL RX2 15 2 1 := ⟨RX2, TX2, 10, rfl, by decide +kernel, rfl, lwm 169 (by decide +kernel) (by decide +kernel)⟩
set_option maxRecDepth 20000 in
theorem fX2_19 : FL RX2 19 2 2 := ⟨RX2, TX2, 10, rfl, by decide +kernel, rfl, lwm 170 (by decide +kernel) (by decide +kernel)⟩
set_option maxRecDepth 20000 in
theorem fX2_23 : FL RX2 23 2 3 := ⟨RX2, TX2, 10, rfl, by decide +kernel, rfl, lwm 171 (by decide +kernel) (by decide +kernel)⟩
set_option maxRecDepth 20000 in
theorem fX2_26 : FL RX2 26 2 4 := ⟨RX2, TX2, 10, rfl, by decide +kernel, rfl, lwm 172 (by decide +kernel) (by decide +kernel)⟩
set_option maxRecDepth 20000 in
theorem fX2_31 : FL RX2 31 2 5 := ⟨RX2, TX2, 10, rfl, by decide +kernel, rfl, lwm 173 (by decide +kernel) (by decide +kernel)⟩
set_option maxRecDepth 20000 in
theorem fX2_34 : FL RX2 34 2 6 := ⟨RX2, TX2, 10, rfl, by decide +kernel, rfl, lwm 174 (by decide +kernel) (by decide +kernel)⟩
set_option maxRecDepth 20000 in
theorem fX2_37 : FL RX2 37 2 7 := ⟨RX2, TX2, 10, rfl, by decide +kernel, rfl, lwm 175 (by decide +kernel) (by decide +kernel)⟩
set_option maxRecDepth 20000 in
theorem fX2_40 : FL RX2 40 2 8 := ⟨RX2, TX2, 10, rfl, by decide +kernel, rfl, lwm 176 (by decide +kernel) (by decide +kernel)⟩
set_option maxRecDepth 20000 in
theorem fX2_43 : FL RX2 43 2 9 := ⟨RX2, TX2, 10, rfl, by decide +kernel, rfl, lwm 177 (by decide +kernel) (by decide +kernel)⟩
set_option maxRecDepth 20000 in
theorem fX5_10 : FL RX5 10 5 0 := ⟨RX5, TX5, 11, rfl, by decide +kernel, rfl, lwm 201 (by decide +kernel) (by decide +kernel)⟩
set_option maxRecDepth 20000 in
theorem fX5_16 : FL RX5 16 5 1 := ⟨RX5, TX5, 11, rfl, by decide +kernel, rfl, lwm 202 (by decide +kernel) (by decide +kernel)⟩
set_option maxRecDepth 20000 in
theorem fX5_22 : FL RX5 22 5 2 := ⟨RX5, TX5, 11, rfl, by decide +kernel, rfl, lwm 203 (by decide +kernel) (by decide +kernel)⟩
set_option maxRecDepth 20000 in
theorem fX5_29 : FL RX5 29 5 3 := ⟨RX5, TX5, 11, rfl, by decide +kernel, rfl, lwm 204 (by decide +kernel) (by decide +kernel)⟩
set_option maxRecDepth 20000 in
theorem fX5_36 : FL RX5 36 5 4 := ⟨RX5, TX5, 11, rfl, by decide +kernel, rfl, lwm 205 (by decide +kernel) (by decide +kernel)⟩
set_option maxRecDepth 20000 in
theorem fX5_43 : FL RX5 43 5 5 := ⟨RX5, TX5, 11, rfl, by decide +kernel, rfl, lwm 206 (by decide +kernel) (by decide +kernel)⟩
set_option maxRecDepth 20000 in
theorem fX5_49 : FL RX5 49 5 6 := ⟨RX5, TX5, 11, rfl, by decide +kernel, rfl, lwm 207 (by decide +kernel) (by decide +kernel)⟩
set_option maxRecDepth 20000 in
theorem fX5_52 : FL RX5 52 5 7 := ⟨RX5, TX5, 11, rfl, by decide +kernel, rfl, lwm 208 (by decide +kernel) (by decide +kernel)⟩
set_option maxRecDepth 20000 in
theorem fX5_55 : FL RX5 55 5 8 := ⟨RX5, TX5, 11, rfl, by decide +kernel, rfl, lwm 209 (by decide +kernel) (by decide +kernel)⟩
set_option maxRecDepth 20000 in
theorem fX5_59 : FL RX5 59 5 9 := ⟨RX5, TX5, 11, rfl, by decide +kernel, rfl, lwm 210 (by decide +kernel) (by decide +kernel)⟩
set_option maxRecDepth 20000 in
theorem fX5_62 : FL RX5 62 5 10 := ⟨RX5, TX5, 11, rfl, by decide +kernel, rfl, lwm 211 (by decide +kernel) (by decide +kernel)⟩
set_option maxRecDepth 20000 in
theorem fX6_7 : FL RX6 7 6 0 := ⟨RX6, TX6, 24, rfl, by decide +kernel, rfl, lwm 769 (by decide +kernel) (by decide +kernel)⟩
set_option maxRecDepth 20000 in
theorem fX6_13 : FL RX6 13 6 1 := ⟨RX6, TX6, 24, rfl, by decide +kernel, rfl, lwm 770 (by decide +kernel) (by decide +kernel)⟩
set_option maxRecDepth 20000 in
theorem fX6_16 : FL RX6 16 6 2 := ⟨RX6, TX6, 24, rfl, by decide +kernel, rfl, lwm 771 (by decide +kernel) (by decide +kernel)⟩
set_option maxRecDepth 20000 in
theorem fX6_238 : FL RX6 238 6 3 := ⟨RX6, TX6, 24, rfl, by decide +kernel, rfl, lwm 772 (by decide +kernel) (by decide +kernel)⟩
set_option maxRecDepth 20000 in
theorem fX6_19 : FL RX6 19 6 4 := ⟨RX6, TX6, 24, rfl, by decide +kernel, rfl, lwm 773 (by decide +kernel) (by decide +kernel)⟩
set_option maxRecDepth 20000 in
theorem fX6_22 : FL RX6 22 6 5 := ⟨RX6, TX6, 24, rfl, by decide +kernel, rfl, lwm 774 (by decide +kernel) (by decide +kernel)⟩
set_option maxRecDepth 20000 in
theorem fX6_26 : FL RX6 26 6 6 := ⟨RX6, TX6, 24, rfl, by decide +kernel, rfl, lwm 775 (by decide +kernel) (by decide +kernel)⟩
set_option maxRecDepth 20000 in
theorem fX6_130 : FL RX6 130 6 7 := ⟨RX6, TX6, 24, rfl, by decide +kernel, rfl, lwm 776 (by decide +kernel) (by decide +kernel)⟩
set_option maxRecDepth 20000 in
theorem fX6_134 : FL RX6 134 6 8 := ⟨RX6, TX6, 24, rfl, by decide +kernel, rfl, lwm 777 (by decide +kernel) (by decide +kernel)⟩
set_option maxRecDepth 20000 in
theorem fX6_137 : FL RX6 137 6 9 := ⟨RX6, TX6, 24, rfl, by decide +kernel, rfl, lwm 778 (by decide +kernel) (by decide +kernel)⟩
set_option maxRecDepth 20000 in
theorem fX6_162 : FL RX6 162 6 10 := ⟨RX6, TX6, 24, rfl, by decide +kernel, rfl, lwm 779 (by decide +kernel) (by decide +kernel)⟩
set_option maxRecDepth 20000 in
theorem fX6_143 : FL RX6 143 6 11 := ⟨RX6, TX6, 24, rfl, by decide +kernel, rfl, lwm 780 (by decide +kernel) (by decide +kernel)⟩
set_option maxRecDepth 20000 in
theorem fX6_165 : FL RX6 165 6 12 := ⟨RX6, TX6, 24, rfl, by decide +kernel, rfl, lwm 781 (by decide +kernel) (by decide +kernel)⟩
set_option maxRecDepth 20000 in
theorem fX6_168 : FL RX6 168 6 13 := ⟨RX6, TX6, 24, rfl, by decide +kernel, rfl, lwm 782 (by decide +kernel) (by decide +kernel)⟩
set_option maxRecDepth 20000 in
theorem fX6_230 : FL RX6 230 6 14 := ⟨RX6, TX6, 24, rfl, by decide +kernel, rfl, lwm 783 (by decide +kernel) (by decide +kernel)⟩
set_option maxRecDepth 20000 in
theorem fX6_29 : FL RX6 29 6 15 := ⟨RX6, TX6, 24, rfl, by decide +kernel, rfl, lwm 784 (by decide +kernel) (by decide +kernel)⟩
set_option maxRecDepth 20000 in
theorem fX6_33 : FL RX6 33 6 16 := ⟨RX6, TX6, 24, rfl, by decide +kernel, rfl, lwm 785 (by decide +kernel) (by decide +kernel)⟩
set_option maxRecDepth 20000 in
theorem fX6_337 : FL RX6 337 6 17 := ⟨RX6, TX6, 24, rfl, by decide +kernel, rfl, lwm 786 (by decide +kernel) (by decide +kernel)⟩
set_option maxRecDepth 20000 in
theorem fX6_36 : FL RX6 36 6 18 := ⟨RX6, TX6, 24, rfl, by decide +kernel, rfl, lwm 787 (by decide +kernel) (by decide +kernel)⟩
set_option maxRecDepth 20000 in
theorem fX6_39 : FL RX6 39 6 19 := ⟨RX6, TX6, 24, rfl, by decide +kernel, rfl, lwm 788 (by decide +kernel) (by decide +kernel)⟩
set_option maxRecDepth 20000 in
theorem fX6_42 : FL RX6 42 6 20 := ⟨RX6, TX6, 24, rfl, by decide +kernel, rfl, lwm 789 (by decide +kernel) (by decide +kernel)⟩
set_option maxRecDepth 20000 in
theorem fX6_45 : FL RX6 45 6 21 := ⟨RX6, TX6, 24, rfl, by decide +kernel, rfl, lwm 790 (by decide +kernel) (by decide +kernel)⟩
set_option maxRecDepth 20000 in
theorem fX6_363 : FL RX6 363 6 22 := ⟨RX6, TX6, 24, rfl, by decide +kernel, rfl, lwm 791 (by decide +kernel) (by decide +kernel)⟩
set_option maxRecDepth 20000 in
theorem fX6_366 : FL RX6 366 6 23 := ⟨RX6, TX6, 24, rfl, by decide +kernel, rfl, lwm 792 (by decide +kernel) (by decide +kernel)⟩
/-- what the tables say of a class of the world -/
def UW (q : vw_C) : Prop := (∀ w ∈ u_ws q.1 q.2.1 q.2.2, w ∈ lw_ok) ∧ (∃ ty0 : Nat → FieldType, ∀ k, k < q.2.2 → parseFieldDescriptor (q.2.1 k).2.2.1 = some (ty0 k)) ∧ (∀ a, a < q.2.2 → ∀ b, b < q.2.2 → a ≠ b → (q.2.1 a).2.1 ≠ (q.2.1 b).2.1)
set_option maxRecDepth 20000 in
theorem uwX0 : UW (RX0, TX0, 1) := by
  refine ⟨?_, ⟨tyX0, tyX0_ok⟩, nmX0⟩
  intro w h
  obtain ⟨k, hk, rfl⟩ := List.mem_map.mp h
  have hk : k < 1 := List.mem_range.mp hk
  rcases (show k = 0 by omega) with rfl
  · exact lwm 103 (by decide +kernel) (by decide +kernel)
set_option maxRecDepth 20000 in
theorem uwX1 : UW (RX1, TX1, 4) := by
  refine ⟨?_, ⟨tyX1, tyX1_ok⟩, nmX1⟩
  intro w h
  obtain ⟨k, hk, rfl⟩ := List.mem_map.mp h
  have hk : k < 4 := List.mem_range.mp hk
  rcases (show k = 0 ∨ k = 1 ∨ k = 2 ∨ k = 3 by omega) with rfl | rfl | rfl | rfl
  · exact lwm 151 (by decide +kernel) (by decide +kernel)
  · exact lwm 153 (by decide +kernel) (by decide +kernel)
  · exact lwm 155 (by decide +kernel) (by decide +kernel)
  · exact lwm 157 (by decide +kernel) (by decide +kernel)
set_option maxRecDepth 20000 in
theorem uwX2 : UW (RX2, TX2, 10) := by
  refine ⟨?_, ⟨tyX2, tyX2_ok⟩, nmX2⟩
  intro w h
  obtain ⟨k, hk, rfl⟩ := List.mem_map.mp h
  have hk : k < 10 := List.mem_range.mp hk
  rcases (show k = 0 ∨ k = 1 ∨ k = 2 ∨ k = 3 ∨ k = 4 ∨ k = 5 ∨ k = 6 ∨ k = 7 ∨ k = 8 ∨ k = 9 by omega) with rfl | rfl | rfl | rfl | rfl | rfl | rfl | rfl | rfl | rfl
  · exact lwm 178 (by decide +kernel) (by decide +kernel)
  · exact lwm 180 (by decide +kernel) (by decide +kernel)
  · exact lwm 182 (by decide +kernel) (by decide +kernel)
  · exact lwm 184 (by decide +kernel) (by decide +kernel)
  · exact lwm 186 (by decide +kernel) (by decide +kernel)
  · exact lwm 188 (by decide +kernel) (by decide +kernel)
  · exact lwm 190 (by decide +kernel) (by decide +kernel)
  · exact lwm 192 (by decide +kernel) (by decide +kernel)
  · exact lwm 194 (by decide +kernel) (by decide +kernel)
  · exact lwm 196 (by decide +kernel) (by decide +kernel)
set_option maxRecDepth 20000 in
theorem uwX3 : UW (RX3, TX3, 4) := by
  refine ⟨?_, ⟨tyX3, tyX3_ok⟩, nmX3⟩
  intro w h
  obtain ⟨k, hk, rfl⟩ := List.mem_map.mp h
  have hk : k < 4 := List.mem_range.mp hk
  rcases (show k = 0 ∨ k = 1 ∨ k = 2 ∨ k = 3 by omega) with rfl | rfl | rfl | rfl
  · exact lwm 117 (by decide +kernel) (by decide +kernel)
  · exact lwm 119 (by decide +kernel) (by decide +kernel)
  · exact lwm 121 (by decide +kernel) (by decide +kernel)
  · exact lwm 123 (by decide +kernel) (by decide +kernel)
set_option maxRecDepth 20000 in
theorem uwX4 : UW (RX4, TX4, 2) := by
  refine ⟨?_, ⟨tyX4, tyX4_ok⟩, nmX4⟩
  intro w h
  obtain ⟨k, hk, rfl⟩ := List.mem_map.mp h
  have hk : k < 2 := List.mem_range.mp hk
  rcases (show k = 0 ∨ k = 1 by omega) with rfl | rfl
  · exact lwm 134 (by decide +kernel) (by decide +kernel)
  · exact lwm 136 (by decide +kernel) (by decide +kernel)
set_option maxRecDepth 20000 in
theorem uwX5 : UW (RX5, TX5, 11) := by
  refine ⟨?_, ⟨tyX5, tyX5_ok⟩, nmX5⟩
  intro w h
  obtain ⟨k, hk, rfl⟩ := List.mem_map.mp h
  have hk : k < 11 := List.mem_range.mp hk
  rcases (show k = 0 ∨ k = 1 ∨ k = 2 ∨ k = 3 ∨ k = 4 ∨ k = 5 ∨ k = 6 ∨ k = 7 ∨ k = 8 ∨ k = 9 ∨ k = 10 by omega) with rfl | rfl | rfl | rfl | rfl | rfl | rfl | rfl | rfl | rfl | rfl
  · exact lwm 212 (by decide +kernel) (by decide +kernel)
  · exact lwm 214 (by decide +kernel) (by decide +kernel)
  · exact lwm 216 (by decide +kernel) (by decide +kernel)
  · exact lwm 218 (by decide +kernel) (by decide +kernel)
  · exact lwm 220 (by decide +kernel) (by decide +kernel)
  · exact lwm 222 (by decide +kernel) (by decide +kernel)
  · exact lwm 224 (by decide +kernel) (by decide +kernel)
  · exact lwm 226 (by decide +kernel) (by decide +kernel)
  · exact lwm 228 (by decide +kernel) (by decide +kernel)
  · exact lwm 230 (by decide +kernel) (by decide +kernel)
  · exact lwm 232 (by decide +kernel) (by decide +kernel)
set_option maxRecDepth 20000 in
theorem uwX6 : UW (RX6, TX6, 24) := by
  refine ⟨?_, ⟨tyX6, tyX6_ok⟩, nmX6⟩
  intro w h
  obtain ⟨k, hk, rfl⟩ := List.mem_map.mp h
  have hk : k < 24 := List.mem_range.mp hk
  rcases (show k = 0 ∨ k = 1 ∨ k = 2 ∨ k = 3 ∨ k = 4 ∨ k = 5 ∨ k = 6 ∨ k = 7 ∨ k = 8 ∨ k = 9 ∨ k = 10 ∨ k = 11 ∨ k = 12 ∨ k = 13 ∨ k = 14 ∨ k = 15 ∨ k = 16 ∨ k = 17 ∨ k = 18 ∨ k = 19 ∨ k = 20 ∨ k = 21 ∨ k = 22 ∨ k = 23 by omega) with rfl | rfl | rfl | rfl | rfl | rfl | rfl | rfl | rfl | rfl | rfl | rfl | rfl | rfl | rfl | rfl | rfl | rfl | rfl | rfl | rfl | rfl | rfl | rfl
  · exact lwm 793 (by decide +kernel) (by decide +kernel)
  · exact lwm 795 (by decide +kernel) (by decide +kernel)
  · exact lwm 797 (by decide +kernel) (by decide +kernel)
  · exact lwm 799 (by decide +kernel) (by decide +kernel)
  · exact lwm 801 (by decide +kernel) (by decide +kernel)
  · exact lwm 803 (by decide +kernel) (by decide +kernel)
  · exact lwm 805 (by decide +kernel) (by decide +kernel)
  · exact lwm 807 (by decide +kernel) (by decide +kernel)
  · exact lwm 809 (by decide +kernel) (by decide +kernel)
  · exact lwm 811 (by decide +kernel) (by decide +kernel)
  · exact lwm 813 (by decide +kernel) (by decide +kernel)
  · exact lwm 815 (by decide +kernel) (by decide +kernel)
  · exact lwm 817 (by decide +kernel) (by decide +kernel)
  · exact lwm 819 (by decide +kernel) (by decide +kernel)
  · exact lwm 821 (by decide +kernel) (by decide +kernel)
  · exact lwm 823 (by decide +kernel) (by decide +kernel)
  · exact lwm 825 (by decide +kernel) (by decide +kernel)
  · exact lwm 827 (by decide +kernel) (by decide +kernel)
  · exact lwm 829 (by decide +kernel) (by decide +kernel)
  · exact lwm 831 (by decide +kernel) (by decide +kernel)
  · exact lwm 833 (by decide +kernel) (by decide +kernel)
  · exact lwm 835 (by decide +kernel) (by decide +kernel)
  · exact lwm 837 (by decide +kernel) (by decide +kernel)
  · exact lwm 839 (by decide +kernel) (by decide +kernel)
set_option maxRecDepth 20000 in
theorem uw_all : ∀ (ci : Nat) (q : vw_C), vwCl[ci]? = some q → UW q := by
  intro ci q h
  match ci, h with
  | 0, h => cases h; exact uwX0
  | 1, h => cases h; exact uwX1
  | 2, h => cases h; exact uwX2
  | 3, h => cases h; exact uwX3
  | 4, h => cases h; exact uwX4
  | 5, h => cases h; exact uwX5
  | 6, h => cases h; exact uwX6
  | k + 7, h => simp [vwCl] at h
set_option maxRecDepth 20000 in
theorem qX5_65 : Cond.constant RX5 65 (-1000001) ∈ lw_ok := lwm 239 (by decide +kernel) (by decide +kernel)
set_option maxRecDepth 20000 in
theorem qX5_74 : Cond.constant RX5 74 (-1000003) ∈ lw_ok := lwm 251 (by decide +kernel) (by decide +kernel)
set_option maxRecDepth 20000 in
theorem qX5_85 : Cond.constant RX5 85 (-1000100) ∈ lw_ok := lwm 377 (by decide +kernel) (by decide +kernel)
set_option maxRecDepth 20000 in
theorem qX5_105 : Cond.constant RX5 105 (-1000002) ∈ lw_ok := lwm 403 (by decide +kernel) (by decide +kernel)
set_option maxRecDepth 20000 in
theorem qX5_169 : Cond.constant RX5 169 (999999) ∈ lw_ok := lwm 511 (by decide +kernel) (by decide +kernel)
set_option maxRecDepth 20000 in
theorem qX5_170 : Cond.constantLong RX5 170 (16807) ∈ lw_ok := lwm 512 (by decide +kernel) (by decide +kernel)
set_option maxRecDepth 20000 in
theorem qX5_172 : Cond.constantLong RX5 172 (2147483647) ∈ lw_ok := lwm 513 (by decide +kernel) (by decide +kernel)
set_option maxRecDepth 20000 in
theorem qX5_174 : Cond.constantLong RX5 174 (19) ∈ lw_ok := lwm 514 (by decide +kernel) (by decide +kernel)
set_option maxRecDepth 20000 in
theorem qX5_191 : Cond.constant RX5 191 (-1000000) ∈ lw_ok := lwm 524 (by decide +kernel) (by decide +kernel)
set_option maxRecDepth 20000 in
theorem qJ6_265 : Cond.constant RJ6 265 (1431655765) ∈ lw_ok := lwm 575 (by decide +kernel) (by decide +kernel)
set_option maxRecDepth 20000 in
theorem qJ6_266 : Cond.constant RJ6 266 (858993459) ∈ lw_ok := lwm 576 (by decide +kernel) (by decide +kernel)
set_option maxRecDepth 20000 in
theorem qJ6_267 : Cond.constant RJ6 267 (252645135) ∈ lw_ok := lwm 577 (by decide +kernel) (by decide +kernel)
set_option maxRecDepth 20000 in
theorem qX5_232 : Cond.constantLong RX5 232 (-1000001) ∈ lw_ok := lwm 653 (by decide +kernel) (by decide +kernel)
set_option maxRecDepth 20000 in
theorem qX2_81 : Cond.constantLong RX2 81 (6) ∈ lw_ok := lwm 666 (by decide +kernel) (by decide +kernel)
set_option maxRecDepth 20000 in
theorem qX5_249 : Cond.constantLong RX5 249 (-1000002) ∈ lw_ok := lwm 718 (by decide +kernel) (by decide +kernel)
set_option maxRecDepth 20000 in
theorem qX5_254 : Cond.constantLong RX5 254 (6) ∈ lw_ok := lwm 723 (by decide +kernel) (by decide +kernel)
set_option maxRecDepth 20000 in
theorem qX5_256 : Cond.constantFloat RX5 256 (1148846080) ∈ lw_ok := lwm 728 (by decide +kernel) (by decide +kernel)
set_option maxRecDepth 20000 in
theorem qX6_216 : Cond.constantLong RX6 216 (255) ∈ lw_ok := lwm 847 (by decide +kernel) (by decide +kernel)
set_option maxRecDepth 20000 in
theorem qX6_218 : Cond.constant RX6 218 (-1000001) ∈ lw_ok := lwm 851 (by decide +kernel) (by decide +kernel)
set_option maxRecDepth 20000 in
theorem qX6_219 : Cond.constant RX6 219 (-1000003) ∈ lw_ok := lwm 852 (by decide +kernel) (by decide +kernel)
set_option maxRecDepth 20000 in
theorem qX6_146 : Cond.constantLong RX6 146 (97) ∈ lw_ok := lwm 865 (by decide +kernel) (by decide +kernel)
set_option maxRecDepth 20000 in
theorem qX6_148 : Cond.constantLong RX6 148 (122) ∈ lw_ok := lwm 866 (by decide +kernel) (by decide +kernel)
set_option maxRecDepth 20000 in
theorem qX6_154 : Cond.constantLong RX6 154 (65) ∈ lw_ok := lwm 867 (by decide +kernel) (by decide +kernel)
set_option maxRecDepth 20000 in
theorem qX6_156 : Cond.constantLong RX6 156 (90) ∈ lw_ok := lwm 868 (by decide +kernel) (by decide +kernel)
set_option maxRecDepth 20000 in
theorem qX6_158 : Cond.constantLong RX6 158 (48) ∈ lw_ok := lwm 869 (by decide +kernel) (by decide +kernel)
set_option maxRecDepth 20000 in
theorem qX6_160 : Cond.constantLong RX6 160 (57) ∈ lw_ok := lwm 870 (by decide +kernel) (by decide +kernel)
set_option maxRecDepth 20000 in
theorem qX6_233 : Cond.constant RX6 233 (-1000100) ∈ lw_ok := lwm 936 (by decide +kernel) (by decide +kernel)
set_option maxRecDepth 20000 in
theorem qX6_241 : Cond.constant RX6 241 (-1000002) ∈ lw_ok := lwm 948 (by decide +kernel) (by decide +kernel)
set_option maxRecDepth 20000 in
theorem qX6_242 : Cond.constantLong RX6 242 (2) ∈ lw_ok := lwm 957 (by decide +kernel) (by decide +kernel)
set_option maxRecDepth 20000 in
theorem qX6_250 : Cond.constantLong RX6 250 (3) ∈ lw_ok := lwm 958 (by decide +kernel) (by decide +kernel)
set_option maxRecDepth 20000 in
theorem qX6_255 : Cond.constantLong RX6 255 (4) ∈ lw_ok := lwm 982 (by decide +kernel) (by decide +kernel)
set_option maxRecDepth 20000 in
theorem qX6_269 : Cond.constantLong RX6 269 (-9) ∈ lw_ok := lwm 1003 (by decide +kernel) (by decide +kernel)
set_option maxRecDepth 20000 in
theorem qX6_271 : Cond.constantLong RX6 271 (9) ∈ lw_ok := lwm 1004 (by decide +kernel) (by decide +kernel)
set_option maxRecDepth 20000 in
theorem qX6_276 : Cond.constantLong RX6 276 (999999) ∈ lw_ok := lwm 1021 (by decide +kernel) (by decide +kernel)
set_option maxRecDepth 20000 in
theorem qX6_278 : Cond.constantLong RX6 278 (16807) ∈ lw_ok := lwm 1022 (by decide +kernel) (by decide +kernel)
set_option maxRecDepth 20000 in
theorem qX6_280 : Cond.constantLong RX6 280 (2147483647) ∈ lw_ok := lwm 1023 (by decide +kernel) (by decide +kernel)
set_option maxRecDepth 20000 in
theorem qX6_282 : Cond.constantLong RX6 282 (19) ∈ lw_ok := lwm 1024 (by decide +kernel) (by decide +kernel)
set_option maxRecDepth 20000 in
theorem qX6_284 : Cond.constantLong RX6 284 (10) ∈ lw_ok := lwm 1029 (by decide +kernel) (by decide +kernel)
set_option maxRecDepth 20000 in
theorem qX6_286 : Cond.constantLong RX6 286 (13) ∈ lw_ok := lwm 1030 (by decide +kernel) (by decide +kernel)
set_option maxRecDepth 20000 in
theorem qX6_291 : Cond.constant RX6 291 (-1000000) ∈ lw_ok := lwm 1035 (by decide +kernel) (by decide +kernel)
set_option maxRecDepth 20000 in
theorem qX6_292 : Cond.constantLong RX6 292 (5) ∈ lw_ok := lwm 1040 (by decide +kernel) (by decide +kernel)
set_option maxRecDepth 20000 in
theorem qX6_358 : Cond.constantLong RX6 358 (-1000001) ∈ lw_ok := lwm 1183 (by decide +kernel) (by decide +kernel)
set_option maxRecDepth 20000 in
theorem qX6_369 : Cond.constantLong RX6 369 (-1000002) ∈ lw_ok := lwm 1224 (by decide +kernel) (by decide +kernel)
set_option maxRecDepth 20000 in
theorem qX6_374 : Cond.constantFloat RX6 374 (1148846080) ∈ lw_ok := lwm 1233 (by decide +kernel) (by decide +kernel)
theorem i_vc : Claimed_1_1 ∧ Claimed_1_2 := sorry
end
